section
-- ===== PART A: goes FIRST, ahead of the names: the tables' words, and 'selects' of the private methods out of them =====
/-- a private method of a class that the tables say can be made, by its rows of tables_1 -/
def lw_okq (q : MethodName × Nat) : Prop := (q.1.cls ≠ "java/lang/invoke/MethodHandle" ∧ q.1.cls ≠ "java/lang/invoke/VarHandle") ∧ Cond.instantiable q.1.cls q.2 ∈ tables_1 ∧ Cond.privateMethod q.1 ∈ tables_1 ∧ Cond.instanceMethod q.1 ∈ tables_1
theorem lw_p0 : lw_okq (⟨"DrownedSlates$Waters", "clear", "()V"⟩, 20) := ⟨⟨by decide +kernel, by decide +kernel⟩, List.mem_of_getElem? (i := 37) (by decide +kernel), List.mem_of_getElem? (i := 43) (by decide +kernel), List.mem_of_getElem? (i := 44) (by decide +kernel)⟩
theorem lw_p1 : lw_okq (⟨"DrownedSlates$Waters", "setSize", "(II)V"⟩, 20) := ⟨⟨by decide +kernel, by decide +kernel⟩, List.mem_of_getElem? (i := 37) (by decide +kernel), List.mem_of_getElem? (i := 47) (by decide +kernel), List.mem_of_getElem? (i := 48) (by decide +kernel)⟩
theorem lw_p2 : lw_okq (⟨"DrownedSlates", "putNumber", "(I)V"⟩, 18) := ⟨⟨by decide +kernel, by decide +kernel⟩, List.mem_of_getElem? (i := 29) (by decide +kernel), List.mem_of_getElem? (i := 520) (by decide +kernel), List.mem_of_getElem? (i := 521) (by decide +kernel)⟩
theorem lw_p3 : lw_okq (⟨"DrownedSlates$Ship", "goTo", "(LDrownedSlates$Waters;II)V"⟩, 8) := ⟨⟨by decide +kernel, by decide +kernel⟩, List.mem_of_getElem? (i := 294) (by decide +kernel), List.mem_of_getElem? (i := 573) (by decide +kernel), List.mem_of_getElem? (i := 574) (by decide +kernel)⟩
theorem lw_p4 : lw_okq (⟨"DrownedSlates$Helm", "lookForGoal", "(LDrownedSlates$Waters;)V"⟩, 4) := ⟨⟨by decide +kernel, by decide +kernel⟩, List.mem_of_getElem? (i := 351) (by decide +kernel), List.mem_of_getElem? (i := 595) (by decide +kernel), List.mem_of_getElem? (i := 596) (by decide +kernel)⟩
theorem lw_p5 : lw_okq (⟨"DrownedSlates$Helm", "lookAround", "(LDrownedSlates$Waters;J)V"⟩, 4) := ⟨⟨by decide +kernel, by decide +kernel⟩, List.mem_of_getElem? (i := 351) (by decide +kernel), List.mem_of_getElem? (i := 603) (by decide +kernel), List.mem_of_getElem? (i := 604) (by decide +kernel)⟩
theorem lw_p6 : lw_okq (⟨"DrownedSlates$Helm", "wayByRules", "(LDrownedSlates$Waters;)I"⟩, 4) := ⟨⟨by decide +kernel, by decide +kernel⟩, List.mem_of_getElem? (i := 351) (by decide +kernel), List.mem_of_getElem? (i := 613) (by decide +kernel), List.mem_of_getElem? (i := 614) (by decide +kernel)⟩
theorem lw_p7 : lw_okq (⟨"DrownedSlates$Helm", "worth", "(LDrownedSlates$Waters;II)I"⟩, 4) := ⟨⟨by decide +kernel, by decide +kernel⟩, List.mem_of_getElem? (i := 351) (by decide +kernel), List.mem_of_getElem? (i := 617) (by decide +kernel), List.mem_of_getElem? (i := 618) (by decide +kernel)⟩
theorem lw_p8 : lw_okq (⟨"DrownedSlates$Helm", "push", "(I)V"⟩, 4) := ⟨⟨by decide +kernel, by decide +kernel⟩, List.mem_of_getElem? (i := 351) (by decide +kernel), List.mem_of_getElem? (i := 621) (by decide +kernel), List.mem_of_getElem? (i := 622) (by decide +kernel)⟩
theorem lw_p9 : lw_okq (⟨"DrownedSlates$Helm", "pop", "()I"⟩, 4) := ⟨⟨by decide +kernel, by decide +kernel⟩, List.mem_of_getElem? (i := 351) (by decide +kernel), List.mem_of_getElem? (i := 625) (by decide +kernel), List.mem_of_getElem? (i := 626) (by decide +kernel)⟩
theorem lw_p10 : lw_okq (⟨"java/lang/Throwable", "fillInStackTrace", "(I)Ljava/lang/Throwable;"⟩, 6) := ⟨⟨by decide +kernel, by decide +kernel⟩, List.mem_of_getElem? (i := 693) (by decide +kernel), List.mem_of_getElem? (i := 691) (by decide +kernel), List.mem_of_getElem? (i := 692) (by decide +kernel)⟩
theorem lw_p11 : lw_okq (⟨"DrownedSlates$Tokens", "takeWord", "()V"⟩, 6) := ⟨⟨by decide +kernel, by decide +kernel⟩, List.mem_of_getElem? (i := 225) (by decide +kernel), List.mem_of_getElem? (i := 749) (by decide +kernel), List.mem_of_getElem? (i := 750) (by decide +kernel)⟩
theorem lw_p12 : lw_okq (⟨"DrownedSlates$Tokens", "takeNumber", "()V"⟩, 6) := ⟨⟨by decide +kernel, by decide +kernel⟩, List.mem_of_getElem? (i := 225) (by decide +kernel), List.mem_of_getElem? (i := 805) (by decide +kernel), List.mem_of_getElem? (i := 806) (by decide +kernel)⟩
theorem lw_p13 : lw_okq (⟨"DrownedSlates$Tokens", "takeSign", "()V"⟩, 6) := ⟨⟨by decide +kernel, by decide +kernel⟩, List.mem_of_getElem? (i := 225) (by decide +kernel), List.mem_of_getElem? (i := 810) (by decide +kernel), List.mem_of_getElem? (i := 811) (by decide +kernel)⟩
theorem lw_p14 : lw_okq (⟨"DrownedSlates$Lines", "readLine", "(ZLDrownedSlates$Waters;LDrownedSlates$Chalk;)Z"⟩, 6) := ⟨⟨by decide +kernel, by decide +kernel⟩, List.mem_of_getElem? (i := 219) (by decide +kernel), List.mem_of_getElem? (i := 814) (by decide +kernel), List.mem_of_getElem? (i := 815) (by decide +kernel)⟩
theorem lw_p15 : lw_okq (⟨"DrownedSlates$Lines", "refuse", "(I)Z"⟩, 6) := ⟨⟨by decide +kernel, by decide +kernel⟩, List.mem_of_getElem? (i := 219) (by decide +kernel), List.mem_of_getElem? (i := 818) (by decide +kernel), List.mem_of_getElem? (i := 819) (by decide +kernel)⟩
def lw_privs_1 : List (MethodName × Nat) := [(⟨"DrownedSlates$Waters", "clear", "()V"⟩, 20), (⟨"DrownedSlates$Waters", "setSize", "(II)V"⟩, 20), (⟨"DrownedSlates", "putNumber", "(I)V"⟩, 18), (⟨"DrownedSlates$Ship", "goTo", "(LDrownedSlates$Waters;II)V"⟩, 8), (⟨"DrownedSlates$Helm", "lookForGoal", "(LDrownedSlates$Waters;)V"⟩, 4), (⟨"DrownedSlates$Helm", "lookAround", "(LDrownedSlates$Waters;J)V"⟩, 4), (⟨"DrownedSlates$Helm", "wayByRules", "(LDrownedSlates$Waters;)I"⟩, 4), (⟨"DrownedSlates$Helm", "worth", "(LDrownedSlates$Waters;II)I"⟩, 4), (⟨"DrownedSlates$Helm", "push", "(I)V"⟩, 4), (⟨"DrownedSlates$Helm", "pop", "()I"⟩, 4), (⟨"java/lang/Throwable", "fillInStackTrace", "(I)Ljava/lang/Throwable;"⟩, 6), (⟨"DrownedSlates$Tokens", "takeWord", "()V"⟩, 6), (⟨"DrownedSlates$Tokens", "takeNumber", "()V"⟩, 6), (⟨"DrownedSlates$Tokens", "takeSign", "()V"⟩, 6), (⟨"DrownedSlates$Lines", "readLine", "(ZLDrownedSlates$Waters;LDrownedSlates$Chalk;)Z"⟩, 6), (⟨"DrownedSlates$Lines", "refuse", "(I)Z"⟩, 6)]
theorem lw_r1 : ∀ q ∈ lw_privs_1, lw_okq q := List.forall_mem_cons.mpr ⟨lw_p0, List.forall_mem_cons.mpr ⟨lw_p1, List.forall_mem_cons.mpr ⟨lw_p2, List.forall_mem_cons.mpr ⟨lw_p3, List.forall_mem_cons.mpr ⟨lw_p4, List.forall_mem_cons.mpr ⟨lw_p5, List.forall_mem_cons.mpr ⟨lw_p6, List.forall_mem_cons.mpr ⟨lw_p7, List.forall_mem_cons.mpr ⟨lw_p8, List.forall_mem_cons.mpr ⟨lw_p9, List.forall_mem_cons.mpr ⟨lw_p10, List.forall_mem_cons.mpr ⟨lw_p11, List.forall_mem_cons.mpr ⟨lw_p12, List.forall_mem_cons.mpr ⟨lw_p13, List.forall_mem_cons.mpr ⟨lw_p14, List.forall_mem_cons.mpr ⟨lw_p15, fun _ h => absurd h List.not_mem_nil⟩⟩⟩⟩⟩⟩⟩⟩⟩⟩⟩⟩⟩⟩⟩⟩
theorem lw_p16 : lw_okq (⟨"DrownedSlates$Lines", "readHead", "(Z)Z"⟩, 6) := ⟨⟨by decide +kernel, by decide +kernel⟩, List.mem_of_getElem? (i := 219) (by decide +kernel), List.mem_of_getElem? (i := 822) (by decide +kernel), List.mem_of_getElem? (i := 823) (by decide +kernel)⟩
theorem lw_p17 : lw_okq (⟨"DrownedSlates$Lines", "readSize", "(LDrownedSlates$Waters;)Z"⟩, 6) := ⟨⟨by decide +kernel, by decide +kernel⟩, List.mem_of_getElem? (i := 219) (by decide +kernel), List.mem_of_getElem? (i := 827) (by decide +kernel), List.mem_of_getElem? (i := 828) (by decide +kernel)⟩
theorem lw_p18 : lw_okq (⟨"DrownedSlates$Lines", "readNumber", "(II)I"⟩, 6) := ⟨⟨by decide +kernel, by decide +kernel⟩, List.mem_of_getElem? (i := 219) (by decide +kernel), List.mem_of_getElem? (i := 831) (by decide +kernel), List.mem_of_getElem? (i := 832) (by decide +kernel)⟩
theorem lw_p19 : lw_okq (⟨"DrownedSlates$Lines", "lookAtNumber", "(II)I"⟩, 6) := ⟨⟨by decide +kernel, by decide +kernel⟩, List.mem_of_getElem? (i := 219) (by decide +kernel), List.mem_of_getElem? (i := 835) (by decide +kernel), List.mem_of_getElem? (i := 836) (by decide +kernel)⟩
theorem lw_p20 : lw_okq (⟨"DrownedSlates$Lines", "readHead", "(II)Z"⟩, 6) := ⟨⟨by decide +kernel, by decide +kernel⟩, List.mem_of_getElem? (i := 219) (by decide +kernel), List.mem_of_getElem? (i := 846) (by decide +kernel), List.mem_of_getElem? (i := 847) (by decide +kernel)⟩
theorem lw_p21 : lw_okq (⟨"DrownedSlates$Lines", "readRock", "(LDrownedSlates$Waters;)Z"⟩, 6) := ⟨⟨by decide +kernel, by decide +kernel⟩, List.mem_of_getElem? (i := 219) (by decide +kernel), List.mem_of_getElem? (i := 850) (by decide +kernel), List.mem_of_getElem? (i := 851) (by decide +kernel)⟩
theorem lw_p22 : lw_okq (⟨"DrownedSlates$Lines", "readCell", "(LDrownedSlates$Waters;J)I"⟩, 6) := ⟨⟨by decide +kernel, by decide +kernel⟩, List.mem_of_getElem? (i := 219) (by decide +kernel), List.mem_of_getElem? (i := 854) (by decide +kernel), List.mem_of_getElem? (i := 855) (by decide +kernel)⟩
theorem lw_p23 : lw_okq (⟨"DrownedSlates$Lines", "readCurrent", "(LDrownedSlates$Waters;)Z"⟩, 6) := ⟨⟨by decide +kernel, by decide +kernel⟩, List.mem_of_getElem? (i := 219) (by decide +kernel), List.mem_of_getElem? (i := 859) (by decide +kernel), List.mem_of_getElem? (i := 860) (by decide +kernel)⟩
theorem lw_p24 : lw_okq (⟨"DrownedSlates$Lines", "readWay", "()I"⟩, 6) := ⟨⟨by decide +kernel, by decide +kernel⟩, List.mem_of_getElem? (i := 219) (by decide +kernel), List.mem_of_getElem? (i := 867) (by decide +kernel), List.mem_of_getElem? (i := 868) (by decide +kernel)⟩
theorem lw_p25 : lw_okq (⟨"DrownedSlates$Lines", "readSlate", "(LDrownedSlates$Waters;LDrownedSlates$Chalk;)Z"⟩, 6) := ⟨⟨by decide +kernel, by decide +kernel⟩, List.mem_of_getElem? (i := 219) (by decide +kernel), List.mem_of_getElem? (i := 879) (by decide +kernel), List.mem_of_getElem? (i := 880) (by decide +kernel)⟩
theorem lw_p26 : lw_okq (⟨"DrownedSlates$Lines", "readHand", "(LDrownedSlates$Waters;)Z"⟩, 6) := ⟨⟨by decide +kernel, by decide +kernel⟩, List.mem_of_getElem? (i := 219) (by decide +kernel), List.mem_of_getElem? (i := 891) (by decide +kernel), List.mem_of_getElem? (i := 892) (by decide +kernel)⟩
theorem lw_p27 : lw_okq (⟨"DrownedSlates$Lines", "readSchool", "(LDrownedSlates$Waters;)Z"⟩, 6) := ⟨⟨by decide +kernel, by decide +kernel⟩, List.mem_of_getElem? (i := 219) (by decide +kernel), List.mem_of_getElem? (i := 895) (by decide +kernel), List.mem_of_getElem? (i := 896) (by decide +kernel)⟩
theorem lw_p28 : lw_okq (⟨"DrownedSlates$Lines", "readGoal", "(LDrownedSlates$Waters;)Z"⟩, 6) := ⟨⟨by decide +kernel, by decide +kernel⟩, List.mem_of_getElem? (i := 219) (by decide +kernel), List.mem_of_getElem? (i := 899) (by decide +kernel), List.mem_of_getElem? (i := 900) (by decide +kernel)⟩
theorem lw_p29 : lw_okq (⟨"DrownedSlates$Lines", "readPilot", "(LDrownedSlates$Waters;LDrownedSlates$Chalk;)Z"⟩, 6) := ⟨⟨by decide +kernel, by decide +kernel⟩, List.mem_of_getElem? (i := 219) (by decide +kernel), List.mem_of_getElem? (i := 903) (by decide +kernel), List.mem_of_getElem? (i := 904) (by decide +kernel)⟩
theorem lw_p30 : lw_okq (⟨"DrownedSlates$Lines", "readRead", "(LDrownedSlates$Chalk;I)I"⟩, 6) := ⟨⟨by decide +kernel, by decide +kernel⟩, List.mem_of_getElem? (i := 219) (by decide +kernel), List.mem_of_getElem? (i := 907) (by decide +kernel), List.mem_of_getElem? (i := 908) (by decide +kernel)⟩
theorem lw_p31 : lw_okq (⟨"DrownedSlates$Lines", "readRule", "(LDrownedSlates$Waters;)Z"⟩, 6) := ⟨⟨by decide +kernel, by decide +kernel⟩, List.mem_of_getElem? (i := 219) (by decide +kernel), List.mem_of_getElem? (i := 911) (by decide +kernel), List.mem_of_getElem? (i := 912) (by decide +kernel)⟩
def lw_privs_2 : List (MethodName × Nat) := [(⟨"DrownedSlates$Lines", "readHead", "(Z)Z"⟩, 6), (⟨"DrownedSlates$Lines", "readSize", "(LDrownedSlates$Waters;)Z"⟩, 6), (⟨"DrownedSlates$Lines", "readNumber", "(II)I"⟩, 6), (⟨"DrownedSlates$Lines", "lookAtNumber", "(II)I"⟩, 6), (⟨"DrownedSlates$Lines", "readHead", "(II)Z"⟩, 6), (⟨"DrownedSlates$Lines", "readRock", "(LDrownedSlates$Waters;)Z"⟩, 6), (⟨"DrownedSlates$Lines", "readCell", "(LDrownedSlates$Waters;J)I"⟩, 6), (⟨"DrownedSlates$Lines", "readCurrent", "(LDrownedSlates$Waters;)Z"⟩, 6), (⟨"DrownedSlates$Lines", "readWay", "()I"⟩, 6), (⟨"DrownedSlates$Lines", "readSlate", "(LDrownedSlates$Waters;LDrownedSlates$Chalk;)Z"⟩, 6), (⟨"DrownedSlates$Lines", "readHand", "(LDrownedSlates$Waters;)Z"⟩, 6), (⟨"DrownedSlates$Lines", "readSchool", "(LDrownedSlates$Waters;)Z"⟩, 6), (⟨"DrownedSlates$Lines", "readGoal", "(LDrownedSlates$Waters;)Z"⟩, 6), (⟨"DrownedSlates$Lines", "readPilot", "(LDrownedSlates$Waters;LDrownedSlates$Chalk;)Z"⟩, 6), (⟨"DrownedSlates$Lines", "readRead", "(LDrownedSlates$Chalk;I)I"⟩, 6), (⟨"DrownedSlates$Lines", "readRule", "(LDrownedSlates$Waters;)Z"⟩, 6)]
theorem lw_r2 : ∀ q ∈ lw_privs_2, lw_okq q := List.forall_mem_cons.mpr ⟨lw_p16, List.forall_mem_cons.mpr ⟨lw_p17, List.forall_mem_cons.mpr ⟨lw_p18, List.forall_mem_cons.mpr ⟨lw_p19, List.forall_mem_cons.mpr ⟨lw_p20, List.forall_mem_cons.mpr ⟨lw_p21, List.forall_mem_cons.mpr ⟨lw_p22, List.forall_mem_cons.mpr ⟨lw_p23, List.forall_mem_cons.mpr ⟨lw_p24, List.forall_mem_cons.mpr ⟨lw_p25, List.forall_mem_cons.mpr ⟨lw_p26, List.forall_mem_cons.mpr ⟨lw_p27, List.forall_mem_cons.mpr ⟨lw_p28, List.forall_mem_cons.mpr ⟨lw_p29, List.forall_mem_cons.mpr ⟨lw_p30, List.forall_mem_cons.mpr ⟨lw_p31, fun _ h => absurd h List.not_mem_nil⟩⟩⟩⟩⟩⟩⟩⟩⟩⟩⟩⟩⟩⟩⟩⟩
theorem lw_p32 : lw_okq (⟨"DrownedSlates$Exprs", "readExpr", "(LDrownedSlates$Waters;I)Z"⟩, 3) := ⟨⟨by decide +kernel, by decide +kernel⟩, List.mem_of_getElem? (i := 255) (by decide +kernel), List.mem_of_getElem? (i := 915) (by decide +kernel), List.mem_of_getElem? (i := 916) (by decide +kernel)⟩
theorem lw_p33 : lw_okq (⟨"DrownedSlates$Exprs", "refuse", "(I)Z"⟩, 3) := ⟨⟨by decide +kernel, by decide +kernel⟩, List.mem_of_getElem? (i := 255) (by decide +kernel), List.mem_of_getElem? (i := 923) (by decide +kernel), List.mem_of_getElem? (i := 924) (by decide +kernel)⟩
theorem lw_p34 : lw_okq (⟨"DrownedSlates$Exprs", "readAnd", "(LDrownedSlates$Waters;I)Z"⟩, 3) := ⟨⟨by decide +kernel, by decide +kernel⟩, List.mem_of_getElem? (i := 255) (by decide +kernel), List.mem_of_getElem? (i := 927) (by decide +kernel), List.mem_of_getElem? (i := 928) (by decide +kernel)⟩
theorem lw_p35 : lw_okq (⟨"DrownedSlates$Exprs", "readNot", "(LDrownedSlates$Waters;I)Z"⟩, 3) := ⟨⟨by decide +kernel, by decide +kernel⟩, List.mem_of_getElem? (i := 255) (by decide +kernel), List.mem_of_getElem? (i := 931) (by decide +kernel), List.mem_of_getElem? (i := 932) (by decide +kernel)⟩
theorem lw_p36 : lw_okq (⟨"DrownedSlates$Exprs", "readTest", "(LDrownedSlates$Waters;I)Z"⟩, 3) := ⟨⟨by decide +kernel, by decide +kernel⟩, List.mem_of_getElem? (i := 255) (by decide +kernel), List.mem_of_getElem? (i := 940) (by decide +kernel), List.mem_of_getElem? (i := 941) (by decide +kernel)⟩
theorem lw_p37 : lw_okq (⟨"DrownedSlates$Exprs", "readSum", "(LDrownedSlates$Waters;I)Z"⟩, 3) := ⟨⟨by decide +kernel, by decide +kernel⟩, List.mem_of_getElem? (i := 255) (by decide +kernel), List.mem_of_getElem? (i := 944) (by decide +kernel), List.mem_of_getElem? (i := 945) (by decide +kernel)⟩
theorem lw_p38 : lw_okq (⟨"DrownedSlates$Exprs", "readProduct", "(LDrownedSlates$Waters;I)Z"⟩, 3) := ⟨⟨by decide +kernel, by decide +kernel⟩, List.mem_of_getElem? (i := 255) (by decide +kernel), List.mem_of_getElem? (i := 948) (by decide +kernel), List.mem_of_getElem? (i := 949) (by decide +kernel)⟩
theorem lw_p39 : lw_okq (⟨"DrownedSlates$Exprs", "readPart", "(LDrownedSlates$Waters;I)Z"⟩, 3) := ⟨⟨by decide +kernel, by decide +kernel⟩, List.mem_of_getElem? (i := 255) (by decide +kernel), List.mem_of_getElem? (i := 952) (by decide +kernel), List.mem_of_getElem? (i := 953) (by decide +kernel)⟩
theorem lw_p40 : lw_okq (⟨"DrownedSlates$Exprs", "put", "(LDrownedSlates$Waters;I)V"⟩, 3) := ⟨⟨by decide +kernel, by decide +kernel⟩, List.mem_of_getElem? (i := 255) (by decide +kernel), List.mem_of_getElem? (i := 957) (by decide +kernel), List.mem_of_getElem? (i := 958) (by decide +kernel)⟩
theorem lw_p41 : lw_okq (⟨"DrownedSlates$Exprs", "putDone", "(LDrownedSlates$Waters;I)V"⟩, 3) := ⟨⟨by decide +kernel, by decide +kernel⟩, List.mem_of_getElem? (i := 255) (by decide +kernel), List.mem_of_getElem? (i := 961) (by decide +kernel), List.mem_of_getElem? (i := 962) (by decide +kernel)⟩
theorem lw_p42 : lw_okq (⟨"DrownedSlates$Lines", "readEnd", "()Z"⟩, 6) := ⟨⟨by decide +kernel, by decide +kernel⟩, List.mem_of_getElem? (i := 219) (by decide +kernel), List.mem_of_getElem? (i := 966) (by decide +kernel), List.mem_of_getElem? (i := 967) (by decide +kernel)⟩
theorem lw_p43 : lw_okq (⟨"DrownedSlates", "takeNext", "()V"⟩, 18) := ⟨⟨by decide +kernel, by decide +kernel⟩, List.mem_of_getElem? (i := 29) (by decide +kernel), List.mem_of_getElem? (i := 971) (by decide +kernel), List.mem_of_getElem? (i := 972) (by decide +kernel)⟩
theorem lw_p44 : lw_okq (⟨"DrownedSlates", "needSlate", "(I)V"⟩, 18) := ⟨⟨by decide +kernel, by decide +kernel⟩, List.mem_of_getElem? (i := 29) (by decide +kernel), List.mem_of_getElem? (i := 1029) (by decide +kernel), List.mem_of_getElem? (i := 1030) (by decide +kernel)⟩
theorem lw_p45 : lw_okq (⟨"DrownedSlates$Fog", "sailAnyhow", "(LDrownedSlates$Waters;)V"⟩, 2) := ⟨⟨by decide +kernel, by decide +kernel⟩, List.mem_of_getElem? (i := 338) (by decide +kernel), List.mem_of_getElem? (i := 1108) (by decide +kernel), List.mem_of_getElem? (i := 1109) (by decide +kernel)⟩
theorem lw_p46 : lw_okq (⟨"DrownedSlates$Fog", "sailStep", "(LDrownedSlates$Waters;I)V"⟩, 2) := ⟨⟨by decide +kernel, by decide +kernel⟩, List.mem_of_getElem? (i := 338) (by decide +kernel), List.mem_of_getElem? (i := 1112) (by decide +kernel), List.mem_of_getElem? (i := 1113) (by decide +kernel)⟩
theorem lw_p47 : lw_okq (⟨"DrownedSlates$Waters", "moved", "(JI)J"⟩, 20) := ⟨⟨by decide +kernel, by decide +kernel⟩, List.mem_of_getElem? (i := 37) (by decide +kernel), List.mem_of_getElem? (i := 1120) (by decide +kernel), List.mem_of_getElem? (i := 1121) (by decide +kernel)⟩
def lw_privs_3 : List (MethodName × Nat) := [(⟨"DrownedSlates$Exprs", "readExpr", "(LDrownedSlates$Waters;I)Z"⟩, 3), (⟨"DrownedSlates$Exprs", "refuse", "(I)Z"⟩, 3), (⟨"DrownedSlates$Exprs", "readAnd", "(LDrownedSlates$Waters;I)Z"⟩, 3), (⟨"DrownedSlates$Exprs", "readNot", "(LDrownedSlates$Waters;I)Z"⟩, 3), (⟨"DrownedSlates$Exprs", "readTest", "(LDrownedSlates$Waters;I)Z"⟩, 3), (⟨"DrownedSlates$Exprs", "readSum", "(LDrownedSlates$Waters;I)Z"⟩, 3), (⟨"DrownedSlates$Exprs", "readProduct", "(LDrownedSlates$Waters;I)Z"⟩, 3), (⟨"DrownedSlates$Exprs", "readPart", "(LDrownedSlates$Waters;I)Z"⟩, 3), (⟨"DrownedSlates$Exprs", "put", "(LDrownedSlates$Waters;I)V"⟩, 3), (⟨"DrownedSlates$Exprs", "putDone", "(LDrownedSlates$Waters;I)V"⟩, 3), (⟨"DrownedSlates$Lines", "readEnd", "()Z"⟩, 6), (⟨"DrownedSlates", "takeNext", "()V"⟩, 18), (⟨"DrownedSlates", "needSlate", "(I)V"⟩, 18), (⟨"DrownedSlates$Fog", "sailAnyhow", "(LDrownedSlates$Waters;)V"⟩, 2), (⟨"DrownedSlates$Fog", "sailStep", "(LDrownedSlates$Waters;I)V"⟩, 2), (⟨"DrownedSlates$Waters", "moved", "(JI)J"⟩, 20)]
theorem lw_r3 : ∀ q ∈ lw_privs_3, lw_okq q := List.forall_mem_cons.mpr ⟨lw_p32, List.forall_mem_cons.mpr ⟨lw_p33, List.forall_mem_cons.mpr ⟨lw_p34, List.forall_mem_cons.mpr ⟨lw_p35, List.forall_mem_cons.mpr ⟨lw_p36, List.forall_mem_cons.mpr ⟨lw_p37, List.forall_mem_cons.mpr ⟨lw_p38, List.forall_mem_cons.mpr ⟨lw_p39, List.forall_mem_cons.mpr ⟨lw_p40, List.forall_mem_cons.mpr ⟨lw_p41, List.forall_mem_cons.mpr ⟨lw_p42, List.forall_mem_cons.mpr ⟨lw_p43, List.forall_mem_cons.mpr ⟨lw_p44, List.forall_mem_cons.mpr ⟨lw_p45, List.forall_mem_cons.mpr ⟨lw_p46, List.forall_mem_cons.mpr ⟨lw_p47, fun _ h => absurd h List.not_mem_nil⟩⟩⟩⟩⟩⟩⟩⟩⟩⟩⟩⟩⟩⟩⟩⟩
theorem lw_p48 : lw_okq (⟨"DrownedSlates$Waters", "driven", "(J)J"⟩, 20) := ⟨⟨by decide +kernel, by decide +kernel⟩, List.mem_of_getElem? (i := 37) (by decide +kernel), List.mem_of_getElem? (i := 1124) (by decide +kernel), List.mem_of_getElem? (i := 1125) (by decide +kernel)⟩
theorem lw_p49 : lw_okq (⟨"DrownedSlates$Fog", "sailMark", "(LDrownedSlates$Waters;II)V"⟩, 2) := ⟨⟨by decide +kernel, by decide +kernel⟩, List.mem_of_getElem? (i := 338) (by decide +kernel), List.mem_of_getElem? (i := 1130) (by decide +kernel), List.mem_of_getElem? (i := 1131) (by decide +kernel)⟩
theorem lw_p50 : lw_okq (⟨"DrownedSlates", "needPilot", "(I)V"⟩, 18) := ⟨⟨by decide +kernel, by decide +kernel⟩, List.mem_of_getElem? (i := 29) (by decide +kernel), List.mem_of_getElem? (i := 1141) (by decide +kernel), List.mem_of_getElem? (i := 1142) (by decide +kernel)⟩
theorem lw_p51 : lw_okq (⟨"DrownedSlates$Desk", "lessonOf", "(I)I"⟩, 12) := ⟨⟨by decide +kernel, by decide +kernel⟩, List.mem_of_getElem? (i := 374) (by decide +kernel), List.mem_of_getElem? (i := 1167) (by decide +kernel), List.mem_of_getElem? (i := 1168) (by decide +kernel)⟩
theorem lw_p52 : lw_okq (⟨"DrownedSlates$Desk", "beginningNear", "(LDrownedSlates$Waters;I)I"⟩, 12) := ⟨⟨by decide +kernel, by decide +kernel⟩, List.mem_of_getElem? (i := 374) (by decide +kernel), List.mem_of_getElem? (i := 1176) (by decide +kernel), List.mem_of_getElem? (i := 1177) (by decide +kernel)⟩
theorem lw_p53 : lw_okq (⟨"DrownedSlates$Desk", "putInRow", "(I)Z"⟩, 12) := ⟨⟨by decide +kernel, by decide +kernel⟩, List.mem_of_getElem? (i := 374) (by decide +kernel), List.mem_of_getElem? (i := 1193) (by decide +kernel), List.mem_of_getElem? (i := 1194) (by decide +kernel)⟩
theorem lw_p54 : lw_okq (⟨"DrownedSlates$Desk", "rowIsAhead", "(I)Z"⟩, 12) := ⟨⟨by decide +kernel, by decide +kernel⟩, List.mem_of_getElem? (i := 374) (by decide +kernel), List.mem_of_getElem? (i := 1201) (by decide +kernel), List.mem_of_getElem? (i := 1202) (by decide +kernel)⟩
theorem lw_p55 : lw_okq (⟨"DrownedSlates$Desk", "bringsThrough", "(LDrownedSlates$Waters;LDrownedSlates$Helm;II)Z"⟩, 12) := ⟨⟨by decide +kernel, by decide +kernel⟩, List.mem_of_getElem? (i := 374) (by decide +kernel), List.mem_of_getElem? (i := 1205) (by decide +kernel), List.mem_of_getElem? (i := 1206) (by decide +kernel)⟩
theorem lw_p56 : lw_okq (⟨"DrownedSlates$Hands", "weigh", "(LDrownedSlates$Waters;LDrownedSlates$Chalk;IIII)V"⟩, 4) := ⟨⟨by decide +kernel, by decide +kernel⟩, List.mem_of_getElem? (i := 419) (by decide +kernel), List.mem_of_getElem? (i := 1251) (by decide +kernel), List.mem_of_getElem? (i := 1252) (by decide +kernel)⟩
theorem lw_p57 : lw_okq (⟨"DrownedSlatesModel", "lays", "(I)V"⟩, 85) := ⟨⟨by decide +kernel, by decide +kernel⟩, List.mem_of_getElem? (i := 1278) (by decide +kernel), List.mem_of_getElem? (i := 1545) (by decide +kernel), List.mem_of_getElem? (i := 1546) (by decide +kernel)⟩
theorem lw_p58 : lw_okq (⟨"DrownedSlatesModel", "right", "(ZI)Z"⟩, 85) := ⟨⟨by decide +kernel, by decide +kernel⟩, List.mem_of_getElem? (i := 1278) (by decide +kernel), List.mem_of_getElem? (i := 1553) (by decide +kernel), List.mem_of_getElem? (i := 1554) (by decide +kernel)⟩
theorem lw_p59 : lw_okq (⟨"DrownedSlatesModel", "goes", "()V"⟩, 85) := ⟨⟨by decide +kernel, by decide +kernel⟩, List.mem_of_getElem? (i := 1278) (by decide +kernel), List.mem_of_getElem? (i := 1557) (by decide +kernel), List.mem_of_getElem? (i := 1558) (by decide +kernel)⟩
theorem lw_p60 : lw_okq (⟨"DrownedSlatesModel", "byteAt", "(I)I"⟩, 85) := ⟨⟨by decide +kernel, by decide +kernel⟩, List.mem_of_getElem? (i := 1278) (by decide +kernel), List.mem_of_getElem? (i := 1561) (by decide +kernel), List.mem_of_getElem? (i := 1562) (by decide +kernel)⟩
theorem lw_p61 : lw_okq (⟨"DrownedSlatesModel", "isGood", "()Z"⟩, 85) := ⟨⟨by decide +kernel, by decide +kernel⟩, List.mem_of_getElem? (i := 1278) (by decide +kernel), List.mem_of_getElem? (i := 1571) (by decide +kernel), List.mem_of_getElem? (i := 1572) (by decide +kernel)⟩
theorem lw_p62 : lw_okq (⟨"DrownedSlatesModel", "line", "()V"⟩, 85) := ⟨⟨by decide +kernel, by decide +kernel⟩, List.mem_of_getElem? (i := 1278) (by decide +kernel), List.mem_of_getElem? (i := 1575) (by decide +kernel), List.mem_of_getElem? (i := 1576) (by decide +kernel)⟩
theorem lw_p63 : lw_okq (⟨"DrownedSlatesModel", "knownWord", "()I"⟩, 85) := ⟨⟨by decide +kernel, by decide +kernel⟩, List.mem_of_getElem? (i := 1278) (by decide +kernel), List.mem_of_getElem? (i := 1579) (by decide +kernel), List.mem_of_getElem? (i := 1580) (by decide +kernel)⟩
def lw_privs_4 : List (MethodName × Nat) := [(⟨"DrownedSlates$Waters", "driven", "(J)J"⟩, 20), (⟨"DrownedSlates$Fog", "sailMark", "(LDrownedSlates$Waters;II)V"⟩, 2), (⟨"DrownedSlates", "needPilot", "(I)V"⟩, 18), (⟨"DrownedSlates$Desk", "lessonOf", "(I)I"⟩, 12), (⟨"DrownedSlates$Desk", "beginningNear", "(LDrownedSlates$Waters;I)I"⟩, 12), (⟨"DrownedSlates$Desk", "putInRow", "(I)Z"⟩, 12), (⟨"DrownedSlates$Desk", "rowIsAhead", "(I)Z"⟩, 12), (⟨"DrownedSlates$Desk", "bringsThrough", "(LDrownedSlates$Waters;LDrownedSlates$Helm;II)Z"⟩, 12), (⟨"DrownedSlates$Hands", "weigh", "(LDrownedSlates$Waters;LDrownedSlates$Chalk;IIII)V"⟩, 4), (⟨"DrownedSlatesModel", "lays", "(I)V"⟩, 85), (⟨"DrownedSlatesModel", "right", "(ZI)Z"⟩, 85), (⟨"DrownedSlatesModel", "goes", "()V"⟩, 85), (⟨"DrownedSlatesModel", "byteAt", "(I)I"⟩, 85), (⟨"DrownedSlatesModel", "isGood", "()Z"⟩, 85), (⟨"DrownedSlatesModel", "line", "()V"⟩, 85), (⟨"DrownedSlatesModel", "knownWord", "()I"⟩, 85)]
theorem lw_r4 : ∀ q ∈ lw_privs_4, lw_okq q := List.forall_mem_cons.mpr ⟨lw_p48, List.forall_mem_cons.mpr ⟨lw_p49, List.forall_mem_cons.mpr ⟨lw_p50, List.forall_mem_cons.mpr ⟨lw_p51, List.forall_mem_cons.mpr ⟨lw_p52, List.forall_mem_cons.mpr ⟨lw_p53, List.forall_mem_cons.mpr ⟨lw_p54, List.forall_mem_cons.mpr ⟨lw_p55, List.forall_mem_cons.mpr ⟨lw_p56, List.forall_mem_cons.mpr ⟨lw_p57, List.forall_mem_cons.mpr ⟨lw_p58, List.forall_mem_cons.mpr ⟨lw_p59, List.forall_mem_cons.mpr ⟨lw_p60, List.forall_mem_cons.mpr ⟨lw_p61, List.forall_mem_cons.mpr ⟨lw_p62, List.forall_mem_cons.mpr ⟨lw_p63, fun _ h => absurd h List.not_mem_nil⟩⟩⟩⟩⟩⟩⟩⟩⟩⟩⟩⟩⟩⟩⟩⟩
theorem lw_p64 : lw_okq (⟨"DrownedSlatesModel", "wrong", "(I)V"⟩, 85) := ⟨⟨by decide +kernel, by decide +kernel⟩, List.mem_of_getElem? (i := 1278) (by decide +kernel), List.mem_of_getElem? (i := 1590) (by decide +kernel), List.mem_of_getElem? (i := 1591) (by decide +kernel)⟩
theorem lw_p65 : lw_okq (⟨"DrownedSlatesModel", "number", "(II)I"⟩, 85) := ⟨⟨by decide +kernel, by decide +kernel⟩, List.mem_of_getElem? (i := 1278) (by decide +kernel), List.mem_of_getElem? (i := 1594) (by decide +kernel), List.mem_of_getElem? (i := 1595) (by decide +kernel)⟩
theorem lw_p66 : lw_okq (⟨"DrownedSlatesModel", "numberHere", "(II)Z"⟩, 85) := ⟨⟨by decide +kernel, by decide +kernel⟩, List.mem_of_getElem? (i := 1278) (by decide +kernel), List.mem_of_getElem? (i := 1598) (by decide +kernel), List.mem_of_getElem? (i := 1599) (by decide +kernel)⟩
theorem lw_p67 : lw_okq (⟨"DrownedSlatesModel", "cellHere", "()I"⟩, 85) := ⟨⟨by decide +kernel, by decide +kernel⟩, List.mem_of_getElem? (i := 1278) (by decide +kernel), List.mem_of_getElem? (i := 1602) (by decide +kernel), List.mem_of_getElem? (i := 1603) (by decide +kernel)⟩
theorem lw_p68 : lw_okq (⟨"DrownedSlatesModel", "way", "()I"⟩, 85) := ⟨⟨by decide +kernel, by decide +kernel⟩, List.mem_of_getElem? (i := 1278) (by decide +kernel), List.mem_of_getElem? (i := 1606) (by decide +kernel), List.mem_of_getElem? (i := 1607) (by decide +kernel)⟩
theorem lw_p69 : lw_okq (⟨"DrownedSlatesModel", "need", "(Z)V"⟩, 85) := ⟨⟨by decide +kernel, by decide +kernel⟩, List.mem_of_getElem? (i := 1278) (by decide +kernel), List.mem_of_getElem? (i := 1613) (by decide +kernel), List.mem_of_getElem? (i := 1614) (by decide +kernel)⟩
theorem lw_p70 : lw_okq (⟨"DrownedSlatesModel", "readsSlate", "()V"⟩, 85) := ⟨⟨by decide +kernel, by decide +kernel⟩, List.mem_of_getElem? (i := 1278) (by decide +kernel), List.mem_of_getElem? (i := 1617) (by decide +kernel), List.mem_of_getElem? (i := 1618) (by decide +kernel)⟩
theorem lw_p71 : lw_okq (⟨"DrownedSlatesModel", "cellRead", "()I"⟩, 85) := ⟨⟨by decide +kernel, by decide +kernel⟩, List.mem_of_getElem? (i := 1278) (by decide +kernel), List.mem_of_getElem? (i := 1621) (by decide +kernel), List.mem_of_getElem? (i := 1622) (by decide +kernel)⟩
theorem lw_p72 : lw_okq (⟨"DrownedSlatesModel", "isWay", "()Z"⟩, 85) := ⟨⟨by decide +kernel, by decide +kernel⟩, List.mem_of_getElem? (i := 1278) (by decide +kernel), List.mem_of_getElem? (i := 1625) (by decide +kernel), List.mem_of_getElem? (i := 1626) (by decide +kernel)⟩
theorem lw_p73 : lw_okq (⟨"DrownedSlatesModel", "readsHand", "()V"⟩, 85) := ⟨⟨by decide +kernel, by decide +kernel⟩, List.mem_of_getElem? (i := 1278) (by decide +kernel), List.mem_of_getElem? (i := 1629) (by decide +kernel), List.mem_of_getElem? (i := 1630) (by decide +kernel)⟩
theorem lw_p74 : lw_okq (⟨"DrownedSlatesModel", "readsPilot", "()V"⟩, 85) := ⟨⟨by decide +kernel, by decide +kernel⟩, List.mem_of_getElem? (i := 1278) (by decide +kernel), List.mem_of_getElem? (i := 1633) (by decide +kernel), List.mem_of_getElem? (i := 1634) (by decide +kernel)⟩
theorem lw_p75 : lw_okq (⟨"DrownedSlatesModel", "expression", "()V"⟩, 85) := ⟨⟨by decide +kernel, by decide +kernel⟩, List.mem_of_getElem? (i := 1278) (by decide +kernel), List.mem_of_getElem? (i := 1637) (by decide +kernel), List.mem_of_getElem? (i := 1638) (by decide +kernel)⟩
theorem lw_p76 : lw_okq (⟨"DrownedSlatesModel", "deeper", "()V"⟩, 85) := ⟨⟨by decide +kernel, by decide +kernel⟩, List.mem_of_getElem? (i := 1278) (by decide +kernel), List.mem_of_getElem? (i := 1641) (by decide +kernel), List.mem_of_getElem? (i := 1642) (by decide +kernel)⟩
theorem lw_p77 : lw_okq (⟨"DrownedSlatesModel", "isSign", "(I)Z"⟩, 85) := ⟨⟨by decide +kernel, by decide +kernel⟩, List.mem_of_getElem? (i := 1278) (by decide +kernel), List.mem_of_getElem? (i := 1645) (by decide +kernel), List.mem_of_getElem? (i := 1646) (by decide +kernel)⟩
theorem lw_p78 : lw_okq (⟨"DrownedSlatesModel", "operand", "(Z)V"⟩, 85) := ⟨⟨by decide +kernel, by decide +kernel⟩, List.mem_of_getElem? (i := 1278) (by decide +kernel), List.mem_of_getElem? (i := 1649) (by decide +kernel), List.mem_of_getElem? (i := 1650) (by decide +kernel)⟩
theorem lw_p79 : lw_okq (⟨"DrownedSlatesModel", "waitsFor", "(I)V"⟩, 85) := ⟨⟨by decide +kernel, by decide +kernel⟩, List.mem_of_getElem? (i := 1278) (by decide +kernel), List.mem_of_getElem? (i := 1653) (by decide +kernel), List.mem_of_getElem? (i := 1654) (by decide +kernel)⟩
def lw_privs_5 : List (MethodName × Nat) := [(⟨"DrownedSlatesModel", "wrong", "(I)V"⟩, 85), (⟨"DrownedSlatesModel", "number", "(II)I"⟩, 85), (⟨"DrownedSlatesModel", "numberHere", "(II)Z"⟩, 85), (⟨"DrownedSlatesModel", "cellHere", "()I"⟩, 85), (⟨"DrownedSlatesModel", "way", "()I"⟩, 85), (⟨"DrownedSlatesModel", "need", "(Z)V"⟩, 85), (⟨"DrownedSlatesModel", "readsSlate", "()V"⟩, 85), (⟨"DrownedSlatesModel", "cellRead", "()I"⟩, 85), (⟨"DrownedSlatesModel", "isWay", "()Z"⟩, 85), (⟨"DrownedSlatesModel", "readsHand", "()V"⟩, 85), (⟨"DrownedSlatesModel", "readsPilot", "()V"⟩, 85), (⟨"DrownedSlatesModel", "expression", "()V"⟩, 85), (⟨"DrownedSlatesModel", "deeper", "()V"⟩, 85), (⟨"DrownedSlatesModel", "isSign", "(I)Z"⟩, 85), (⟨"DrownedSlatesModel", "operand", "(Z)V"⟩, 85), (⟨"DrownedSlatesModel", "waitsFor", "(I)V"⟩, 85)]
theorem lw_r5 : ∀ q ∈ lw_privs_5, lw_okq q := List.forall_mem_cons.mpr ⟨lw_p64, List.forall_mem_cons.mpr ⟨lw_p65, List.forall_mem_cons.mpr ⟨lw_p66, List.forall_mem_cons.mpr ⟨lw_p67, List.forall_mem_cons.mpr ⟨lw_p68, List.forall_mem_cons.mpr ⟨lw_p69, List.forall_mem_cons.mpr ⟨lw_p70, List.forall_mem_cons.mpr ⟨lw_p71, List.forall_mem_cons.mpr ⟨lw_p72, List.forall_mem_cons.mpr ⟨lw_p73, List.forall_mem_cons.mpr ⟨lw_p74, List.forall_mem_cons.mpr ⟨lw_p75, List.forall_mem_cons.mpr ⟨lw_p76, List.forall_mem_cons.mpr ⟨lw_p77, List.forall_mem_cons.mpr ⟨lw_p78, List.forall_mem_cons.mpr ⟨lw_p79, fun _ h => absurd h List.not_mem_nil⟩⟩⟩⟩⟩⟩⟩⟩⟩⟩⟩⟩⟩⟩⟩⟩
theorem lw_p80 : lw_okq (⟨"DrownedSlatesModel", "part", "()V"⟩, 85) := ⟨⟨by decide +kernel, by decide +kernel⟩, List.mem_of_getElem? (i := 1278) (by decide +kernel), List.mem_of_getElem? (i := 1657) (by decide +kernel), List.mem_of_getElem? (i := 1658) (by decide +kernel)⟩
theorem lw_p81 : lw_okq (⟨"DrownedSlatesModel", "puts", "(I)V"⟩, 85) := ⟨⟨by decide +kernel, by decide +kernel⟩, List.mem_of_getElem? (i := 1278) (by decide +kernel), List.mem_of_getElem? (i := 1661) (by decide +kernel), List.mem_of_getElem? (i := 1662) (by decide +kernel)⟩
theorem lw_p82 : lw_okq (⟨"DrownedSlatesModel", "drops", "(I)V"⟩, 85) := ⟨⟨by decide +kernel, by decide +kernel⟩, List.mem_of_getElem? (i := 1278) (by decide +kernel), List.mem_of_getElem? (i := 1665) (by decide +kernel), List.mem_of_getElem? (i := 1666) (by decide +kernel)⟩
theorem lw_p83 : lw_okq (⟨"DrownedSlatesModel", "isOpened", "()Z"⟩, 85) := ⟨⟨by decide +kernel, by decide +kernel⟩, List.mem_of_getElem? (i := 1278) (by decide +kernel), List.mem_of_getElem? (i := 1675) (by decide +kernel), List.mem_of_getElem? (i := 1676) (by decide +kernel)⟩
theorem lw_p84 : lw_okq (⟨"DrownedSlatesModel", "closes", "()V"⟩, 85) := ⟨⟨by decide +kernel, by decide +kernel⟩, List.mem_of_getElem? (i := 1278) (by decide +kernel), List.mem_of_getElem? (i := 1679) (by decide +kernel), List.mem_of_getElem? (i := 1680) (by decide +kernel)⟩
theorem lw_p85 : lw_okq (⟨"DrownedSlatesModel", "copies", "([I[I)V"⟩, 85) := ⟨⟨by decide +kernel, by decide +kernel⟩, List.mem_of_getElem? (i := 1278) (by decide +kernel), List.mem_of_getElem? (i := 1683) (by decide +kernel), List.mem_of_getElem? (i := 1684) (by decide +kernel)⟩
theorem lw_p86 : lw_okq (⟨"DrownedSlatesModel", "isWhat", "(II)Z"⟩, 85) := ⟨⟨by decide +kernel, by decide +kernel⟩, List.mem_of_getElem? (i := 1278) (by decide +kernel), List.mem_of_getElem? (i := 1699) (by decide +kernel), List.mem_of_getElem? (i := 1700) (by decide +kernel)⟩
theorem lw_p87 : lw_okq (⟨"DrownedSlatesModel", "isSlate", "(I)Z"⟩, 85) := ⟨⟨by decide +kernel, by decide +kernel⟩, List.mem_of_getElem? (i := 1278) (by decide +kernel), List.mem_of_getElem? (i := 1707) (by decide +kernel), List.mem_of_getElem? (i := 1708) (by decide +kernel)⟩
theorem lw_p88 : lw_okq (⟨"DrownedSlatesModel", "marks", "(I)I"⟩, 85) := ⟨⟨by decide +kernel, by decide +kernel⟩, List.mem_of_getElem? (i := 1278) (by decide +kernel), List.mem_of_getElem? (i := 1715) (by decide +kernel), List.mem_of_getElem? (i := 1716) (by decide +kernel)⟩
theorem lw_p89 : lw_okq (⟨"DrownedSlatesModel", "refuses", "()I"⟩, 85) := ⟨⟨by decide +kernel, by decide +kernel⟩, List.mem_of_getElem? (i := 1278) (by decide +kernel), List.mem_of_getElem? (i := 1723) (by decide +kernel), List.mem_of_getElem? (i := 1724) (by decide +kernel)⟩
theorem lw_p90 : lw_okq (⟨"DrownedSlatesModel", "keeps", "(II)V"⟩, 85) := ⟨⟨by decide +kernel, by decide +kernel⟩, List.mem_of_getElem? (i := 1278) (by decide +kernel), List.mem_of_getElem? (i := 1727) (by decide +kernel), List.mem_of_getElem? (i := 1728) (by decide +kernel)⟩
theorem lw_p91 : lw_okq (⟨"DrownedSlatesModel", "sailsOf", "(I)V"⟩, 85) := ⟨⟨by decide +kernel, by decide +kernel⟩, List.mem_of_getElem? (i := 1278) (by decide +kernel), List.mem_of_getElem? (i := 1747) (by decide +kernel), List.mem_of_getElem? (i := 1748) (by decide +kernel)⟩
theorem lw_p92 : lw_okq (⟨"DrownedSlatesModel", "steps", "(IIZ)I"⟩, 85) := ⟨⟨by decide +kernel, by decide +kernel⟩, List.mem_of_getElem? (i := 1278) (by decide +kernel), List.mem_of_getElem? (i := 1751) (by decide +kernel), List.mem_of_getElem? (i := 1752) (by decide +kernel)⟩
theorem lw_p93 : lw_okq (⟨"DrownedSlatesModel", "beside", "(II)I"⟩, 85) := ⟨⟨by decide +kernel, by decide +kernel⟩, List.mem_of_getElem? (i := 1278) (by decide +kernel), List.mem_of_getElem? (i := 1755) (by decide +kernel), List.mem_of_getElem? (i := 1756) (by decide +kernel)⟩
theorem lw_p94 : lw_okq (⟨"DrownedSlatesModel", "isRock", "(I)Z"⟩, 85) := ⟨⟨by decide +kernel, by decide +kernel⟩, List.mem_of_getElem? (i := 1278) (by decide +kernel), List.mem_of_getElem? (i := 1759) (by decide +kernel), List.mem_of_getElem? (i := 1760) (by decide +kernel)⟩
theorem lw_p95 : lw_okq (⟨"DrownedSlatesModel", "stepsAll", "(II)V"⟩, 85) := ⟨⟨by decide +kernel, by decide +kernel⟩, List.mem_of_getElem? (i := 1278) (by decide +kernel), List.mem_of_getElem? (i := 1771) (by decide +kernel), List.mem_of_getElem? (i := 1772) (by decide +kernel)⟩
def lw_privs_6 : List (MethodName × Nat) := [(⟨"DrownedSlatesModel", "part", "()V"⟩, 85), (⟨"DrownedSlatesModel", "puts", "(I)V"⟩, 85), (⟨"DrownedSlatesModel", "drops", "(I)V"⟩, 85), (⟨"DrownedSlatesModel", "isOpened", "()Z"⟩, 85), (⟨"DrownedSlatesModel", "closes", "()V"⟩, 85), (⟨"DrownedSlatesModel", "copies", "([I[I)V"⟩, 85), (⟨"DrownedSlatesModel", "isWhat", "(II)Z"⟩, 85), (⟨"DrownedSlatesModel", "isSlate", "(I)Z"⟩, 85), (⟨"DrownedSlatesModel", "marks", "(I)I"⟩, 85), (⟨"DrownedSlatesModel", "refuses", "()I"⟩, 85), (⟨"DrownedSlatesModel", "keeps", "(II)V"⟩, 85), (⟨"DrownedSlatesModel", "sailsOf", "(I)V"⟩, 85), (⟨"DrownedSlatesModel", "steps", "(IIZ)I"⟩, 85), (⟨"DrownedSlatesModel", "beside", "(II)I"⟩, 85), (⟨"DrownedSlatesModel", "isRock", "(I)Z"⟩, 85), (⟨"DrownedSlatesModel", "stepsAll", "(II)V"⟩, 85)]
theorem lw_r6 : ∀ q ∈ lw_privs_6, lw_okq q := List.forall_mem_cons.mpr ⟨lw_p80, List.forall_mem_cons.mpr ⟨lw_p81, List.forall_mem_cons.mpr ⟨lw_p82, List.forall_mem_cons.mpr ⟨lw_p83, List.forall_mem_cons.mpr ⟨lw_p84, List.forall_mem_cons.mpr ⟨lw_p85, List.forall_mem_cons.mpr ⟨lw_p86, List.forall_mem_cons.mpr ⟨lw_p87, List.forall_mem_cons.mpr ⟨lw_p88, List.forall_mem_cons.mpr ⟨lw_p89, List.forall_mem_cons.mpr ⟨lw_p90, List.forall_mem_cons.mpr ⟨lw_p91, List.forall_mem_cons.mpr ⟨lw_p92, List.forall_mem_cons.mpr ⟨lw_p93, List.forall_mem_cons.mpr ⟨lw_p94, List.forall_mem_cons.mpr ⟨lw_p95, fun _ h => absurd h List.not_mem_nil⟩⟩⟩⟩⟩⟩⟩⟩⟩⟩⟩⟩⟩⟩⟩⟩
theorem lw_p96 : lw_okq (⟨"DrownedSlatesModel", "isPilot", "(I)Z"⟩, 85) := ⟨⟨by decide +kernel, by decide +kernel⟩, List.mem_of_getElem? (i := 1278) (by decide +kernel), List.mem_of_getElem? (i := 1779) (by decide +kernel), List.mem_of_getElem? (i := 1780) (by decide +kernel)⟩
theorem lw_p97 : lw_okq (⟨"DrownedSlatesModel", "pilots", "(II)V"⟩, 85) := ⟨⟨by decide +kernel, by decide +kernel⟩, List.mem_of_getElem? (i := 1278) (by decide +kernel), List.mem_of_getElem? (i := 1787) (by decide +kernel), List.mem_of_getElem? (i := 1788) (by decide +kernel)⟩
theorem lw_p98 : lw_okq (⟨"DrownedSlatesModel", "knownBy", "(I)J"⟩, 85) := ⟨⟨by decide +kernel, by decide +kernel⟩, List.mem_of_getElem? (i := 1278) (by decide +kernel), List.mem_of_getElem? (i := 1791) (by decide +kernel), List.mem_of_getElem? (i := 1792) (by decide +kernel)⟩
theorem lw_p99 : lw_okq (⟨"DrownedSlatesModel", "wayOf", "(IIJ)I"⟩, 85) := ⟨⟨by decide +kernel, by decide +kernel⟩, List.mem_of_getElem? (i := 1278) (by decide +kernel), List.mem_of_getElem? (i := 1795) (by decide +kernel), List.mem_of_getElem? (i := 1796) (by decide +kernel)⟩
theorem lw_p100 : lw_okq (⟨"DrownedSlatesModel", "reckons", "(IIIJ)I"⟩, 85) := ⟨⟨by decide +kernel, by decide +kernel⟩, List.mem_of_getElem? (i := 1278) (by decide +kernel), List.mem_of_getElem? (i := 1799) (by decide +kernel), List.mem_of_getElem? (i := 1800) (by decide +kernel)⟩
theorem lw_p101 : lw_okq (⟨"DrownedSlatesModel", "valueOf", "(IIIJ)I"⟩, 85) := ⟨⟨by decide +kernel, by decide +kernel⟩, List.mem_of_getElem? (i := 1278) (by decide +kernel), List.mem_of_getElem? (i := 1803) (by decide +kernel), List.mem_of_getElem? (i := 1804) (by decide +kernel)⟩
theorem lw_p102 : lw_okq (⟨"DrownedSlatesModel", "studies", "(II)Z"⟩, 85) := ⟨⟨by decide +kernel, by decide +kernel⟩, List.mem_of_getElem? (i := 1278) (by decide +kernel), List.mem_of_getElem? (i := 1818) (by decide +kernel), List.mem_of_getElem? (i := 1819) (by decide +kernel)⟩
theorem lw_p103 : lw_okq (⟨"DrownedSlatesModel", "isRead", "(I)Z"⟩, 85) := ⟨⟨by decide +kernel, by decide +kernel⟩, List.mem_of_getElem? (i := 1278) (by decide +kernel), List.mem_of_getElem? (i := 1822) (by decide +kernel), List.mem_of_getElem? (i := 1823) (by decide +kernel)⟩
theorem lw_p104 : lw_okq (⟨"DrownedSlatesModel", "isNear", "(III)Z"⟩, 85) := ⟨⟨by decide +kernel, by decide +kernel⟩, List.mem_of_getElem? (i := 1278) (by decide +kernel), List.mem_of_getElem? (i := 1826) (by decide +kernel), List.mem_of_getElem? (i := 1827) (by decide +kernel)⟩
theorem lw_p105 : lw_okq (⟨"DrownedSlatesModel", "product", "(IIII)J"⟩, 85) := ⟨⟨by decide +kernel, by decide +kernel⟩, List.mem_of_getElem? (i := 1278) (by decide +kernel), List.mem_of_getElem? (i := 1849) (by decide +kernel), List.mem_of_getElem? (i := 1850) (by decide +kernel)⟩
theorem lw_p106 : lw_okq (⟨"DrownedSlatesModel", "alike", "(IIII)I"⟩, 85) := ⟨⟨by decide +kernel, by decide +kernel⟩, List.mem_of_getElem? (i := 1278) (by decide +kernel), List.mem_of_getElem? (i := 1857) (by decide +kernel), List.mem_of_getElem? (i := 1858) (by decide +kernel)⟩
def lw_privs_7 : List (MethodName × Nat) := [(⟨"DrownedSlatesModel", "isPilot", "(I)Z"⟩, 85), (⟨"DrownedSlatesModel", "pilots", "(II)V"⟩, 85), (⟨"DrownedSlatesModel", "knownBy", "(I)J"⟩, 85), (⟨"DrownedSlatesModel", "wayOf", "(IIJ)I"⟩, 85), (⟨"DrownedSlatesModel", "reckons", "(IIIJ)I"⟩, 85), (⟨"DrownedSlatesModel", "valueOf", "(IIIJ)I"⟩, 85), (⟨"DrownedSlatesModel", "studies", "(II)Z"⟩, 85), (⟨"DrownedSlatesModel", "isRead", "(I)Z"⟩, 85), (⟨"DrownedSlatesModel", "isNear", "(III)Z"⟩, 85), (⟨"DrownedSlatesModel", "product", "(IIII)J"⟩, 85), (⟨"DrownedSlatesModel", "alike", "(IIII)I"⟩, 85)]
theorem lw_r7 : ∀ q ∈ lw_privs_7, lw_okq q := List.forall_mem_cons.mpr ⟨lw_p96, List.forall_mem_cons.mpr ⟨lw_p97, List.forall_mem_cons.mpr ⟨lw_p98, List.forall_mem_cons.mpr ⟨lw_p99, List.forall_mem_cons.mpr ⟨lw_p100, List.forall_mem_cons.mpr ⟨lw_p101, List.forall_mem_cons.mpr ⟨lw_p102, List.forall_mem_cons.mpr ⟨lw_p103, List.forall_mem_cons.mpr ⟨lw_p104, List.forall_mem_cons.mpr ⟨lw_p105, List.forall_mem_cons.mpr ⟨lw_p106, fun _ h => absurd h List.not_mem_nil⟩⟩⟩⟩⟩⟩⟩⟩⟩⟩⟩
def lw_privs : List (MethodName × Nat) := lw_privs_1 ++ (lw_privs_2 ++ (lw_privs_3 ++ (lw_privs_4 ++ (lw_privs_5 ++ (lw_privs_6 ++ (lw_privs_7))))))
def lw_tbl : List Cond := k2_sels lw_privs ++ tables_1
theorem lw_privs_ok : ∀ q ∈ lw_privs, lw_okq q := by
  show ∀ q ∈ lw_privs_1 ++ (lw_privs_2 ++ (lw_privs_3 ++ (lw_privs_4 ++ (lw_privs_5 ++ (lw_privs_6 ++ (lw_privs_7)))))), lw_okq q
  exact List.forall_mem_append.mpr ⟨lw_r1, List.forall_mem_append.mpr ⟨lw_r2, List.forall_mem_append.mpr ⟨lw_r3, List.forall_mem_append.mpr ⟨lw_r4, List.forall_mem_append.mpr ⟨lw_r5, List.forall_mem_append.mpr ⟨lw_r6, lw_r7⟩⟩⟩⟩⟩⟩
end
section
/-! ===== BEGIN words of one list among another's, by their places ===== -/
theorem goodIn_r {big : List Cond} (ws : List Cond) (ps : List Nat) (hp : ws = ps.filterMap (fun i => big[i]?)) (h : ws.all goodWord = true) : GoodIn big ws := by
  intro w hw
  have h1 := List.all_eq_true.mp h w hw
  rw [hp] at hw
  obtain ⟨i, -, hi⟩ := List.mem_filterMap.mp hw
  have hm : w ∈ big := by first | exact List.mem_of_getElem? hi | exact List.getElem?_mem hi
  exact ⟨hm, good_of_word h1⟩
theorem goodIn_app {big a b : List Cond} (ha : GoodIn big a) (hb : GoodIn big b) : GoodIn big (a ++ b) := fun w h => (List.mem_append.mp h).elim (ha w) (hb w)
theorem goodIn_ca {big a b : List Cond} {c : Cond} (ha : GoodIn big (c :: a)) (hb : GoodIn big b) : GoodIn big (c :: (a ++ b)) := fun w h => (List.mem_cons.mp h).elim (fun e => ha w (List.mem_cons.mpr (Or.inl e))) (fun h => (List.mem_append.mp h).elim (fun h => ha w (List.mem_cons.mpr (Or.inr h))) (hb w))
theorem goodIn_sub {big ws : List Cond} (hm : ∀ w ∈ ws, w ∈ big) (h : ws.all goodWord = true) : GoodIn big ws := fun w hw => ⟨hm w hw, good_of_word (List.all_eq_true.mp h w hw)⟩
/-! ===== END ===== -/

/-! ===== BEGIN exceptions that leave a method, and their catching by the caller (launches without stack traces) ===== -/
section VXA
/-! The laws vx_back, vx_callV, vx_callS, vx_callSW, vx_throw0, vx_throwS follow proofs of the library, with one case more: JvmDerived/Free/Laws.lean (Back.of_free), Shelf42/LK1.lean (callV, callS), Shelf/KitTraced.lean (throwNew0V, throwNewS). -/
/-- where a method has thrown q: the class by its name, the cell, what was written, the world -/
def vx_T (XC : String → State → State → Prop) (st : State) (q : Addr) (t : State) (mc ms : Nat) (free : Addr → Prop) : Prop :=
  ∃ (E : String) (ce : Cell) (L : List Loc), XC E st t ∧ t.heap[q]? = some ce ∧ ce.vm = .none ∧ st.vm.findClass E = some ce.cls ∧ st.WarmedH t.vm ∧ st.sameButNew ({ t with vm := st.vm } : State) L mc ms ∧ ∀ z ∈ L, free z.base
def vx_Q (Qc : Array Value → State → Outcome → State → Prop) (XC : String → State → State → Prop) (mc ms : Nat) (free : Addr → Prop) : Array Value → State → Outcome → State → Prop := fun a st o t =>
  (Qc a st o t ∧ ∃ L, FrameEnd st o t L mc ms ∧ ∀ q ∈ L, free q.base) ∨ ∃ q, o = .threw q ∧ vx_T XC st q t mc ms free
/-- a callee that returns or throws -/
def vx_Met (l : Launch) (y : MethodName) (ws : List Cond) (rm : Room) (Pc : Array Value → State → Prop) (Qc : Array Value → State → Outcome → State → Prop) (XC : String → State → State → Prop) (mc ms : Nat) (free : Addr → Prop) : Prop :=
  MetFree l y (headSpec ws rm) Pc (fun _ _ _ _ _ => True) (vx_Q Qc XC mc ms free)
def vx_Post (XC : String → State → State → Prop) (mc ms : Nat) (free : Addr → Prop) : Pt → Array Value → Addr → Pt → Prop := fun A a q B =>
  ∃ (g : JFrame) (mk : MethodId) (t : State) (L : List Loc) (E : String) (ce : Cell), B.U.heap = t.heap ∧ B.U.vm = t.vm ∧ XC E (A.U.calling g mk a) t ∧ t.heap[q]? = some ce ∧ ce.vm = .none ∧ A.U.vm.findClass E = some ce.cls ∧ B.locs = A.locs ++ L ∧ (∀ z ∈ L, free z.base) ∧ B.cells = A.cells + mc ∧ B.slots = A.slots + ms
def vx_Back (l : Launch) (R : Room) (p : Program) (e : Env) (below : List Frame) (s : State) (sargs : Array Value) (y : MethodName) (len W9 : Nat)
    (Pre : Pt → Array Value → Prop) (Post : Pt → Array Value → Option Value → Pt → Prop) (PostX : Pt → Array Value → Addr → Pt → Prop) : Prop :=
  ∀ (m : MethodId) (meth : Method) (c : Code) (A : Pt) (g : JFrame) (ig : Instr) (mk : MethodId) (a : Array Value),
    Stand p l e R s m sargs below meth c A.U A.locs A.cells A.slots → g.method = m → g.locals.size = c.maxLocals → decode c.code g.pc = .ok (ig, len) →
    2 * g.monitorRoom + (g.stack.map fun v => v.category).sum ≤ W9 → A.U.methodNamed? y = some mk → Pre A a →
    (∃ (v : Option Value) (B : Pt), Stand p l e R s m sargs below meth c B.U B.locs B.cells B.slots ∧ Post A a v B ∧
      Steps p.tables e below (doInvoke e (A.U.setTop g) [] mk a).1 (B.U.setTop { g with pc := g.pc + len, stack := v.toList ++ g.stack })) ∨
    (∃ (q : Addr) (B : Pt), Stand p l e R s m sargs below meth c B.U B.locs B.cells B.slots ∧ PostX A a q B ∧
      Steps p.tables e below (doInvoke e (A.U.setTop g) [] mk a).1 ((B.U.setTop g).pushFrame (.throwing q)))
section Payer
variable {l : Launch} {R : Room} {p : Program} {e : Env} {below : List Frame} {s : State} {sargs : Array Value} {y : MethodName} {len W9 : Nat}
theorem vx_back {ws : List Cond} {rm : Room} {Pc : Array Value → State → Prop} {Qc : Array Value → State → Outcome → State → Prop} {XC : String → State → State → Prop} {mc ms : Nat} {free : Addr → Prop} {bytes : ByteArray} {maxL : Nat} {ret : Option FieldType}
    (hM : vx_Met l y ws rm Pc Qc XC mc ms free) (hblind : FrameBlind Pc) (hrc : rm.cells = mc) (hrs : rm.slots = ms)
    (hframes : rm.frames + 1 ≤ R.frames) (hlocals : W9 + (maxL + 11) + rm.locals ≤ R.locals)
    (hws : ∀ w ∈ ws, ∀ a' U, s.WarmedH U.vm → w.before a' U = true) (hcode : Cond.code y bytes maxL ret ∈ ws) (hinit : ∀ a' U, s.WarmedH U.vm → (Cond.initialized y.cls).before a' U = true) :
    vx_Back l R p e below s sargs y len W9 (PreOf R mc ms Pc) (PostOf Qc mc ms free) (vx_Post XC mc ms free) := by
  intro m meth c A g ig mk a X hg hsize hdg hW hn hp
  have h1 : (headSpec ws rm).pre.before a A.U = true := atoms_intro fun w hw => hws w hw _ _ X.warmed
  have h2 : (Cond.code y bytes maxL ret).before a A.U = true := hws _ hcode _ _ X.warmed
  have h3 : (Cond.initialized y.cls).before a A.U = true := hinit _ _ X.warmed
  have h4 : A.cells + (headSpec ws rm).room.cells ≤ R.cells := by rw [show (headSpec ws rm).room.cells = mc from hrc]; exact hp.1
  have h5 : A.slots + (headSpec ws rm).room.slots ≤ R.slots := by rw [show (headSpec ws rm).room.slots = ms from hrs]; exact hp.2.1
  have hPc : Pc a (A.U.calling g mk a) := hblind _ _ _ _ hp.2.2
  obtain ⟨U, Ls, c0, s0⟩ := A
  dsimp only [Pt.U, Pt.locs, Pt.cells, Pt.slots] at h1 h2 h3 h4 h5 X hn hPc ⊢
  obtain ⟨methY, cY, hmY, hcY, -, hlY, -, -, -, -⟩ := Cond.code_spec hn h2
  obtain ⟨kY, hkY, -⟩ := className_of_methodNamed hn
  have hinitY : kY.init = .initialized := Cond.initialized_spec (findClass_of_methodNamed hn) hkY h3
  have h : At U g.method c below := by rw [hg]; exact X.here
  have hlocals9 : W9 + (maxL + 11) + (headSpec ws rm).room.locals ≤ R.locals := hlocals
  have happ : (headSpec ws rm).appliesLoose y e.platform (U.calling g mk a) = true :=
    Spec.appliesLoose_calling (g := g) h hdg hn hkY hinitY
      (X.room_calling (g := g) (R' := (headSpec ws rm).room) hsize hmY hcY hframes (by rw [hlY]; omega) h4 h5) h1
  obtain ⟨mid, hmid⟩ := h.above
  have hfr : (U.setTop g).frames = (.java g :: mid) ++ below := by rw [State.frames_setTop' g h.top, hmid]; rfl
  obtain ⟨o, s₂, hsteps, -, hend, hq⟩ := Steps.callFree hM p X.admits X.cas X.clock (acts := []) hfr happ hPc trivial
  have hq' : vx_Q Qc XC mc ms free a (U.calling g mk a) o s₂ := hq
  rw [State.frames_setTop' g h.top] at hend
  obtain ⟨g₀, hg0⟩ := Option.isSome_iff_exists.mp h.top
  obtain ⟨r, hr⟩ := State.topJava?_eq_some.mp hg0
  have hr' : (({ U with heap := s₂.heap, slotsUsed := s₂.slotsUsed } : State).setVm s₂.vm).frames = .java g₀ :: r := hr
  rcases hq' with ⟨hqc, L, hfe, hL⟩ | ⟨q, rfl, E, ce, L, hx, hce, hcv, hcl, hW₂, hsm, hL⟩
  · obtain ⟨⟨v, rfl⟩, hW₂, e2, q2, q3, q4, q5, q6⟩ := id hfe
    have e3 : s₂ = ({ (U.calling g mk a).setFrames s₂.frames with heap := s₂.heap, slotsUsed := s₂.slotsUsed } : State).setVm s₂.vm := by
      have : s₂ = ({ s₂ with vm := (U.calling g mk a).vm } : State).setVm s₂.vm := rfl
      rw [e2] at this
      exact this
    obtain ⟨c₂, i₂, len₂, hc₂, hd₂, hf₂⟩ := hend
    have hW' : U.WarmedH s₂.vm := hW₂
    have hcc : c₂ = c := by
      have h1 : s₂.code? g.method = U.code? g.method := by
        rw [State.code?_eq, State.code?_eq, hW'.alike.method?]
      exact Option.some.inj (hc₂.symm.trans (h1.trans h.code))
    subst hcc
    have hlen : len₂ = len := by rw [hdg] at hd₂; cases hd₂; rfl
    subst hlen
    have hs₂ : s₂ = (({ U with heap := s₂.heap, slotsUsed := s₂.slotsUsed } : State).setVm s₂.vm).setTop { g with pc := g.pc + len₂, stack := v.toList ++ g.stack } := by
      refine e3.trans ?_
      rw [hf₂, State.calling_eq h.top, State.setFrames_setFrames, State.setTop_of_frames _ hr', hr]
      rfl
    have hsame : U.sameButNew ({ U with heap := s₂.heap, slotsUsed := s₂.slotsUsed } : State) L mc ms := by
      refine ⟨?_, q2, q3, q4, q5, q6⟩
      obtain ⟨t, ht, -⟩ := State.frames_cons hr
      show ({ U with heap := s₂.heap, slotsUsed := s₂.slotsUsed } : State) = { U.setFrames U.frames with heap := s₂.heap, slotsUsed := s₂.slotsUsed }
      rw [State.setFrames_self ht]
    subst hg
    refine Or.inl ⟨v, ⟨(({ U with heap := s₂.heap, slotsUsed := s₂.slotsUsed } : State).setVm s₂.vm), Ls ++ L, c0 + mc, s0 + ms⟩,
      ⟨X.admits, X.cas, X.clock, X.frames, X.room, X.hears, X.method, X.code, (X.here.setHeapUsed s₂.heap s₂.slotsUsed).setVm hW'.alike, X.tail, State.WarmedH.trans X.warmed hW', X.limits, X.bytes, X.same.trans (hsame.setVm s.vm)⟩,
      ⟨g, mk, s₂, L, rfl, rfl, hqc, rfl, hL, rfl, rfl⟩, ?_⟩
    show Steps p.tables e below _ ((({ U with heap := s₂.heap, slotsUsed := s₂.slotsUsed } : State).setVm s₂.vm).setTop { g with pc := g.pc + len₂, stack := v.toList ++ g.stack })
    rw [← hs₂]
    exact hsteps
  · obtain ⟨e2, q2, q3, q4, q5, q6⟩ := id hsm
    have e3 : s₂ = ({ (U.calling g mk a).setFrames s₂.frames with heap := s₂.heap, slotsUsed := s₂.slotsUsed } : State).setVm s₂.vm := by
      have : s₂ = ({ s₂ with vm := (U.calling g mk a).vm } : State).setVm s₂.vm := rfl
      rw [e2] at this
      exact this
    have hf₂ : s₂.frames = .throwing q :: .java g :: U.frames.tail := hend
    have hW' : U.WarmedH s₂.vm := hW₂
    have hs₂ : s₂ = ((({ U with heap := s₂.heap, slotsUsed := s₂.slotsUsed } : State).setVm s₂.vm).setTop g).pushFrame (.throwing q) := by
      refine e3.trans ?_
      rw [hf₂, State.calling_eq h.top, State.setFrames_setFrames, State.pushFrame, State.frames_setTop _ hr', State.setTop_of_frames _ hr', State.setFrames_setFrames, hr]
      rfl
    have hsame : U.sameButNew ({ U with heap := s₂.heap, slotsUsed := s₂.slotsUsed } : State) L mc ms := by
      refine ⟨?_, q2, q3, q4, q5, q6⟩
      obtain ⟨t, ht, -⟩ := State.frames_cons hr
      show ({ U with heap := s₂.heap, slotsUsed := s₂.slotsUsed } : State) = { U.setFrames U.frames with heap := s₂.heap, slotsUsed := s₂.slotsUsed }
      rw [State.setFrames_self ht]
    subst hg
    refine Or.inr ⟨q, ⟨(({ U with heap := s₂.heap, slotsUsed := s₂.slotsUsed } : State).setVm s₂.vm), Ls ++ L, c0 + mc, s0 + ms⟩,
      ⟨X.admits, X.cas, X.clock, X.frames, X.room, X.hears, X.method, X.code, (X.here.setHeapUsed s₂.heap s₂.slotsUsed).setVm hW'.alike, X.tail, State.WarmedH.trans X.warmed hW', X.limits, X.bytes, X.same.trans (hsame.setVm s.vm)⟩,
      ⟨g, mk, s₂, L, E, ce, rfl, rfl, hx, hce, hcv, hcl, rfl, hL, rfl, rfl⟩, ?_⟩
    show Steps p.tables e below _ (((({ U with heap := s₂.heap, slotsUsed := s₂.slotsUsed } : State).setVm s₂.vm).setTop g).pushFrame (.throwing q))
    rw [← hs₂]
    exact hsteps
end Payer
section Calls
variable {p : Program} {l : Launch} {e : Env} {R : Room} {s : State} {m : MethodId} {args : Array Value} {below : List Frame} {meth : Method} {c : Code} {T : State} {locs : List Loc} {cells slots : Nat}
theorem vx_callV (X : Stand p l e R s m args below meth c T locs cells slots) (hexec : p.tables.exec = Jvm.exec) {own C : String} {index : Nat} {y : MethodName} {bytes : ByteArray} {maxL : Nat} {ret : Option FieldType}
    (hown : s.vm.findClass own = some m.cls) (hlink : (Cond.methodLink own index y).before args s = true) (hinst : (Cond.instanceMethod y).before args s = true) (hsel : (Cond.selects C y y).before args s = true)
    (hcode : (Cond.code y bytes maxL ret).before args s = true) (hy : y.cls ≠ "java/lang/invoke/MethodHandle" ∧ y.cls ≠ "java/lang/invoke/VarHandle")
    {W9 : Nat} {Pre : Pt → Array Value → Prop} {Post : Pt → Array Value → Option Value → Pt → Prop} {PostX : Pt → Array Value → Addr → Pt → Prop} (hK : vx_Back l R p e below s args y 3 W9 Pre Post PostX)
    {b : Addr} {cellB : Cell} (hcell : T.heap[b]? = some cellB) (hobj : cellB.vm.isStatics = false) (hcls : s.vm.findClass C = some cellB.cls)
    {g : JFrame} (hg : g.method = m) (hsize : g.locals.size = c.maxLocals) {argsL rest : List Value} (hlen : ∀ sig, parseMethodDescriptor y.desc = some sig → argsL.length = sig.parameters.length)
    (hstack : g.stack = argsL.reverse ++ .ref b :: rest) (hW : 2 * g.monitorRoom + (rest.map fun v => v.category).sum ≤ W9) (hdg : decode c.code g.pc = .ok (.invokevirtual index, 3))
    (hpre : ∀ vm₁, s.WarmedH vm₁ → Pre ⟨T.setVm vm₁, locs, cells, slots⟩ (Value.ref b :: argsL).toArray) :
    (∃ (v : Option Value) (vm₁ : Vm) (B : Pt), s.WarmedH vm₁ ∧ Stand p l e R s m args below meth c B.U B.locs B.cells B.slots ∧ Post ⟨T.setVm vm₁, locs, cells, slots⟩ (Value.ref b :: argsL).toArray v B ∧
      ∀ target, Steps p.tables e below (B.U.setTop { g with pc := g.pc + 3, stack := v.toList ++ rest }) target → Steps p.tables e below (T.setTop g) target) ∨
    (∃ (q : Addr) (vm₁ : Vm) (B : Pt), s.WarmedH vm₁ ∧ Stand p l e R s m args below meth c B.U B.locs B.cells B.slots ∧ PostX ⟨T.setVm vm₁, locs, cells, slots⟩ (Value.ref b :: argsL).toArray q B ∧
      Steps p.tables e below (T.setTop g) ((B.U.setTop { g with stack := rest }).pushFrame (.throwing q))) := by
  obtain ⟨mk, methM, hnamed, hmethM, hstM, habM⟩ := Cond.instanceMethod_spec hinst
  obtain ⟨methM', cM, hmethM', -, -, -, -, -, -, hsigM⟩ := Cond.code_spec hnamed hcode
  cases hmethM.symm.trans hmethM'
  obtain ⟨c2, r2, m2, q1, q2, q3, q4, kP, hkP, hkPi⟩ := Cond.selects_spec hsel
  cases hcls.symm.trans q1
  cases (State.methodFound?_of_named hnamed hy).symm.trans q2
  cases hnamed.symm.trans q3
  have hselP : selectMethod e.platform s.vm cellB.cls mk = .method mk := by rw [Launch.admits_selectMethod X.admits]; exact q4
  obtain ⟨vm₁, X₁, hstep₁⟩ := X.invokevirtual hexec hown hlink hnamed hmethM hstM hkP hkPi hy (a := b) (cell := cellB) hcell
    (fun z h => by rw [h] at hobj; cases hobj) hselP hmethM habM hkP hkPi (g := g) hg (argsL := argsL) (rest := rest) (hlen _ hsigM) hstack hdg
  rcases hK m meth c ⟨T.setVm vm₁, locs, cells, slots⟩ { g with stack := rest } (.invokevirtual index) mk (Value.ref b :: argsL).toArray X₁ hg hsize hdg hW (X₁.named hnamed) (hpre vm₁ X₁.warmed) with ⟨v, B, X', hpost, hsteps⟩ | ⟨q, B, X', hpost, hsteps⟩
  · exact Or.inl ⟨v, vm₁, B, X₁.warmed, X', hpost, fun target h => hstep₁ _ fun acts => by rw [doInvoke_state]; exact hsteps.trans h⟩
  · exact Or.inr ⟨q, vm₁, B, X₁.warmed, X', hpost, hstep₁ _ fun acts => by rw [doInvoke_state]; exact hsteps⟩
theorem vx_callS (X : Stand p l e R s m args below meth c T locs cells slots) (hexec : p.tables.exec = Jvm.exec) {own : String} {index : Nat} {y : MethodName} {bytes : ByteArray} {maxL : Nat} {ret : Option FieldType}
    (hown : s.vm.findClass own = some m.cls) (hlink : (Cond.methodLink own index y).before args s = true) (hstat : (Cond.static y).before args s = true) (hinit : (Cond.initialized y.cls).before args s = true)
    (hcode : (Cond.code y bytes maxL ret).before args s = true) (hy : y.cls ≠ "java/lang/invoke/MethodHandle" ∧ y.cls ≠ "java/lang/invoke/VarHandle")
    {W9 : Nat} {Pre : Pt → Array Value → Prop} {Post : Pt → Array Value → Option Value → Pt → Prop} {PostX : Pt → Array Value → Addr → Pt → Prop} (hK : vx_Back l R p e below s args y 3 W9 Pre Post PostX)
    {g : JFrame} (hg : g.method = m) (hsize : g.locals.size = c.maxLocals) {argsL rest : List Value} (hlen : ∀ sig, parseMethodDescriptor y.desc = some sig → argsL.length = sig.parameters.length)
    (hstack : g.stack = argsL.reverse ++ rest) (hW : 2 * g.monitorRoom + (rest.map fun v => v.category).sum ≤ W9) (hdg : decode c.code g.pc = .ok (.invokestatic index, 3))
    (hpre : ∀ vm₁, s.WarmedH vm₁ → Pre ⟨T.setVm vm₁, locs, cells, slots⟩ argsL.toArray) :
    (∃ (v : Option Value) (vm₁ : Vm) (B : Pt), s.WarmedH vm₁ ∧ Stand p l e R s m args below meth c B.U B.locs B.cells B.slots ∧ Post ⟨T.setVm vm₁, locs, cells, slots⟩ argsL.toArray v B ∧
      ∀ target, Steps p.tables e below (B.U.setTop { g with pc := g.pc + 3, stack := v.toList ++ rest }) target → Steps p.tables e below (T.setTop g) target) ∨
    (∃ (q : Addr) (vm₁ : Vm) (B : Pt), s.WarmedH vm₁ ∧ Stand p l e R s m args below meth c B.U B.locs B.cells B.slots ∧ PostX ⟨T.setVm vm₁, locs, cells, slots⟩ argsL.toArray q B ∧
      Steps p.tables e below (T.setTop g) ((B.U.setTop { g with stack := rest }).pushFrame (.throwing q))) := by
  obtain ⟨mk, hnamed⟩ := Cond.code_named hcode
  obtain ⟨methM, cM, hmethM, -, -, -, -, -, -, hsigM⟩ := Cond.code_spec hnamed hcode
  have hstatic : methM.isStatic = true := Cond.static_spec hnamed hmethM hstat
  obtain ⟨kP, hkP, -⟩ := className_of_methodNamed hnamed
  have hinitP : kP.init = .initialized := Cond.initialized_spec (findClass_of_methodNamed hnamed) hkP hinit
  obtain ⟨vm₁, X₁, hstep₁⟩ := X.invokestatic hexec hown hlink hnamed hmethM hstatic hkP hinitP hy (g := g) hg (argsL := argsL) (rest := rest) (hlen _ hsigM) hstack hdg
  rcases hK m meth c ⟨T.setVm vm₁, locs, cells, slots⟩ { g with stack := rest } (.invokestatic index) mk argsL.toArray X₁ hg hsize hdg hW (X₁.named hnamed) (hpre vm₁ X₁.warmed) with ⟨v, B, X', hpost, hsteps⟩ | ⟨q, B, X', hpost, hsteps⟩
  · exact Or.inl ⟨v, vm₁, B, X₁.warmed, X', hpost, fun target h => hstep₁ _ fun acts => by rw [doInvoke_state]; exact hsteps.trans h⟩
  · exact Or.inr ⟨q, vm₁, B, X₁.warmed, X', hpost, hstep₁ _ fun acts => by rw [doInvoke_state]; exact hsteps⟩
end Calls
theorem vx_cls {s : State} {T : State} {vm₁ : Vm} {E : String} {k : ClassId} (hW : s.WarmedH vm₁) (h : (T.setVm vm₁).vm.findClass E = some k) : s.vm.findClass E = some k := by
  have h1 : vm₁.findClass E = some k := h
  rw [hW.alike.findClass] at h1
  exact h1
/-- the method's frame g, with q thrown over it -/
def vx_W (p : Program) (l : Launch) (e : Env) (R : Room) (s : State) (m : MethodId) (args : Array Value) (below : List Frame) (meth : Method) (c : Code) (H : Heap) (locs : List Loc) (cells slots : Nat) (Q : State → Prop) (g : JFrame) (q : Addr) : Prop :=
  ∀ T : State, T.heap = H → Stand p l e R s m args below meth c T locs cells slots → ∃ t, Steps p.tables e below ((T.setTop g).pushFrame (.throwing q)) t ∧ Q t
def vx_Run (p : Program) (l : Launch) (e : Env) (R : Room) (s : State) (m : MethodId) (args : Array Value) (below : List Frame) (meth : Method) (c : Code) (H : Heap) (locs : List Loc) (cells slots mc ms : Nat) (g : JFrame) (rest : List Value) (Qa : State → Outcome → State → Prop) (XC : String → State → State → Prop) (free : Addr → Prop) : Prop :=
  ∀ T : State, T.heap = H → Stand p l e R s m args below meth c T locs cells slots →
    (∃ (v : Option Value) (st₀ t T' : State) (L : List Loc), st₀.heap = H ∧ Stand p l e R s m args below meth c T' (locs ++ L) (cells + mc) (slots + ms) ∧ (∀ q ∈ L, free q.base) ∧ T'.heap = t.heap ∧ T'.vm = t.vm ∧ Qa st₀ (.returned v) t ∧
      Goes p e below T g T' { g with pc := g.pc + 3, stack := v.toList ++ rest }) ∨
    (∃ (q : Addr) (st₀ t T' : State) (L : List Loc) (E : String) (ce : Cell), st₀.heap = H ∧ Stand p l e R s m args below meth c T' (locs ++ L) (cells + mc) (slots + ms) ∧ (∀ z ∈ L, free z.base) ∧ T'.heap = t.heap ∧ T'.vm = t.vm ∧ XC E st₀ t ∧ t.heap[q]? = some ce ∧ ce.vm = .none ∧ s.vm.findClass E = some ce.cls ∧
      Steps p.tables e below (T.setTop g) ((T'.setTop { g with stack := rest }).pushFrame (.throwing q)))
def vx_X {S : Type} (px : S → Prop) (B : String → S → State → Prop) (A : Nat → Prop) : String → State → State → Prop := fun E st t => ∃ u : S, px u ∧ B E u t ∧ va_F A st t
section Runs
variable {p : Program} {l : Launch} {e : Env} {R : Room} {s : State} {m : MethodId} {args : Array Value} {below : List Frame} {meth : Method} {c : Code} {H : Heap} {locs : List Loc} {cells slots : Nat}
variable {y : MethodName} {bytes cc : ByteArray} {maxL nL mc ms n index : Nat} {ret : Option FieldType} {ws : List Cond} {rm : Room} {Pc : Array Value → State → Prop} {Qc : Array Value → State → Outcome → State → Prop} {XC : String → State → State → Prop} {free : Addr → Prop} {Ts : List Cond} {own C : String} {b : Addr} {As rest : List Value} {g : JFrame}
theorem vx_callBack (cb : CallB R s args own index y bytes maxL ret ws rm mc ms n) (hM : vx_Met l y ws rm Pc Qc XC mc ms free) (hbl : FrameBlind Pc) : vx_Back l R p e below s args y 3 8 (PreOf R mc ms Pc) (PostOf Qc mc ms free) (vx_Post XC mc ms free) := by
  obtain ⟨hrc, hrs, hfr, hlo, hws, hcw, -, hini, -⟩ := cb
  exact vx_back (bytes := bytes) (maxL := maxL) (ret := ret) hM hbl hrc hrs hfr hlo hws hcw (fun a' U hW => word_at hW (Or.inl (by first | rfl | simp [Cond.onTables, Cond.keeps, Cond.steady])) hini)
theorem vx_runV (S : CallFix p m c cc nL s args Ts own) (hM : vx_Met l y ws rm Pc Qc XC mc ms free) (cw : CallW R s args own C index y bytes maxL ret ws rm mc ms n) (hp : PreV s H C b Pc As)
    (hg : g.method = m) (hn : As.length = n) (hsize : g.locals.size = nL) (hstack : g.stack = As.reverse ++ .ref b :: rest) (hW : 2 * g.monitorRoom + (rest.map fun v => v.category).sum ≤ 8) (hdg : decode cc g.pc = .ok (.invokevirtual index, 3)) (hf : cells + mc ≤ R.cells ∧ slots + ms ≤ R.slots) :
    vx_Run p l e R s m args below meth c H locs cells slots mc ms g rest (Qc (Value.ref b :: As).toArray) XC free := by
  have hK : vx_Back l R p e below s args y 3 8 (PreOf R mc ms Pc) (PostOf Qc mc ms free) (vx_Post XC mc ms free) := vx_callBack cw.1 hM hp.1
  obtain ⟨⟨-, -, -, -, -, -, hcode, -, hy, hlen, hl⟩, hin, hse⟩ := cw
  obtain ⟨hx, hb, hml, ho, -⟩ := S
  obtain ⟨-, ⟨cellB, hcB, hoB, hclB⟩, hPc⟩ := hp
  intro T hT X
  rcases vx_callV X hx (C := C) (bytes := bytes) (maxL := maxL) (ret := ret) ho hl hin hse hcode hy hK (by rw [hT]; exact hcB) hoB hclB hg (hsize.trans hml.symm) (argsL := As) (rest := rest) (fun sig h => hn.trans (hlen sig h)) hstack hW (by rw [hb]; exact hdg)
    (fun vm₁ hW₁ => ⟨hf.1, hf.2, hPc (T.setVm vm₁) hT hW₁⟩) with ⟨v, vm₁, ⟨U', l2, c2, s2⟩, hW₁, X', ⟨g', mk, t, L, e1, e2, hq, h1, hL, h2, h3⟩, st⟩ | ⟨q, vm₁, ⟨U', l2, c2, s2⟩, hW₁, X', ⟨g', mk, t, L, E, ce, e1, e2, hq, hce, hcv, hcl, h1, hL, h2, h3⟩, st⟩
  · dsimp only [Pt.U, Pt.locs, Pt.cells, Pt.slots] at X' e1 e2 h1 h2 h3 st
    subst h1; subst h2; subst h3
    exact Or.inl ⟨v, (T.setVm vm₁).calling g' mk (Value.ref b :: As).toArray, t, U', L, hT, X', hL, e1, e2, hq, st⟩
  · dsimp only [Pt.U, Pt.locs, Pt.cells, Pt.slots] at X' e1 e2 h1 h2 h3 st hcl
    subst h1; subst h2; subst h3
    exact Or.inr ⟨q, (T.setVm vm₁).calling g' mk (Value.ref b :: As).toArray, t, U', L, E, ce, hT, X', hL, e1, e2, hq, hce, hcv, vx_cls hW₁ hcl, st⟩
theorem vx_runS (S : CallFix p m c cc nL s args Ts own) (hM : vx_Met l y ws rm Pc Qc XC mc ms free) (cw : CallB R s args own index y bytes maxL ret ws rm mc ms n ∧ (Cond.static y).before args s = true) (hp : PreS s H Pc As)
    (hg : g.method = m) (hn : As.length = n) (hsize : g.locals.size = nL) (hstack : g.stack = As.reverse ++ rest) (hW : 2 * g.monitorRoom + (rest.map fun v => v.category).sum ≤ 8) (hdg : decode cc g.pc = .ok (.invokestatic index, 3)) (hf : cells + mc ≤ R.cells ∧ slots + ms ≤ R.slots) :
    vx_Run p l e R s m args below meth c H locs cells slots mc ms g rest (Qc As.toArray) XC free := by
  have hK : vx_Back l R p e below s args y 3 8 (PreOf R mc ms Pc) (PostOf Qc mc ms free) (vx_Post XC mc ms free) := vx_callBack cw.1 hM hp.1
  obtain ⟨⟨-, -, -, -, -, -, hcode, hini, hy, hlen, hl⟩, hstt⟩ := cw
  obtain ⟨hx, hb, hml, ho, -⟩ := S
  intro T hT X
  rcases vx_callS X hx (bytes := bytes) (maxL := maxL) (ret := ret) ho hl hstt hini hcode hy hK hg (hsize.trans hml.symm) (argsL := As) (rest := rest) (fun sig h => hn.trans (hlen sig h)) hstack hW (by rw [hb]; exact hdg)
    (fun vm₁ hW₁ => ⟨hf.1, hf.2, hp.2 (T.setVm vm₁) hT hW₁⟩) with ⟨v, vm₁, ⟨U', l2, c2, s2⟩, hW₁, X', ⟨g', mk, t, L, e1, e2, hq, h1, hL, h2, h3⟩, st⟩ | ⟨q, vm₁, ⟨U', l2, c2, s2⟩, hW₁, X', ⟨g', mk, t, L, E, ce, e1, e2, hq, hce, hcv, hcl, h1, hL, h2, h3⟩, st⟩
  · dsimp only [Pt.U, Pt.locs, Pt.cells, Pt.slots] at X' e1 e2 h1 h2 h3 st
    subst h1; subst h2; subst h3
    exact Or.inl ⟨v, (T.setVm vm₁).calling g' mk As.toArray, t, U', L, hT, X', hL, e1, e2, hq, st⟩
  · dsimp only [Pt.U, Pt.locs, Pt.cells, Pt.slots] at X' e1 e2 h1 h2 h3 st hcl
    subst h1; subst h2; subst h3
    exact Or.inr ⟨q, (T.setVm vm₁).calling g' mk As.toArray, t, U', L, E, ce, hT, X', hL, e1, e2, hq, hce, hcv, vx_cls hW₁ hcl, st⟩
end Runs
section Rows
variable {p : Program} {l : Launch} {e : Env} {R : Room} {s : State} {m : MethodId} {args : Array Value} {below : List Frame} {meth : Method} {c : Code} {H : Heap} {locs : List Loc} {cells slots : Nat} {Q : State → Prop}
variable {mc ms : Nat} {free : Addr → Prop} {A0 A1 : Nat → Prop} {H0 : Heap} {a : Array Value} {pc : Nat} {ls : Array Slot} {st0 rest : List Value}
theorem vx_keep {st₀ t T' : State} {L : List Loc} (h0 : st₀.heap = H) (e1 : T'.heap = t.heap) (hS : va_S A0 H0 H locs) (hA : ∀ q, q < H.size → A1 q → A0 q) (hf : ∀ q, free q → A0 q) (hL : ∀ q ∈ L, free q.base) (hF : va_F A1 st₀ t) :
    H.size ≤ T'.heap.size ∧ (∀ q : Nat, q < H.size → ¬ A1 q → T'.heap[q]? = H[q]?) ∧ va_S A0 H0 T'.heap (locs ++ L) := by
  obtain ⟨hz, hk⟩ := hF
  rw [h0] at hz hk
  exact ⟨by rw [e1]; exact hz, fun q h1 h2 => by rw [e1]; exact hk q h1 h2,
    ⟨Nat.le_trans hS.1 (by rw [e1]; exact hz), fun q h1 h2 => by rw [e1, hk q (Nat.lt_of_lt_of_le h1 hS.1) (fun z => h2 (hA q (Nat.lt_of_lt_of_le h1 hS.1) z))]; exact hS.2.1 q h1 h2, fun q hq => by
      rcases List.mem_append.mp hq with h | h
      · exact hS.2.2 q h
      · exact hf _ (hL q h)⟩⟩
theorem vx_calli {S SX : Type} {post : Int32 → S → Prop} {px : SX → Prop} {B : S → State → Prop} {BX : String → SX → State → Prop} {AX : Nat → Prop} (hr : vx_Run p l e R s m args below meth c H locs cells slots mc ms (F0 m pc ls st0) rest (va_Qi post B A1 a) (vx_X px BX AX) free) (hS : va_S A0 H0 H locs) (hA : ∀ q, q < H.size → A1 q → A0 q) (hf : ∀ q, free q → A0 q) (hAX : ∀ q, q < H.size → AX q → A0 q)
    (kx : ∀ (E : String) (ce : Cell) (q9 : Addr) (u : SX) (t : State) (H1 : Heap) (locs1 : List Loc), t.heap = H1 → s.vm.Alike t.vm → px u → BX E u t → H.size ≤ H1.size → (∀ q : Nat, q < H.size → ¬ AX q → H1[q]? = H[q]?) → va_S A0 H0 H1 locs1 → H1[q9]? = some ce → ce.vm = .none → s.vm.findClass E = some ce.cls → vx_W p l e R s m args below meth c H1 locs1 (cells + mc) (slots + ms) Q (F0 m pc ls rest) q9)
    (kk : ∀ (r : Int32) (u : S) (t : State) (H1 : Heap) (locs1 : List Loc), t.heap = H1 → s.vm.Alike t.vm → post r u → B u t → H.size ≤ H1.size → (∀ q : Nat, q < H.size → ¬ A1 q → H1[q]? = H[q]?) → va_S A0 H0 H1 locs1 → W p l e R s m args below meth c H1 locs1 (cells + mc) (slots + ms) Q (F0 m (pc + 3) ls (.int r :: rest))) : W p l e R s m args below meth c H locs cells slots Q (F0 m pc ls st0) := by
  intro T hT X
  rcases hr T hT X with ⟨v, st₀, t, T', L, h0, X', hL, e1, e2, ⟨⟨r, u, hv, hp, hb⟩, hF⟩, st⟩ | ⟨q, st₀, t, T', L, E, ce, h0, X', hL, e1, e2, ⟨u, hp, hb, hF⟩, hce, hcv, hcl, st⟩
  · cases hv
    obtain ⟨k1, k2, k3⟩ := vx_keep h0 e1 hS hA hf hL hF
    obtain ⟨t2, a1, b1⟩ := kk r u t T'.heap (locs ++ L) e1.symm (by rw [← e2]; exact X'.warmed.alike) hp hb k1 k2 k3 T' rfl X'
    exact ⟨t2, st t2 a1, b1⟩
  · obtain ⟨k1, k2, k3⟩ := vx_keep h0 e1 hS hAX hf hL hF
    obtain ⟨t2, a1, b1⟩ := kx E ce q u t T'.heap (locs ++ L) e1.symm (by rw [← e2]; exact X'.warmed.alike) hp hb k1 k2 k3 (by rw [e1]; exact hce) hcv hcl T' rfl X'
    exact ⟨t2, st.trans a1, b1⟩
theorem vx_calll {S SX : Type} {post : Int64 → S → Prop} {px : SX → Prop} {B : S → State → Prop} {BX : String → SX → State → Prop} {AX : Nat → Prop} (hr : vx_Run p l e R s m args below meth c H locs cells slots mc ms (F0 m pc ls st0) rest (va_Ql post B A1 a) (vx_X px BX AX) free) (hS : va_S A0 H0 H locs) (hA : ∀ q, q < H.size → A1 q → A0 q) (hf : ∀ q, free q → A0 q) (hAX : ∀ q, q < H.size → AX q → A0 q)
    (kx : ∀ (E : String) (ce : Cell) (q9 : Addr) (u : SX) (t : State) (H1 : Heap) (locs1 : List Loc), t.heap = H1 → s.vm.Alike t.vm → px u → BX E u t → H.size ≤ H1.size → (∀ q : Nat, q < H.size → ¬ AX q → H1[q]? = H[q]?) → va_S A0 H0 H1 locs1 → H1[q9]? = some ce → ce.vm = .none → s.vm.findClass E = some ce.cls → vx_W p l e R s m args below meth c H1 locs1 (cells + mc) (slots + ms) Q (F0 m pc ls rest) q9)
    (kk : ∀ (r : Int64) (u : S) (t : State) (H1 : Heap) (locs1 : List Loc), t.heap = H1 → s.vm.Alike t.vm → post r u → B u t → H.size ≤ H1.size → (∀ q : Nat, q < H.size → ¬ A1 q → H1[q]? = H[q]?) → va_S A0 H0 H1 locs1 → W p l e R s m args below meth c H1 locs1 (cells + mc) (slots + ms) Q (F0 m (pc + 3) ls (.long r :: rest))) : W p l e R s m args below meth c H locs cells slots Q (F0 m pc ls st0) := by
  intro T hT X
  rcases hr T hT X with ⟨v, st₀, t, T', L, h0, X', hL, e1, e2, ⟨⟨r, u, hv, hp, hb⟩, hF⟩, st⟩ | ⟨q, st₀, t, T', L, E, ce, h0, X', hL, e1, e2, ⟨u, hp, hb, hF⟩, hce, hcv, hcl, st⟩
  · cases hv
    obtain ⟨k1, k2, k3⟩ := vx_keep h0 e1 hS hA hf hL hF
    obtain ⟨t2, a1, b1⟩ := kk r u t T'.heap (locs ++ L) e1.symm (by rw [← e2]; exact X'.warmed.alike) hp hb k1 k2 k3 T' rfl X'
    exact ⟨t2, st t2 a1, b1⟩
  · obtain ⟨k1, k2, k3⟩ := vx_keep h0 e1 hS hAX hf hL hF
    obtain ⟨t2, a1, b1⟩ := kx E ce q u t T'.heap (locs ++ L) e1.symm (by rw [← e2]; exact X'.warmed.alike) hp hb k1 k2 k3 (by rw [e1]; exact hce) hcv hcl T' rfl X'
    exact ⟨t2, st.trans a1, b1⟩
theorem vx_callf {S SX : Type} {post : UInt32 → S → Prop} {px : SX → Prop} {B : S → State → Prop} {BX : String → SX → State → Prop} {AX : Nat → Prop} (hr : vx_Run p l e R s m args below meth c H locs cells slots mc ms (F0 m pc ls st0) rest (va_Qf post B A1 a) (vx_X px BX AX) free) (hS : va_S A0 H0 H locs) (hA : ∀ q, q < H.size → A1 q → A0 q) (hf : ∀ q, free q → A0 q) (hAX : ∀ q, q < H.size → AX q → A0 q)
    (kx : ∀ (E : String) (ce : Cell) (q9 : Addr) (u : SX) (t : State) (H1 : Heap) (locs1 : List Loc), t.heap = H1 → s.vm.Alike t.vm → px u → BX E u t → H.size ≤ H1.size → (∀ q : Nat, q < H.size → ¬ AX q → H1[q]? = H[q]?) → va_S A0 H0 H1 locs1 → H1[q9]? = some ce → ce.vm = .none → s.vm.findClass E = some ce.cls → vx_W p l e R s m args below meth c H1 locs1 (cells + mc) (slots + ms) Q (F0 m pc ls rest) q9)
    (kk : ∀ (r : UInt32) (u : S) (t : State) (H1 : Heap) (locs1 : List Loc), t.heap = H1 → s.vm.Alike t.vm → post r u → B u t → H.size ≤ H1.size → (∀ q : Nat, q < H.size → ¬ A1 q → H1[q]? = H[q]?) → va_S A0 H0 H1 locs1 → W p l e R s m args below meth c H1 locs1 (cells + mc) (slots + ms) Q (F0 m (pc + 3) ls (.float r :: rest))) : W p l e R s m args below meth c H locs cells slots Q (F0 m pc ls st0) := by
  intro T hT X
  rcases hr T hT X with ⟨v, st₀, t, T', L, h0, X', hL, e1, e2, ⟨⟨r, u, hv, hp, hb⟩, hF⟩, st⟩ | ⟨q, st₀, t, T', L, E, ce, h0, X', hL, e1, e2, ⟨u, hp, hb, hF⟩, hce, hcv, hcl, st⟩
  · cases hv
    obtain ⟨k1, k2, k3⟩ := vx_keep h0 e1 hS hA hf hL hF
    obtain ⟨t2, a1, b1⟩ := kk r u t T'.heap (locs ++ L) e1.symm (by rw [← e2]; exact X'.warmed.alike) hp hb k1 k2 k3 T' rfl X'
    exact ⟨t2, st t2 a1, b1⟩
  · obtain ⟨k1, k2, k3⟩ := vx_keep h0 e1 hS hAX hf hL hF
    obtain ⟨t2, a1, b1⟩ := kx E ce q u t T'.heap (locs ++ L) e1.symm (by rw [← e2]; exact X'.warmed.alike) hp hb k1 k2 k3 (by rw [e1]; exact hce) hcv hcl T' rfl X'
    exact ⟨t2, st.trans a1, b1⟩
theorem vx_calld {S SX : Type} {post : UInt64 → S → Prop} {px : SX → Prop} {B : S → State → Prop} {BX : String → SX → State → Prop} {AX : Nat → Prop} (hr : vx_Run p l e R s m args below meth c H locs cells slots mc ms (F0 m pc ls st0) rest (va_Qd post B A1 a) (vx_X px BX AX) free) (hS : va_S A0 H0 H locs) (hA : ∀ q, q < H.size → A1 q → A0 q) (hf : ∀ q, free q → A0 q) (hAX : ∀ q, q < H.size → AX q → A0 q)
    (kx : ∀ (E : String) (ce : Cell) (q9 : Addr) (u : SX) (t : State) (H1 : Heap) (locs1 : List Loc), t.heap = H1 → s.vm.Alike t.vm → px u → BX E u t → H.size ≤ H1.size → (∀ q : Nat, q < H.size → ¬ AX q → H1[q]? = H[q]?) → va_S A0 H0 H1 locs1 → H1[q9]? = some ce → ce.vm = .none → s.vm.findClass E = some ce.cls → vx_W p l e R s m args below meth c H1 locs1 (cells + mc) (slots + ms) Q (F0 m pc ls rest) q9)
    (kk : ∀ (r : UInt64) (u : S) (t : State) (H1 : Heap) (locs1 : List Loc), t.heap = H1 → s.vm.Alike t.vm → post r u → B u t → H.size ≤ H1.size → (∀ q : Nat, q < H.size → ¬ A1 q → H1[q]? = H[q]?) → va_S A0 H0 H1 locs1 → W p l e R s m args below meth c H1 locs1 (cells + mc) (slots + ms) Q (F0 m (pc + 3) ls (.double r :: rest))) : W p l e R s m args below meth c H locs cells slots Q (F0 m pc ls st0) := by
  intro T hT X
  rcases hr T hT X with ⟨v, st₀, t, T', L, h0, X', hL, e1, e2, ⟨⟨r, u, hv, hp, hb⟩, hF⟩, st⟩ | ⟨q, st₀, t, T', L, E, ce, h0, X', hL, e1, e2, ⟨u, hp, hb, hF⟩, hce, hcv, hcl, st⟩
  · cases hv
    obtain ⟨k1, k2, k3⟩ := vx_keep h0 e1 hS hA hf hL hF
    obtain ⟨t2, a1, b1⟩ := kk r u t T'.heap (locs ++ L) e1.symm (by rw [← e2]; exact X'.warmed.alike) hp hb k1 k2 k3 T' rfl X'
    exact ⟨t2, st t2 a1, b1⟩
  · obtain ⟨k1, k2, k3⟩ := vx_keep h0 e1 hS hAX hf hL hF
    obtain ⟨t2, a1, b1⟩ := kx E ce q u t T'.heap (locs ++ L) e1.symm (by rw [← e2]; exact X'.warmed.alike) hp hb k1 k2 k3 (by rw [e1]; exact hce) hcv hcl T' rfl X'
    exact ⟨t2, st.trans a1, b1⟩
theorem vx_callv {S SX : Type} {post : S → Prop} {px : SX → Prop} {B : S → State → Prop} {BX : String → SX → State → Prop} {AX : Nat → Prop} (hr : vx_Run p l e R s m args below meth c H locs cells slots mc ms (F0 m pc ls st0) rest (va_Qv post B A1 a) (vx_X px BX AX) free) (hS : va_S A0 H0 H locs) (hA : ∀ q, q < H.size → A1 q → A0 q) (hf : ∀ q, free q → A0 q) (hAX : ∀ q, q < H.size → AX q → A0 q)
    (kx : ∀ (E : String) (ce : Cell) (q9 : Addr) (u : SX) (t : State) (H1 : Heap) (locs1 : List Loc), t.heap = H1 → s.vm.Alike t.vm → px u → BX E u t → H.size ≤ H1.size → (∀ q : Nat, q < H.size → ¬ AX q → H1[q]? = H[q]?) → va_S A0 H0 H1 locs1 → H1[q9]? = some ce → ce.vm = .none → s.vm.findClass E = some ce.cls → vx_W p l e R s m args below meth c H1 locs1 (cells + mc) (slots + ms) Q (F0 m pc ls rest) q9)
    (kk : ∀ (u : S) (t : State) (H1 : Heap) (locs1 : List Loc), t.heap = H1 → s.vm.Alike t.vm → post u → B u t → H.size ≤ H1.size → (∀ q : Nat, q < H.size → ¬ A1 q → H1[q]? = H[q]?) → va_S A0 H0 H1 locs1 → W p l e R s m args below meth c H1 locs1 (cells + mc) (slots + ms) Q (F0 m (pc + 3) ls (rest))) : W p l e R s m args below meth c H locs cells slots Q (F0 m pc ls st0) := by
  intro T hT X
  rcases hr T hT X with ⟨v, st₀, t, T', L, h0, X', hL, e1, e2, ⟨⟨u, hv, hp, hb⟩, hF⟩, st⟩ | ⟨q, st₀, t, T', L, E, ce, h0, X', hL, e1, e2, ⟨u, hp, hb, hF⟩, hce, hcv, hcl, st⟩
  · cases hv
    obtain ⟨k1, k2, k3⟩ := vx_keep h0 e1 hS hA hf hL hF
    obtain ⟨t2, a1, b1⟩ := kk u t T'.heap (locs ++ L) e1.symm (by rw [← e2]; exact X'.warmed.alike) hp hb k1 k2 k3 T' rfl X'
    exact ⟨t2, st t2 a1, b1⟩
  · obtain ⟨k1, k2, k3⟩ := vx_keep h0 e1 hS hAX hf hL hF
    obtain ⟨t2, a1, b1⟩ := kx E ce q u t T'.heap (locs ++ L) e1.symm (by rw [← e2]; exact X'.warmed.alike) hp hb k1 k2 k3 (by rw [e1]; exact hce) hcv hcl T' rfl X'
    exact ⟨t2, st.trans a1, b1⟩
end Rows
section Ends
variable {p : Program} {l : Launch} {e : Env} {R : Room} {s : State} {m : MethodId} {args : Array Value} {below : List Frame} {meth : Method} {c : Code} {H : Heap} {locs : List Loc} {cells slots : Nat} {Q : State → Prop}
variable {mc ms : Nat} {free : Addr → Prop} {A0 A1 : Nat → Prop} {H0 : Heap} {a : Array Value} {ls : Array Slot} {st0 rest : List Value}
variable {Qc : Array Value → State → Outcome → State → Prop} {XC : String → State → State → Prop}
/-- what a body that may throw owes at its end -/
def vx_MQ (below : List Frame) (Qc : Array Value → State → Outcome → State → Prop) (XC : String → State → State → Prop) (a : Array Value) (s : State) (mc ms : Nat) (free : Addr → Prop) : State → Prop := fun t =>
  ∃ o, t.status = .running ∧ Ended t below o ∧ vx_Q Qc XC mc ms free a s o t
theorem vx_ret {g : JFrame} {mc ms : Nat} (k : W p l e R s m args below meth c H locs cells slots (MQ below Qc args s mc ms free) g) : W p l e R s m args below meth c H locs cells slots (vx_MQ below Qc XC args s mc ms free) g := by
  intro T hT X
  obtain ⟨t, a1, o, b1, b2, b3, b4⟩ := k T hT X
  exact ⟨t, a1, o, b1, b2, Or.inl ⟨b3, b4⟩⟩
/-- not caught here: it goes on to the caller -/
theorem vx_widen {g : JFrame} {q : Addr} {k n : Nat} (h1 : cells ≤ k) (h2 : slots ≤ n) (kk : vx_W p l e R s m args below meth c H locs k n Q g q) : vx_W p l e R s m args below meth c H locs cells slots Q g q := fun T hT X => kk T hT (stand_widen X h1 h2)
theorem vx_out {pc : Nat} {E : String} {ce : Cell} {q : Addr} {mc ms : Nat} (hout : ∀ x ∈ c.exceptionTable.toList, covers x pc = false) (hlocks : meth.locks = false) (hcell : H[q]? = some ce) (hv : ce.vm = .none) (hcl : s.vm.findClass E = some ce.cls)
    (hx : ∀ t : State, t.heap = H → s.vm.Alike t.vm → XC E s t) (hf : ∀ z ∈ locs, free z.base) (hc : cells ≤ mc) (hs : slots ≤ ms) :
    vx_W p l e R s m args below meth c H locs cells slots (vx_MQ below Qc XC args s mc ms free) (F0 m pc ls rest) q := by
  intro T hT X
  obtain ⟨st1, hrun, hend, hW, hsm⟩ := X.leaveThrown q (g := F0 m pc ls rest) rfl rfl rfl hout hlocks
  have hcell9 : (T.setFrames (.throwing q :: below)).heap[q]? = some ce := by
    show T.heap[q]? = some ce
    rw [hT]; exact hcell
  exact ⟨_, st1, .threw q, hrun, hend, Or.inr ⟨q, rfl, E, ce, locs, hx _ hT hW.alike, hcell9, hv, hcl, hW, hsm.mono hc hs, hf⟩⟩
theorem vx_frame {U : State} {k n : Nat} (h : s.sameButNew ({ U with vm := s.vm } : State) locs k n) : s.heap.size ≤ U.heap.size ∧ ∀ q : Nat, q < s.heap.size → (∀ z ∈ locs, z.base ≠ q) → U.heap[q]? = s.heap[q]? := by
  obtain ⟨-, h2, -, -, -, h6⟩ := h
  refine ⟨h2, fun q hq hz => ?_⟩
  obtain ⟨c9, e1, e2, e3, e4⟩ := h6 q _ (Array.getElem?_eq_getElem hq)
  have hs : c9.slots = (s.heap[q]).slots := Array.ext_getElem? fun i => e4 i fun hm => hz _ hm rfl
  have h9 : c9 = s.heap[q] := by
    rw [hs] at e2
    exact e2
  have e5 : U.heap[q]? = some c9 := e1
  rw [e5, h9, Array.getElem?_eq_getElem hq]
/-- the words of a throw but the four that speak of the heap -/
def vx_no (w : Cond) : Bool := decide (w ≠ .isRef (.static Bundle.tN "UNASSIGNED_STACK" Bundle.steD)) && decide (w ≠ .isRef (.static Bundle.tN "SUPPRESSED_SENTINEL" Bundle.listD)) && decide (w ≠ .laysStatic Bundle.tN "UNASSIGNED_STACK" Bundle.steD) && decide (w ≠ .laysStatic Bundle.tN "SUPPRESSED_SENTINEL" Bundle.listD)
def vx_at0 (own : String) (ic : Nat) (X : String) (names : List String) : List Cond := (Bundle.ownAtoms0 own ic X names).filter vx_no
def vx_atS (own : String) (ic : Nat) (X : String) (names : List String) : List Cond := (Bundle.ownAtoms own ic X names).filter vx_no
/-- a word that the tables alone decide, or a good one -/
def vx_ot (w : Cond) : Bool := w.onTables || goodWord w
theorem vx_ot_at {args a' : Array Value} {s U : State} {w : Cond} (hW : s.WarmedH U.vm) (hvm : s.vm = U.vm) (hg : vx_ot w = true) (h : w.before args s = true) : w.before a' U = true := by
  simp only [vx_ot, Bool.or_eq_true] at hg
  rcases hg with hg | hg
  · exact va_tabs hg hvm h
  · exact word_at hW (good_of_word hg) h
/-- a list's words: the good ones out of the method's own list, the others by premises of their own -/
theorem vx_hat {args : Array Value} {s : State} {L B : List Cond} (h1 : ∀ w ∈ L.filter goodWord, w.before args s = true) (h2 : ∀ w ∈ L.filter (fun w => !goodWord w), w ∈ B) (h3 : ∀ w ∈ B, w.before args s = true) : ∀ w ∈ L, w.before args s = true := by
  intro w hw
  by_cases g : goodWord w = true
  · exact h1 w (List.mem_filter.mpr ⟨hw, g⟩)
  · refine h3 w (h2 w (List.mem_filter.mpr ⟨hw, ?_⟩))
    show (!goodWord w) = true
    cases hgw : goodWord w
    · rfl
    · exact absurd hgw g
theorem vx_c {args : Array Value} {s : State} {w : Cond} {B : List Cond} (h : w.before args s = true) (t : ∀ w ∈ B, w.before args s = true) : ∀ w' ∈ w :: B, w'.before args s = true := fun w' h' => (List.mem_cons.mp h').elim (fun e => by rw [e]; exact h) (t w')
theorem vx_n {args : Array Value} {s : State} : ∀ w ∈ ([] : List Cond), w.before args s = true := fun _ h => nomatch h
theorem vx_own {args : Array Value} {s : State} {L : List Cond} (h1 : ∀ w ∈ L.filter vx_no, w.before args s = true)
    (hU : (Cond.isRef (.static Bundle.tN "UNASSIGNED_STACK" Bundle.steD)).before args s = true) (hN : (Cond.isRef (.static Bundle.tN "SUPPRESSED_SENTINEL" Bundle.listD)).before args s = true)
    (lU : (Cond.laysStatic Bundle.tN "UNASSIGNED_STACK" Bundle.steD).before args s = true) (lN : (Cond.laysStatic Bundle.tN "SUPPRESSED_SENTINEL" Bundle.listD).before args s = true) : ∀ w ∈ L, w.before args s = true := by
  intro w hw
  by_cases e1 : w = .isRef (.static Bundle.tN "UNASSIGNED_STACK" Bundle.steD)
  · rw [e1]; exact hU
  · by_cases e2 : w = .isRef (.static Bundle.tN "SUPPRESSED_SENTINEL" Bundle.listD)
    · rw [e2]; exact hN
    · by_cases e3 : w = .laysStatic Bundle.tN "UNASSIGNED_STACK" Bundle.steD
      · rw [e3]; exact lU
      · by_cases e4 : w = .laysStatic Bundle.tN "SUPPRESSED_SENTINEL" Bundle.listD
        · rw [e4]; exact lN
        · exact h1 w (List.mem_filter.mpr ⟨hw, by unfold vx_no; rw [decide_eq_true e1, decide_eq_true e2, decide_eq_true e3, decide_eq_true e4]; rfl⟩)
/-- where a static field lies, its class's statics cell in H -/
def vx_L (C n d : String) (A : Nat → Prop) (U : State) (H : Heap) : Prop := ∃ (c : ClassId) (k : Class) (i : Nat) (f : Field) (a : Nat) (cell : Cell), U.vm.findClass C = some c ∧ U.fieldFound? C n d = some (c, k, i, f) ∧ f.isStatic = true ∧ k.statics = some a ∧ H[a]? = some cell ∧ cell.vm.isStatics = true ∧ cell.cls = c ∧ f.slot < cell.slots.size ∧ k.staticTypes[f.slot]? = some f.type ∧ ¬ A a
theorem vx_L.moved {C n d : String} {A : Nat → Prop} {u U : State} {H : Heap} (hvm : u.vm.Alike U.vm) (h : vx_L C n d A u H) : vx_L C n d A U H := by
  obtain ⟨c, k, i, f, a, cell, h1, h2, h3, h4, h5, h6, h7, h8, h9, h10⟩ := h
  obtain ⟨k', hi', he⟩ := State.fieldFound?_setVm hvm h2
  exact ⟨c, k', i, f, a, cell, by rw [hvm.findClass]; exact h1, hi', h3, by rw [he]; exact h4, h5, h6, h7, h8, by rw [he]; exact h9, h10⟩
theorem vx_L.kept {C n d : String} {A : Nat → Prop} {U : State} {H H1 : Heap} (h : vx_L C n d A U H) (hq : ∀ a : Nat, a < H.size → ¬ A a → H1[a]? = H[a]?) : vx_L C n d A U H1 := by
  obtain ⟨c, k, i, f, a, cell, h1, h2, h3, h4, h5, h6, h7, h8, h9, h10⟩ := h
  exact ⟨c, k, i, f, a, cell, h1, h2, h3, h4, by rw [hq a (Array.getElem?_eq_some_iff.mp h5).1 h10]; exact h5, h6, h7, h8, h9, h10⟩
theorem vx_L.narrow {C n d : String} {A B : Nat → Prop} {U : State} {H : Heap} (h : vx_L C n d A U H) (hAB : ∀ q, B q → A q) : vx_L C n d B U H := by
  obtain ⟨c, k, i, f, a, cell, h1, h2, h3, h4, h5, h6, h7, h8, h9, h10⟩ := h
  exact ⟨c, k, i, f, a, cell, h1, h2, h3, h4, h5, h6, h7, h8, h9, fun z => h10 (hAB _ z)⟩
theorem vx_L.word {C n d : String} {A : Nat → Prop} {s : State} {args : Array Value} (h : vx_L C n d A s s.heap) : (Cond.laysStatic C n d).before args s = true := by
  obtain ⟨c, k, i, f, a, cell, h1, h2, h3, h4, h5, h6, h7, h8, h9, -⟩ := h
  show (Cond.laysStatic C n d).holds args s none s [] = true
  exact Cond.laysStatic_of h1 h2 h3 h4 h5 h6 h7 h8 h9
/-- .. and what it holds: null or some reference -/
def vx_Zq (C n d : String) (A : Nat → Prop) (U : State) (H : Heap) : Prop := va_Zq C n d A U H ∧ vx_L C n d A U H
theorem vx_Zq.moved {C n d : String} {A : Nat → Prop} {u U : State} {H : Heap} (hvm : u.vm.Alike U.vm) (h : vx_Zq C n d A u H) : vx_Zq C n d A U H := ⟨va_Zq.moved hvm h.1, vx_L.moved hvm h.2⟩
theorem vx_Zq.kept {C n d : String} {A : Nat → Prop} {U : State} {H H1 : Heap} (h : vx_Zq C n d A U H) (hq : ∀ a : Nat, a < H.size → ¬ A a → H1[a]? = H[a]?) : vx_Zq C n d A U H1 := ⟨va_Zq.kept h.1 hq, vx_L.kept h.2 hq⟩
theorem vx_Zq.narrow {C n d : String} {A B : Nat → Prop} {U : State} {H : Heap} (h : vx_Zq C n d A U H) (hAB : ∀ q, B q → A q) : vx_Zq C n d B U H := ⟨va_Zq.narrow h.1 hAB, vx_L.narrow h.2 hAB⟩
theorem vx_Zqof {args : Array Value} {s : State} {C n d : String} {A : Nat → Prop} (hl : (Cond.laysStatic C n d).before args s = true) (hini : (Cond.initialized C).before args s = true) (h : (Cond.isRef (.static C n d)).before args s = true) (hA : ∀ a : Nat, a < s.heap.size → ¬ A a) : vx_Zq C n d A s s.heap := by
  refine ⟨va_Zqof hl hini h hA, ?_⟩
  obtain ⟨c, k, i, f, a, cell, h1, h2, h3, h4, h5, h6, h7, h8, h9⟩ := Cond.laysStatic_spec hl
  exact ⟨c, k, i, f, a, cell, h1, h2, h3, h4, h5, h6, h7, h8, h9, hA a (Array.getElem?_eq_some_iff.mp h5).1⟩
theorem vx_isRef {C n d : String} {v : Value} {A : Nat → Prop} {s : State} {args : Array Value} (h : va_Z C n d v A s s.heap) (hv : v.isRef = true) : (Cond.isRef (.static C n d)).before args s = true := by
  obtain ⟨cf, kf, fi, f, a, cell, h1, h2, h3, h4, h5, h6, h7, -⟩ := h
  have he : (Term.static C n d).eval args s none [] s = some v := by
    simp [Term.eval, State.fieldNamed?, h1, h2, h4, h5, h6, h7]
  simp only [Cond.before, Cond.holds, Cond.value, he]
  cases v <;> simp_all [Value.isRef]
theorem vx_isRefq {C n d : String} {A : Nat → Prop} {s : State} {args : Array Value} (h : va_Zq C n d A s s.heap) : (Cond.isRef (.static C n d)).before args s = true := by
  rcases h with h | ⟨t, h⟩
  · exact vx_isRef h rfl
  · exact vx_isRef h rfl
/-- the same frame, seen from here: as if the method were called anew in this heap -/
theorem vx_rebase {T : State} (X : Stand p l e R s m args below meth c T locs cells slots) {R' : Room} (hf : R'.frames ≤ R.frames) (hl : R'.locals ≤ R.locals) (hc : cells + R'.cells ≤ R.cells) (hs : slots + R'.slots ≤ R.slots) :
    Stand p l e R' ((T.setVm s.vm).setFrames (.invoking m args :: below)) m args below meth c T [] 0 0 := by
  have htop : (T.setVm s.vm).topJava?.isSome := X.here.top
  have hF : ((T.setVm s.vm).setFrames (.invoking m args :: below)).frames = .invoking m args :: below := State.frames_setFrames _ (State.cur_lt_of_top htop)
  obtain ⟨g₀, hg0⟩ := Option.isSome_iff_exists.mp htop
  obtain ⟨r, hr⟩ := State.topJava?_eq_some.mp hg0
  have hl9 : e.platform.stackLimits (T.setVm s.vm).me = e.platform.stackLimits s.me := X.limits
  have hb9 : (T.setVm s.vm).me.stackBytes = s.me.stackBytes := X.bytes
  refine ⟨X.admits, X.cas, X.clock, hF, ?_, X.hears, X.method, X.code, X.here, X.tail, X.warmed, ?_, ?_, ?_⟩
  · have h := X.room
    have hU : ((T.setVm s.vm).setFrames (.invoking m args :: below)).localsInUse = s.localsInUse := by
      rw [State.localsInUse_invoking hF (meth := meth) (c := c) X.method X.code, State.localsInUse_invoking X.frames X.method X.code]
    simp only [State.hasRoom, Bool.and_eq_true, decide_eq_true_eq] at h ⊢
    obtain ⟨⟨⟨⟨h1, h2, h3, h4, h5, h6⟩, h7⟩, h8⟩, h9⟩ := h
    rw [X.frames, List.length_cons] at h2 h3
    have q1 := X.heapSize
    have q2 := X.used
    simp only [hF, hU, List.length_cons, State.stackLimits_setFrames, State.stackBytes_setFrames, hl9, hb9]
    refine ⟨⟨⟨⟨by omega, by omega, by omega, by omega, by omega, h6⟩, ?_⟩, ?_⟩, X.book⟩
    · show T.heap.size + R'.cells ≤ e.platform.maxCells
      omega
    · show T.slotsUsed + R'.slots ≤ e.platform.maxSlots
      omega
  · rw [State.stackLimits_setFrames]; rfl
  · rw [State.stackBytes_setFrames]; rfl
  · refine ⟨?_, Nat.le_refl _, Nat.le_refl _, ?_, ?_, fun a c9 h9 => ⟨c9, h9, rfl, rfl, fun _ _ => rfl⟩⟩
    · obtain ⟨t, ht, -⟩ := State.frames_cons hr
      show T.setVm s.vm = { ((T.setVm s.vm).setFrames (.invoking m args :: below)).setFrames (T.setVm s.vm).frames with heap := T.heap, slotsUsed := T.slotsUsed }
      rw [State.setFrames_setFrames, State.setFrames_self ht]
      rfl
    · show T.slotsUsed = T.slotsUsed + ((T.heap.toList.drop T.heap.size).map (·.slots.size)).sum
      rw [List.drop_eq_nil_of_le (Nat.le_of_eq Array.length_toList)]
      rfl
    · show ((T.heap.toList.drop T.heap.size).map (·.slots.size)).sum ≤ 0
      rw [List.drop_eq_nil_of_le (Nat.le_of_eq Array.length_toList)]
      exact Nat.le_refl _
/-- 'throw new E()': new; dup; invokespecial; athrow -/
theorem vx_throw0 {cc : ByteArray} {pc : Nat} (hexec : p.tables.exec = Jvm.exec) (hb : c.code = cc) (hl : l.stackTraces = false) {own cls : String} {names : List String} {ik ic mc ms : Nat} {A : Nat → Prop}
    (hown : s.vm.findClass own = some m.cls) (hcls : Bundle.fit cls = true) (hnames : ∀ n ∈ names, Bundle.fit n = true)
    (hk : (Cond.classLink own ik cls).before args s = true) (hini : (Cond.initialized cls).before args s = true) (hat : ∀ w ∈ vx_at0 own ic cls names, w.before args s = true)
    (hgood : ∀ w ∈ Cond.classLink own ik cls :: Cond.initialized cls :: vx_at0 own ic cls names, vx_ot w = true)
    (hU : vx_Zq Bundle.tN "UNASSIGNED_STACK" Bundle.steD A s s.heap) (hN : vx_Zq Bundle.tN "SUPPRESSED_SENTINEL" Bundle.listD A s s.heap) (hS : va_S A s.heap H locs) (hsize : ls.size = c.maxLocals)
    (d0 : decode cc pc = .ok (.new ik, 3)) (d3 : decode cc (pc + 3) = .ok (.dup, 1)) (d4 : decode cc (pc + 4) = .ok (.invokespecial ic, 3)) (d7 : decode cc (pc + 7) = .ok (.athrow, 1))
    (hout : ∀ x ∈ c.exceptionTable.toList, covers x (pc + 7) = false)
    (hRframes : names.length + 3 < R.frames) (hRlocals : (rest.map fun v => v.category).sum + (13 * (names.length + 1) + 42) ≤ R.locals) (hRcells : cells + 1 ≤ R.cells) (hRslots : slots + 6 ≤ R.slots) (hlocks : meth.locks = false)
    (hx : ∀ t : State, s.vm.Alike t.vm → H.size ≤ t.heap.size → (∀ q : Nat, q < H.size → t.heap[q]? = H[q]?) → XC cls s t)
    (hf : ∀ z ∈ locs, free z.base) (hc : cells + 1 ≤ mc) (hs : slots + 6 ≤ ms) :
    W p l e R s m args below meth c H locs cells slots (vx_MQ below Qc XC args s mc ms free) (F0 m pc ls rest) := by
  intro T hT X
  have htr : e.platform.stackTraces = false := (show e.platform.stackTraces = l.stackTraces by rw [X.admits.platform]).trans hl
  have Y := vx_rebase X (R' := { frames := R.frames, locals := R.locals, cells := 1, slots := 6 }) (Nat.le_refl _) (Nat.le_refl _) hRcells hRslots
  obtain ⟨s', hA⟩ : ∃ z, z = (T.setVm s.vm).setFrames (.invoking m args :: below) := ⟨_, rfl⟩
  rw [← hA] at Y
  have hvm : s'.vm = s.vm := by rw [hA]; rfl
  have hhp : s'.heap = H := by rw [hA]; exact hT
  have hW0 : s.WarmedH s'.vm := by rw [hvm]; exact State.WarmedH.refl s
  have hat' : ∀ w ∈ vx_at0 own ic cls names, w.before args s' = true := fun w hw => vx_ot_at hW0 hvm.symm (hgood w (List.mem_cons_of_mem _ (List.mem_cons_of_mem _ hw))) (hat w hw)
  have hk' : (Cond.classLink own ik cls).before args s' = true := vx_ot_at hW0 hvm.symm (hgood _ List.mem_cons_self) hk
  have hini' : (Cond.initialized cls).before args s' = true := vx_ot_at hW0 hvm.symm (hgood _ (List.mem_cons_of_mem _ List.mem_cons_self)) hini
  have hU' : vx_Zq Bundle.tN "UNASSIGNED_STACK" Bundle.steD A s' s'.heap := by rw [hhp]; exact vx_Zq.moved hW0.alike (hU.kept hS.2.1)
  have hN' : vx_Zq Bundle.tN "SUPPRESSED_SENTINEL" Bundle.listD A s' s'.heap := by rw [hhp]; exact vx_Zq.moved hW0.alike (hN.kept hS.2.1)
  have h : ∀ w ∈ Bundle.ownAtoms0 own ic cls names, w.before args s' = true := vx_own hat' (vx_isRefq hU'.1) (vx_isRefq hN'.1) hU'.2.word hN'.2.word
  have hown' : s'.vm.findClass own = some m.cls := by rw [hvm]; exact hown
  have hins : (Cond.instantiable cls 6).before args s' = true := h _ (by simp [Bundle.ownAtoms0])
  obtain ⟨vm₁, cX, kX, hfX, hkX, -, -, X₁, st1⟩ := Y.newCold hexec (own := own) (C := cls) (index := ik) (n := 6) hown' hk' hins hini'
    (g := F0 m pc ls rest) rfl (by rw [hb]; exact d0) (Nat.le_refl _) (Nat.le_refl _)
  generalize hT1 : (T.setVm vm₁).pushCell { cls := cX, slots := kX.instanceTypes.map defaultValue, vm := .none } = T1 at X₁ st1
  have hcat : (Value.ref T.heap.size).category = 1 := rfl
  have hcellA : T1.heap[T.heap.size]? = some (freshCell cX kX) := by rw [← hT1]; exact State.heap_pushCell_size _ _
  have d3' : decode c.code (pc + 3) = .ok (.dup, 1) := by rw [hb]; exact d3
  obtain ⟨U, hsteps, hrun, hend, hW, hsame, ce, hce, hO⟩ := X₁.ctorThrow0 hexec htr (own := own) (cls := cls) (names := names) (ic := ic) hown' hcls hnames h (fun x hx => nomatch hx) hfX hkX hcellA (by rw [hhp, hT]; exact Nat.le_refl _)
    (g := { method := m, pc := pc + 4, locals := ls, stack := .ref T.heap.size :: .ref T.heap.size :: rest, locked := none }) rfl hsize rfl rfl (rest := rest) rfl
    (by rw [hb]; exact d4) (by rw [hb]; exact d7) hout hRframes (by simp only [List.map_cons, List.sum_cons, hcat]; omega) hlocks
  obtain ⟨f1, f2⟩ := vx_frame hsame
  rw [hhp] at f1 f2
  have hWs : s.WarmedH U.vm := State.WarmedH.trans hW0 hW
  have hcl : s.vm.findClass cls = some ce.cls := by
    have h9 := hO.cls
    rw [hvm] at h9
    exact h9
  have hall : s.sameButNew ({ U with vm := s.vm } : State) locs mc ms := by
    subst hA
    obtain ⟨e1, e2⟩ := hsame
    rw [State.setFrames_setFrames] at e1
    have h2 : (T.setVm s.vm).sameButNew ({ U with vm := s.vm } : State) [] (0 + 1) (0 + 6) := ⟨e1, e2⟩
    have h3 := X.same.trans h2
    rw [List.append_nil] at h3
    exact h3.mono hc hs
  refine ⟨U, ?_, .threw T.heap.size, hrun, hend, Or.inr ⟨T.heap.size, rfl, cls, ce, locs, hx U hWs.alike f1 (fun q hq => f2 q hq (fun z hz => nomatch hz)), hce, hO.vm, hcl, hWs, hall, hf⟩⟩
  refine st1 _ ?_
  show Steps p.tables e below (T1.setTop { method := m, pc := pc + 3, locals := ls, stack := .ref T.heap.size :: rest, locked := none }) _
  jvm_step X₁.here [X₁.here.top, hexec, d3', Value.category]
  exact hsteps
/-- 'throw new E("text")': new; dup; ldc; invokespecial; athrow -/
theorem vx_throwS {cc : ByteArray} {pc : Nat} (hexec : p.tables.exec = Jvm.exec) (hb : c.code = cc) (hl : l.stackTraces = false) {own cls text : String} {names : List String} {ik is ic mc ms sa : Nat} {A : Nat → Prop}
    (hown : s.vm.findClass own = some m.cls) (hcls : Bundle.fit cls = true) (hnames : ∀ n ∈ names, Bundle.fit n = true)
    (hk : (Cond.classLink own ik cls).before args s = true) (hini : (Cond.initialized cls).before args s = true) (hstr : vk_R own is text sa s) (hat : ∀ w ∈ vx_atS own ic cls names, w.before args s = true)
    (hgood : ∀ w ∈ Cond.classLink own ik cls :: Cond.initialized cls :: vx_atS own ic cls names, vx_ot w = true)
    (hU : vx_Zq Bundle.tN "UNASSIGNED_STACK" Bundle.steD A s s.heap) (hN : vx_Zq Bundle.tN "SUPPRESSED_SENTINEL" Bundle.listD A s s.heap) (hS : va_S A s.heap H locs) (hsize : ls.size = c.maxLocals)
    (d0 : decode cc pc = .ok (.new ik, 3)) (d3 : decode cc (pc + 3) = .ok (.dup, 1)) (d4 : decode cc (pc + 4) = .ok (.ldc is, 2)) (d6 : decode cc (pc + 6) = .ok (.invokespecial ic, 3)) (d9 : decode cc (pc + 9) = .ok (.athrow, 1))
    (hout : ∀ x ∈ c.exceptionTable.toList, covers x (pc + 9) = false)
    (hRframes : names.length + 3 < R.frames) (hRlocals : (rest.map fun v => v.category).sum + (13 * (names.length + 1) + 43) ≤ R.locals) (hRcells : cells + 1 ≤ R.cells) (hRslots : slots + 6 ≤ R.slots) (hlocks : meth.locks = false)
    (hx : ∀ t : State, s.vm.Alike t.vm → H.size ≤ t.heap.size → (∀ q : Nat, q < H.size → t.heap[q]? = H[q]?) → XC cls s t)
    (hf : ∀ z ∈ locs, free z.base) (hc : cells + 1 ≤ mc) (hs : slots + 6 ≤ ms) :
    W p l e R s m args below meth c H locs cells slots (vx_MQ below Qc XC args s mc ms free) (F0 m pc ls rest) := by
  intro T hT X
  have htr : e.platform.stackTraces = false := (show e.platform.stackTraces = l.stackTraces by rw [X.admits.platform]).trans hl
  have Y := vx_rebase X (R' := { frames := R.frames, locals := R.locals, cells := 1, slots := 6 }) (Nat.le_refl _) (Nat.le_refl _) hRcells hRslots
  obtain ⟨s', hA⟩ : ∃ z, z = (T.setVm s.vm).setFrames (.invoking m args :: below) := ⟨_, rfl⟩
  rw [← hA] at Y
  have hvm : s'.vm = s.vm := by rw [hA]; rfl
  have hhp : s'.heap = H := by rw [hA]; exact hT
  have hW0 : s.WarmedH s'.vm := by rw [hvm]; exact State.WarmedH.refl s
  have hat' : ∀ w ∈ vx_atS own ic cls names, w.before args s' = true := fun w hw => vx_ot_at hW0 hvm.symm (hgood w (List.mem_cons_of_mem _ (List.mem_cons_of_mem _ hw))) (hat w hw)
  have hk' : (Cond.classLink own ik cls).before args s' = true := vx_ot_at hW0 hvm.symm (hgood _ List.mem_cons_self) hk
  have hini' : (Cond.initialized cls).before args s' = true := vx_ot_at hW0 hvm.symm (hgood _ (List.mem_cons_of_mem _ List.mem_cons_self)) hini
  have hU' : vx_Zq Bundle.tN "UNASSIGNED_STACK" Bundle.steD A s' s'.heap := by rw [hhp]; exact vx_Zq.moved hW0.alike (hU.kept hS.2.1)
  have hN' : vx_Zq Bundle.tN "SUPPRESSED_SENTINEL" Bundle.listD A s' s'.heap := by rw [hhp]; exact vx_Zq.moved hW0.alike (hN.kept hS.2.1)
  have h : ∀ w ∈ Bundle.ownAtoms own ic cls names, w.before args s' = true := vx_own hat' (vx_isRefq hU'.1) (vx_isRefq hN'.1) hU'.2.word hN'.2.word
  have hown' : s'.vm.findClass own = some m.cls := by rw [hvm]; exact hown
  have hins : (Cond.instantiable cls 6).before args s' = true := h _ (by simp [Bundle.ownAtoms])
  obtain ⟨vm₁, cX, kX, hfX, hkX, -, -, X₁, st1⟩ := Y.newCold hexec (own := own) (C := cls) (index := ik) (n := 6) hown' hk' hins hini'
    (g := F0 m pc ls rest) rfl (by rw [hb]; exact d0) (Nat.le_refl _) (Nat.le_refl _)
  generalize hT1 : (T.setVm vm₁).pushCell { cls := cX, slots := kX.instanceTypes.map defaultValue, vm := .none } = T1 at X₁ st1
  have hcat : (Value.ref T.heap.size).category = 1 := rfl
  have hcellA : T1.heap[T.heap.size]? = some (freshCell cX kX) := by rw [← hT1]; exact State.heap_pushCell_size _ _
  have d3' : decode c.code (pc + 3) = .ok (.dup, 1) := by rw [hb]; exact d3
  have d4' : decode c.code (pc + 4) = .ok (.ldc is, 2) := by rw [hb]; exact d4
  have hstr' : vk_R own is text sa s' := vk_R.warm hW0 hstr
  obtain ⟨U, hsteps, hrun, hend, hW, hsame, ce, hce, hO⟩ := X₁.ctorThrowS hexec htr (own := own) (cls := cls) (names := names) (ic := ic) hown' hcls hnames h (fun x hx => nomatch hx) hfX hkX hcellA (by rw [hhp, hT]; exact Nat.le_refl _) (msg := .ref sa) rfl
    (g := { method := m, pc := pc + 6, locals := ls, stack := .ref sa :: .ref T.heap.size :: .ref T.heap.size :: rest, locked := none }) rfl hsize rfl rfl (rest := rest) rfl
    (by rw [hb]; exact d6) (by rw [hb]; exact d9) hout hRframes (by simp only [List.map_cons, List.sum_cons, hcat]; omega) hlocks
  obtain ⟨f1, f2⟩ := vx_frame hsame
  rw [hhp] at f1 f2
  have hWs : s.WarmedH U.vm := State.WarmedH.trans hW0 hW
  have hcl : s.vm.findClass cls = some ce.cls := by
    have h9 := hO.cls
    rw [hvm] at h9
    exact h9
  have hall : s.sameButNew ({ U with vm := s.vm } : State) locs mc ms := by
    subst hA
    obtain ⟨e1, e2⟩ := hsame
    rw [State.setFrames_setFrames] at e1
    have h2 : (T.setVm s.vm).sameButNew ({ U with vm := s.vm } : State) [] (0 + 1) (0 + 6) := ⟨e1, e2⟩
    have h3 := X.same.trans h2
    rw [List.append_nil] at h3
    exact h3.mono hc hs
  refine ⟨U, ?_, .threw T.heap.size, hrun, hend, Or.inr ⟨T.heap.size, rfl, cls, ce, locs, hx U hWs.alike f1 (fun q hq => f2 q hq (fun z hz => nomatch hz)), hce, hO.vm, hcl, hWs, hall, hf⟩⟩
  refine st1 _ ?_
  show Steps p.tables e below (T1.setTop { method := m, pc := pc + 3, locals := ls, stack := .ref T.heap.size :: rest, locked := none }) _
  jvm_step X₁.here [X₁.here.top, hexec, d3', Value.category]
  exact X₁.ldcString hexec (own := own) (text := text) (index := is) (a := sa) hown' hstr'.1 hstr'.2
    (g := { method := m, pc := pc + 4, locals := ls, stack := .ref T.heap.size :: .ref T.heap.size :: rest, locked := none }) rfl d4' _ hsteps
/-- 'throw new E("text")', the text by a wide index -/
theorem vx_throwSW {cc : ByteArray} {pc : Nat} (hexec : p.tables.exec = Jvm.exec) (hb : c.code = cc) (hl : l.stackTraces = false) {own cls text : String} {names : List String} {ik is ic mc ms sa : Nat} {A : Nat → Prop}
    (hown : s.vm.findClass own = some m.cls) (hcls : Bundle.fit cls = true) (hnames : ∀ n ∈ names, Bundle.fit n = true)
    (hk : (Cond.classLink own ik cls).before args s = true) (hini : (Cond.initialized cls).before args s = true) (hstr : vk_R own is text sa s) (hat : ∀ w ∈ vx_atS own ic cls names, w.before args s = true)
    (hgood : ∀ w ∈ Cond.classLink own ik cls :: Cond.initialized cls :: vx_atS own ic cls names, vx_ot w = true)
    (hU : vx_Zq Bundle.tN "UNASSIGNED_STACK" Bundle.steD A s s.heap) (hN : vx_Zq Bundle.tN "SUPPRESSED_SENTINEL" Bundle.listD A s s.heap) (hS : va_S A s.heap H locs) (hsize : ls.size = c.maxLocals)
    (d0 : decode cc pc = .ok (.new ik, 3)) (d3 : decode cc (pc + 3) = .ok (.dup, 1)) (d4 : decode cc (pc + 4) = .ok (.ldc_w is, 3)) (d7 : decode cc (pc + 7) = .ok (.invokespecial ic, 3)) (d10 : decode cc (pc + 10) = .ok (.athrow, 1))
    (hout : ∀ x ∈ c.exceptionTable.toList, covers x (pc + 10) = false)
    (hRframes : names.length + 3 < R.frames) (hRlocals : (rest.map fun v => v.category).sum + (13 * (names.length + 1) + 43) ≤ R.locals) (hRcells : cells + 1 ≤ R.cells) (hRslots : slots + 6 ≤ R.slots) (hlocks : meth.locks = false)
    (hx : ∀ t : State, s.vm.Alike t.vm → H.size ≤ t.heap.size → (∀ q : Nat, q < H.size → t.heap[q]? = H[q]?) → XC cls s t)
    (hf : ∀ z ∈ locs, free z.base) (hc : cells + 1 ≤ mc) (hs : slots + 6 ≤ ms) :
    W p l e R s m args below meth c H locs cells slots (vx_MQ below Qc XC args s mc ms free) (F0 m pc ls rest) := by
  intro T hT X
  have htr : e.platform.stackTraces = false := (show e.platform.stackTraces = l.stackTraces by rw [X.admits.platform]).trans hl
  have Y := vx_rebase X (R' := { frames := R.frames, locals := R.locals, cells := 1, slots := 6 }) (Nat.le_refl _) (Nat.le_refl _) hRcells hRslots
  obtain ⟨s', hA⟩ : ∃ z, z = (T.setVm s.vm).setFrames (.invoking m args :: below) := ⟨_, rfl⟩
  rw [← hA] at Y
  have hvm : s'.vm = s.vm := by rw [hA]; rfl
  have hhp : s'.heap = H := by rw [hA]; exact hT
  have hW0 : s.WarmedH s'.vm := by rw [hvm]; exact State.WarmedH.refl s
  have hat' : ∀ w ∈ vx_atS own ic cls names, w.before args s' = true := fun w hw => vx_ot_at hW0 hvm.symm (hgood w (List.mem_cons_of_mem _ (List.mem_cons_of_mem _ hw))) (hat w hw)
  have hk' : (Cond.classLink own ik cls).before args s' = true := vx_ot_at hW0 hvm.symm (hgood _ List.mem_cons_self) hk
  have hini' : (Cond.initialized cls).before args s' = true := vx_ot_at hW0 hvm.symm (hgood _ (List.mem_cons_of_mem _ List.mem_cons_self)) hini
  have hU' : vx_Zq Bundle.tN "UNASSIGNED_STACK" Bundle.steD A s' s'.heap := by rw [hhp]; exact vx_Zq.moved hW0.alike (hU.kept hS.2.1)
  have hN' : vx_Zq Bundle.tN "SUPPRESSED_SENTINEL" Bundle.listD A s' s'.heap := by rw [hhp]; exact vx_Zq.moved hW0.alike (hN.kept hS.2.1)
  have h : ∀ w ∈ Bundle.ownAtoms own ic cls names, w.before args s' = true := vx_own hat' (vx_isRefq hU'.1) (vx_isRefq hN'.1) hU'.2.word hN'.2.word
  have hown' : s'.vm.findClass own = some m.cls := by rw [hvm]; exact hown
  have hins : (Cond.instantiable cls 6).before args s' = true := h _ (by simp [Bundle.ownAtoms])
  obtain ⟨vm₁, cX, kX, hfX, hkX, -, -, X₁, st1⟩ := Y.newCold hexec (own := own) (C := cls) (index := ik) (n := 6) hown' hk' hins hini'
    (g := F0 m pc ls rest) rfl (by rw [hb]; exact d0) (Nat.le_refl _) (Nat.le_refl _)
  generalize hT1 : (T.setVm vm₁).pushCell { cls := cX, slots := kX.instanceTypes.map defaultValue, vm := .none } = T1 at X₁ st1
  have hcat : (Value.ref T.heap.size).category = 1 := rfl
  have hcellA : T1.heap[T.heap.size]? = some (freshCell cX kX) := by rw [← hT1]; exact State.heap_pushCell_size _ _
  have d3' : decode c.code (pc + 3) = .ok (.dup, 1) := by rw [hb]; exact d3
  have d4' : decode c.code (pc + 4) = .ok (.ldc_w is, 3) := by rw [hb]; exact d4
  have hstr' : vk_R own is text sa s' := vk_R.warm hW0 hstr
  obtain ⟨U, hsteps, hrun, hend, hW, hsame, ce, hce, hO⟩ := X₁.ctorThrowS hexec htr (own := own) (cls := cls) (names := names) (ic := ic) hown' hcls hnames h (fun x hx => nomatch hx) hfX hkX hcellA (by rw [hhp, hT]; exact Nat.le_refl _) (msg := .ref sa) rfl
    (g := { method := m, pc := pc + 7, locals := ls, stack := .ref sa :: .ref T.heap.size :: .ref T.heap.size :: rest, locked := none }) rfl hsize rfl rfl (rest := rest) rfl
    (by rw [hb]; exact d7) (by rw [hb]; exact d10) hout hRframes (by simp only [List.map_cons, List.sum_cons, hcat]; omega) hlocks
  obtain ⟨f1, f2⟩ := vx_frame hsame
  rw [hhp] at f1 f2
  have hWs : s.WarmedH U.vm := State.WarmedH.trans hW0 hW
  have hcl : s.vm.findClass cls = some ce.cls := by
    have h9 := hO.cls
    rw [hvm] at h9
    exact h9
  have hall : s.sameButNew ({ U with vm := s.vm } : State) locs mc ms := by
    subst hA
    obtain ⟨e1, e2⟩ := hsame
    rw [State.setFrames_setFrames] at e1
    have h2 : (T.setVm s.vm).sameButNew ({ U with vm := s.vm } : State) [] (0 + 1) (0 + 6) := ⟨e1, e2⟩
    have h3 := X.same.trans h2
    rw [List.append_nil] at h3
    exact h3.mono hc hs
  refine ⟨U, ?_, .threw T.heap.size, hrun, hend, Or.inr ⟨T.heap.size, rfl, cls, ce, locs, hx U hWs.alike f1 (fun q hq => f2 q hq (fun z hz => nomatch hz)), hce, hO.vm, hcl, hWs, hall, hf⟩⟩
  refine st1 _ ?_
  show Steps p.tables e below (T1.setTop { method := m, pc := pc + 3, locals := ls, stack := .ref T.heap.size :: rest, locked := none }) _
  jvm_step X₁.here [X₁.here.top, hexec, d3', Value.category]
  exact X₁.ldcStringW hexec (own := own) (text := text) (index := is) (a := sa) hown' hstr'.1 hstr'.2
    (g := { method := m, pc := pc + 4, locals := ls, stack := .ref T.heap.size :: .ref T.heap.size :: rest, locked := none }) rfl d4' _ hsteps
end Ends
section Bodies
variable {l : Launch}
theorem vx_ofW {y : MethodName} {ws ws' : List Cond} {rm : Room} {Pc : Array Value → State → Prop} {Qc : Array Value → State → Outcome → State → Prop} {XC : String → State → State → Prop} {mc ms : Nat} {free : Addr → Prop} {cc : ByteArray} {maxL : Nat} {ret : Option FieldType}
    (hy : plainName y.cls = true) (hw : ws = Cond.code y cc maxL ret :: ws')
    (body : ∀ p e s m args below meth c s₁, BodyLoose p l y (headSpec ws rm) cc maxL ret e s m args below meth c s₁ → c.maxLocals = maxL → (∀ x ∈ c.exceptionTable.toList, False) → Pc args s →
      W p l e (headSpec ws rm).room s m args below meth c s.heap [] 0 0 (vx_MQ below Qc XC args s mc ms free) (entryFrame m args maxL)) : vx_Met l y ws rm Pc Qc XC mc ms free := by
  refine MetFree.of_bodyS (code := cc) (maxLocals := maxL) (ret := ret) hy ?_ ?_
  · intro args s m h hn
    obtain ⟨meth, c, h1, h2, h3, h4, h5, h6, -, -⟩ := Cond.code_spec hn (atoms_spec (ws := ws) h _ (by rw [hw]; exact List.mem_cons_self))
    exact ⟨meth, c, h1, h2, h3, h4, h5, h6⟩
  · intro p e s m args below meth c s₁ B hml hP _
    have hh0 : s₁.heap = s.heap := by rw [B.state]; rfl
    have ht : ∀ x ∈ c.exceptionTable.toList, False := by
      obtain ⟨meth9, c9, h1, h2, -, -, -, -, h7, -⟩ := Cond.code_spec B.named (atoms_spec (ws := ws) B.pre _ (by rw [hw]; exact List.mem_cons_self))
      cases Option.some.inj (h1.symm.trans B.method)
      cases Option.some.inj (h2.symm.trans (Stand.of_body B).code)
      intro x hx
      rw [Array.isEmpty_iff.mp h7] at hx
      cases hx
    obtain ⟨t, a1, o, b1, b2, b3⟩ := body p e s m args below meth c s₁ B hml ht hP s₁ hh0 (Stand.of_body B)
    exact ⟨t, o, a1, b1, b2, b3⟩
/-- the table of a body with handlers -/
theorem vx_table {p : Program} {x y : MethodName} {S : Spec} {cc bytes : ByteArray} {maxL maxL' : Nat} {ret ret' : Option FieldType} {e : Env} {s s₁ : State} {m : MethodId} {args : Array Value} {below : List Frame} {meth : Method} {c : Code} {hh : List (Nat × Nat × Nat × Nat)}
    (B : BodyLoose p l y S cc maxL ret e s m args below meth c s₁) (h : (Cond.codeWith y bytes maxL' ret' hh).before args s = true) : c.exceptionTable.toList = tableOf hh := by
  obtain ⟨m9, meth9, c9, hn9, h1, h2, -, -, h6, -⟩ := Cond.codeWith_spec h
  cases Option.some.inj (hn9.symm.trans B.named)
  cases Option.some.inj (h1.symm.trans B.method)
  cases Option.some.inj (h2.symm.trans (Stand.of_body B).code)
  rw [← h6, table_eq]
end Bodies
end VXA
/-! ===== END ===== -/
/-! ===== BEGIN a static call of a method with an exception table ===== -/
section VXS
variable {p : Program} {l : Launch} {e : Env} {R : Room} {s : State} {m : MethodId} {args : Array Value} {below : List Frame} {meth : Method} {c : Code} {T : State} {H : Heap} {locs : List Loc} {cells slots : Nat}
abbrev vx_CSW (R : Room) (s : State) (args : Array Value) (own : String) (index : Nat) (y : MethodName) (bytes : ByteArray) (maxL : Nat) (ret : Option FieldType) (hh : List (Nat × Nat × Nat × Nat)) (ws : List Cond) (rm : Room) (mc ms n : Nat) : Prop :=
  (rm.cells = mc ∧ rm.slots = ms ∧ rm.frames + 1 ≤ R.frames ∧ 8 + (maxL + 11) + rm.locals ≤ R.locals ∧ (∀ w ∈ ws, ∀ (a' : Array Value) (U : State), s.WarmedH U.vm → w.before a' U = true) ∧ Cond.codeWith y bytes maxL ret hh ∈ ws) ∧
  (Cond.codeWith y bytes maxL ret hh).before args s = true ∧ (Cond.initialized y.cls).before args s = true ∧ (y.cls ≠ "java/lang/invoke/MethodHandle" ∧ y.cls ≠ "java/lang/invoke/VarHandle") ∧
  (∀ sig, parseMethodDescriptor y.desc = some sig → n = sig.parameters.length) ∧ (Cond.methodLink own index y).before args s = true ∧ (Cond.static y).before args s = true
theorem vx_cwSW {own : String} {index maxL mc ms : Nat} {y : MethodName} {bytes : ByteArray} {ret : Option FieldType} {hh : List (Nat × Nat × Nat × Nat)} {Ts ws ws' : List Cond} {rm : Room} (n : Nat) (ht : ∀ w ∈ Ts, w.before args s = true) (hT : GoodIn Ts (va_wsS own index y ws)) (hw : ws = Cond.codeWith y bytes maxL ret hh :: ws') (hrc : rm.cells = mc) (hrs : rm.slots = ms)
    (hd : y.cls ≠ "java/lang/invoke/MethodHandle" ∧ y.cls ≠ "java/lang/invoke/VarHandle" ∧ (parseMethodDescriptor y.desc).map (fun d => d.parameters.length) = some n) (hR : rm.frames + 1 ≤ R.frames ∧ 8 + (maxL + 11) + rm.locals ≤ R.locals) :
    vx_CSW R s args own index y bytes maxL ret hh ws rm mc ms n := by
  have ok : ∀ w ∈ va_wsS own index y ws, w.before args s = true := fun w h => ht w (hT w h).1
  have hG : GoodIn Ts ws := fun w h => hT w (by unfold va_wsS; exact List.mem_append_right _ h)
  have hc : Cond.codeWith y bytes maxL ret hh ∈ ws := by rw [hw]; exact List.mem_cons_self
  refine ⟨⟨hrc, hrs, hR.1, hR.2, pay_in ht hG, hc⟩, ht _ (hG _ hc).1, ok _ (by simp [va_wsS]), ⟨hd.1, hd.2.1⟩, fun sig h => ?_, ok _ (by simp [va_wsS]), ok _ (by simp [va_wsS])⟩
  have h2 := hd.2.2
  rw [h] at h2
  exact (Option.some.inj h2).symm
theorem vx_callSW (X : Stand p l e R s m args below meth c T locs cells slots) (hexec : p.tables.exec = Jvm.exec) {own : String} {index : Nat} {y : MethodName} {bytes : ByteArray} {maxL : Nat} {ret : Option FieldType} {hh : List (Nat × Nat × Nat × Nat)}
    (hown : s.vm.findClass own = some m.cls) (hlink : (Cond.methodLink own index y).before args s = true) (hstat : (Cond.static y).before args s = true) (hinit : (Cond.initialized y.cls).before args s = true)
    (hcode : (Cond.codeWith y bytes maxL ret hh).before args s = true) (hy : y.cls ≠ "java/lang/invoke/MethodHandle" ∧ y.cls ≠ "java/lang/invoke/VarHandle")
    {W9 : Nat} {Pre : Pt → Array Value → Prop} {Post : Pt → Array Value → Option Value → Pt → Prop} (hK : Back l R p e below s args y 3 W9 Pre Post)
    {g : JFrame} (hg : g.method = m) (hsize : g.locals.size = c.maxLocals) {argsL rest : List Value} (hlen : ∀ sig, parseMethodDescriptor y.desc = some sig → argsL.length = sig.parameters.length)
    (hstack : g.stack = argsL.reverse ++ rest) (hW : 2 * g.monitorRoom + (rest.map fun v => v.category).sum ≤ W9) (hdg : decode c.code g.pc = .ok (.invokestatic index, 3))
    (hpre : ∀ vm₁, s.WarmedH vm₁ → Pre ⟨T.setVm vm₁, locs, cells, slots⟩ argsL.toArray) :
    ∃ (v : Option Value) (vm₁ : Vm) (B : Pt), s.WarmedH vm₁ ∧ Stand p l e R s m args below meth c B.U B.locs B.cells B.slots ∧ Post ⟨T.setVm vm₁, locs, cells, slots⟩ argsL.toArray v B ∧
      ∀ target, Steps p.tables e below (B.U.setTop { g with pc := g.pc + 3, stack := v.toList ++ rest }) target → Steps p.tables e below (T.setTop g) target := by
  obtain ⟨mk, methM, cM, hnamed, hmethM, -, -, -, -, -, -, hsigM⟩ := Cond.codeWith_spec hcode
  have hstatic : methM.isStatic = true := Cond.static_spec hnamed hmethM hstat
  obtain ⟨kP, hkP, -⟩ := className_of_methodNamed hnamed
  have hinitP : kP.init = .initialized := Cond.initialized_spec (findClass_of_methodNamed hnamed) hkP hinit
  obtain ⟨vm₁, X₁, hstep₁⟩ := X.invokestatic hexec hown hlink hnamed hmethM hstatic hkP hinitP hy (g := g) hg (argsL := argsL) (rest := rest) (hlen _ hsigM) hstack hdg
  obtain ⟨v, B, X', hpost, hsteps⟩ := hK m meth c ⟨T.setVm vm₁, locs, cells, slots⟩ { g with stack := rest } (.invokestatic index) mk argsL.toArray X₁ hg hsize hdg hW (X₁.named hnamed) (hpre vm₁ X₁.warmed)
  exact ⟨v, vm₁, B, X₁.warmed, X', hpost, fun target h => hstep₁ _ fun acts => by rw [doInvoke_state]; exact hsteps.trans h⟩
theorem vx_runSW {y : MethodName} {bytes cc : ByteArray} {maxL nL mc ms n index : Nat} {ret : Option FieldType} {hh : List (Nat × Nat × Nat × Nat)} {ws : List Cond} {rm : Room} {Pc : Array Value → State → Prop} {Qc : Array Value → State → Outcome → State → Prop} {free : Addr → Prop} {Ts : List Cond} {own : String} {As rest : List Value} {g : JFrame}
    (S : CallFix p m c cc nL s args Ts own) (hM : Met l y ws rm Pc Qc mc ms free) (cw : vx_CSW R s args own index y bytes maxL ret hh ws rm mc ms n) (hp : PreS s H Pc As)
    (hg : g.method = m) (hn : As.length = n) (hsize : g.locals.size = nL) (hstack : g.stack = As.reverse ++ rest) (hW : 2 * g.monitorRoom + (rest.map fun v => v.category).sum ≤ 8) (hdg : decode cc g.pc = .ok (.invokestatic index, 3)) (hf : cells + mc ≤ R.cells ∧ slots + ms ≤ R.slots) :
    va_Run p l e R s m args below meth c H locs cells slots mc ms g rest (Qc As.toArray) (free) := by
  obtain ⟨⟨hrc, hrs, hfr, hlo, hws, hcw⟩, hcode, hini, hy, hlen, hl, hstt⟩ := cw
  have hK : Back l R p e below s args y 3 8 (PreOf R mc ms Pc) (PostOf Qc mc ms free) := va_backW (hh := hh) (bytes := bytes) (maxL := maxL) (ret := ret) hM hp.1 hrc hrs hfr hlo hws hcw (fun a' U hW => word_at hW (Or.inl (by first | rfl | simp [Cond.onTables, Cond.keeps, Cond.steady])) hini)
  obtain ⟨hx, hb, hml, ho, -⟩ := S
  intro T hT X
  obtain ⟨v, vm₁, ⟨U', l2, c2, s2⟩, hW₁, X', ⟨g', mk, t, L, e1, e2, hq, h1, hL, h2, h3⟩, st⟩ := vx_callSW X hx (hh := hh) (bytes := bytes) (maxL := maxL) (ret := ret) ho hl hstt hini hcode hy hK hg (hsize.trans hml.symm) (argsL := As) (rest := rest) (fun sig h => hn.trans (hlen sig h)) hstack hW (by rw [hb]; exact hdg)
    (fun vm₁ hW₁ => ⟨hf.1, hf.2, hp.2 (T.setVm vm₁) hT hW₁⟩)
  dsimp only [Pt.U, Pt.locs, Pt.cells, Pt.slots] at X' e1 e2 h1 h2 h3 st
  subst h1; subst h2; subst h3
  exact ⟨v, (T.setVm vm₁).calling g' mk As.toArray, t, U', L, hT, X', hL, e1, e2, hq, st⟩
/-- a thing of a world lies in the heap -/
theorem vx_lt {D : va_G} {cl : List vw_C} {ws : va_W} {H1 : Heap} (h : va_P D cl ws H1) {k : Nat} {q : Nat × va_E} (hk : ws[k]? = some q) : q.1 < H1.size := (h k q hk).lt
end VXS
/-! ===== END ===== -/
/-! ===== BEGIN methods with a table of their own: called by a name, returning or throwing ===== -/
section VXH
/-! vx_backW, vx_callVX, vx_callSX, vx_callVW, vx_runVW, vx_runVX, vx_runSX, vx_ofWH follow the same proofs as their sisters above (Free/Laws.lean, Shelf42/LK1.lean); vx_outP calls Shelf42/NT130.lean (outThrough). -/
section
variable {l : Launch} {R : Room} {p : Program} {e : Env} {below : List Frame} {s : State} {sargs : Array Value} {y : MethodName} {len W9 : Nat}
theorem vx_backW {ws : List Cond} {rm : Room} {Pc : Array Value → State → Prop} {Qc : Array Value → State → Outcome → State → Prop} {XC : String → State → State → Prop} {mc ms : Nat} {free : Addr → Prop} {bytes : ByteArray} {maxL : Nat} {ret : Option FieldType} {hh : List (Nat × Nat × Nat × Nat)}
    (hM : vx_Met l y ws rm Pc Qc XC mc ms free) (hblind : FrameBlind Pc) (hrc : rm.cells = mc) (hrs : rm.slots = ms)
    (hframes : rm.frames + 1 ≤ R.frames) (hlocals : W9 + (maxL + 11) + rm.locals ≤ R.locals)
    (hws : ∀ w ∈ ws, ∀ a' U, s.WarmedH U.vm → w.before a' U = true) (hcode : Cond.codeWith y bytes maxL ret hh ∈ ws) (hinit : ∀ a' U, s.WarmedH U.vm → (Cond.initialized y.cls).before a' U = true) :
    vx_Back l R p e below s sargs y len W9 (PreOf R mc ms Pc) (PostOf Qc mc ms free) (vx_Post XC mc ms free) := by
  intro m meth c A g ig mk a X hg hsize hdg hW hn hp
  have h1 : (headSpec ws rm).pre.before a A.U = true := atoms_intro fun w hw => hws w hw _ _ X.warmed
  have h2 : (Cond.codeWith y bytes maxL ret hh).before a A.U = true := hws _ hcode _ _ X.warmed
  have h3 : (Cond.initialized y.cls).before a A.U = true := hinit _ _ X.warmed
  have h4 : A.cells + (headSpec ws rm).room.cells ≤ R.cells := by rw [show (headSpec ws rm).room.cells = mc from hrc]; exact hp.1
  have h5 : A.slots + (headSpec ws rm).room.slots ≤ R.slots := by rw [show (headSpec ws rm).room.slots = ms from hrs]; exact hp.2.1
  have hPc : Pc a (A.U.calling g mk a) := hblind _ _ _ _ hp.2.2
  obtain ⟨U, Ls, c0, s0⟩ := A
  dsimp only [Pt.U, Pt.locs, Pt.cells, Pt.slots] at h1 h2 h3 h4 h5 X hn hPc ⊢
  obtain ⟨m9, methY, cY, hn9, hmY, hcY, -, hlY, -⟩ := Cond.codeWith_spec h2
  cases Option.some.inj (hn9.symm.trans hn)
  obtain ⟨kY, hkY, -⟩ := className_of_methodNamed hn
  have hinitY : kY.init = .initialized := Cond.initialized_spec (findClass_of_methodNamed hn) hkY h3
  have h : At U g.method c below := by rw [hg]; exact X.here
  have hlocals9 : W9 + (maxL + 11) + (headSpec ws rm).room.locals ≤ R.locals := hlocals
  have happ : (headSpec ws rm).appliesLoose y e.platform (U.calling g mk a) = true :=
    Spec.appliesLoose_calling (g := g) h hdg hn hkY hinitY
      (X.room_calling (g := g) (R' := (headSpec ws rm).room) hsize hmY hcY hframes (by rw [hlY]; omega) h4 h5) h1
  obtain ⟨mid, hmid⟩ := h.above
  have hfr : (U.setTop g).frames = (.java g :: mid) ++ below := by rw [State.frames_setTop' g h.top, hmid]; rfl
  obtain ⟨o, s₂, hsteps, -, hend, hq⟩ := Steps.callFree hM p X.admits X.cas X.clock (acts := []) hfr happ hPc trivial
  have hq' : vx_Q Qc XC mc ms free a (U.calling g mk a) o s₂ := hq
  rw [State.frames_setTop' g h.top] at hend
  obtain ⟨g₀, hg0⟩ := Option.isSome_iff_exists.mp h.top
  obtain ⟨r, hr⟩ := State.topJava?_eq_some.mp hg0
  have hr' : (({ U with heap := s₂.heap, slotsUsed := s₂.slotsUsed } : State).setVm s₂.vm).frames = .java g₀ :: r := hr
  rcases hq' with ⟨hqc, L, hfe, hL⟩ | ⟨q, rfl, E, ce, L, hx, hce, hcv, hcl, hW₂, hsm, hL⟩
  · obtain ⟨⟨v, rfl⟩, hW₂, e2, q2, q3, q4, q5, q6⟩ := id hfe
    have e3 : s₂ = ({ (U.calling g mk a).setFrames s₂.frames with heap := s₂.heap, slotsUsed := s₂.slotsUsed } : State).setVm s₂.vm := by
      have : s₂ = ({ s₂ with vm := (U.calling g mk a).vm } : State).setVm s₂.vm := rfl
      rw [e2] at this
      exact this
    obtain ⟨c₂, i₂, len₂, hc₂, hd₂, hf₂⟩ := hend
    have hW' : U.WarmedH s₂.vm := hW₂
    have hcc : c₂ = c := by
      have h1 : s₂.code? g.method = U.code? g.method := by
        rw [State.code?_eq, State.code?_eq, hW'.alike.method?]
      exact Option.some.inj (hc₂.symm.trans (h1.trans h.code))
    subst hcc
    have hlen : len₂ = len := by rw [hdg] at hd₂; cases hd₂; rfl
    subst hlen
    have hs₂ : s₂ = (({ U with heap := s₂.heap, slotsUsed := s₂.slotsUsed } : State).setVm s₂.vm).setTop { g with pc := g.pc + len₂, stack := v.toList ++ g.stack } := by
      refine e3.trans ?_
      rw [hf₂, State.calling_eq h.top, State.setFrames_setFrames, State.setTop_of_frames _ hr', hr]
      rfl
    have hsame : U.sameButNew ({ U with heap := s₂.heap, slotsUsed := s₂.slotsUsed } : State) L mc ms := by
      refine ⟨?_, q2, q3, q4, q5, q6⟩
      obtain ⟨t, ht, -⟩ := State.frames_cons hr
      show ({ U with heap := s₂.heap, slotsUsed := s₂.slotsUsed } : State) = { U.setFrames U.frames with heap := s₂.heap, slotsUsed := s₂.slotsUsed }
      rw [State.setFrames_self ht]
    subst hg
    refine Or.inl ⟨v, ⟨(({ U with heap := s₂.heap, slotsUsed := s₂.slotsUsed } : State).setVm s₂.vm), Ls ++ L, c0 + mc, s0 + ms⟩,
      ⟨X.admits, X.cas, X.clock, X.frames, X.room, X.hears, X.method, X.code, (X.here.setHeapUsed s₂.heap s₂.slotsUsed).setVm hW'.alike, X.tail, State.WarmedH.trans X.warmed hW', X.limits, X.bytes, X.same.trans (hsame.setVm s.vm)⟩,
      ⟨g, mk, s₂, L, rfl, rfl, hqc, rfl, hL, rfl, rfl⟩, ?_⟩
    show Steps p.tables e below _ ((({ U with heap := s₂.heap, slotsUsed := s₂.slotsUsed } : State).setVm s₂.vm).setTop { g with pc := g.pc + len₂, stack := v.toList ++ g.stack })
    rw [← hs₂]
    exact hsteps
  · obtain ⟨e2, q2, q3, q4, q5, q6⟩ := id hsm
    have e3 : s₂ = ({ (U.calling g mk a).setFrames s₂.frames with heap := s₂.heap, slotsUsed := s₂.slotsUsed } : State).setVm s₂.vm := by
      have : s₂ = ({ s₂ with vm := (U.calling g mk a).vm } : State).setVm s₂.vm := rfl
      rw [e2] at this
      exact this
    have hf₂ : s₂.frames = .throwing q :: .java g :: U.frames.tail := hend
    have hW' : U.WarmedH s₂.vm := hW₂
    have hs₂ : s₂ = ((({ U with heap := s₂.heap, slotsUsed := s₂.slotsUsed } : State).setVm s₂.vm).setTop g).pushFrame (.throwing q) := by
      refine e3.trans ?_
      rw [hf₂, State.calling_eq h.top, State.setFrames_setFrames, State.pushFrame, State.frames_setTop _ hr', State.setTop_of_frames _ hr', State.setFrames_setFrames, hr]
      rfl
    have hsame : U.sameButNew ({ U with heap := s₂.heap, slotsUsed := s₂.slotsUsed } : State) L mc ms := by
      refine ⟨?_, q2, q3, q4, q5, q6⟩
      obtain ⟨t, ht, -⟩ := State.frames_cons hr
      show ({ U with heap := s₂.heap, slotsUsed := s₂.slotsUsed } : State) = { U.setFrames U.frames with heap := s₂.heap, slotsUsed := s₂.slotsUsed }
      rw [State.setFrames_self ht]
    subst hg
    refine Or.inr ⟨q, ⟨(({ U with heap := s₂.heap, slotsUsed := s₂.slotsUsed } : State).setVm s₂.vm), Ls ++ L, c0 + mc, s0 + ms⟩,
      ⟨X.admits, X.cas, X.clock, X.frames, X.room, X.hears, X.method, X.code, (X.here.setHeapUsed s₂.heap s₂.slotsUsed).setVm hW'.alike, X.tail, State.WarmedH.trans X.warmed hW', X.limits, X.bytes, X.same.trans (hsame.setVm s.vm)⟩,
      ⟨g, mk, s₂, L, E, ce, rfl, rfl, hx, hce, hcv, hcl, rfl, hL, rfl, rfl⟩, ?_⟩
    show Steps p.tables e below _ (((({ U with heap := s₂.heap, slotsUsed := s₂.slotsUsed } : State).setVm s₂.vm).setTop g).pushFrame (.throwing q))
    rw [← hs₂]
    exact hsteps
end
variable {p : Program} {l : Launch} {e : Env} {R : Room} {s : State} {m : MethodId} {args : Array Value} {below : List Frame} {meth : Method} {c : Code} {T : State} {H : Heap} {locs : List Loc} {cells slots : Nat}
theorem vx_callVX (X : Stand p l e R s m args below meth c T locs cells slots) (hexec : p.tables.exec = Jvm.exec) {own C : String} {index : Nat} {y : MethodName} {bytes : ByteArray} {maxL : Nat} {ret : Option FieldType} {hh : List (Nat × Nat × Nat × Nat)}
    (hown : s.vm.findClass own = some m.cls) (hlink : (Cond.methodLink own index y).before args s = true) (hinst : (Cond.instanceMethod y).before args s = true) (hsel : (Cond.selects C y y).before args s = true)
    (hcode : (Cond.codeWith y bytes maxL ret hh).before args s = true) (hy : y.cls ≠ "java/lang/invoke/MethodHandle" ∧ y.cls ≠ "java/lang/invoke/VarHandle")
    {W9 : Nat} {Pre : Pt → Array Value → Prop} {Post : Pt → Array Value → Option Value → Pt → Prop} {PostX : Pt → Array Value → Addr → Pt → Prop} (hK : vx_Back l R p e below s args y 3 W9 Pre Post PostX)
    {b : Addr} {cellB : Cell} (hcell : T.heap[b]? = some cellB) (hobj : cellB.vm.isStatics = false) (hcls : s.vm.findClass C = some cellB.cls)
    {g : JFrame} (hg : g.method = m) (hsize : g.locals.size = c.maxLocals) {argsL rest : List Value} (hlen : ∀ sig, parseMethodDescriptor y.desc = some sig → argsL.length = sig.parameters.length)
    (hstack : g.stack = argsL.reverse ++ .ref b :: rest) (hW : 2 * g.monitorRoom + (rest.map fun v => v.category).sum ≤ W9) (hdg : decode c.code g.pc = .ok (.invokevirtual index, 3))
    (hpre : ∀ vm₁, s.WarmedH vm₁ → Pre ⟨T.setVm vm₁, locs, cells, slots⟩ (Value.ref b :: argsL).toArray) :
    (∃ (v : Option Value) (vm₁ : Vm) (B : Pt), s.WarmedH vm₁ ∧ Stand p l e R s m args below meth c B.U B.locs B.cells B.slots ∧ Post ⟨T.setVm vm₁, locs, cells, slots⟩ (Value.ref b :: argsL).toArray v B ∧
      ∀ target, Steps p.tables e below (B.U.setTop { g with pc := g.pc + 3, stack := v.toList ++ rest }) target → Steps p.tables e below (T.setTop g) target) ∨
    (∃ (q : Addr) (vm₁ : Vm) (B : Pt), s.WarmedH vm₁ ∧ Stand p l e R s m args below meth c B.U B.locs B.cells B.slots ∧ PostX ⟨T.setVm vm₁, locs, cells, slots⟩ (Value.ref b :: argsL).toArray q B ∧
      Steps p.tables e below (T.setTop g) ((B.U.setTop { g with stack := rest }).pushFrame (.throwing q))) := by
  obtain ⟨mk, methM, hnamed, hmethM, hstM, habM⟩ := Cond.instanceMethod_spec hinst
  obtain ⟨m8, methM', cM, hn8, hmethM', -, -, -, -, -, -, hsigM⟩ := Cond.codeWith_spec hcode
  cases Option.some.inj (hn8.symm.trans hnamed)
  cases hmethM.symm.trans hmethM'
  obtain ⟨c2, r2, m2, q1, q2, q3, q4, kP, hkP, hkPi⟩ := Cond.selects_spec hsel
  cases hcls.symm.trans q1
  cases (State.methodFound?_of_named hnamed hy).symm.trans q2
  cases hnamed.symm.trans q3
  have hselP : selectMethod e.platform s.vm cellB.cls mk = .method mk := by rw [Launch.admits_selectMethod X.admits]; exact q4
  obtain ⟨vm₁, X₁, hstep₁⟩ := X.invokevirtual hexec hown hlink hnamed hmethM hstM hkP hkPi hy (a := b) (cell := cellB) hcell
    (fun z h => by rw [h] at hobj; cases hobj) hselP hmethM habM hkP hkPi (g := g) hg (argsL := argsL) (rest := rest) (hlen _ hsigM) hstack hdg
  rcases hK m meth c ⟨T.setVm vm₁, locs, cells, slots⟩ { g with stack := rest } (.invokevirtual index) mk (Value.ref b :: argsL).toArray X₁ hg hsize hdg hW (X₁.named hnamed) (hpre vm₁ X₁.warmed) with ⟨v, B, X', hpost, hsteps⟩ | ⟨q, B, X', hpost, hsteps⟩
  · exact Or.inl ⟨v, vm₁, B, X₁.warmed, X', hpost, fun target h => hstep₁ _ fun acts => by rw [doInvoke_state]; exact hsteps.trans h⟩
  · exact Or.inr ⟨q, vm₁, B, X₁.warmed, X', hpost, hstep₁ _ fun acts => by rw [doInvoke_state]; exact hsteps⟩
theorem vx_callSX (X : Stand p l e R s m args below meth c T locs cells slots) (hexec : p.tables.exec = Jvm.exec) {own : String} {index : Nat} {y : MethodName} {bytes : ByteArray} {maxL : Nat} {ret : Option FieldType} {hh : List (Nat × Nat × Nat × Nat)}
    (hown : s.vm.findClass own = some m.cls) (hlink : (Cond.methodLink own index y).before args s = true) (hstat : (Cond.static y).before args s = true) (hinit : (Cond.initialized y.cls).before args s = true)
    (hcode : (Cond.codeWith y bytes maxL ret hh).before args s = true) (hy : y.cls ≠ "java/lang/invoke/MethodHandle" ∧ y.cls ≠ "java/lang/invoke/VarHandle")
    {W9 : Nat} {Pre : Pt → Array Value → Prop} {Post : Pt → Array Value → Option Value → Pt → Prop} {PostX : Pt → Array Value → Addr → Pt → Prop} (hK : vx_Back l R p e below s args y 3 W9 Pre Post PostX)
    {g : JFrame} (hg : g.method = m) (hsize : g.locals.size = c.maxLocals) {argsL rest : List Value} (hlen : ∀ sig, parseMethodDescriptor y.desc = some sig → argsL.length = sig.parameters.length)
    (hstack : g.stack = argsL.reverse ++ rest) (hW : 2 * g.monitorRoom + (rest.map fun v => v.category).sum ≤ W9) (hdg : decode c.code g.pc = .ok (.invokestatic index, 3))
    (hpre : ∀ vm₁, s.WarmedH vm₁ → Pre ⟨T.setVm vm₁, locs, cells, slots⟩ argsL.toArray) :
    (∃ (v : Option Value) (vm₁ : Vm) (B : Pt), s.WarmedH vm₁ ∧ Stand p l e R s m args below meth c B.U B.locs B.cells B.slots ∧ Post ⟨T.setVm vm₁, locs, cells, slots⟩ argsL.toArray v B ∧
      ∀ target, Steps p.tables e below (B.U.setTop { g with pc := g.pc + 3, stack := v.toList ++ rest }) target → Steps p.tables e below (T.setTop g) target) ∨
    (∃ (q : Addr) (vm₁ : Vm) (B : Pt), s.WarmedH vm₁ ∧ Stand p l e R s m args below meth c B.U B.locs B.cells B.slots ∧ PostX ⟨T.setVm vm₁, locs, cells, slots⟩ argsL.toArray q B ∧
      Steps p.tables e below (T.setTop g) ((B.U.setTop { g with stack := rest }).pushFrame (.throwing q))) := by
  obtain ⟨mk, methM, cM, hnamed, hmethM, -, -, -, -, -, -, hsigM⟩ := Cond.codeWith_spec hcode
  have hstatic : methM.isStatic = true := Cond.static_spec hnamed hmethM hstat
  obtain ⟨kP, hkP, -⟩ := className_of_methodNamed hnamed
  have hinitP : kP.init = .initialized := Cond.initialized_spec (findClass_of_methodNamed hnamed) hkP hinit
  obtain ⟨vm₁, X₁, hstep₁⟩ := X.invokestatic hexec hown hlink hnamed hmethM hstatic hkP hinitP hy (g := g) hg (argsL := argsL) (rest := rest) (hlen _ hsigM) hstack hdg
  rcases hK m meth c ⟨T.setVm vm₁, locs, cells, slots⟩ { g with stack := rest } (.invokestatic index) mk argsL.toArray X₁ hg hsize hdg hW (X₁.named hnamed) (hpre vm₁ X₁.warmed) with ⟨v, B, X', hpost, hsteps⟩ | ⟨q, B, X', hpost, hsteps⟩
  · exact Or.inl ⟨v, vm₁, B, X₁.warmed, X', hpost, fun target h => hstep₁ _ fun acts => by rw [doInvoke_state]; exact hsteps.trans h⟩
  · exact Or.inr ⟨q, vm₁, B, X₁.warmed, X', hpost, hstep₁ _ fun acts => by rw [doInvoke_state]; exact hsteps⟩
theorem vx_callVW (X : Stand p l e R s m args below meth c T locs cells slots) (hexec : p.tables.exec = Jvm.exec) {own C : String} {index : Nat} {y : MethodName} {bytes : ByteArray} {maxL : Nat} {ret : Option FieldType} {hh : List (Nat × Nat × Nat × Nat)}
    (hown : s.vm.findClass own = some m.cls) (hlink : (Cond.methodLink own index y).before args s = true) (hinst : (Cond.instanceMethod y).before args s = true) (hsel : (Cond.selects C y y).before args s = true)
    (hcode : (Cond.codeWith y bytes maxL ret hh).before args s = true) (hy : y.cls ≠ "java/lang/invoke/MethodHandle" ∧ y.cls ≠ "java/lang/invoke/VarHandle")
    {W9 : Nat} {Pre : Pt → Array Value → Prop} {Post : Pt → Array Value → Option Value → Pt → Prop} (hK : Back l R p e below s args y 3 W9 Pre Post)
    {b : Addr} {cellB : Cell} (hcell : T.heap[b]? = some cellB) (hobj : cellB.vm.isStatics = false) (hcls : s.vm.findClass C = some cellB.cls)
    {g : JFrame} (hg : g.method = m) (hsize : g.locals.size = c.maxLocals) {argsL rest : List Value} (hlen : ∀ sig, parseMethodDescriptor y.desc = some sig → argsL.length = sig.parameters.length)
    (hstack : g.stack = argsL.reverse ++ .ref b :: rest) (hW : 2 * g.monitorRoom + (rest.map fun v => v.category).sum ≤ W9) (hdg : decode c.code g.pc = .ok (.invokevirtual index, 3))
    (hpre : ∀ vm₁, s.WarmedH vm₁ → Pre ⟨T.setVm vm₁, locs, cells, slots⟩ (Value.ref b :: argsL).toArray) :
    ∃ (v : Option Value) (vm₁ : Vm) (B : Pt), s.WarmedH vm₁ ∧ Stand p l e R s m args below meth c B.U B.locs B.cells B.slots ∧ Post ⟨T.setVm vm₁, locs, cells, slots⟩ (Value.ref b :: argsL).toArray v B ∧
      ∀ target, Steps p.tables e below (B.U.setTop { g with pc := g.pc + 3, stack := v.toList ++ rest }) target → Steps p.tables e below (T.setTop g) target := by
  obtain ⟨mk, methM, hnamed, hmethM, hstM, habM⟩ := Cond.instanceMethod_spec hinst
  obtain ⟨m8, methM', cM, hn8, hmethM', -, -, -, -, -, -, hsigM⟩ := Cond.codeWith_spec hcode
  cases Option.some.inj (hn8.symm.trans hnamed)
  cases hmethM.symm.trans hmethM'
  obtain ⟨c2, r2, m2, q1, q2, q3, q4, kP, hkP, hkPi⟩ := Cond.selects_spec hsel
  cases hcls.symm.trans q1
  cases (State.methodFound?_of_named hnamed hy).symm.trans q2
  cases hnamed.symm.trans q3
  have hselP : selectMethod e.platform s.vm cellB.cls mk = .method mk := by rw [Launch.admits_selectMethod X.admits]; exact q4
  obtain ⟨vm₁, X₁, hstep₁⟩ := X.invokevirtual hexec hown hlink hnamed hmethM hstM hkP hkPi hy (a := b) (cell := cellB) hcell
    (fun z h => by rw [h] at hobj; cases hobj) hselP hmethM habM hkP hkPi (g := g) hg (argsL := argsL) (rest := rest) (hlen _ hsigM) hstack hdg
  obtain ⟨v, B, X', hpost, hsteps⟩ := hK m meth c ⟨T.setVm vm₁, locs, cells, slots⟩ { g with stack := rest } (.invokevirtual index) mk (Value.ref b :: argsL).toArray X₁ hg hsize hdg hW (X₁.named hnamed) (hpre vm₁ X₁.warmed)
  exact ⟨v, vm₁, B, X₁.warmed, X', hpost, fun target h => hstep₁ _ fun acts => by rw [doInvoke_state]; exact hsteps.trans h⟩
abbrev vx_CVW (R : Room) (s : State) (args : Array Value) (own C : String) (index : Nat) (y : MethodName) (bytes : ByteArray) (maxL : Nat) (ret : Option FieldType) (hh : List (Nat × Nat × Nat × Nat)) (ws : List Cond) (rm : Room) (mc ms n : Nat) : Prop :=
  (rm.cells = mc ∧ rm.slots = ms ∧ rm.frames + 1 ≤ R.frames ∧ 8 + (maxL + 11) + rm.locals ≤ R.locals ∧ (∀ w ∈ ws, ∀ (a' : Array Value) (U : State), s.WarmedH U.vm → w.before a' U = true) ∧ Cond.codeWith y bytes maxL ret hh ∈ ws) ∧
  (Cond.codeWith y bytes maxL ret hh).before args s = true ∧ (Cond.initialized y.cls).before args s = true ∧ (y.cls ≠ "java/lang/invoke/MethodHandle" ∧ y.cls ≠ "java/lang/invoke/VarHandle") ∧
  (∀ sig, parseMethodDescriptor y.desc = some sig → n = sig.parameters.length) ∧ (Cond.methodLink own index y).before args s = true ∧ (Cond.instanceMethod y).before args s = true ∧ (Cond.selects C y y).before args s = true
theorem vx_cwVW {own C : String} {index maxL mc ms : Nat} {y : MethodName} {bytes : ByteArray} {ret : Option FieldType} {hh : List (Nat × Nat × Nat × Nat)} {Ts ws ws' : List Cond} {rm : Room} (n : Nat) (ht : ∀ w ∈ Ts, w.before args s = true) (hT : GoodIn Ts (wsV own index C y ws)) (hw : ws = Cond.codeWith y bytes maxL ret hh :: ws') (hrc : rm.cells = mc) (hrs : rm.slots = ms)
    (hd : y.cls = C ∧ y.cls ≠ "java/lang/invoke/MethodHandle" ∧ y.cls ≠ "java/lang/invoke/VarHandle" ∧ (parseMethodDescriptor y.desc).map (fun d => d.parameters.length) = some n) (hR : rm.frames + 1 ≤ R.frames ∧ 8 + (maxL + 11) + rm.locals ≤ R.locals) :
    vx_CVW R s args own C index y bytes maxL ret hh ws rm mc ms n := by
  obtain ⟨hC, hd⟩ := hd
  subst hC
  have ok : ∀ w ∈ wsV own index y.cls y ws, w.before args s = true := fun w h => ht w (hT w h).1
  have hG : GoodIn Ts ws := fun w h => hT w (by unfold wsV; exact List.mem_append_right _ h)
  have hc : Cond.codeWith y bytes maxL ret hh ∈ ws := by rw [hw]; exact List.mem_cons_self
  refine ⟨⟨hrc, hrs, hR.1, hR.2, pay_in ht hG, hc⟩, ht _ (hG _ hc).1, ok _ (by simp [wsV]), ⟨hd.1, hd.2.1⟩, fun sig h => ?_, ok _ (by simp [wsV]), ok _ (by simp [wsV]), ok _ (by simp [wsV])⟩
  have h2 := hd.2.2
  rw [h] at h2
  exact (Option.some.inj h2).symm
theorem vx_runVW {y : MethodName} {bytes cc : ByteArray} {maxL nL mc ms n index : Nat} {ret : Option FieldType} {hh : List (Nat × Nat × Nat × Nat)} {ws : List Cond} {rm : Room} {Pc : Array Value → State → Prop} {Qc : Array Value → State → Outcome → State → Prop} {free : Addr → Prop} {Ts : List Cond} {own C : String} {b : Addr} {As rest : List Value} {g : JFrame}
    (S : CallFix p m c cc nL s args Ts own) (hM : Met l y ws rm Pc Qc mc ms free) (cw : vx_CVW R s args own C index y bytes maxL ret hh ws rm mc ms n) (hp : PreV s H C b Pc As)
    (hg : g.method = m) (hn : As.length = n) (hsize : g.locals.size = nL) (hstack : g.stack = As.reverse ++ .ref b :: rest) (hW : 2 * g.monitorRoom + (rest.map fun v => v.category).sum ≤ 8) (hdg : decode cc g.pc = .ok (.invokevirtual index, 3)) (hf : cells + mc ≤ R.cells ∧ slots + ms ≤ R.slots) :
    va_Run p l e R s m args below meth c H locs cells slots mc ms g rest (Qc (Value.ref b :: As).toArray) free := by
  obtain ⟨⟨hrc, hrs, hfr, hlo, hws, hcw⟩, hcode, hini, hy, hlen, hl, hin, hse⟩ := cw
  have hK : Back l R p e below s args y 3 8 (PreOf R mc ms Pc) (PostOf Qc mc ms free) := va_backW (hh := hh) (bytes := bytes) (maxL := maxL) (ret := ret) hM hp.1 hrc hrs hfr hlo hws hcw (fun a' U hW => word_at hW (Or.inl (by first | rfl | simp [Cond.onTables, Cond.keeps, Cond.steady])) hini)
  obtain ⟨hx, hb, hml, ho, -⟩ := S
  obtain ⟨-, ⟨cellB, hcB, hoB, hclB⟩, hPc⟩ := hp
  intro T hT X
  obtain ⟨v, vm₁, ⟨U', l2, c2, s2⟩, hW₁, X', ⟨g', mk, t, L, e1, e2, hq, h1, hL, h2, h3⟩, st⟩ := vx_callVW X hx (C := C) (hh := hh) (bytes := bytes) (maxL := maxL) (ret := ret) ho hl hin hse hcode hy hK (by rw [hT]; exact hcB) hoB hclB hg (hsize.trans hml.symm) (argsL := As) (rest := rest) (fun sig h => hn.trans (hlen sig h)) hstack hW (by rw [hb]; exact hdg)
    (fun vm₁ hW₁ => ⟨hf.1, hf.2, hPc (T.setVm vm₁) hT hW₁⟩)
  dsimp only [Pt.U, Pt.locs, Pt.cells, Pt.slots] at X' e1 e2 h1 h2 h3 st
  subst h1; subst h2; subst h3
  exact ⟨v, (T.setVm vm₁).calling g' mk (Value.ref b :: As).toArray, t, U', L, hT, X', hL, e1, e2, hq, st⟩
section
variable {y : MethodName} {bytes cc : ByteArray} {maxL nL mc ms n index : Nat} {ret : Option FieldType} {ws : List Cond} {rm : Room} {Pc : Array Value → State → Prop} {Qc : Array Value → State → Outcome → State → Prop} {XC : String → State → State → Prop} {free : Addr → Prop} {Ts : List Cond} {own C : String} {b : Addr} {As rest : List Value} {g : JFrame}
theorem vx_runVX {hh : List (Nat × Nat × Nat × Nat)} (S : CallFix p m c cc nL s args Ts own) (hM : vx_Met l y ws rm Pc Qc XC mc ms free) (cw : vx_CVW R s args own C index y bytes maxL ret hh ws rm mc ms n) (hp : PreV s H C b Pc As)
    (hg : g.method = m) (hn : As.length = n) (hsize : g.locals.size = nL) (hstack : g.stack = As.reverse ++ .ref b :: rest) (hW : 2 * g.monitorRoom + (rest.map fun v => v.category).sum ≤ 8) (hdg : decode cc g.pc = .ok (.invokevirtual index, 3)) (hf : cells + mc ≤ R.cells ∧ slots + ms ≤ R.slots) :
    vx_Run p l e R s m args below meth c H locs cells slots mc ms g rest (Qc (Value.ref b :: As).toArray) XC free := by
  obtain ⟨⟨hrc, hrs, hfr, hlo, hws, hcw⟩, hcode, hini, hy, hlen, hl, hin, hse⟩ := cw
  have hK : vx_Back l R p e below s args y 3 8 (PreOf R mc ms Pc) (PostOf Qc mc ms free) (vx_Post XC mc ms free) := vx_backW (hh := hh) (bytes := bytes) (maxL := maxL) (ret := ret) hM hp.1 hrc hrs hfr hlo hws hcw (fun a' U hW => word_at hW (Or.inl (by first | rfl | simp [Cond.onTables, Cond.keeps, Cond.steady])) hini)
  obtain ⟨hx, hb, hml, ho, -⟩ := S
  obtain ⟨-, ⟨cellB, hcB, hoB, hclB⟩, hPc⟩ := hp
  intro T hT X
  rcases vx_callVX X hx (C := C) (hh := hh) (bytes := bytes) (maxL := maxL) (ret := ret) ho hl hin hse hcode hy hK (by rw [hT]; exact hcB) hoB hclB hg (hsize.trans hml.symm) (argsL := As) (rest := rest) (fun sig h => hn.trans (hlen sig h)) hstack hW (by rw [hb]; exact hdg)
    (fun vm₁ hW₁ => ⟨hf.1, hf.2, hPc (T.setVm vm₁) hT hW₁⟩) with ⟨v, vm₁, ⟨U', l2, c2, s2⟩, hW₁, X', ⟨g', mk, t, L, e1, e2, hq, h1, hL, h2, h3⟩, st⟩ | ⟨q, vm₁, ⟨U', l2, c2, s2⟩, hW₁, X', ⟨g', mk, t, L, E, ce, e1, e2, hq, hce, hcv, hcl, h1, hL, h2, h3⟩, st⟩
  · dsimp only [Pt.U, Pt.locs, Pt.cells, Pt.slots] at X' e1 e2 h1 h2 h3 st
    subst h1; subst h2; subst h3
    exact Or.inl ⟨v, (T.setVm vm₁).calling g' mk (Value.ref b :: As).toArray, t, U', L, hT, X', hL, e1, e2, hq, st⟩
  · dsimp only [Pt.U, Pt.locs, Pt.cells, Pt.slots] at X' e1 e2 h1 h2 h3 st hcl
    subst h1; subst h2; subst h3
    exact Or.inr ⟨q, (T.setVm vm₁).calling g' mk (Value.ref b :: As).toArray, t, U', L, E, ce, hT, X', hL, e1, e2, hq, hce, hcv, vx_cls hW₁ hcl, st⟩
theorem vx_runSX {hh : List (Nat × Nat × Nat × Nat)} (S : CallFix p m c cc nL s args Ts own) (hM : vx_Met l y ws rm Pc Qc XC mc ms free) (cw : vx_CSW R s args own index y bytes maxL ret hh ws rm mc ms n) (hp : PreS s H Pc As)
    (hg : g.method = m) (hn : As.length = n) (hsize : g.locals.size = nL) (hstack : g.stack = As.reverse ++ rest) (hW : 2 * g.monitorRoom + (rest.map fun v => v.category).sum ≤ 8) (hdg : decode cc g.pc = .ok (.invokestatic index, 3)) (hf : cells + mc ≤ R.cells ∧ slots + ms ≤ R.slots) :
    vx_Run p l e R s m args below meth c H locs cells slots mc ms g rest (Qc As.toArray) XC free := by
  obtain ⟨⟨hrc, hrs, hfr, hlo, hws, hcw⟩, hcode, hini, hy, hlen, hl, hstt⟩ := cw
  have hK : vx_Back l R p e below s args y 3 8 (PreOf R mc ms Pc) (PostOf Qc mc ms free) (vx_Post XC mc ms free) := vx_backW (hh := hh) (bytes := bytes) (maxL := maxL) (ret := ret) hM hp.1 hrc hrs hfr hlo hws hcw (fun a' U hW => word_at hW (Or.inl (by first | rfl | simp [Cond.onTables, Cond.keeps, Cond.steady])) hini)
  obtain ⟨hx, hb, hml, ho, -⟩ := S
  intro T hT X
  rcases vx_callSX X hx (hh := hh) (bytes := bytes) (maxL := maxL) (ret := ret) ho hl hstt hini hcode hy hK hg (hsize.trans hml.symm) (argsL := As) (rest := rest) (fun sig h => hn.trans (hlen sig h)) hstack hW (by rw [hb]; exact hdg)
    (fun vm₁ hW₁ => ⟨hf.1, hf.2, hp.2 (T.setVm vm₁) hT hW₁⟩) with ⟨v, vm₁, ⟨U', l2, c2, s2⟩, hW₁, X', ⟨g', mk, t, L, e1, e2, hq, h1, hL, h2, h3⟩, st⟩ | ⟨q, vm₁, ⟨U', l2, c2, s2⟩, hW₁, X', ⟨g', mk, t, L, E, ce, e1, e2, hq, hce, hcv, hcl, h1, hL, h2, h3⟩, st⟩
  · dsimp only [Pt.U, Pt.locs, Pt.cells, Pt.slots] at X' e1 e2 h1 h2 h3 st
    subst h1; subst h2; subst h3
    exact Or.inl ⟨v, (T.setVm vm₁).calling g' mk As.toArray, t, U', L, hT, X', hL, e1, e2, hq, st⟩
  · dsimp only [Pt.U, Pt.locs, Pt.cells, Pt.slots] at X' e1 e2 h1 h2 h3 st hcl
    subst h1; subst h2; subst h3
    exact Or.inr ⟨q, (T.setVm vm₁).calling g' mk As.toArray, t, U', L, E, ce, hT, X', hL, e1, e2, hq, hce, hcv, vx_cls hW₁ hcl, st⟩
end
end VXH
theorem vx_ofWH {l : Launch} {y : MethodName} {ws ws' : List Cond} {rm : Room} {Pc : Array Value → State → Prop} {Qc : Array Value → State → Outcome → State → Prop} {XC : String → State → State → Prop} {mc ms : Nat} {free : Addr → Prop} {cc : ByteArray} {maxL : Nat} {ret : Option FieldType} {hh : List (Nat × Nat × Nat × Nat)}
    (hy : plainName y.cls = true) (hw : ws = Cond.codeWith y cc maxL ret hh :: ws')
    (body : ∀ p e s m args below meth c s₁, BodyLoose p l y (headSpec ws rm) cc maxL ret e s m args below meth c s₁ → c.maxLocals = maxL → Pc args s →
      W p l e (headSpec ws rm).room s m args below meth c s.heap [] 0 0 (vx_MQ below Qc XC args s mc ms free) (entryFrame m args maxL)) : vx_Met l y ws rm Pc Qc XC mc ms free := by
  refine MetFree.of_bodyS (code := cc) (maxLocals := maxL) (ret := ret) hy ?_ ?_
  · intro args s m h hn
    obtain ⟨m9, meth, c, hn9, h1, h2, h3, h4, -, h5, h6, -⟩ := Cond.codeWith_spec (atoms_spec (ws := ws) h _ (by rw [hw]; exact List.mem_cons_self))
    cases hn.symm.trans hn9
    exact ⟨meth, c, h1, h2, h3, h4, h5, h6⟩
  · intro p e s m args below meth c s₁ B hml hP _
    have hh0 : s₁.heap = s.heap := by rw [B.state]; rfl
    obtain ⟨t, a1, o, b1, b2, b3⟩ := body p e s m args below meth c s₁ B hml hP s₁ hh0 (Stand.of_body B)
    exact ⟨t, o, a1, b1, b2, b3⟩
/-! ===== END ===== -/

def RX0 : String := "DrownedSlates$Chalk"
def TX0 : u_T := fun k => match k with
  | 0 => ("DrownedSlates$Chalk", "slates", "I", false)
  | 1 => ("DrownedSlates$Chalk", "cell", "[I", true)
  | 2 => ("DrownedSlates$Chalk", "hour", "[I", true)
  | 3 => ("DrownedSlates$Chalk", "marks", "[I", true)
  | 4 => ("DrownedSlates$Chalk", "rubbed", "[I", true)
  | 5 => ("DrownedSlates$Chalk", "way", "[I", true)
  | 6 => ("DrownedSlates$Chalk", "steps", "[I", true)
  | 7 => ("DrownedSlates$Chalk", "acts", "I", false)
  | 8 => ("DrownedSlates$Chalk", "actSlate", "[I", true)
  | _ => ("DrownedSlates$Chalk", "actFound", "[I", true)
def tyX0 : Nat → FieldType := fun k => match k with
  | 0 => .int
  | 1 => .array .int
  | 2 => .array .int
  | 3 => .array .int
  | 4 => .array .int
  | 5 => .array .int
  | 6 => .array .int
  | 7 => .int
  | 8 => .array .int
  | _ => .array .int
abbrev wsX00 : List Cond := u_ws RX0 TX0 10
theorem nmX0 : ∀ a, a < 10 → ∀ b, b < 10 → a ≠ b → (TX0 a).2.1 ≠ (TX0 b).2.1 := by decide +kernel
theorem tyX0_ok : ∀ k, k < 10 → parseFieldDescriptor (TX0 k).2.2.1 = some (tyX0 k) := by decide +kernel
abbrev cX0_init : ByteArray := prog_2_method_1_code
def yX0_init : MethodName := ⟨RX0, "<init>", "()V"⟩
abbrev cX0_clear : ByteArray := prog_2_method_2_code
def yX0_clear : MethodName := ⟨RX0, "clear", "()V"⟩
abbrev cX0_addSlate : ByteArray := prog_2_method_3_code
def yX0_addSlate : MethodName := ⟨RX0, "addSlate", "(II)V"⟩
abbrev cX0_putMark : ByteArray := prog_2_method_4_code
def yX0_putMark : MethodName := ⟨RX0, "putMark", "(III)V"⟩
abbrev cX0_wayOf : ByteArray := prog_2_method_5_code
def yX0_wayOf : MethodName := ⟨RX0, "wayOf", "(II)I"⟩
abbrev cX0_stepsOf : ByteArray := prog_2_method_6_code
def yX0_stepsOf : MethodName := ⟨RX0, "stepsOf", "(II)I"⟩
abbrev cX0_isRubbed : ByteArray := prog_2_method_7_code
def yX0_isRubbed : MethodName := ⟨RX0, "isRubbed", "(II)Z"⟩
abbrev cX0_rubMarks : ByteArray := prog_2_method_8_code
def yX0_rubMarks : MethodName := ⟨RX0, "rubMarks", "(III)V"⟩
abbrev cX0_keepAct : ByteArray := prog_2_method_9_code
def yX0_keepAct : MethodName := ⟨RX0, "keepAct", "(II)V"⟩
abbrev cX0_takeBack : ByteArray := prog_2_method_10_code
def yX0_takeBack : MethodName := ⟨RX0, "takeBack", "()Z"⟩
abbrev cX0_copyFrom : ByteArray := prog_2_method_11_code
def yX0_copyFrom : MethodName := ⟨RX0, "copyFrom", "(LDrownedSlates$Chalk;)V"⟩
def RX1 : String := "DrownedSlates$Desk"
def TX1 : u_T := fun k => match k with
  | 0 => ("DrownedSlates$Desk", "slates", "I", false)
  | 1 => ("DrownedSlates$Desk", "beginCell", "[I", true)
  | 2 => ("DrownedSlates$Desk", "endCell", "[I", true)
  | 3 => ("DrownedSlates$Desk", "wreck", "[J", true)
  | 4 => ("DrownedSlates$Desk", "lesson", "[I", true)
  | 5 => ("DrownedSlates$Desk", "verdict", "[I", true)
  | 6 => ("DrownedSlates$Desk", "nearSchool", "I", false)
  | 7 => ("DrownedSlates$Desk", "nearEnd", "[I", true)
  | 8 => ("DrownedSlates$Desk", "row", "[I", true)
  | 9 => ("DrownedSlates$Desk", "best", "[I", true)
  | 10 => ("DrownedSlates$Desk", "found", "[I", true)
  | _ => ("DrownedSlates$Desk", "foundLength", "I", false)
def tyX1 : Nat → FieldType := fun k => match k with
  | 0 => .int
  | 1 => .array .int
  | 2 => .array .int
  | 3 => .array .long
  | 4 => .array .int
  | 5 => .array .int
  | 6 => .int
  | 7 => .array .int
  | 8 => .array .int
  | 9 => .array .int
  | 10 => .array .int
  | _ => .int
abbrev wsX10 : List Cond := u_ws RX1 TX1 12
theorem nmX1 : ∀ a, a < 12 → ∀ b, b < 12 → a ≠ b → (TX1 a).2.1 ≠ (TX1 b).2.1 := by decide +kernel
theorem tyX1_ok : ∀ k, k < 12 → parseFieldDescriptor (TX1 k).2.2.1 = some (tyX1 k) := by decide +kernel
abbrev cX1_init : ByteArray := prog_3_method_1_code
def yX1_init : MethodName := ⟨RX1, "<init>", "()V"⟩
abbrev cX1_forget : ByteArray := prog_3_method_2_code
def yX1_forget : MethodName := ⟨RX1, "forget", "()V"⟩
abbrev cX1_learn : ByteArray := prog_3_method_3_code
def yX1_learn : MethodName := ⟨RX1, "learn", "(LDrownedSlates$Waters;LDrownedSlates$Chalk;LDrownedSlates$Ship;)V"⟩
abbrev cX1_lessonOf : ByteArray := prog_3_method_4_code
def yX1_lessonOf : MethodName := ⟨RX1, "lessonOf", "(I)I"⟩
abbrev cX1_wrecksNear : ByteArray := prog_3_method_5_code
def yX1_wrecksNear : MethodName := ⟨RX1, "wrecksNear", "(LDrownedSlates$Waters;II)I"⟩
abbrev cX1_find : ByteArray := prog_3_method_6_code
def yX1_find : MethodName := ⟨RX1, "find", "(LDrownedSlates$Waters;LDrownedSlates$Helm;I)I"⟩
abbrev cX1_beginningNear : ByteArray := prog_3_method_7_code
def yX1_beginningNear : MethodName := ⟨RX1, "beginningNear", "(LDrownedSlates$Waters;I)I"⟩
abbrev cX1_putInRow : ByteArray := prog_3_method_8_code
def yX1_putInRow : MethodName := ⟨RX1, "putInRow", "(I)Z"⟩
abbrev cX1_rowIsAhead : ByteArray := prog_3_method_9_code
def yX1_rowIsAhead : MethodName := ⟨RX1, "rowIsAhead", "(I)Z"⟩
abbrev cX1_bringsThrough : ByteArray := prog_3_method_10_code
def yX1_bringsThrough : MethodName := ⟨RX1, "bringsThrough", "(LDrownedSlates$Waters;LDrownedSlates$Helm;II)Z"⟩
def RX2 : String := "DrownedSlates$Exprs"
def TX2 : u_T := fun k => match k with
  | 0 => ("DrownedSlates$Exprs", "tokens", "LDrownedSlates$Tokens;", true)
  | 1 => ("DrownedSlates$Exprs", "length", "I", false)
  | _ => ("DrownedSlates$Exprs", "fault", "I", false)
def tyX2 : Nat → FieldType := fun k => match k with
  | 0 => .object "DrownedSlates$Tokens"
  | 1 => .int
  | _ => .int
abbrev wsX20 : List Cond := u_ws RX2 TX2 3
theorem nmX2 : ∀ a, a < 3 → ∀ b, b < 3 → a ≠ b → (TX2 a).2.1 ≠ (TX2 b).2.1 := by decide +kernel
theorem tyX2_ok : ∀ k, k < 3 → parseFieldDescriptor (TX2 k).2.2.1 = some (tyX2 k) := by decide +kernel
abbrev cX2_init : ByteArray := prog_4_method_1_code
def yX2_init : MethodName := ⟨RX2, "<init>", "(LDrownedSlates$Tokens;)V"⟩
abbrev cX2_clear : ByteArray := prog_4_method_2_code
def yX2_clear : MethodName := ⟨RX2, "clear", "()V"⟩
abbrev cX2_refuse : ByteArray := prog_4_method_3_code
def yX2_refuse : MethodName := ⟨RX2, "refuse", "(I)Z"⟩
abbrev cX2_put : ByteArray := prog_4_method_4_code
def yX2_put : MethodName := ⟨RX2, "put", "(LDrownedSlates$Waters;I)V"⟩
abbrev cX2_putDone : ByteArray := prog_4_method_5_code
def yX2_putDone : MethodName := ⟨RX2, "putDone", "(LDrownedSlates$Waters;I)V"⟩
abbrev cX2_readExpr : ByteArray := prog_4_method_6_code
def yX2_readExpr : MethodName := ⟨RX2, "readExpr", "(LDrownedSlates$Waters;I)Z"⟩
abbrev cX2_readAnd : ByteArray := prog_4_method_7_code
def yX2_readAnd : MethodName := ⟨RX2, "readAnd", "(LDrownedSlates$Waters;I)Z"⟩
abbrev cX2_readNot : ByteArray := prog_4_method_8_code
def yX2_readNot : MethodName := ⟨RX2, "readNot", "(LDrownedSlates$Waters;I)Z"⟩
abbrev cX2_readTest : ByteArray := prog_4_method_9_code
def yX2_readTest : MethodName := ⟨RX2, "readTest", "(LDrownedSlates$Waters;I)Z"⟩
abbrev cX2_readSum : ByteArray := prog_4_method_10_code
def yX2_readSum : MethodName := ⟨RX2, "readSum", "(LDrownedSlates$Waters;I)Z"⟩
abbrev cX2_readProduct : ByteArray := prog_4_method_11_code
def yX2_readProduct : MethodName := ⟨RX2, "readProduct", "(LDrownedSlates$Waters;I)Z"⟩
abbrev cX2_readPart : ByteArray := prog_4_method_12_code
def yX2_readPart : MethodName := ⟨RX2, "readPart", "(LDrownedSlates$Waters;I)Z"⟩
def RX3 : String := "DrownedSlates$Fog"
def TX3 : u_T := fun k => match k with
  | 0 => ("DrownedSlates$Fog", "inEven", "J", false)
  | _ => ("DrownedSlates$Fog", "inOdd", "J", false)
def tyX3 : Nat → FieldType := fun k => match k with
  | 0 => .long
  | _ => .long
abbrev wsX30 : List Cond := u_ws RX3 TX3 2
theorem nmX3 : ∀ a, a < 2 → ∀ b, b < 2 → a ≠ b → (TX3 a).2.1 ≠ (TX3 b).2.1 := by decide +kernel
theorem tyX3_ok : ∀ k, k < 2 → parseFieldDescriptor (TX3 k).2.2.1 = some (tyX3 k) := by decide +kernel
abbrev cX3_init : ByteArray := prog_5_method_1_code
def yX3_init : MethodName := ⟨RX3, "<init>", "()V"⟩
abbrev cX3_cellsBehind : ByteArray := prog_5_method_2_code
def yX3_cellsBehind : MethodName := ⟨RX3, "cellsBehind", "(LDrownedSlates$Waters;LDrownedSlates$Chalk;II)J"⟩
abbrev cX3_sailStep : ByteArray := prog_5_method_3_code
def yX3_sailStep : MethodName := ⟨RX3, "sailStep", "(LDrownedSlates$Waters;I)V"⟩
abbrev cX3_sailMark : ByteArray := prog_5_method_4_code
def yX3_sailMark : MethodName := ⟨RX3, "sailMark", "(LDrownedSlates$Waters;II)V"⟩
abbrev cX3_sailAnyhow : ByteArray := prog_5_method_5_code
def yX3_sailAnyhow : MethodName := ⟨RX3, "sailAnyhow", "(LDrownedSlates$Waters;)V"⟩
def RX4 : String := "DrownedSlates$Hands"
def TX4 : u_T := fun k => match k with
  | 0 => ("DrownedSlates$Hands", "first", "I", false)
  | 1 => ("DrownedSlates$Hands", "second", "I", false)
  | 2 => ("DrownedSlates$Hands", "behind", "I", false)
  | _ => ("DrownedSlates$Hands", "most", "J", false)
def tyX4 : Nat → FieldType := fun k => match k with
  | 0 => .int
  | 1 => .int
  | 2 => .int
  | _ => .long
abbrev wsX40 : List Cond := u_ws RX4 TX4 4
theorem nmX4 : ∀ a, a < 4 → ∀ b, b < 4 → a ≠ b → (TX4 a).2.1 ≠ (TX4 b).2.1 := by decide +kernel
theorem tyX4_ok : ∀ k, k < 4 → parseFieldDescriptor (TX4 k).2.2.1 = some (tyX4 k) := by decide +kernel
abbrev cX4_init : ByteArray := prog_6_method_1_code
def yX4_init : MethodName := ⟨RX4, "<init>", "()V"⟩
abbrev cX4_compare : ByteArray := prog_6_method_2_code
def yX4_compare : MethodName := ⟨RX4, "compare", "(LDrownedSlates$Waters;LDrownedSlates$Chalk;I)V"⟩
abbrev cX4_weigh : ByteArray := prog_6_method_3_code
def yX4_weigh : MethodName := ⟨RX4, "weigh", "(LDrownedSlates$Waters;LDrownedSlates$Chalk;IIII)V"⟩
def RX5 : String := "DrownedSlates$Helm"
def TX5 : u_T := fun k => match k with
  | 0 => ("DrownedSlates$Helm", "ship", "LDrownedSlates$Ship;", true)
  | 1 => ("DrownedSlates$Helm", "stack", "[I", true)
  | 2 => ("DrownedSlates$Helm", "top", "I", false)
  | _ => ("DrownedSlates$Helm", "values", "[I", true)
def tyX5 : Nat → FieldType := fun k => match k with
  | 0 => .object "DrownedSlates$Ship"
  | 1 => .array .int
  | 2 => .int
  | _ => .array .int
abbrev wsX50 : List Cond := u_ws RX5 TX5 4
theorem nmX5 : ∀ a, a < 4 → ∀ b, b < 4 → a ≠ b → (TX5 a).2.1 ≠ (TX5 b).2.1 := by decide +kernel
theorem tyX5_ok : ∀ k, k < 4 → parseFieldDescriptor (TX5 k).2.2.1 = some (tyX5 k) := by decide +kernel
abbrev cX5_init : ByteArray := prog_7_method_1_code
def yX5_init : MethodName := ⟨RX5, "<init>", "()V"⟩
abbrev cX5_sailBy : ByteArray := prog_7_method_2_code
def yX5_sailBy : MethodName := ⟨RX5, "sailBy", "(LDrownedSlates$Waters;IJ)V"⟩
abbrev cX5_lookForGoal : ByteArray := prog_7_method_3_code
def yX5_lookForGoal : MethodName := ⟨RX5, "lookForGoal", "(LDrownedSlates$Waters;)V"⟩
abbrev cX5_lookAround : ByteArray := prog_7_method_4_code
def yX5_lookAround : MethodName := ⟨RX5, "lookAround", "(LDrownedSlates$Waters;J)V"⟩
abbrev cX5_wayByRules : ByteArray := prog_7_method_5_code
def yX5_wayByRules : MethodName := ⟨RX5, "wayByRules", "(LDrownedSlates$Waters;)I"⟩
abbrev cX5_worth : ByteArray := prog_7_method_6_code
def yX5_worth : MethodName := ⟨RX5, "worth", "(LDrownedSlates$Waters;II)I"⟩
abbrev cX5_push : ByteArray := prog_7_method_7_code
def yX5_push : MethodName := ⟨RX5, "push", "(I)V"⟩
abbrev cX5_pop : ByteArray := prog_7_method_8_code
def yX5_pop : MethodName := ⟨RX5, "pop", "()I"⟩
abbrev cX5_joined : ByteArray := prog_7_method_9_code
def yX5_joined : MethodName := ⟨RX5, "joined", "(III)I"⟩
def RX6 : String := "DrownedSlates$Likeness"
def TX6 : u_T := fun k => match k with
  | 0 => ("DrownedSlates$Likeness", "length", "I", false)
  | 1 => ("DrownedSlates$Likeness", "inFirst", "I", false)
  | _ => ("DrownedSlates$Likeness", "inSecond", "I", false)
def tyX6 : Nat → FieldType := fun k => match k with
  | 0 => .int
  | 1 => .int
  | _ => .int
abbrev wsX60 : List Cond := u_ws RX6 TX6 3
theorem nmX6 : ∀ a, a < 3 → ∀ b, b < 3 → a ≠ b → (TX6 a).2.1 ≠ (TX6 b).2.1 := by decide +kernel
theorem tyX6_ok : ∀ k, k < 3 → parseFieldDescriptor (TX6 k).2.2.1 = some (tyX6 k) := by decide +kernel
abbrev cX6_init : ByteArray := prog_8_method_1_code
def yX6_init : MethodName := ⟨RX6, "<init>", "()V"⟩
abbrev cX6_compare : ByteArray := prog_8_method_2_code
def yX6_compare : MethodName := ⟨RX6, "compare", "(LDrownedSlates$Chalk;II)V"⟩
abbrev cX6_alikeFrom : ByteArray := prog_8_method_3_code
def yX6_alikeFrom : MethodName := ⟨RX6, "alikeFrom", "(LDrownedSlates$Chalk;IIII)I"⟩
def RX7 : String := "DrownedSlates$Lines"
def TX7 : u_T := fun k => match k with
  | 0 => ("DrownedSlates$Lines", "tokens", "LDrownedSlates$Tokens;", true)
  | 1 => ("DrownedSlates$Lines", "exprs", "LDrownedSlates$Exprs;", true)
  | 2 => ("DrownedSlates$Lines", "schoolTold", "Z", false)
  | 3 => ("DrownedSlates$Lines", "goalTold", "Z", false)
  | 4 => ("DrownedSlates$Lines", "fault", "I", false)
  | _ => ("DrownedSlates$Lines", "faultPlace", "I", false)
def tyX7 : Nat → FieldType := fun k => match k with
  | 0 => .object "DrownedSlates$Tokens"
  | 1 => .object "DrownedSlates$Exprs"
  | 2 => .boolean
  | 3 => .boolean
  | 4 => .int
  | _ => .int
abbrev wsX70 : List Cond := u_ws RX7 TX7 6
theorem nmX7 : ∀ a, a < 6 → ∀ b, b < 6 → a ≠ b → (TX7 a).2.1 ≠ (TX7 b).2.1 := by decide +kernel
theorem tyX7_ok : ∀ k, k < 6 → parseFieldDescriptor (TX7 k).2.2.1 = some (tyX7 k) := by decide +kernel
abbrev cX7_init : ByteArray := prog_9_method_1_code
def yX7_init : MethodName := ⟨RX7, "<init>", "([B)V"⟩
abbrev cX7_read : ByteArray := prog_9_method_2_code
def yX7_read : MethodName := ⟨RX7, "read", "(ILDrownedSlates$Waters;LDrownedSlates$Chalk;)Z"⟩
abbrev cX7_refuse : ByteArray := prog_9_method_3_code
def yX7_refuse : MethodName := ⟨RX7, "refuse", "(I)Z"⟩
abbrev cX7_readEnd : ByteArray := prog_9_method_4_code
def yX7_readEnd : MethodName := ⟨RX7, "readEnd", "()Z"⟩
abbrev cX7_readLine : ByteArray := prog_9_method_5_code
def yX7_readLine : MethodName := ⟨RX7, "readLine", "(ZLDrownedSlates$Waters;LDrownedSlates$Chalk;)Z"⟩
abbrev cX7_readHead : ByteArray := prog_9_method_6_code
def yX7_readHead : MethodName := ⟨RX7, "readHead", "(Z)Z"⟩
abbrev cX7_readHead_ : ByteArray := prog_9_method_7_code
def yX7_readHead_ : MethodName := ⟨RX7, "readHead", "(II)Z"⟩
abbrev cX7_lookAtNumber : ByteArray := prog_9_method_8_code
def yX7_lookAtNumber : MethodName := ⟨RX7, "lookAtNumber", "(II)I"⟩
abbrev cX7_readNumber : ByteArray := prog_9_method_9_code
def yX7_readNumber : MethodName := ⟨RX7, "readNumber", "(II)I"⟩
abbrev cX7_readWay : ByteArray := prog_9_method_10_code
def yX7_readWay : MethodName := ⟨RX7, "readWay", "()I"⟩
abbrev cX7_readCell : ByteArray := prog_9_method_11_code
def yX7_readCell : MethodName := ⟨RX7, "readCell", "(LDrownedSlates$Waters;J)I"⟩
abbrev cX7_readSize : ByteArray := prog_9_method_12_code
def yX7_readSize : MethodName := ⟨RX7, "readSize", "(LDrownedSlates$Waters;)Z"⟩
abbrev cX7_readRock : ByteArray := prog_9_method_13_code
def yX7_readRock : MethodName := ⟨RX7, "readRock", "(LDrownedSlates$Waters;)Z"⟩
abbrev cX7_readCurrent : ByteArray := prog_9_method_14_code
def yX7_readCurrent : MethodName := ⟨RX7, "readCurrent", "(LDrownedSlates$Waters;)Z"⟩
abbrev cX7_readSlate : ByteArray := prog_9_method_15_code
def yX7_readSlate : MethodName := ⟨RX7, "readSlate", "(LDrownedSlates$Waters;LDrownedSlates$Chalk;)Z"⟩
abbrev cX7_readHand : ByteArray := prog_9_method_16_code
def yX7_readHand : MethodName := ⟨RX7, "readHand", "(LDrownedSlates$Waters;)Z"⟩
abbrev cX7_readSchool : ByteArray := prog_9_method_17_code
def yX7_readSchool : MethodName := ⟨RX7, "readSchool", "(LDrownedSlates$Waters;)Z"⟩
abbrev cX7_readGoal : ByteArray := prog_9_method_18_code
def yX7_readGoal : MethodName := ⟨RX7, "readGoal", "(LDrownedSlates$Waters;)Z"⟩
abbrev cX7_readPilot : ByteArray := prog_9_method_19_code
def yX7_readPilot : MethodName := ⟨RX7, "readPilot", "(LDrownedSlates$Waters;LDrownedSlates$Chalk;)Z"⟩
abbrev cX7_readRead : ByteArray := prog_9_method_20_code
def yX7_readRead : MethodName := ⟨RX7, "readRead", "(LDrownedSlates$Chalk;I)I"⟩
abbrev cX7_readRule : ByteArray := prog_9_method_21_code
def yX7_readRule : MethodName := ⟨RX7, "readRule", "(LDrownedSlates$Waters;)Z"⟩
def RX8 : String := "DrownedSlates$Ship"
def TX8 : u_T := fun k => match k with
  | 0 => ("DrownedSlates$Ship", "cell", "I", false)
  | 1 => ("DrownedSlates$Ship", "hour", "I", false)
  | 2 => ("DrownedSlates$Ship", "end", "I", false)
  | 3 => ("DrownedSlates$Ship", "mark", "I", false)
  | 4 => ("DrownedSlates$Ship", "step", "I", false)
  | 5 => ("DrownedSlates$Ship", "markCell", "I", false)
  | 6 => ("DrownedSlates$Ship", "markHour", "I", false)
  | _ => ("DrownedSlates$Ship", "been", "J", false)
def tyX8 : Nat → FieldType := fun k => match k with
  | 0 => .int
  | 1 => .int
  | 2 => .int
  | 3 => .int
  | 4 => .int
  | 5 => .int
  | 6 => .int
  | _ => .long
abbrev wsX80 : List Cond := u_ws RX8 TX8 8
theorem nmX8 : ∀ a, a < 8 → ∀ b, b < 8 → a ≠ b → (TX8 a).2.1 ≠ (TX8 b).2.1 := by decide +kernel
theorem tyX8_ok : ∀ k, k < 8 → parseFieldDescriptor (TX8 k).2.2.1 = some (tyX8 k) := by decide +kernel
abbrev cX8_init : ByteArray := prog_10_method_1_code
def yX8_init : MethodName := ⟨RX8, "<init>", "()V"⟩
abbrev cX8_begin : ByteArray := prog_10_method_2_code
def yX8_begin : MethodName := ⟨RX8, "begin", "(II)V"⟩
abbrev cX8_sail : ByteArray := prog_10_method_3_code
def yX8_sail : MethodName := ⟨RX8, "sail", "(LDrownedSlates$Waters;IZ)V"⟩
abbrev cX8_goTo : ByteArray := prog_10_method_4_code
def yX8_goTo : MethodName := ⟨RX8, "goTo", "(LDrownedSlates$Waters;II)V"⟩
abbrev cX8_followMark : ByteArray := prog_10_method_5_code
def yX8_followMark : MethodName := ⟨RX8, "followMark", "(LDrownedSlates$Waters;IIZ)V"⟩
abbrev cX8_follow : ByteArray := prog_10_method_6_code
def yX8_follow : MethodName := ⟨RX8, "follow", "(LDrownedSlates$Waters;LDrownedSlates$Chalk;I)V"⟩
abbrev cX8_wreck : ByteArray := prog_10_method_7_code
def yX8_wreck : MethodName := ⟨RX8, "wreck", "()J"⟩
abbrev cX8_knownBy : ByteArray := prog_10_method_8_code
def yX8_knownBy : MethodName := ⟨RX8, "knownBy", "(LDrownedSlates$Waters;LDrownedSlates$Chalk;I)J"⟩
def RX9 : String := "DrownedSlates$Tokens"
def TX9 : u_T := fun k => match k with
  | 0 => ("DrownedSlates$Tokens", "text", "[B", true)
  | 1 => ("DrownedSlates$Tokens", "length", "I", false)
  | 2 => ("DrownedSlates$Tokens", "next", "I", false)
  | 3 => ("DrownedSlates$Tokens", "start", "I", false)
  | 4 => ("DrownedSlates$Tokens", "kind", "I", false)
  | _ => ("DrownedSlates$Tokens", "value", "I", false)
def tyX9 : Nat → FieldType := fun k => match k with
  | 0 => .array .byte
  | 1 => .int
  | 2 => .int
  | 3 => .int
  | 4 => .int
  | _ => .int
abbrev wsX90 : List Cond := u_ws RX9 TX9 6
theorem nmX9 : ∀ a, a < 6 → ∀ b, b < 6 → a ≠ b → (TX9 a).2.1 ≠ (TX9 b).2.1 := by decide +kernel
theorem tyX9_ok : ∀ k, k < 6 → parseFieldDescriptor (TX9 k).2.2.1 = some (tyX9 k) := by decide +kernel
abbrev cX9_init : ByteArray := prog_11_method_1_code
def yX9_init : MethodName := ⟨RX9, "<init>", "([B)V"⟩
abbrev cX9_open : ByteArray := prog_11_method_2_code
def yX9_open : MethodName := ⟨RX9, "open", "(I)V"⟩
abbrev cX9_advance : ByteArray := prog_11_method_3_code
def yX9_advance : MethodName := ⟨RX9, "advance", "()V"⟩
abbrev cX9_isLetter : ByteArray := prog_11_method_4_code
def yX9_isLetter : MethodName := ⟨RX9, "isLetter", "(I)Z"⟩
abbrev cX9_isDigit : ByteArray := prog_11_method_5_code
def yX9_isDigit : MethodName := ⟨RX9, "isDigit", "(I)Z"⟩
abbrev cX9_takeWord : ByteArray := prog_11_method_6_code
def yX9_takeWord : MethodName := ⟨RX9, "takeWord", "()V"⟩
abbrev cX9_takeNumber : ByteArray := prog_11_method_7_code
def yX9_takeNumber : MethodName := ⟨RX9, "takeNumber", "()V"⟩
abbrev cX9_takeSign : ByteArray := prog_11_method_8_code
def yX9_takeSign : MethodName := ⟨RX9, "takeSign", "()V"⟩
abbrev cX9_isWord : ByteArray := prog_11_method_9_code
def yX9_isWord : MethodName := ⟨RX9, "isWord", "(I)Z"⟩
abbrev cX9_isWay : ByteArray := prog_11_method_10_code
def yX9_isWay : MethodName := ⟨RX9, "isWay", "()Z"⟩
abbrev cX9_isSign : ByteArray := prog_11_method_11_code
def yX9_isSign : MethodName := ⟨RX9, "isSign", "(I)Z"⟩
def RX10 : String := "DrownedSlates$Waters"
def TX10 : u_T := fun k => match k with
  | 0 => ("DrownedSlates$Waters", "width", "I", false)
  | 1 => ("DrownedSlates$Waters", "height", "I", false)
  | 2 => ("DrownedSlates$Waters", "all", "J", false)
  | 3 => ("DrownedSlates$Waters", "rocks", "J", false)
  | 4 => ("DrownedSlates$Waters", "open", "[J", true)
  | 5 => ("DrownedSlates$Waters", "current", "[I", true)
  | 6 => ("DrownedSlates$Waters", "currents", "[J", true)
  | 7 => ("DrownedSlates$Waters", "hands", "I", false)
  | 8 => ("DrownedSlates$Waters", "weight", "[I", true)
  | 9 => ("DrownedSlates$Waters", "school", "I", false)
  | 10 => ("DrownedSlates$Waters", "reach", "I", false)
  | 11 => ("DrownedSlates$Waters", "goal", "I", false)
  | 12 => ("DrownedSlates$Waters", "pilots", "I", false)
  | 13 => ("DrownedSlates$Waters", "pilotCell", "[I", true)
  | 14 => ("DrownedSlates$Waters", "pilotHour", "[I", true)
  | 15 => ("DrownedSlates$Waters", "pilotRead", "[I", true)
  | 16 => ("DrownedSlates$Waters", "rules", "I", false)
  | 17 => ("DrownedSlates$Waters", "ruleWay", "[I", true)
  | 18 => ("DrownedSlates$Waters", "ruleEnd", "[I", true)
  | _ => ("DrownedSlates$Waters", "code", "[I", true)
def tyX10 : Nat → FieldType := fun k => match k with
  | 0 => .int
  | 1 => .int
  | 2 => .long
  | 3 => .long
  | 4 => .array .long
  | 5 => .array .int
  | 6 => .array .long
  | 7 => .int
  | 8 => .array .int
  | 9 => .int
  | 10 => .int
  | 11 => .int
  | 12 => .int
  | 13 => .array .int
  | 14 => .array .int
  | 15 => .array .int
  | 16 => .int
  | 17 => .array .int
  | 18 => .array .int
  | _ => .array .int
abbrev wsX100 : List Cond := u_ws RX10 TX10 20
theorem nmX10 : ∀ a, a < 20 → ∀ b, b < 20 → a ≠ b → (TX10 a).2.1 ≠ (TX10 b).2.1 := by decide +kernel
theorem tyX10_ok : ∀ k, k < 20 → parseFieldDescriptor (TX10 k).2.2.1 = some (tyX10 k) := by decide +kernel
abbrev cX10_init : ByteArray := prog_12_method_1_code
def yX10_init : MethodName := ⟨RX10, "<init>", "()V"⟩
abbrev cX10_clear : ByteArray := prog_12_method_2_code
def yX10_clear : MethodName := ⟨RX10, "clear", "()V"⟩
abbrev cX10_setSize : ByteArray := prog_12_method_3_code
def yX10_setSize : MethodName := ⟨RX10, "setSize", "(II)V"⟩
abbrev cX10_cells : ByteArray := prog_12_method_4_code
def yX10_cells : MethodName := ⟨RX10, "cells", "()I"⟩
abbrev cX10_xOf : ByteArray := prog_12_method_5_code
def yX10_xOf : MethodName := ⟨RX10, "xOf", "(I)I"⟩
abbrev cX10_yOf : ByteArray := prog_12_method_6_code
def yX10_yOf : MethodName := ⟨RX10, "yOf", "(I)I"⟩
abbrev cX10_isRock : ByteArray := prog_12_method_7_code
def yX10_isRock : MethodName := ⟨RX10, "isRock", "(I)Z"⟩
abbrev cX10_addCurrent : ByteArray := prog_12_method_8_code
def yX10_addCurrent : MethodName := ⟨RX10, "addCurrent", "(II)V"⟩
abbrev cX10_allCurrents : ByteArray := prog_12_method_9_code
def yX10_allCurrents : MethodName := ⟨RX10, "allCurrents", "()J"⟩
abbrev cX10_nextCell : ByteArray := prog_12_method_10_code
def yX10_nextCell : MethodName := ⟨RX10, "nextCell", "(II)I"⟩
abbrev cX10_drivenTo : ByteArray := prog_12_method_11_code
def yX10_drivenTo : MethodName := ⟨RX10, "drivenTo", "(II)I"⟩
abbrev cX10_farness : ByteArray := prog_12_method_12_code
def yX10_farness : MethodName := ⟨RX10, "farness", "(II)I"⟩
abbrev cX10_moved : ByteArray := prog_12_method_13_code
def yX10_moved : MethodName := ⟨RX10, "moved", "(JI)J"⟩
abbrev cX10_sailed : ByteArray := prog_12_method_14_code
def yX10_sailed : MethodName := ⟨RX10, "sailed", "(JIZ)J"⟩
abbrev cX10_driven : ByteArray := prog_12_method_15_code
def yX10_driven : MethodName := ⟨RX10, "driven", "(J)J"⟩
abbrev cX10_weightOf : ByteArray := prog_12_method_16_code
def yX10_weightOf : MethodName := ⟨RX10, "weightOf", "(II)I"⟩
def RX11 : String := "DrownedSlates"
def TX11 : u_T := fun k => match k with
  | 0 => ("DrownedSlates", "tape", "[B", true)
  | 1 => ("DrownedSlates", "tapeLength", "I", false)
  | 2 => ("DrownedSlates", "faultPlace", "I", false)
  | 3 => ("DrownedSlates", "refusedTexts", "I", false)
  | 4 => ("DrownedSlates", "refusedMarks", "I", false)
  | 5 => ("DrownedSlates", "waters", "LDrownedSlates$Waters;", false)
  | 6 => ("DrownedSlates", "chalk", "LDrownedSlates$Chalk;", false)
  | 7 => ("DrownedSlates", "nextWaters", "LDrownedSlates$Waters;", false)
  | 8 => ("DrownedSlates", "nextChalk", "LDrownedSlates$Chalk;", false)
  | 9 => ("DrownedSlates", "imaged", "LDrownedSlates$Chalk;", true)
  | 10 => ("DrownedSlates", "hasImage", "Z", false)
  | 11 => ("DrownedSlates", "lines", "LDrownedSlates$Lines;", true)
  | 12 => ("DrownedSlates", "ship", "LDrownedSlates$Ship;", true)
  | 13 => ("DrownedSlates", "fog", "LDrownedSlates$Fog;", true)
  | 14 => ("DrownedSlates", "helm", "LDrownedSlates$Helm;", true)
  | 15 => ("DrownedSlates", "desk", "LDrownedSlates$Desk;", true)
  | 16 => ("DrownedSlates", "hands", "LDrownedSlates$Hands;", true)
  | _ => ("DrownedSlates", "likeness", "LDrownedSlates$Likeness;", true)
def tyX11 : Nat → FieldType := fun k => match k with
  | 0 => .array .byte
  | 1 => .int
  | 2 => .int
  | 3 => .int
  | 4 => .int
  | 5 => .object "DrownedSlates$Waters"
  | 6 => .object "DrownedSlates$Chalk"
  | 7 => .object "DrownedSlates$Waters"
  | 8 => .object "DrownedSlates$Chalk"
  | 9 => .object "DrownedSlates$Chalk"
  | 10 => .boolean
  | 11 => .object "DrownedSlates$Lines"
  | 12 => .object "DrownedSlates$Ship"
  | 13 => .object "DrownedSlates$Fog"
  | 14 => .object "DrownedSlates$Helm"
  | 15 => .object "DrownedSlates$Desk"
  | 16 => .object "DrownedSlates$Hands"
  | _ => .object "DrownedSlates$Likeness"
abbrev wsX110 : List Cond := u_ws RX11 TX11 18
theorem nmX11 : ∀ a, a < 18 → ∀ b, b < 18 → a ≠ b → (TX11 a).2.1 ≠ (TX11 b).2.1 := by decide +kernel
theorem tyX11_ok : ∀ k, k < 18 → parseFieldDescriptor (TX11 k).2.2.1 = some (tyX11 k) := by decide +kernel
abbrev cX11_init : ByteArray := prog_1_method_1_code
def yX11_init : MethodName := ⟨RX11, "<init>", "()V"⟩
abbrev cX11_feed : ByteArray := prog_1_method_2_code
def yX11_feed : MethodName := ⟨RX11, "feed", "(IIIII)I"⟩
abbrev cX11_putNumber : ByteArray := prog_1_method_3_code
def yX11_putNumber : MethodName := ⟨RX11, "putNumber", "(I)V"⟩
abbrev cX11_sea : ByteArray := prog_1_method_4_code
def yX11_sea : MethodName := ⟨RX11, "sea", "(I)I"⟩
abbrev cX11_takeNext : ByteArray := prog_1_method_5_code
def yX11_takeNext : MethodName := ⟨RX11, "takeNext", "()V"⟩
abbrev cX11_fault : ByteArray := prog_1_method_6_code
def yX11_fault : MethodName := ⟨RX11, "fault", "()I"⟩
abbrev cX11_count : ByteArray := prog_1_method_7_code
def yX11_count : MethodName := ⟨RX11, "count", "(I)I"⟩
abbrev cX11_cell : ByteArray := prog_1_method_8_code
def yX11_cell : MethodName := ⟨RX11, "cell", "(II)I"⟩
abbrev cX11_slate : ByteArray := prog_1_method_9_code
def yX11_slate : MethodName := ⟨RX11, "slate", "(II)I"⟩
abbrev cX11_mark : ByteArray := prog_1_method_10_code
def yX11_mark : MethodName := ⟨RX11, "mark", "(III)I"⟩
abbrev cX11_write : ByteArray := prog_1_method_11_code
def yX11_write : MethodName := ⟨RX11, "write", "(III)I"⟩
abbrev cX11_rub : ByteArray := prog_1_method_12_code
def yX11_rub : MethodName := ⟨RX11, "rub", "(III)I"⟩
abbrev cX11_undo : ByteArray := prog_1_method_13_code
def yX11_undo : MethodName := ⟨RX11, "undo", "()I"⟩
abbrev cX11_voyage : ByteArray := prog_1_method_14_code
def yX11_voyage : MethodName := ⟨RX11, "voyage", "(II)I"⟩
abbrev cX11_explained : ByteArray := prog_1_method_15_code
def yX11_explained : MethodName := ⟨RX11, "explained", "(I)Z"⟩
abbrev cX11_where : ByteArray := prog_1_method_16_code
def yX11_where : MethodName := ⟨RX11, "where", "(II)J"⟩
abbrev cX11_pilot : ByteArray := prog_1_method_17_code
def yX11_pilot : MethodName := ⟨RX11, "pilot", "(II)I"⟩
abbrev cX11_sails : ByteArray := prog_1_method_18_code
def yX11_sails : MethodName := ⟨RX11, "sails", "(III)I"⟩
abbrev cX11_exam : ByteArray := prog_1_method_19_code
def yX11_exam : MethodName := ⟨RX11, "exam", "()I"⟩
abbrev cX11_study : ByteArray := prog_1_method_20_code
def yX11_study : MethodName := ⟨RX11, "study", "(I)I"⟩
abbrev cX11_studied : ByteArray := prog_1_method_21_code
def yX11_studied : MethodName := ⟨RX11, "studied", "(I)I"⟩
abbrev cX11_dive : ByteArray := prog_1_method_22_code
def yX11_dive : MethodName := ⟨RX11, "dive", "(II)I"⟩
abbrev cX11_chart : ByteArray := prog_1_method_23_code
def yX11_chart : MethodName := ⟨RX11, "chart", "(I)J"⟩
abbrev cX11_hand : ByteArray := prog_1_method_24_code
def yX11_hand : MethodName := ⟨RX11, "hand", "(II)J"⟩
abbrev cX11_copied : ByteArray := prog_1_method_25_code
def yX11_copied : MethodName := ⟨RX11, "copied", "(III)I"⟩
abbrev cX11_image : ByteArray := prog_1_method_26_code
def yX11_image : MethodName := ⟨RX11, "image", "()V"⟩
abbrev cX11_restore : ByteArray := prog_1_method_27_code
def yX11_restore : MethodName := ⟨RX11, "restore", "()Z"⟩
abbrev cX11_needSlate : ByteArray := prog_1_method_28_code
def yX11_needSlate : MethodName := ⟨RX11, "needSlate", "(I)V"⟩
abbrev cX11_needPilot : ByteArray := prog_1_method_29_code
def yX11_needPilot : MethodName := ⟨RX11, "needPilot", "(I)V"⟩
abbrev cX11_needWhat : ByteArray := prog_1_method_30_code
def yX11_needWhat : MethodName := ⟨RX11, "needWhat", "(II)V"⟩
abbrev cX11_bit : ByteArray := prog_1_method_31_code
def yX11_bit : MethodName := ⟨RX11, "bit", "(I)J"⟩
def RX12 : String := "DrownedSlatesModel"
def TX12 : u_T := fun k => match k with
  | 0 => ("DrownedSlatesModel", "thrown", "I", false)
  | 1 => ("DrownedSlatesModel", "wide", "I", false)
  | 2 => ("DrownedSlatesModel", "high", "I", false)
  | 3 => ("DrownedSlatesModel", "rocks", "I", false)
  | 4 => ("DrownedSlatesModel", "currents", "I", false)
  | 5 => ("DrownedSlatesModel", "slates", "I", false)
  | 6 => ("DrownedSlatesModel", "hands", "I", false)
  | 7 => ("DrownedSlatesModel", "pilots", "I", false)
  | 8 => ("DrownedSlatesModel", "rules", "I", false)
  | 9 => ("DrownedSlatesModel", "school", "I", false)
  | 10 => ("DrownedSlatesModel", "reach", "I", false)
  | 11 => ("DrownedSlatesModel", "goal", "I", false)
  | 12 => ("DrownedSlatesModel", "rock", "J", false)
  | 13 => ("DrownedSlatesModel", "current", "[I", true)
  | 14 => ("DrownedSlatesModel", "slate", "[I", true)
  | 15 => ("DrownedSlatesModel", "mark", "[I", true)
  | 16 => ("DrownedSlatesModel", "weight", "[I", true)
  | 17 => ("DrownedSlatesModel", "pilot", "[I", true)
  | 18 => ("DrownedSlatesModel", "ruleAt", "[I", true)
  | 19 => ("DrownedSlatesModel", "ruleWay", "[I", true)
  | 20 => ("DrownedSlatesModel", "code", "[I", true)
  | 21 => ("DrownedSlatesModel", "tape", "[I", true)
  | 22 => ("DrownedSlatesModel", "taped", "I", false)
  | 23 => ("DrownedSlatesModel", "faultKind", "I", false)
  | 24 => ("DrownedSlatesModel", "faultPlace", "I", false)
  | 25 => ("DrownedSlatesModel", "refused", "[I", true)
  | 26 => ("DrownedSlatesModel", "long1", "I", false)
  | 27 => ("DrownedSlatesModel", "next", "I", false)
  | 28 => ("DrownedSlatesModel", "sort", "I", false)
  | 29 => ("DrownedSlatesModel", "place", "I", false)
  | 30 => ("DrownedSlatesModel", "long0", "I", false)
  | 31 => ("DrownedSlatesModel", "value", "I", false)
  | 32 => ("DrownedSlatesModel", "sign", "I", false)
  | 33 => ("DrownedSlatesModel", "word", "J", false)
  | 34 => ("DrownedSlatesModel", "newWide", "I", false)
  | 35 => ("DrownedSlatesModel", "newHigh", "I", false)
  | 36 => ("DrownedSlatesModel", "newRocks", "I", false)
  | 37 => ("DrownedSlatesModel", "newCurrents", "I", false)
  | 38 => ("DrownedSlatesModel", "newSlates", "I", false)
  | 39 => ("DrownedSlatesModel", "newHands", "I", false)
  | 40 => ("DrownedSlatesModel", "newPilots", "I", false)
  | 41 => ("DrownedSlatesModel", "newRules", "I", false)
  | 42 => ("DrownedSlatesModel", "newSchool", "I", false)
  | 43 => ("DrownedSlatesModel", "newReach", "I", false)
  | 44 => ("DrownedSlatesModel", "newGoal", "I", false)
  | 45 => ("DrownedSlatesModel", "top", "I", false)
  | 46 => ("DrownedSlatesModel", "waiting", "I", false)
  | 47 => ("DrownedSlatesModel", "depth", "I", false)
  | 48 => ("DrownedSlatesModel", "hasSchool", "Z", false)
  | 49 => ("DrownedSlatesModel", "hasGoal", "Z", false)
  | 50 => ("DrownedSlatesModel", "isFirst", "Z", false)
  | 51 => ("DrownedSlatesModel", "newRock", "J", false)
  | 52 => ("DrownedSlatesModel", "newCurrent", "[I", true)
  | 53 => ("DrownedSlatesModel", "newSlate", "[I", true)
  | 54 => ("DrownedSlatesModel", "newMark", "[I", true)
  | 55 => ("DrownedSlatesModel", "newWeight", "[I", true)
  | 56 => ("DrownedSlatesModel", "newPilot", "[I", true)
  | 57 => ("DrownedSlatesModel", "newRuleAt", "[I", true)
  | 58 => ("DrownedSlatesModel", "newRuleWay", "[I", true)
  | 59 => ("DrownedSlatesModel", "readCode", "[I", true)
  | 60 => ("DrownedSlatesModel", "waits", "[I", true)
  | 61 => ("DrownedSlatesModel", "tested", "[Z", true)
  | 62 => ("DrownedSlatesModel", "acts", "I", false)
  | 63 => ("DrownedSlatesModel", "act", "[I", true)
  | 64 => ("DrownedSlatesModel", "at", "I", false)
  | 65 => ("DrownedSlatesModel", "seen", "J", false)
  | 66 => ("DrownedSlatesModel", "end", "I", false)
  | 67 => ("DrownedSlatesModel", "endMark", "I", false)
  | 68 => ("DrownedSlatesModel", "endStep", "I", false)
  | 69 => ("DrownedSlatesModel", "endHour", "I", false)
  | 70 => ("DrownedSlatesModel", "markAt", "I", false)
  | 71 => ("DrownedSlatesModel", "markHour", "I", false)
  | 72 => ("DrownedSlatesModel", "may", "[J", true)
  | 73 => ("DrownedSlatesModel", "mayThen", "[J", true)
  | 74 => ("DrownedSlatesModel", "moved", "[J", true)
  | 75 => ("DrownedSlatesModel", "pile", "[I", true)
  | 76 => ("DrownedSlatesModel", "row", "[I", true)
  | 77 => ("DrownedSlatesModel", "ends", "[I", true)
  | 78 => ("DrownedSlatesModel", "study", "[I", true)
  | 79 => ("DrownedSlatesModel", "studyLong", "I", false)
  | 80 => ("DrownedSlatesModel", "hasImage", "Z", false)
  | 81 => ("DrownedSlatesModel", "imageActs", "I", false)
  | 82 => ("DrownedSlatesModel", "imageSlate", "[I", true)
  | 83 => ("DrownedSlatesModel", "imageMark", "[I", true)
  | _ => ("DrownedSlatesModel", "imageAct", "[I", true)
def tyX12 : Nat → FieldType := fun k => match k with
  | 0 => .int
  | 1 => .int
  | 2 => .int
  | 3 => .int
  | 4 => .int
  | 5 => .int
  | 6 => .int
  | 7 => .int
  | 8 => .int
  | 9 => .int
  | 10 => .int
  | 11 => .int
  | 12 => .long
  | 13 => .array .int
  | 14 => .array .int
  | 15 => .array .int
  | 16 => .array .int
  | 17 => .array .int
  | 18 => .array .int
  | 19 => .array .int
  | 20 => .array .int
  | 21 => .array .int
  | 22 => .int
  | 23 => .int
  | 24 => .int
  | 25 => .array .int
  | 26 => .int
  | 27 => .int
  | 28 => .int
  | 29 => .int
  | 30 => .int
  | 31 => .int
  | 32 => .int
  | 33 => .long
  | 34 => .int
  | 35 => .int
  | 36 => .int
  | 37 => .int
  | 38 => .int
  | 39 => .int
  | 40 => .int
  | 41 => .int
  | 42 => .int
  | 43 => .int
  | 44 => .int
  | 45 => .int
  | 46 => .int
  | 47 => .int
  | 48 => .boolean
  | 49 => .boolean
  | 50 => .boolean
  | 51 => .long
  | 52 => .array .int
  | 53 => .array .int
  | 54 => .array .int
  | 55 => .array .int
  | 56 => .array .int
  | 57 => .array .int
  | 58 => .array .int
  | 59 => .array .int
  | 60 => .array .int
  | 61 => .array .boolean
  | 62 => .int
  | 63 => .array .int
  | 64 => .int
  | 65 => .long
  | 66 => .int
  | 67 => .int
  | 68 => .int
  | 69 => .int
  | 70 => .int
  | 71 => .int
  | 72 => .array .long
  | 73 => .array .long
  | 74 => .array .long
  | 75 => .array .int
  | 76 => .array .int
  | 77 => .array .int
  | 78 => .array .int
  | 79 => .int
  | 80 => .boolean
  | 81 => .int
  | 82 => .array .int
  | 83 => .array .int
  | _ => .array .int
abbrev wsX120 : List Cond := u_ws RX12 TX12 85
theorem nmX12 : ∀ a, a < 85 → ∀ b, b < 85 → a ≠ b → (TX12 a).2.1 ≠ (TX12 b).2.1 := by decide +kernel
theorem tyX12_ok : ∀ k, k < 85 → parseFieldDescriptor (TX12 k).2.2.1 = some (tyX12 k) := by decide +kernel
abbrev cX12_init : ByteArray := prog_14_method_1_code
def yX12_init : MethodName := ⟨RX12, "<init>", "()V"⟩
abbrev cX12_right : ByteArray := prog_14_method_3_code
def yX12_right : MethodName := ⟨RX12, "right", "(ZI)Z"⟩
abbrev cX12_within : ByteArray := prog_14_method_4_code
def yX12_within : MethodName := ⟨RX12, "within", "(III)Z"⟩
abbrev cX12_off : ByteArray := prog_14_method_5_code
def yX12_off : MethodName := ⟨RX12, "off", "(II)I"⟩
abbrev cX12_bits : ByteArray := prog_14_method_6_code
def yX12_bits : MethodName := ⟨RX12, "bits", "(I)I"⟩
abbrev cX12_copies : ByteArray := prog_14_method_7_code
def yX12_copies : MethodName := ⟨RX12, "copies", "([I[I)V"⟩
abbrev cX12_feed : ByteArray := prog_14_method_8_code
def yX12_feed : MethodName := ⟨RX12, "feed", "(IIIII)I"⟩
abbrev cX12_lays : ByteArray := prog_14_method_9_code
def yX12_lays : MethodName := ⟨RX12, "lays", "(I)V"⟩
abbrev cX12_byteAt : ByteArray := prog_14_method_10_code
def yX12_byteAt : MethodName := ⟨RX12, "byteAt", "(I)I"⟩
abbrev cX12_isLetter : ByteArray := prog_14_method_11_code
def yX12_isLetter : MethodName := ⟨RX12, "isLetter", "(I)Z"⟩
abbrev cX12_isDigit : ByteArray := prog_14_method_12_code
def yX12_isDigit : MethodName := ⟨RX12, "isDigit", "(I)Z"⟩
abbrev cX12_goes : ByteArray := prog_14_method_13_code
def yX12_goes : MethodName := ⟨RX12, "goes", "()V"⟩
abbrev cX12_spelled : ByteArray := prog_14_method_14_code
def yX12_spelled : MethodName := ⟨RX12, "spelled", "(IIIIIII)J"⟩
abbrev cX12_letters : ByteArray := prog_14_method_15_code
def yX12_letters : MethodName := ⟨RX12, "letters", "(I)J"⟩
abbrev cX12_knownWord : ByteArray := prog_14_method_16_code
def yX12_knownWord : MethodName := ⟨RX12, "knownWord", "()I"⟩
abbrev cX12_wrong : ByteArray := prog_14_method_17_code
def yX12_wrong : MethodName := ⟨RX12, "wrong", "(I)V"⟩
abbrev cX12_isGood : ByteArray := prog_14_method_18_code
def yX12_isGood : MethodName := ⟨RX12, "isGood", "()Z"⟩
abbrev cX12_isSign : ByteArray := prog_14_method_19_code
def yX12_isSign : MethodName := ⟨RX12, "isSign", "(I)Z"⟩
abbrev cX12_need : ByteArray := prog_14_method_20_code
def yX12_need : MethodName := ⟨RX12, "need", "(Z)V"⟩
abbrev cX12_numberHere : ByteArray := prog_14_method_21_code
def yX12_numberHere : MethodName := ⟨RX12, "numberHere", "(II)Z"⟩
abbrev cX12_number : ByteArray := prog_14_method_22_code
def yX12_number : MethodName := ⟨RX12, "number", "(II)I"⟩
abbrev cX12_isWay : ByteArray := prog_14_method_23_code
def yX12_isWay : MethodName := ⟨RX12, "isWay", "()Z"⟩
abbrev cX12_way : ByteArray := prog_14_method_24_code
def yX12_way : MethodName := ⟨RX12, "way", "()I"⟩
abbrev cX12_puts : ByteArray := prog_14_method_25_code
def yX12_puts : MethodName := ⟨RX12, "puts", "(I)V"⟩
abbrev cX12_isOpen : ByteArray := prog_14_method_26_code
def yX12_isOpen : MethodName := ⟨RX12, "isOpen", "(I)Z"⟩
abbrev cX12_strength : ByteArray := prog_14_method_27_code
def yX12_strength : MethodName := ⟨RX12, "strength", "(I)I"⟩
abbrev cX12_drops : ByteArray := prog_14_method_28_code
def yX12_drops : MethodName := ⟨RX12, "drops", "(I)V"⟩
abbrev cX12_waitsFor : ByteArray := prog_14_method_29_code
def yX12_waitsFor : MethodName := ⟨RX12, "waitsFor", "(I)V"⟩
abbrev cX12_part : ByteArray := prog_14_method_30_code
def yX12_part : MethodName := ⟨RX12, "part", "()V"⟩
abbrev cX12_deeper : ByteArray := prog_14_method_31_code
def yX12_deeper : MethodName := ⟨RX12, "deeper", "()V"⟩
abbrev cX12_operand : ByteArray := prog_14_method_32_code
def yX12_operand : MethodName := ⟨RX12, "operand", "(Z)V"⟩
abbrev cX12_isOpened : ByteArray := prog_14_method_33_code
def yX12_isOpened : MethodName := ⟨RX12, "isOpened", "()Z"⟩
abbrev cX12_closes : ByteArray := prog_14_method_34_code
def yX12_closes : MethodName := ⟨RX12, "closes", "()V"⟩
abbrev cX12_expression : ByteArray := prog_14_method_35_code
def yX12_expression : MethodName := ⟨RX12, "expression", "()V"⟩
abbrev cX12_cellHere : ByteArray := prog_14_method_36_code
def yX12_cellHere : MethodName := ⟨RX12, "cellHere", "()I"⟩
abbrev cX12_cellRead : ByteArray := prog_14_method_37_code
def yX12_cellRead : MethodName := ⟨RX12, "cellRead", "()I"⟩
abbrev cX12_readsSlate : ByteArray := prog_14_method_38_code
def yX12_readsSlate : MethodName := ⟨RX12, "readsSlate", "()V"⟩
abbrev cX12_readsHand : ByteArray := prog_14_method_39_code
def yX12_readsHand : MethodName := ⟨RX12, "readsHand", "()V"⟩
abbrev cX12_readsPilot : ByteArray := prog_14_method_40_code
def yX12_readsPilot : MethodName := ⟨RX12, "readsPilot", "()V"⟩
abbrev cX12_line : ByteArray := prog_14_method_41_code
def yX12_line : MethodName := ⟨RX12, "line", "()V"⟩
abbrev cX12_sea : ByteArray := prog_14_method_42_code
def yX12_sea : MethodName := ⟨RX12, "sea", "(I)I"⟩
abbrev cX12_fault : ByteArray := prog_14_method_43_code
def yX12_fault : MethodName := ⟨RX12, "fault", "()I"⟩
abbrev cX12_count : ByteArray := prog_14_method_44_code
def yX12_count : MethodName := ⟨RX12, "count", "(I)I"⟩
abbrev cX12_isSlate : ByteArray := prog_14_method_45_code
def yX12_isSlate : MethodName := ⟨RX12, "isSlate", "(I)Z"⟩
abbrev cX12_isPilot : ByteArray := prog_14_method_46_code
def yX12_isPilot : MethodName := ⟨RX12, "isPilot", "(I)Z"⟩
abbrev cX12_isWhat : ByteArray := prog_14_method_47_code
def yX12_isWhat : MethodName := ⟨RX12, "isWhat", "(II)Z"⟩
abbrev cX12_cell : ByteArray := prog_14_method_48_code
def yX12_cell : MethodName := ⟨RX12, "cell", "(II)I"⟩
abbrev cX12_marks : ByteArray := prog_14_method_49_code
def yX12_marks : MethodName := ⟨RX12, "marks", "(I)I"⟩
abbrev cX12_slate : ByteArray := prog_14_method_50_code
def yX12_slate : MethodName := ⟨RX12, "slate", "(II)I"⟩
abbrev cX12_mark : ByteArray := prog_14_method_51_code
def yX12_mark : MethodName := ⟨RX12, "mark", "(III)I"⟩
abbrev cX12_keeps : ByteArray := prog_14_method_52_code
def yX12_keeps : MethodName := ⟨RX12, "keeps", "(II)V"⟩
abbrev cX12_refuses : ByteArray := prog_14_method_53_code
def yX12_refuses : MethodName := ⟨RX12, "refuses", "()I"⟩
abbrev cX12_write : ByteArray := prog_14_method_54_code
def yX12_write : MethodName := ⟨RX12, "write", "(III)I"⟩
abbrev cX12_rub : ByteArray := prog_14_method_55_code
def yX12_rub : MethodName := ⟨RX12, "rub", "(III)I"⟩
abbrev cX12_undo : ByteArray := prog_14_method_56_code
def yX12_undo : MethodName := ⟨RX12, "undo", "()I"⟩
abbrev cX12_beside : ByteArray := prog_14_method_57_code
def yX12_beside : MethodName := ⟨RX12, "beside", "(II)I"⟩
abbrev cX12_isRock : ByteArray := prog_14_method_58_code
def yX12_isRock : MethodName := ⟨RX12, "isRock", "(I)Z"⟩
abbrev cX12_steps : ByteArray := prog_14_method_59_code
def yX12_steps : MethodName := ⟨RX12, "steps", "(IIZ)I"⟩
abbrev cX12_sailsOf : ByteArray := prog_14_method_60_code
def yX12_sailsOf : MethodName := ⟨RX12, "sailsOf", "(I)V"⟩
abbrev cX12_voyage : ByteArray := prog_14_method_61_code
def yX12_voyage : MethodName := ⟨RX12, "voyage", "(II)I"⟩
abbrev cX12_explained : ByteArray := prog_14_method_62_code
def yX12_explained : MethodName := ⟨RX12, "explained", "(I)Z"⟩
abbrev cX12_stepsAll : ByteArray := prog_14_method_63_code
def yX12_stepsAll : MethodName := ⟨RX12, "stepsAll", "(II)V"⟩
abbrev cX12_where : ByteArray := prog_14_method_64_code
def yX12_where : MethodName := ⟨RX12, "where", "(II)J"⟩
abbrev cX12_pilot : ByteArray := prog_14_method_65_code
def yX12_pilot : MethodName := ⟨RX12, "pilot", "(II)I"⟩
abbrev cX12_knownBy : ByteArray := prog_14_method_66_code
def yX12_knownBy : MethodName := ⟨RX12, "knownBy", "(I)J"⟩
abbrev cX12_valueOf : ByteArray := prog_14_method_67_code
def yX12_valueOf : MethodName := ⟨RX12, "valueOf", "(IIIJ)I"⟩
abbrev cX12_works : ByteArray := prog_14_method_68_code
def yX12_works : MethodName := ⟨RX12, "works", "(III)I"⟩
abbrev cX12_reckons : ByteArray := prog_14_method_69_code
def yX12_reckons : MethodName := ⟨RX12, "reckons", "(IIIJ)I"⟩
abbrev cX12_wayOf : ByteArray := prog_14_method_70_code
def yX12_wayOf : MethodName := ⟨RX12, "wayOf", "(IIJ)I"⟩
abbrev cX12_pilots : ByteArray := prog_14_method_71_code
def yX12_pilots : MethodName := ⟨RX12, "pilots", "(II)V"⟩
abbrev cX12_sails : ByteArray := prog_14_method_72_code
def yX12_sails : MethodName := ⟨RX12, "sails", "(III)I"⟩
abbrev cX12_exam : ByteArray := prog_14_method_73_code
def yX12_exam : MethodName := ⟨RX12, "exam", "()I"⟩
abbrev cX12_isNear : ByteArray := prog_14_method_74_code
def yX12_isNear : MethodName := ⟨RX12, "isNear", "(III)Z"⟩
abbrev cX12_isRead : ByteArray := prog_14_method_75_code
def yX12_isRead : MethodName := ⟨RX12, "isRead", "(I)Z"⟩
abbrev cX12_studies : ByteArray := prog_14_method_76_code
def yX12_studies : MethodName := ⟨RX12, "studies", "(II)Z"⟩
abbrev cX12_study : ByteArray := prog_14_method_77_code
def yX12_study : MethodName := ⟨RX12, "study", "(I)I"⟩
abbrev cX12_studied : ByteArray := prog_14_method_78_code
def yX12_studied : MethodName := ⟨RX12, "studied", "(I)I"⟩
abbrev cX12_dive : ByteArray := prog_14_method_79_code
def yX12_dive : MethodName := ⟨RX12, "dive", "(II)I"⟩
abbrev cX12_chart : ByteArray := prog_14_method_80_code
def yX12_chart : MethodName := ⟨RX12, "chart", "(I)J"⟩
abbrev cX12_product : ByteArray := prog_14_method_81_code
def yX12_product : MethodName := ⟨RX12, "product", "(IIII)J"⟩
abbrev cX12_hand : ByteArray := prog_14_method_82_code
def yX12_hand : MethodName := ⟨RX12, "hand", "(II)J"⟩
abbrev cX12_alike : ByteArray := prog_14_method_83_code
def yX12_alike : MethodName := ⟨RX12, "alike", "(IIII)I"⟩
abbrev cX12_copied : ByteArray := prog_14_method_84_code
def yX12_copied : MethodName := ⟨RX12, "copied", "(III)I"⟩
abbrev cX12_image : ByteArray := prog_14_method_85_code
def yX12_image : MethodName := ⟨RX12, "image", "()V"⟩
abbrev cX12_restore : ByteArray := prog_14_method_86_code
def yX12_restore : MethodName := ⟨RX12, "restore", "()Z"⟩
def RJx145de : String := "java/io/Serializable"
def TJx145de : u_T := fun k => match k with
  | _ => ("", "", "", false)
def tyJx145de : Nat → FieldType := fun k => match k with
  | _ => .int
abbrev wsJx145de0 : List Cond := u_ws RJx145de TJx145de 0
theorem nmJx145de : ∀ a, a < 0 → ∀ b, b < 0 → a ≠ b → (TJx145de a).2.1 ≠ (TJx145de b).2.1 := by decide +kernel
theorem tyJx145de_ok : ∀ k, k < 0 → parseFieldDescriptor (TJx145de k).2.2.1 = some (tyJx145de k) := by decide +kernel
def RJx9f9b0 : String := "java/lang/CharSequence"
def TJx9f9b0 : u_T := fun k => match k with
  | _ => ("", "", "", false)
def tyJx9f9b0 : Nat → FieldType := fun k => match k with
  | _ => .int
abbrev wsJx9f9b00 : List Cond := u_ws RJx9f9b0 TJx9f9b0 0
theorem nmJx9f9b0 : ∀ a, a < 0 → ∀ b, b < 0 → a ≠ b → (TJx9f9b0 a).2.1 ≠ (TJx9f9b0 b).2.1 := by decide +kernel
theorem tyJx9f9b0_ok : ∀ k, k < 0 → parseFieldDescriptor (TJx9f9b0 k).2.2.1 = some (tyJx9f9b0 k) := by decide +kernel
def RJxb160c : String := "java/lang/Comparable"
def TJxb160c : u_T := fun k => match k with
  | _ => ("", "", "", false)
def tyJxb160c : Nat → FieldType := fun k => match k with
  | _ => .int
abbrev wsJxb160c0 : List Cond := u_ws RJxb160c TJxb160c 0
theorem nmJxb160c : ∀ a, a < 0 → ∀ b, b < 0 → a ≠ b → (TJxb160c a).2.1 ≠ (TJxb160c b).2.1 := by decide +kernel
theorem tyJxb160c_ok : ∀ k, k < 0 → parseFieldDescriptor (TJxb160c k).2.2.1 = some (tyJxb160c k) := by decide +kernel
def RJ6 : String := "java/lang/Integer"
def TJ6 : u_T := fun k => match k with
  | _ => ("", "", "", false)
def tyJ6 : Nat → FieldType := fun k => match k with
  | _ => .int
abbrev wsJ60 : List Cond := u_ws RJ6 TJ6 0
theorem nmJ6 : ∀ a, a < 0 → ∀ b, b < 0 → a ≠ b → (TJ6 a).2.1 ≠ (TJ6 b).2.1 := by decide +kernel
theorem tyJ6_ok : ∀ k, k < 0 → parseFieldDescriptor (TJ6 k).2.2.1 = some (tyJ6 k) := by decide +kernel
abbrev cJ6_numberOfTrailingZeros_0f7a4 : ByteArray := prog_20_method_48_code
def yJ6_numberOfTrailingZeros_0f7a4 : MethodName := ⟨RJ6, "numberOfTrailingZeros", "(I)I"⟩
abbrev cJ6_bitCount_0f7a4 : ByteArray := prog_20_method_49_code
def yJ6_bitCount_0f7a4 : MethodName := ⟨RJ6, "bitCount", "(I)I"⟩
def RJ13 : String := "java/lang/Long"
def TJ13 : u_T := fun k => match k with
  | _ => ("", "", "", false)
def tyJ13 : Nat → FieldType := fun k => match k with
  | _ => .int
abbrev wsJ130 : List Cond := u_ws RJ13 TJ13 0
theorem nmJ13 : ∀ a, a < 0 → ∀ b, b < 0 → a ≠ b → (TJ13 a).2.1 ≠ (TJ13 b).2.1 := by decide +kernel
theorem tyJ13_ok : ∀ k, k < 0 → parseFieldDescriptor (TJ13 k).2.2.1 = some (tyJ13 k) := by decide +kernel
abbrev cJ13_bitCount_95d88 : ByteArray := prog_21_method_50_code
def yJ13_bitCount_95d88 : MethodName := ⟨RJ13, "bitCount", "(J)I"⟩
def RJ9 : String := "java/lang/Math"
def TJ9 : u_T := fun k => match k with
  | _ => ("", "", "", false)
def tyJ9 : Nat → FieldType := fun k => match k with
  | _ => .int
abbrev wsJ90 : List Cond := u_ws RJ9 TJ9 0
theorem nmJ9 : ∀ a, a < 0 → ∀ b, b < 0 → a ≠ b → (TJ9 a).2.1 ≠ (TJ9 b).2.1 := by decide +kernel
theorem tyJ9_ok : ∀ k, k < 0 → parseFieldDescriptor (TJ9 k).2.2.1 = some (tyJ9 k) := by decide +kernel
abbrev cJ9_abs_0f7a4 : ByteArray := prog_22_method_59_code
def yJ9_abs_0f7a4 : MethodName := ⟨RJ9, "abs", "(I)I"⟩
abbrev cJ9_max_7cf53 : ByteArray := prog_22_method_65_code
def yJ9_max_7cf53 : MethodName := ⟨RJ9, "max", "(II)I"⟩
abbrev cJ9_min_7cf53 : ByteArray := prog_22_method_69_code
def yJ9_min_7cf53 : MethodName := ⟨RJ9, "min", "(II)I"⟩
def RJ0 : String := "java/lang/String"
def TJ0 : u_T := fun k => match k with
  | _ => ("", "", "", false)
def tyJ0 : Nat → FieldType := fun k => match k with
  | _ => .int
abbrev wsJ00 : List Cond := u_ws RJ0 TJ0 0
theorem nmJ0 : ∀ a, a < 0 → ∀ b, b < 0 → a ≠ b → (TJ0 a).2.1 ≠ (TJ0 b).2.1 := by decide +kernel
theorem tyJ0_ok : ∀ k, k < 0 → parseFieldDescriptor (TJ0 k).2.2.1 = some (tyJ0 k) := by decide +kernel
abbrev cJ0_length_8abf5 : ByteArray := prog_24_method_54_code
def yJ0_length_8abf5 : MethodName := ⟨RJ0, "length", "()I"⟩
abbrev cJ0_charAt_5068e : ByteArray := prog_24_method_56_code
def yJ0_charAt_5068e : MethodName := ⟨RJ0, "charAt", "(I)C"⟩
abbrev cJ0_coder_7d493 : ByteArray := prog_24_method_152_code
def yJ0_coder_7d493 : MethodName := ⟨RJ0, "coder", "()B"⟩
abbrev cJ0_isLatin1_aae02 : ByteArray := prog_24_method_154_code
def yJ0_isLatin1_aae02 : MethodName := ⟨RJ0, "isLatin1", "()Z"⟩
abbrev cJ0_checkIndex_df160 : ByteArray := prog_24_method_155_code
def yJ0_checkIndex_df160 : MethodName := ⟨RJ0, "checkIndex", "(II)V"⟩
def RJ1 : String := "java/lang/StringLatin1"
def TJ1 : u_T := fun k => match k with
  | _ => ("", "", "", false)
def tyJ1 : Nat → FieldType := fun k => match k with
  | _ => .int
abbrev wsJ10 : List Cond := u_ws RJ1 TJ1 0
theorem nmJ1 : ∀ a, a < 0 → ∀ b, b < 0 → a ≠ b → (TJ1 a).2.1 ≠ (TJ1 b).2.1 := by decide +kernel
theorem tyJ1_ok : ∀ k, k < 0 → parseFieldDescriptor (TJ1 k).2.2.1 = some (tyJ1 k) := by decide +kernel
abbrev cJ1_charAt_3b067 : ByteArray := prog_25_method_2_code
def yJ1_charAt_3b067 : MethodName := ⟨RJ1, "charAt", "([BI)C"⟩
def RJ2 : String := "java/lang/StringUTF16"
def TJ2 : u_T := fun k => match k with
  | _ => ("", "", "", false)
def tyJ2 : Nat → FieldType := fun k => match k with
  | _ => .int
abbrev wsJ20 : List Cond := u_ws RJ2 TJ2 0
theorem nmJ2 : ∀ a, a < 0 → ∀ b, b < 0 → a ≠ b → (TJ2 a).2.1 ≠ (TJ2 b).2.1 := by decide +kernel
theorem tyJ2_ok : ∀ k, k < 0 → parseFieldDescriptor (TJ2 k).2.2.1 = some (tyJ2 k) := by decide +kernel
abbrev cJ2_getChar_3b067 : ByteArray := prog_26_method_5_code
def yJ2_getChar_3b067 : MethodName := ⟨RJ2, "getChar", "([BI)C"⟩
abbrev cJ2_length_9d52b : ByteArray := prog_26_method_6_code
def yJ2_length_9d52b : MethodName := ⟨RJ2, "length", "([B)I"⟩
abbrev cJ2_charAt_3b067 : ByteArray := prog_26_method_83_code
def yJ2_charAt_3b067 : MethodName := ⟨RJ2, "charAt", "([BI)C"⟩
abbrev cJ2_checkIndex_2214a : ByteArray := prog_26_method_91_code
def yJ2_checkIndex_2214a : MethodName := ⟨RJ2, "checkIndex", "(I[B)V"⟩
def RJ10 : String := "java/lang/System"
def TJ10 : u_T := fun k => match k with
  | _ => ("", "", "", false)
def tyJ10 : Nat → FieldType := fun k => match k with
  | _ => .int
abbrev wsJ100 : List Cond := u_ws RJ10 TJ10 0
theorem nmJ10 : ∀ a, a < 0 → ∀ b, b < 0 → a ≠ b → (TJ10 a).2.1 ≠ (TJ10 b).2.1 := by decide +kernel
theorem tyJ10_ok : ∀ k, k < 0 → parseFieldDescriptor (TJ10 k).2.2.1 = some (tyJ10 k) := by decide +kernel
def RJxfd54e : String := "java/lang/constant/Constable"
def TJxfd54e : u_T := fun k => match k with
  | _ => ("", "", "", false)
def tyJxfd54e : Nat → FieldType := fun k => match k with
  | _ => .int
abbrev wsJxfd54e0 : List Cond := u_ws RJxfd54e TJxfd54e 0
theorem nmJxfd54e : ∀ a, a < 0 → ∀ b, b < 0 → a ≠ b → (TJxfd54e a).2.1 ≠ (TJxfd54e b).2.1 := by decide +kernel
theorem tyJxfd54e_ok : ∀ k, k < 0 → parseFieldDescriptor (TJxfd54e k).2.2.1 = some (tyJxfd54e k) := by decide +kernel
def RJx3cf43 : String := "java/lang/constant/ConstantDesc"
def TJx3cf43 : u_T := fun k => match k with
  | _ => ("", "", "", false)
def tyJx3cf43 : Nat → FieldType := fun k => match k with
  | _ => .int
abbrev wsJx3cf430 : List Cond := u_ws RJx3cf43 TJx3cf43 0
theorem nmJx3cf43 : ∀ a, a < 0 → ∀ b, b < 0 → a ≠ b → (TJx3cf43 a).2.1 ≠ (TJx3cf43 b).2.1 := by decide +kernel
theorem tyJx3cf43_ok : ∀ k, k < 0 → parseFieldDescriptor (TJx3cf43 k).2.2.1 = some (tyJx3cf43 k) := by decide +kernel
def RJ7 : String := "java/util/Arrays"
def TJ7 : u_T := fun k => match k with
  | _ => ("", "", "", false)
def tyJ7 : Nat → FieldType := fun k => match k with
  | _ => .int
abbrev wsJ70 : List Cond := u_ws RJ7 TJ7 0
theorem nmJ7 : ∀ a, a < 0 → ∀ b, b < 0 → a ≠ b → (TJ7 a).2.1 ≠ (TJ7 b).2.1 := by decide +kernel
theorem tyJ7_ok : ∀ k, k < 0 → parseFieldDescriptor (TJ7 k).2.2.1 = some (tyJ7 k) := by decide +kernel
abbrev cJ7_fill_d0a16 : ByteArray := prog_31_method_101_code
def yJ7_fill_d0a16 : MethodName := ⟨RJ7, "fill", "([JJ)V"⟩
abbrev cJ7_fill_53178 : ByteArray := prog_31_method_103_code
def yJ7_fill_53178 : MethodName := ⟨RJ7, "fill", "([II)V"⟩
def RJ3 : String := "jdk/internal/util/Preconditions"
def TJ3 : u_T := fun k => match k with
  | _ => ("", "", "", false)
def tyJ3 : Nat → FieldType := fun k => match k with
  | _ => .int
abbrev wsJ30 : List Cond := u_ws RJ3 TJ3 0
theorem nmJ3 : ∀ a, a < 0 → ∀ b, b < 0 → a ≠ b → (TJ3 a).2.1 ≠ (TJ3 b).2.1 := by decide +kernel
theorem tyJ3_ok : ∀ k, k < 0 → parseFieldDescriptor (TJ3 k).2.2.1 = some (tyJ3 k) := by decide +kernel
abbrev cJ3_checkIndex_8e157 : ByteArray := prog_33_method_11_code
def yJ3_checkIndex_8e157 : MethodName := ⟨RJ3, "checkIndex", "(IILjava/util/function/BiFunction;)I"⟩
def RL : String := "DrownedSlatesLaw"
abbrev cL_sea : ByteArray := method_3_code
def yL_sea : MethodName := ⟨RL, "sea", "(LDrownedSlates;I[J)I"⟩
abbrev cL_count : ByteArray := method_4_code
def yL_count : MethodName := ⟨RL, "count", "(LDrownedSlates;I[J)I"⟩
abbrev cL_cell : ByteArray := method_5_code
def yL_cell : MethodName := ⟨RL, "cell", "(LDrownedSlates;II[J)I"⟩
abbrev cL_slate : ByteArray := method_6_code
def yL_slate : MethodName := ⟨RL, "slate", "(LDrownedSlates;II[J)I"⟩
abbrev cL_mark : ByteArray := method_7_code
def yL_mark : MethodName := ⟨RL, "mark", "(LDrownedSlates;III[J)I"⟩
abbrev cL_write : ByteArray := method_8_code
def yL_write : MethodName := ⟨RL, "write", "(LDrownedSlates;III[J)I"⟩
abbrev cL_rub : ByteArray := method_9_code
def yL_rub : MethodName := ⟨RL, "rub", "(LDrownedSlates;III[J)I"⟩
abbrev cL_voyage : ByteArray := method_10_code
def yL_voyage : MethodName := ⟨RL, "voyage", "(LDrownedSlates;II[J)I"⟩
abbrev cL_explained : ByteArray := method_11_code
def yL_explained : MethodName := ⟨RL, "explained", "(LDrownedSlates;I[J)I"⟩
abbrev cL_where : ByteArray := method_12_code
def yL_where : MethodName := ⟨RL, "where", "(LDrownedSlates;II[J)I"⟩
abbrev cL_pilot : ByteArray := method_13_code
def yL_pilot : MethodName := ⟨RL, "pilot", "(LDrownedSlates;II[J)I"⟩
abbrev cL_sails : ByteArray := method_14_code
def yL_sails : MethodName := ⟨RL, "sails", "(LDrownedSlates;III[J)I"⟩
abbrev cL_study : ByteArray := method_15_code
def yL_study : MethodName := ⟨RL, "study", "(LDrownedSlates;I[J)I"⟩
abbrev cL_studied : ByteArray := method_16_code
def yL_studied : MethodName := ⟨RL, "studied", "(LDrownedSlates;I[J)I"⟩
abbrev cL_dive : ByteArray := method_17_code
def yL_dive : MethodName := ⟨RL, "dive", "(LDrownedSlates;II[J)I"⟩
abbrev cL_chart : ByteArray := method_18_code
def yL_chart : MethodName := ⟨RL, "chart", "(LDrownedSlates;I[J)I"⟩
abbrev cL_hand : ByteArray := method_19_code
def yL_hand : MethodName := ⟨RL, "hand", "(LDrownedSlates;II[J)I"⟩
abbrev cL_copied : ByteArray := method_20_code
def yL_copied : MethodName := ⟨RL, "copied", "(LDrownedSlates;III[J)I"⟩
abbrev cL_law : ByteArray := code
def yL_law : MethodName := ⟨RL, "law", "([I)Z"⟩
abbrev vwCl : List vw_C := [(RX0, TX0, 10), (RX1, TX1, 12), (RX2, TX2, 3), (RX3, TX3, 2), (RX4, TX4, 4), (RX5, TX5, 4), (RX6, TX6, 3), (RX7, TX7, 6), (RX8, TX8, 8), (RX9, TX9, 6), (RX10, TX10, 20), (RX11, TX11, 18), (RX12, TX12, 85)]
end
section
/-! ===== values that are known in part: numbers as ranges or as the script's own; objects by their places ===== -/
abbrev za_I : Type := Nat × Int × Int
abbrev za_V : Type := za_I ⊕ (Option Int64 ⊕ Option Nat)
abbrev za_O : Type := (Nat × List za_V) ⊕ ((Nat × Nat × za_I × List (Nat × za_I)) ⊕ (Nat × Option Int64 × List (Nat × Option Int64)))
abbrev za_R : Type := List (Int × Int)
/-- pc, locals, stack, heap, ranges, cells, slots -/
abbrev za_S : Type := Nat × List (Nat × za_V) × List za_V × List za_O × za_R × Nat × Nat
/-- an end: what it returns, or the number of the exception; heap, ranges -/
abbrev za_X : Type := (Option za_V ⊕ Nat) × List za_O × za_R
def za_F2 {α β : Type} (P : α → β → Prop) : List α → List β → Prop
  | [], [] => True
  | a :: l, b :: m => P a b ∧ za_F2 P l m
  | _, _ => False
theorem za_F2_mono {α β : Type} {P Q : α → β → Prop} (h : ∀ a b, P a b → Q a b) : ∀ {l : List α} {m : List β}, za_F2 P l m → za_F2 Q l m
  | [], [], _ => trivial
  | _ :: _, _ :: _, hp => ⟨h _ _ hp.1, za_F2_mono h hp.2⟩
  | [], _ :: _, hp => hp.elim
  | _ :: _, [], hp => hp.elim
theorem za_F2_len {α β : Type} {P : α → β → Prop} : ∀ {l : List α} {m : List β}, za_F2 P l m → l.length = m.length
  | [], [], _ => rfl
  | _ :: _, _ :: _, hp => congrArg (· + 1) (za_F2_len hp.2)
  | [], _ :: _, hp => hp.elim
  | _ :: _, [], hp => hp.elim
theorem za_F2_get {α β : Type} {P : α → β → Prop} : ∀ {l : List α} {m : List β}, za_F2 P l m → ∀ {k : Nat} {a : α}, l[k]? = some a → ∃ b, m[k]? = some b ∧ P a b
  | [], [], _, k, a, h => by simp at h
  | x :: l, y :: m, hp, 0, a, h => by
    simp only [List.getElem?_cons_zero, Option.some.injEq] at h
    subst h
    exact ⟨y, rfl, hp.1⟩
  | x :: l, y :: m, hp, k + 1, a, h => by
    simp only [List.getElem?_cons_succ] at h ⊢
    exact za_F2_get hp.2 h
  | [], _ :: _, hp, _, _, _ => hp.elim
  | _ :: _, [], hp, _, _, _ => hp.elim
theorem za_F2_set {α β : Type} {P : α → β → Prop} : ∀ {l : List α} {m : List β}, za_F2 P l m → ∀ (k : Nat) {a : α} {b : β}, P a b → za_F2 P (l.set k a) (m.set k b)
  | [], [], _, k, a, b, _ => trivial
  | x :: l, y :: m, hp, 0, a, b, h => ⟨h, hp.2⟩
  | x :: l, y :: m, hp, k + 1, a, b, h => ⟨hp.1, za_F2_set hp.2 k h⟩
  | [], _ :: _, hp, _, _, _, _ => hp.elim
  | _ :: _, [], hp, _, _, _, _ => hp.elim
theorem za_F2_app {α β : Type} {P : α → β → Prop} : ∀ {l : List α} {m : List β} {l' : List α} {m' : List β}, za_F2 P l m → za_F2 P l' m' → za_F2 P (l ++ l') (m ++ m')
  | [], [], _, _, _, h => h
  | _ :: _, _ :: _, _, _, hp, h => ⟨hp.1, za_F2_app hp.2 h⟩
  | [], _ :: _, _, _, hp, _ => hp.elim
  | _ :: _, [], _, _, hp, _ => hp.elim
theorem za_F2_rev {α β : Type} {P : α → β → Prop} : ∀ {l : List α} {m : List β}, za_F2 P l m → za_F2 P l.reverse m.reverse
  | [], [], _ => trivial
  | x :: l, y :: m, hp => by
    rw [List.reverse_cons, List.reverse_cons]
    exact za_F2_app (za_F2_rev hp.2) ⟨hp.1, trivial⟩
  | [], _ :: _, hp => hp.elim
  | _ :: _, [], hp => hp.elim
theorem za_F2_split {α β : Type} {P : α → β → Prop} : ∀ (n : Nat) {l : List α} {m : List β}, za_F2 P l m → za_F2 P (l.take n) (m.take n) ∧ za_F2 P (l.drop n) (m.drop n)
  | 0, l, m, hp => ⟨by simp [za_F2], by simpa using hp⟩
  | n + 1, [], [], _ => ⟨trivial, trivial⟩
  | n + 1, x :: l, y :: m, hp => ⟨⟨hp.1, (za_F2_split n hp.2).1⟩, (za_F2_split n hp.2).2⟩
  | n + 1, [], _ :: _, hp => hp.elim
  | n + 1, _ :: _, [], hp => hp.elim
theorem za_F2_filter {α β : Type} {P : α → β → Prop} {f : α → Bool} {g : β → Bool} (h : ∀ a b, P a b → f a = g b) : ∀ {l : List α} {m : List β}, za_F2 P l m → za_F2 P (l.filter f) (m.filter g)
  | [], [], _ => trivial
  | x :: l, y :: m, hp => by
    have e := h x y hp.1
    rw [List.filter_cons, List.filter_cons, e]
    cases g y
    · exact za_F2_filter h hp.2
    · exact ⟨hp.1, za_F2_filter h hp.2⟩
  | [], _ :: _, hp => hp.elim
  | _ :: _, [], hp => hp.elim
/-! what they stand for: σ the script's numbers, ads the objects' addresses -/
def za_gI (σ : Nat → Int32) (i : za_I) (x : Int32) : Prop := match i.1 with
  | 0 => i.2.1 ≤ x.toInt ∧ x.toInt ≤ i.2.2
  | j + 1 => x = σ j
def za_gL (o : Option Int64) (x : Int64) : Prop := ∀ c, o = some c → x = c
def za_gV (σ : Nat → Int32) (ads : List Nat) (v : za_V) (w : Value) : Prop := match v with
  | .inl i => ∃ x, w = .int x ∧ za_gI σ i x
  | .inr (.inl o) => ∃ x, w = .long x ∧ za_gL o x
  | .inr (.inr none) => w = .null
  | .inr (.inr (some k)) => ∃ a, w = .ref a ∧ ads[k]? = some a
def za_ok (σ : Nat → Int32) (ρ : za_R) : Prop := ∀ (j : Nat) (q : Int × Int), ρ[j]? = some q → q.1 ≤ (σ j).toInt ∧ (σ j).toInt ≤ q.2
def za_rg (ρ : za_R) (i : za_I) : Int × Int := match i.1 with
  | 0 => i.2
  | j + 1 => (ρ[j]?).getD (-2147483648, 2147483647)
theorem za_int (x : Int32) : -2147483648 ≤ x.toInt ∧ x.toInt ≤ 2147483647 := by
  have h1 := Int32.le_toInt x
  have h2 := Int32.toInt_lt x
  omega
theorem za_rg_ok {σ : Nat → Int32} {ρ : za_R} {i : za_I} {x : Int32} (hρ : za_ok σ ρ) (h : za_gI σ i x) : (za_rg ρ i).1 ≤ x.toInt ∧ x.toInt ≤ (za_rg ρ i).2 := by
  obtain ⟨t, lo, hi⟩ := i
  cases t with
  | zero => exact h
  | succ j =>
    have hx : x = σ j := h
    subst hx
    show ((ρ[j]?).getD (-2147483648, 2147483647)).1 ≤ (σ j).toInt ∧ (σ j).toInt ≤ ((ρ[j]?).getD (-2147483648, 2147483647)).2
    cases hq : ρ[j]? with
    | none => exact za_int _
    | some q => exact hρ j q hq
def za_c (x : Int32) : za_I := (0, x.toInt, x.toInt)
def za_top : za_I := (0, -2147483648, 2147483647)
theorem za_c_ok (σ : Nat → Int32) (x : Int32) : za_gI σ (za_c x) x := ⟨Int.le_refl _, Int.le_refl _⟩
theorem za_top_ok (σ : Nat → Int32) (x : Int32) : za_gI σ za_top x := za_int x
/-- comparing whole numbers, quickly -/
def za_ieq : Int → Int → Bool
  | .ofNat a, .ofNat b => Nat.beq a b
  | .negSucc a, .negSucc b => Nat.beq a b
  | _, _ => false
theorem za_ieq_t : ∀ {a b : Int}, za_ieq a b = true → a = b
  | .ofNat a, .ofNat b, h => congrArg Int.ofNat (Nat.eq_of_beq_eq_true h)
  | .negSucc a, .negSucc b, h => congrArg Int.negSucc (Nat.eq_of_beq_eq_true h)
  | .ofNat _, .negSucc _, h => by cases h
  | .negSucc _, .ofNat _, h => by cases h
theorem za_ieq_f : ∀ {a b : Int}, za_ieq a b = false → ¬ a = b
  | .ofNat a, .ofNat b, h => fun e => by cases e; exact Nat.ne_of_beq_eq_false h rfl
  | .negSucc a, .negSucc b, h => fun e => by cases e; exact Nat.ne_of_beq_eq_false h rfl
  | .ofNat _, .negSucc _, _ => fun e => by cases e
  | .negSucc _, .ofNat _, _ => fun e => by cases e
def za_ile : Int → Int → Bool
  | .ofNat a, .ofNat b => Nat.ble a b
  | .negSucc a, .negSucc b => Nat.ble b a
  | .negSucc _, .ofNat _ => true
  | .ofNat _, .negSucc _ => false
theorem za_ile_i : ∀ {a b : Int}, za_ile a b = true ↔ a ≤ b
  | .ofNat a, .ofNat b => by
    show Nat.ble a b = true ↔ Int.ofNat a ≤ Int.ofNat b
    rw [Nat.ble_eq]
    exact Int.ofNat_le.symm
  | .negSucc a, .negSucc b => by
    show Nat.ble b a = true ↔ Int.negSucc a ≤ Int.negSucc b
    rw [Nat.ble_eq, Int.negSucc_eq, Int.negSucc_eq]
    omega
  | .negSucc a, .ofNat b => by
    show true = true ↔ Int.negSucc a ≤ Int.ofNat b
    rw [Int.negSucc_eq, Int.ofNat_eq_natCast]
    exact ⟨fun _ => (by omega), fun _ => rfl⟩
  | .ofNat a, .negSucc b => by
    show false = true ↔ Int.ofNat a ≤ Int.negSucc b
    rw [Int.negSucc_eq, Int.ofNat_eq_natCast]
    exact ⟨fun h => (by cases h), fun h => (by omega)⟩
theorem za_ile_t {a b : Int} (h : za_ile a b = true) : a ≤ b := za_ile_i.mp h
theorem za_ile_f {a b : Int} (h : za_ile a b = false) : b < a := by
  have h1 : ¬ a ≤ b := fun z => by rw [za_ile_i.mpr z] at h; cases h
  omega
/-- the one number that it can be -/
def za_k (ρ : za_R) (i : za_I) : Option Int := match za_rg ρ i with
  | (a, b) => bif za_ieq a b then some a else none
theorem za_k_eq {ρ : za_R} {i : za_I} {c : Int} (h : za_k ρ i = some c) : (za_rg ρ i).1 = c ∧ (za_rg ρ i).2 = c := by
  unfold za_k at h
  generalize za_rg ρ i = q at h ⊢
  obtain ⟨a, b⟩ := q
  dsimp only at h ⊢
  cases he : za_ieq a b with
  | false => simp [he] at h
  | true =>
    have e := za_ieq_t he
    subst e
    simp [he] at h
    exact ⟨h, h⟩
theorem za_k_ok {σ : Nat → Int32} {ρ : za_R} {i : za_I} {x : Int32} {c : Int} (hρ : za_ok σ ρ) (h : za_gI σ i x) (hk : za_k ρ i = some c) : x.toInt = c := by
  have h1 := za_rg_ok hρ h
  obtain ⟨h2, h3⟩ := za_k_eq hk
  omega
theorem za_k_of {σ : Nat → Int32} {ρ : za_R} {i : za_I} {x : Int32} {c : Int} (hρ : za_ok σ ρ) (h : za_gI σ i x) (hk : za_k ρ i = some c) : x = Int32.ofInt c := by
  rw [← za_k_ok hρ h hk, Int32.ofInt_toInt]
/-- a small number as it stands -/
def za_n (k : Int) : za_I := (0, k, k)
theorem za_n_ok (σ : Nat → Int32) {k : Int} {x : Int32} (h : x.toInt = k) : za_gI σ (za_n k) x := ⟨by show k ≤ x.toInt; omega, by show x.toInt ≤ k; omega⟩
/-! arithmetic -/
def za_b2 (f : Int32 → Int32 → Int32) (ρ : za_R) (a b : za_I) : za_I := match za_k ρ a, za_k ρ b with
  | some c, some d => za_c (f (Int32.ofInt c) (Int32.ofInt d))
  | _, _ => za_top
theorem za_b2_ok {σ : Nat → Int32} {ρ : za_R} (f : Int32 → Int32 → Int32) {a b : za_I} {x y : Int32} (hρ : za_ok σ ρ) (ha : za_gI σ a x) (hb : za_gI σ b y) : za_gI σ (za_b2 f ρ a b) (f x y) := by
  unfold za_b2
  split
  · rename_i c d h1 h2
    rw [za_k_of hρ ha h1, za_k_of hρ hb h2]
    exact za_c_ok _ _
  · exact za_top_ok _ _
def za_u1 (f : Int32 → Int32) (ρ : za_R) (a : za_I) : za_I := match za_k ρ a with
  | some c => za_c (f (Int32.ofInt c))
  | none => za_top
theorem za_u1_ok {σ : Nat → Int32} {ρ : za_R} (f : Int32 → Int32) {a : za_I} {x : Int32} (hρ : za_ok σ ρ) (ha : za_gI σ a x) : za_gI σ (za_u1 f ρ a) (f x) := by
  unfold za_u1
  split
  · rename_i c h1
    rw [za_k_of hρ ha h1]
    exact za_c_ok _ _
  · exact za_top_ok _ _
def za_in (lo hi : Int) : Bool := bif za_ile (-2147483648) lo then za_ile hi 2147483647 else false
theorem za_in_t {lo hi : Int} (h : za_in lo hi = true) : -2147483648 ≤ lo ∧ hi ≤ 2147483647 := by
  unfold za_in at h
  cases h1 : za_ile (-2147483648) lo with
  | false => simp [h1] at h
  | true =>
    simp [h1] at h
    exact ⟨za_ile_t h1, za_ile_t h⟩
def za_add (ρ : za_R) (a b : za_I) : za_I := match za_rg ρ a, za_rg ρ b with
  | (a1, a2), (b1, b2) => bif za_in (a1 + b1) (a2 + b2) then (0, a1 + b1, a2 + b2) else za_b2 (· + ·) ρ a b
def za_sub (ρ : za_R) (a b : za_I) : za_I := match za_rg ρ a, za_rg ρ b with
  | (a1, a2), (b1, b2) => bif za_in (a1 - b2) (a2 - b1) then (0, a1 - b2, a2 - b1) else za_b2 (· - ·) ρ a b
theorem za_bmod {n : Int} (h1 : -2147483648 ≤ n) (h2 : n ≤ 2147483647) : n.bmod (2 ^ 32) = n := by
  rw [Int.bmod_def]
  simp only [Nat.reducePow]
  omega
theorem za_add_ok {σ : Nat → Int32} {ρ : za_R} {a b : za_I} {x y : Int32} (hρ : za_ok σ ρ) (ha : za_gI σ a x) (hb : za_gI σ b y) : za_gI σ (za_add ρ a b) (x + y) := by
  have h1 := za_rg_ok hρ ha
  have h2 := za_rg_ok hρ hb
  have h3 := za_b2_ok (· + ·) hρ ha hb
  unfold za_add
  revert h1 h2
  obtain ⟨a1, a2⟩ := za_rg ρ a
  obtain ⟨b1, b2⟩ := za_rg ρ b
  intro h1 h2
  dsimp only at h1 h2 ⊢
  cases h : za_in (a1 + b1) (a2 + b2) with
  | false => exact h3
  | true =>
    have h4 := za_in_t h
    have e : (x + y).toInt = x.toInt + y.toInt := by rw [Int32.toInt_add]; exact za_bmod (by omega) (by omega)
    show a1 + b1 ≤ (x + y).toInt ∧ (x + y).toInt ≤ a2 + b2
    omega
theorem za_sub_ok {σ : Nat → Int32} {ρ : za_R} {a b : za_I} {x y : Int32} (hρ : za_ok σ ρ) (ha : za_gI σ a x) (hb : za_gI σ b y) : za_gI σ (za_sub ρ a b) (x - y) := by
  have h1 := za_rg_ok hρ ha
  have h2 := za_rg_ok hρ hb
  have h3 := za_b2_ok (· - ·) hρ ha hb
  unfold za_sub
  revert h1 h2
  obtain ⟨a1, a2⟩ := za_rg ρ a
  obtain ⟨b1, b2⟩ := za_rg ρ b
  intro h1 h2
  dsimp only at h1 h2 ⊢
  cases h : za_in (a1 - b2) (a2 - b1) with
  | false => exact h3
  | true =>
    have h4 := za_in_t h
    have e : (x - y).toInt = x.toInt - y.toInt := by rw [Int32.toInt_sub]; exact za_bmod (by omega) (by omega)
    show a1 - b2 ≤ (x - y).toInt ∧ (x - y).toInt ≤ a2 - b1
    omega
/-- a mask of low bits -/
def za_and (ρ : za_R) (a b : za_I) : za_I := match za_k ρ a, za_k ρ b with
  | none, some m => bif za_ieq m 31 then (0, 0, 31) else bif za_ieq m 255 then (0, 0, 255) else za_top
  | _, _ => za_b2 (· &&& ·) ρ a b
theorem za_and_ok {σ : Nat → Int32} {ρ : za_R} {a b : za_I} {x y : Int32} (hρ : za_ok σ ρ) (ha : za_gI σ a x) (hb : za_gI σ b y) : za_gI σ (za_and ρ a b) (x &&& y) := by
  have key : ∀ k : Nat, k ≤ 30 → ∀ m : Int32, m.toBitVec.toNat = 2 ^ k - 1 → 0 ≤ (x &&& m).toInt ∧ (x &&& m).toInt < 2 ^ k := by
    intro k hk m hm
    rw [pk_and x k hm]
    have h0 : (0 : Nat) < 2 ^ k := Nat.pow_pos (by decide)
    have h1 : x.toBitVec.toNat % 2 ^ k < 2 ^ k := Nat.mod_lt _ h0
    have h3 : (2 : Nat) ^ k ≤ 2 ^ 30 := Nat.pow_le_pow_right (by decide) hk
    rw [nI_toInt (by omega)]
    constructor
    · omega
    · exact_mod_cast h1
  unfold za_and
  split
  · rename_i m _ hm
    have hy := za_k_of hρ hb hm
    cases h1 : za_ieq m 31 with
    | true =>
      have e := za_ieq_t h1
      subst e
      subst hy
      have h := key 5 (by decide) 31 (by decide)
      exact ⟨h.1, by have := h.2; show (x &&& 31).toInt ≤ 31; omega⟩
    | false =>
      cases h2 : za_ieq m 255 with
      | true =>
        have e := za_ieq_t h2
        subst e
        subst hy
        have h := key 8 (by decide) 255 (by decide)
        exact ⟨h.1, by have := h.2; show (x &&& 255).toInt ≤ 255; omega⟩
      | false => exact za_top_ok _ _
  · exact za_b2_ok _ hρ ha hb
def za_l2 (f : Int64 → Int64 → Int64) (a b : Option Int64) : Option Int64 := match a, b with
  | some c, some d => some (f c d)
  | _, _ => none
theorem za_l2_ok (f : Int64 → Int64 → Int64) {a b : Option Int64} {x y : Int64} (ha : za_gL a x) (hb : za_gL b y) : za_gL (za_l2 f a b) (f x y) := by
  intro c hc
  unfold za_l2 at hc
  split at hc
  · rename_i p q
    cases hc
    rw [ha p rfl, hb q rfl]
  · cases hc
/-- a shift of a long by an int: 0 stays 0, whatever the number -/
def za_ls (f : Int64 → Int32 → Int64) (z : Bool) (ρ : za_R) (a : Option Int64) (b : za_I) : Option Int64 := match a with
  | some c => if z = true ∧ c = 0 then some 0 else match za_k ρ b with
    | some d => some (f c (Int32.ofInt d))
    | none => none
  | none => none
theorem za_ls_ok {σ : Nat → Int32} {ρ : za_R} (f : Int64 → Int32 → Int64) {z : Bool} (hz : z = true → ∀ y, f 0 y = 0) {a : Option Int64} {b : za_I} {x : Int64} {y : Int32} (hρ : za_ok σ ρ) (ha : za_gL a x) (hb : za_gI σ b y) : za_gL (za_ls f z ρ a b) (f x y) := by
  intro c hc
  unfold za_ls at hc
  split at hc
  · rename_i p
    have hx := ha p rfl
    subst hx
    split at hc
    · rename_i h
      cases hc
      rw [h.2]
      exact hz h.1 y
    · split at hc
      · rename_i d hd
        cases hc
        rw [za_k_of hρ hb hd]
      · cases hc
  · cases hc
/-! ranges cut at a branch -/
def za_cut (ρ : za_R) (i : za_I) (lo hi : Int) : za_R := match i.1 with
  | 0 => ρ
  | j + 1 => match ρ[j]? with
    | some q => ρ.set j (max lo q.1, min hi q.2)
    | none => ρ
theorem za_cut_ok {σ : Nat → Int32} {ρ : za_R} {i : za_I} {x : Int32} {lo hi : Int} (hρ : za_ok σ ρ) (h : za_gI σ i x) (h1 : lo ≤ x.toInt) (h2 : x.toInt ≤ hi) : za_ok σ (za_cut ρ i lo hi) := by
  obtain ⟨t, p, r⟩ := i
  unfold za_cut
  cases t with
  | zero => exact hρ
  | succ j =>
    have hx : x = σ j := h
    subst hx
    show za_ok σ (match ρ[j]? with
      | some q => ρ.set j (max lo q.1, min hi q.2)
      | none => ρ)
    cases hq : ρ[j]? with
    | none => exact hρ
    | some q =>
      intro k z hz
      have hz : (ρ.set j (max lo q.1, min hi q.2))[k]? = some z := hz
      by_cases hk : j = k
      · subst hk
        have hl : j < ρ.length := (List.getElem?_eq_some_iff.mp hq).1
        rw [List.getElem?_set_self hl] at hz
        cases hz
        have := hρ j q hq
        show max lo q.1 ≤ (σ j).toInt ∧ (σ j).toInt ≤ min hi q.2
        omega
      · rw [List.getElem?_set_ne hk] at hz
        exact hρ k z hz
def za_lt (ρ : za_R) (a b : za_I) : Option za_R := match za_rg ρ a, za_rg ρ b with
  | (a1, _), (_, b2) => bif za_ile b2 a1 then none else some (za_cut (za_cut ρ a a1 (b2 - 1)) b (a1 + 1) b2)
theorem za_lt_ok {σ : Nat → Int32} {ρ : za_R} {a b : za_I} {x y : Int32} (hρ : za_ok σ ρ) (ha : za_gI σ a x) (hb : za_gI σ b y) (h : x < y) : ∃ ρ', za_lt ρ a b = some ρ' ∧ za_ok σ ρ' := by
  have h1 := za_rg_ok hρ ha
  have h2 := za_rg_ok hρ hb
  rw [Int32.lt_iff_toInt_lt] at h
  unfold za_lt
  revert h1 h2
  obtain ⟨a1, a2⟩ := za_rg ρ a
  obtain ⟨b1, b2⟩ := za_rg ρ b
  intro h1 h2
  dsimp only at h1 h2 ⊢
  cases hc : za_ile b2 a1 with
  | true => have := za_ile_t hc; omega
  | false => exact ⟨_, rfl, za_cut_ok (za_cut_ok hρ ha (by omega) (by omega)) hb (by omega) (by omega)⟩
def za_le (ρ : za_R) (a b : za_I) : Option za_R := match za_rg ρ a, za_rg ρ b with
  | (a1, _), (_, b2) => bif za_ile a1 b2 then some (za_cut (za_cut ρ a a1 b2) b a1 b2) else none
theorem za_le_ok {σ : Nat → Int32} {ρ : za_R} {a b : za_I} {x y : Int32} (hρ : za_ok σ ρ) (ha : za_gI σ a x) (hb : za_gI σ b y) (h : x ≤ y) : ∃ ρ', za_le ρ a b = some ρ' ∧ za_ok σ ρ' := by
  have h1 := za_rg_ok hρ ha
  have h2 := za_rg_ok hρ hb
  rw [Int32.le_iff_toInt_le] at h
  unfold za_le
  revert h1 h2
  obtain ⟨a1, a2⟩ := za_rg ρ a
  obtain ⟨b1, b2⟩ := za_rg ρ b
  intro h1 h2
  dsimp only at h1 h2 ⊢
  cases hc : za_ile a1 b2 with
  | false => have := za_ile_f hc; omega
  | true => exact ⟨_, rfl, za_cut_ok (za_cut_ok hρ ha (by omega) (by omega)) hb (by omega) (by omega)⟩
def za_eq (ρ : za_R) (a b : za_I) : Option za_R := match za_rg ρ a, za_rg ρ b with
  | (a1, a2), (b1, b2) => bif za_ile a1 b2 then bif za_ile b1 a2 then some (za_cut (za_cut ρ a b1 b2) b a1 a2) else none else none
theorem za_eq_ok {σ : Nat → Int32} {ρ : za_R} {a b : za_I} {x y : Int32} (hρ : za_ok σ ρ) (ha : za_gI σ a x) (hb : za_gI σ b y) (h : x = y) : ∃ ρ', za_eq ρ a b = some ρ' ∧ za_ok σ ρ' := by
  have h1 := za_rg_ok hρ ha
  have h2 := za_rg_ok hρ hb
  subst h
  unfold za_eq
  revert h1 h2
  obtain ⟨a1, a2⟩ := za_rg ρ a
  obtain ⟨b1, b2⟩ := za_rg ρ b
  intro h1 h2
  dsimp only at h1 h2 ⊢
  cases hc : za_ile a1 b2 with
  | false => have := za_ile_f hc; omega
  | true =>
    cases hd : za_ile b1 a2 with
    | false => have := za_ile_f hd; omega
    | true => exact ⟨_, rfl, za_cut_ok (za_cut_ok hρ ha (by omega) (by omega)) hb (by omega) (by omega)⟩
def za_ne (ρ : za_R) (a b : za_I) : Option za_R := match za_rg ρ a, za_rg ρ b with
  | (a1, a2), (b1, b2) => bif za_ieq b1 b2 then
      bif za_ieq a1 b1 then bif za_ieq a2 b1 then none else some (za_cut ρ a (a1 + 1) a2)
      else bif za_ieq a2 b1 then some (za_cut ρ a a1 (a2 - 1)) else some ρ
    else some ρ
theorem za_ne_ok {σ : Nat → Int32} {ρ : za_R} {a b : za_I} {x y : Int32} (hρ : za_ok σ ρ) (ha : za_gI σ a x) (hb : za_gI σ b y) (h : ¬ x = y) : ∃ ρ', za_ne ρ a b = some ρ' ∧ za_ok σ ρ' := by
  have h1 := za_rg_ok hρ ha
  have h2 := za_rg_ok hρ hb
  have h : ¬ x.toInt = y.toInt := fun e => h (Int32.toInt_inj.mp e)
  unfold za_ne
  revert h1 h2
  obtain ⟨a1, a2⟩ := za_rg ρ a
  obtain ⟨b1, b2⟩ := za_rg ρ b
  intro h1 h2
  dsimp only at h1 h2 ⊢
  cases e1 : za_ieq b1 b2 with
  | false => exact ⟨_, rfl, hρ⟩
  | true =>
    have e1 := za_ieq_t e1
    cases e2 : za_ieq a1 b1 with
    | true =>
      have e2 := za_ieq_t e2
      cases e3 : za_ieq a2 b1 with
      | true => have e3 := za_ieq_t e3; omega
      | false => exact ⟨_, rfl, za_cut_ok hρ ha (by omega) (by omega)⟩
    | false =>
      cases e3 : za_ieq a2 b1 with
      | true => have e3 := za_ieq_t e3; exact ⟨_, rfl, za_cut_ok hρ ha (by omega) (by omega)⟩
      | false => exact ⟨_, rfl, hρ⟩
/-! arrays: a default and what was written since -/
def za_at {α : Type} (d : α) (ups : List (Nat × α)) (i : Nat) : α := match ups with
  | [] => d
  | q :: l => bif Nat.beq q.1 i then q.2 else za_at d l i
def za_jn (ρ : za_R) (a b : za_I) : za_I := if a = b then a else (0, min (za_rg ρ a).1 (za_rg ρ b).1, max (za_rg ρ a).2 (za_rg ρ b).2)
theorem za_jn_l {σ : Nat → Int32} {ρ : za_R} {a b : za_I} {x : Int32} (hρ : za_ok σ ρ) (h : za_gI σ a x) : za_gI σ (za_jn ρ a b) x := by
  unfold za_jn
  split
  · exact h
  · have h1 := za_rg_ok hρ h
    show min (za_rg ρ a).1 (za_rg ρ b).1 ≤ x.toInt ∧ x.toInt ≤ max (za_rg ρ a).2 (za_rg ρ b).2
    omega
theorem za_jn_r {σ : Nat → Int32} {ρ : za_R} {a b : za_I} {x : Int32} (hρ : za_ok σ ρ) (h : za_gI σ b x) : za_gI σ (za_jn ρ a b) x := by
  unfold za_jn
  split
  · rename_i e
    rw [e]; exact h
  · have h1 := za_rg_ok hρ h
    show min (za_rg ρ a).1 (za_rg ρ b).1 ≤ x.toInt ∧ x.toInt ≤ max (za_rg ρ a).2 (za_rg ρ b).2
    omega
/-- the values at the places k, .., k + c -/
def za_rd (ρ : za_R) (d : za_I) (ups : List (Nat × za_I)) (k : Nat) : Nat → za_I
  | 0 => za_at d ups k
  | c + 1 => za_jn ρ (za_at d ups (k + (c + 1))) (za_rd ρ d ups k c)
theorem za_rd_ok {σ : Nat → Int32} {ρ : za_R} {d : za_I} {ups : List (Nat × za_I)} {f : Nat → Int32} {n : Nat} (hρ : za_ok σ ρ) (h : ∀ i, i < n → za_gI σ (za_at d ups i) (f i)) (k : Nat) : ∀ (c i : Nat), k ≤ i → i ≤ k + c → i < n → za_gI σ (za_rd ρ d ups k c) (f i)
  | 0, i, h1, h2, h3 => by
    have e : i = k := by omega
    subst e
    exact h i h3
  | c + 1, i, h1, h2, h3 => by
    by_cases e : i = k + (c + 1)
    · subst e
      exact za_jn_l hρ (h _ h3)
    · exact za_jn_r hρ (za_rd_ok hρ h k c i h1 (by omega) h3)
def za_wr {α : Type} [DecidableEq α] (d : α) (ups : List (Nat × α)) (k : Nat) (v : α) : List (Nat × α) := if za_at d ups k = v then ups else (k, v) :: ups
theorem za_beq_r (k : Nat) : Nat.beq k k = true := by simp
theorem za_beq_n {k i : Nat} (h : i ≠ k) : Nat.beq k i = false := by
  cases hb : Nat.beq k i with
  | false => rfl
  | true => exact absurd (Nat.eq_of_beq_eq_true hb).symm h
theorem za_wr_self {α : Type} [DecidableEq α] (d : α) (ups : List (Nat × α)) (k : Nat) (v : α) : za_at d (za_wr d ups k v) k = v := by
  unfold za_wr
  split
  · assumption
  · simp only [za_at, za_beq_r, cond_true]
theorem za_wr_ne {α : Type} [DecidableEq α] (d : α) (ups : List (Nat × α)) {k i : Nat} (v : α) (h : i ≠ k) : za_at d (za_wr d ups k v) i = za_at d ups i := by
  unfold za_wr
  split
  · rfl
  · simp only [za_at, za_beq_n h, cond_false]
/-! a value's weight on the stack, and its being found among the locals -/
def za_cat (v : za_V) : Nat := match v with
  | .inr (.inl _) => 2
  | _ => 1
theorem za_cat_ok {σ : Nat → Int32} {ads : List Nat} {v : za_V} {w : Value} (h : za_gV σ ads v w) : w.category = za_cat v := by
  match v, h with
  | .inl i, ⟨x, e, _⟩ => rw [e]; rfl
  | .inr (.inl o), ⟨x, e, _⟩ => rw [e]; rfl
  | .inr (.inr none), e => rw [show w = .null from e]; rfl
  | .inr (.inr (some k)), ⟨x, e, _⟩ => rw [e]; rfl
theorem za_cats_ok {σ : Nat → Int32} {ads : List Nat} : ∀ {l : List za_V} {m : List Value}, za_F2 (za_gV σ ads) l m → (m.map fun v => v.category).sum = (l.map za_cat).sum
  | [], [], _ => rfl
  | v :: l, w :: m, h => by
    rw [List.map_cons, List.map_cons, List.sum_cons, List.sum_cons, za_cat_ok h.1, za_cats_ok h.2]
  | [], _ :: _, hp => hp.elim
  | _ :: _, [], hp => hp.elim
def za_get (lv : List (Nat × za_V)) (i : Nat) : Option za_V := match lv with
  | [] => none
  | q :: l => bif Nat.beq q.1 i then some q.2 else za_get l i
def za_gP (σ : Nat → Int32) (ads : List Nat) (a : Nat × za_V) (c : Nat × Value) : Prop := a.1 = c.1 ∧ za_gV σ ads a.2 c.2
theorem za_get_ok {σ : Nat → Int32} {ads : List Nat} {i : Nat} {v : za_V} : ∀ {lv : List (Nat × za_V)} {lc : List (Nat × Value)}, za_F2 (za_gP σ ads) lv lc → za_get lv i = some v → ∃ w, (i, w) ∈ lc ∧ za_gV σ ads v w
  | [], [], _, h => by cases h
  | q :: l, r :: m, hp, h => by
    unfold za_get at h
    cases hb : Nat.beq q.1 i with
    | true =>
      have e := Nat.eq_of_beq_eq_true hb
      simp only [hb, cond_true, Option.some.injEq] at h
      subst h
      obtain ⟨r1, r2⟩ := r
      have e1 : q.1 = r1 := hp.1.1
      exact ⟨r2, by rw [← e, e1]; exact List.mem_cons_self, hp.1.2⟩
    | false =>
      simp only [hb, cond_false] at h
      obtain ⟨w, h1, h2⟩ := za_get_ok hp.2 h
      exact ⟨w, List.mem_cons_of_mem _ h1, h2⟩
  | [], _ :: _, hp, _ => hp.elim
  | _ :: _, [], hp, _ => hp.elim
def za_st1 (lv : List (Nat × za_V)) (i : Nat) (v : za_V) : List (Nat × za_V) := (i, v) :: lv.filter (fun q => !(q.1 == i) && !(q.1 + 1 == i && za_cat q.2 == 2))
def za_st2 (lv : List (Nat × za_V)) (i : Nat) (v : za_V) : List (Nat × za_V) := (i, v) :: lv.filter (fun q => !(q.1 == i) && (!(q.1 == i + 1) && !(q.1 + 1 == i && za_cat q.2 == 2)))
theorem za_st1_ok {σ : Nat → Int32} {ads : List Nat} {i : Nat} {v : za_V} {w : Value} {lv : List (Nat × za_V)} {lc : List (Nat × Value)} (h : za_F2 (za_gP σ ads) lv lc) (hv : za_gV σ ads v w) : za_F2 (za_gP σ ads) (za_st1 lv i v) ((i, w) :: lc.filter (fun q => !(q.1 == i) && !(q.1 + 1 == i && q.2.category == 2))) :=
  ⟨⟨rfl, hv⟩, za_F2_filter (fun a b hab => by rw [hab.1, za_cat_ok hab.2]) h⟩
theorem za_st2_ok {σ : Nat → Int32} {ads : List Nat} {i : Nat} {v : za_V} {w : Value} {lv : List (Nat × za_V)} {lc : List (Nat × Value)} (h : za_F2 (za_gP σ ads) lv lc) (hv : za_gV σ ads v w) : za_F2 (za_gP σ ads) (za_st2 lv i v) ((i, w) :: lc.filter (fun q => !(q.1 == i) && (!(q.1 == i + 1) && !(q.1 + 1 == i && q.2.category == 2)))) :=
  ⟨⟨rfl, hv⟩, za_F2_filter (fun a b hab => by rw [hab.1, za_cat_ok hab.2]) h⟩
end
section
/-! ===== the shape of the tables ===== -/
/-- an entry of a constant pool: its kind; two numbers; a value. Kinds: 0 field (object kind, place), 1 virtual, 2 static, 3 constructor (method, number of parameters), 4 Object's constructor, 5 an object kind, 6 an exception, 7 an int, 8 a long, 10 a text, 11 12 13 as 1 2 3 of a nest mate, 14 arraycopy, 15 an exception's constructor -/
abbrev za_row : Type := Nat × Nat × Nat × Int
/-- a method: name, code, locals, what it returns, its constant pool, the most cells and slots that it makes, its table, its instructions -/
abbrev za_MI : Type := MethodName × ByteArray × Nat × Option FieldType × Nat × Nat × Nat × List (Nat × Nat × Nat × Nat) × List (Nat × Instr)
abbrev za_nL (M : za_MI) : Nat := M.2.2.1
abbrev za_rt (M : za_MI) : Option FieldType := M.2.2.2.1
abbrev za_cl (M : za_MI) : Nat := M.2.2.2.2.1
abbrev za_mc (M : za_MI) : Nat := M.2.2.2.2.2.1
abbrev za_ms (M : za_MI) : Nat := M.2.2.2.2.2.2.1
abbrev za_hh (M : za_MI) : List (Nat × Nat × Nat × Nat) := M.2.2.2.2.2.2.2.1
abbrev za_is (M : za_MI) : List (Nat × Instr) := M.2.2.2.2.2.2.2.2
def za_tyX (ci k : Nat) : FieldType := match ci with
  | 0 => tyX0 k
  | 1 => tyX1 k
  | 2 => tyX2 k
  | 3 => tyX3 k
  | 4 => tyX4 k
  | 5 => tyX5 k
  | 6 => tyX6 k
  | 7 => tyX7 k
  | 8 => tyX8 k
  | 9 => tyX9 k
  | 10 => tyX10 k
  | 11 => tyX11 k
  | _ => tyX12 k
def za_nX (ci : Nat) : Nat := match ci with
  | 0 => 10
  | 1 => 12
  | 2 => 3
  | 3 => 2
  | 4 => 4
  | 5 => 4
  | 6 => 3
  | 7 => 6
  | 8 => 8
  | 9 => 6
  | 10 => 20
  | 11 => 18
  | _ => 85
/-- the instruction at pc -/
def za_fe : List (Nat × Instr) → Nat → Option Instr
  | [], _ => none
  | q :: l, pc => bif Nat.beq q.1 pc then some q.2 else za_fe l pc
end
section
/-! ===== the methods and constant pools of class, reference and law, by numbers (printed by a program of mine out of tables_1 and the listing) ===== -/
def za_i0 : List (Nat × Instr) := [(0, .aload_n 0), (1, .invokespecial 3), (4, .aload_n 0), (5, .sipush 700), (8, .newarray .byte), (10, .putfield 11), (13, .aload_n 0), (14, .iconst 0), (15, .putfield 15), (18, .aload_n 0), (19, .iconst (-1)), (20, .putfield 19), (23, .aload_n 0), (24, .iconst 0), (25, .putfield 22), (28, .aload_n 0), (29, .iconst 0), (30, .putfield 25), (33, .aload_n 0), (34, .new 28), (37, .dup), (38, .invokespecial 30), (41, .putfield 31), (44, .aload_n 0), (45, .new 35), (48, .dup), (49, .invokespecial 37), (52, .putfield 38), (55, .aload_n 0), (56, .new 28), (59, .dup), (60, .invokespecial 30), (63, .putfield 42), (66, .aload_n 0), (67, .new 35), (70, .dup), (71, .invokespecial 37), (74, .putfield 45), (77, .aload_n 0), (78, .new 35), (81, .dup), (82, .invokespecial 37), (85, .putfield 48), (88, .aload_n 0), (89, .iconst 0), (90, .putfield 51), (93, .aload_n 0), (94, .new 55), (97, .dup), (98, .aload_n 0), (99, .getfield 11), (102, .invokespecial 57), (105, .putfield 60), (108, .aload_n 0), (109, .new 64), (112, .dup), (113, .invokespecial 66), (116, .putfield 67), (119, .aload_n 0), (120, .new 71), (123, .dup), (124, .invokespecial 73), (127, .putfield 74), (130, .aload_n 0), (131, .new 78), (134, .dup), (135, .invokespecial 80), (138, .putfield 81), (141, .aload_n 0), (142, .new 85), (145, .dup), (146, .invokespecial 87), (149, .putfield 88), (152, .aload_n 0), (153, .new 92), (156, .dup), (157, .invokespecial 94), (160, .putfield 95), (163, .aload_n 0), (164, .new 99), (167, .dup), (168, .invokespecial 101), (171, .putfield 102), (174, .return_)]
def za_i1 : List (Nat × Instr) := [(0, .aload_n 0), (1, .invokespecial 3), (4, .aload_n 0), (5, .iconst 4), (6, .newarray .long), (8, .putfield 9), (11, .aload_n 0), (12, .bipush 64), (14, .newarray .int), (16, .putfield 15), (19, .aload_n 0), (20, .iconst 4), (21, .newarray .long), (23, .putfield 19), (26, .aload_n 0), (27, .bipush 20), (29, .newarray .int), (31, .putfield 22), (34, .aload_n 0), (35, .iconst 4), (36, .newarray .int), (38, .putfield 25), (41, .aload_n 0), (42, .iconst 4), (43, .newarray .int), (45, .putfield 28), (48, .aload_n 0), (49, .iconst 4), (50, .newarray .int), (52, .putfield 31), (55, .aload_n 0), (56, .bipush 8), (58, .newarray .int), (60, .putfield 34), (63, .aload_n 0), (64, .bipush 8), (66, .newarray .int), (68, .putfield 37), (71, .aload_n 0), (72, .sipush 700), (75, .newarray .int), (77, .putfield 40), (80, .aload_n 0), (81, .invokevirtual 43), (84, .return_)]
def za_i2 : List (Nat × Instr) := [(0, .aload_n 0), (1, .bipush 6), (3, .bipush 6), (5, .invokevirtual 46), (8, .aload_n 0), (9, .lconst 0), (10, .putfield 50), (13, .aload_n 0), (14, .getfield 15), (17, .iconst (-1)), (18, .invokestatic 54), (21, .aload_n 0), (22, .getfield 19), (25, .lconst 0), (26, .invokestatic 60), (29, .aload_n 0), (30, .iconst 0), (31, .putfield 63), (34, .aload_n 0), (35, .iconst 0), (36, .putfield 67), (39, .aload_n 0), (40, .iconst 2), (41, .putfield 70), (44, .aload_n 0), (45, .iconst 5), (46, .putfield 73), (49, .aload_n 0), (50, .iconst 0), (51, .putfield 76), (54, .aload_n 0), (55, .iconst 0), (56, .putfield 79), (59, .return_)]
def za_i3 : List (Nat × Instr) := [(0, .aload_n 0), (1, .iload_n 1), (2, .putfield 82), (5, .aload_n 0), (6, .iload_n 2), (7, .putfield 85), (10, .aload_n 0), (11, .ldc2_w 88), (14, .bipush 64), (16, .iload_n 1), (17, .iload_n 2), (18, .imul), (19, .isub), (20, .lushr), (21, .putfield 90), (24, .lconst 0), (25, .lstore_n 3), (26, .iconst 0), (27, .istore 5), (29, .iload 5), (31, .iload_n 2), (32, .if_icmp .ge 19), (35, .lload_n 3), (36, .iload_n 1), (37, .iload 5), (39, .imul), (40, .invokestatic 93), (43, .lor), (44, .lstore_n 3), (45, .iinc 5 1), (48, .goto (-19)), (51, .aload_n 0), (52, .getfield 9), (55, .iconst 0), (56, .aload_n 0), (57, .getfield 90), (60, .aload_n 0), (61, .getfield 90), (64, .iload_n 1), (65, .lshl), (66, .land), (67, .lastore), (68, .aload_n 0), (69, .getfield 9), (72, .iconst 1), (73, .aload_n 0), (74, .getfield 90), (77, .lload_n 3), (78, .iload_n 1), (79, .iconst 1), (80, .isub), (81, .lshl), (82, .ldc2_w 88), (85, .lxor), (86, .land), (87, .lastore), (88, .aload_n 0), (89, .getfield 9), (92, .iconst 2), (93, .aload_n 0), (94, .getfield 90), (97, .iload_n 1), (98, .lushr), (99, .lastore), (100, .aload_n 0), (101, .getfield 9), (104, .iconst 3), (105, .aload_n 0), (106, .getfield 90), (109, .lload_n 3), (110, .ldc2_w 88), (113, .lxor), (114, .land), (115, .lastore), (116, .return_)]
def za_i4 : List (Nat × Instr) := [(0, .lconst 1), (1, .iload_n 0), (2, .lshl), (3, .lreturn)]
def za_i5 : List (Nat × Instr) := [(0, .iconst 0), (1, .istore_n 2), (2, .aload_n 0), (3, .arraylength), (4, .istore_n 3), (5, .iload_n 2), (6, .iload_n 3), (7, .if_icmp .ge 13), (10, .aload_n 0), (11, .iload_n 2), (12, .iload_n 1), (13, .iastore), (14, .iinc 2 1), (17, .goto (-12)), (20, .return_)]
def za_i6 : List (Nat × Instr) := [(0, .iconst 0), (1, .istore_n 3), (2, .aload_n 0), (3, .arraylength), (4, .istore 4), (6, .iload_n 3), (7, .iload 4), (9, .if_icmp .ge 13), (12, .aload_n 0), (13, .iload_n 3), (14, .lload_n 1), (15, .lastore), (16, .iinc 3 1), (19, .goto (-13)), (22, .return_)]
def za_i7 : List (Nat × Instr) := [(0, .aload_n 0), (1, .invokespecial 3), (4, .aload_n 0), (5, .bipush 8), (7, .newarray .int), (9, .putfield 9), (12, .aload_n 0), (13, .bipush 8), (15, .newarray .int), (17, .putfield 15), (20, .aload_n 0), (21, .bipush 8), (23, .newarray .int), (25, .putfield 18), (28, .aload_n 0), (29, .bipush 8), (31, .newarray .int), (33, .putfield 21), (36, .aload_n 0), (37, .bipush 64), (39, .newarray .int), (41, .putfield 24), (44, .aload_n 0), (45, .bipush 64), (47, .newarray .int), (49, .putfield 27), (52, .aload_n 0), (53, .bipush 30), (55, .newarray .int), (57, .putfield 30), (60, .aload_n 0), (61, .bipush 30), (63, .newarray .int), (65, .putfield 33), (68, .return_)]
def za_i8 : List (Nat × Instr) := [(0, .aload_n 0), (1, .invokespecial 3), (4, .aload_n 0), (5, .iconst 0), (6, .putfield 9), (9, .aload_n 0), (10, .iconst 0), (11, .putfield 15), (14, .aload_n 0), (15, .iconst 0), (16, .putfield 18), (19, .aload_n 0), (20, .iconst (-1)), (21, .putfield 22), (24, .aload_n 0), (25, .new 25), (28, .dup), (29, .aload_n 1), (30, .invokespecial 27), (33, .putfield 30), (36, .aload_n 0), (37, .new 34), (40, .dup), (41, .aload_n 0), (42, .getfield 30), (45, .invokespecial 36), (48, .putfield 39), (51, .return_)]
def za_i9 : List (Nat × Instr) := [(0, .aload_n 0), (1, .invokespecial 3), (4, .aload_n 0), (5, .iconst 0), (6, .putfield 9), (9, .aload_n 0), (10, .iconst 0), (11, .putfield 15), (14, .aload_n 0), (15, .iconst 0), (16, .putfield 18), (19, .aload_n 0), (20, .iconst 0), (21, .putfield 21), (24, .aload_n 0), (25, .iconst 0), (26, .putfield 24), (29, .aload_n 0), (30, .aload_n 1), (31, .putfield 27), (34, .return_)]
def za_i10 : List (Nat × Instr) := [(0, .aload_n 0), (1, .invokespecial 3), (4, .aload_n 0), (5, .iconst 0), (6, .putfield 9), (9, .aload_n 0), (10, .iconst 0), (11, .putfield 15), (14, .aload_n 0), (15, .aload_n 1), (16, .putfield 18), (19, .return_)]
def za_i11 : List (Nat × Instr) := [(0, .aload_n 0), (1, .invokespecial 3), (4, .aload_n 0), (5, .iconst 0), (6, .putfield 9), (9, .aload_n 0), (10, .iconst 0), (11, .putfield 15), (14, .aload_n 0), (15, .iconst 0), (16, .putfield 18), (19, .aload_n 0), (20, .iconst 0), (21, .putfield 21), (24, .aload_n 0), (25, .iconst 0), (26, .putfield 24), (29, .aload_n 0), (30, .iconst 0), (31, .putfield 27), (34, .aload_n 0), (35, .iconst 0), (36, .putfield 30), (39, .aload_n 0), (40, .lconst 0), (41, .putfield 33), (44, .return_)]
def za_i12 : List (Nat × Instr) := [(0, .aload_n 0), (1, .invokespecial 3), (4, .aload_n 0), (5, .lconst 0), (6, .putfield 9), (9, .aload_n 0), (10, .lconst 0), (11, .putfield 15), (14, .return_)]
def za_i13 : List (Nat × Instr) := [(0, .aload_n 0), (1, .invokespecial 3), (4, .aload_n 0), (5, .new 9), (8, .dup), (9, .invokespecial 11), (12, .putfield 12), (15, .aload_n 0), (16, .bipush 64), (18, .newarray .int), (20, .putfield 18), (23, .aload_n 0), (24, .iconst 0), (25, .putfield 22), (28, .aload_n 0), (29, .bipush 8), (31, .newarray .int), (33, .putfield 26), (36, .return_)]
def za_i14 : List (Nat × Instr) := [(0, .aload_n 0), (1, .invokespecial 3), (4, .aload_n 0), (5, .iconst 0), (6, .putfield 9), (9, .aload_n 0), (10, .bipush 8), (12, .newarray .int), (14, .putfield 15), (17, .aload_n 0), (18, .bipush 8), (20, .newarray .int), (22, .putfield 19), (25, .aload_n 0), (26, .bipush 8), (28, .newarray .long), (30, .putfield 22), (33, .aload_n 0), (34, .bipush 8), (36, .newarray .int), (38, .putfield 26), (41, .aload_n 0), (42, .sipush 256), (45, .newarray .int), (47, .putfield 29), (50, .aload_n 0), (51, .iconst 0), (52, .putfield 32), (55, .aload_n 0), (56, .bipush 8), (58, .newarray .int), (60, .putfield 35), (63, .aload_n 0), (64, .bipush 8), (66, .newarray .int), (68, .putfield 38), (71, .aload_n 0), (72, .bipush 8), (74, .newarray .int), (76, .putfield 41), (79, .aload_n 0), (80, .bipush 8), (82, .newarray .int), (84, .putfield 44), (87, .aload_n 0), (88, .iconst 0), (89, .putfield 47), (92, .return_)]
def za_i15 : List (Nat × Instr) := [(0, .aload_n 0), (1, .invokespecial 3), (4, .aload_n 0), (5, .iconst (-1)), (6, .putfield 9), (9, .aload_n 0), (10, .iconst (-1)), (11, .putfield 15), (14, .aload_n 0), (15, .iconst (-1)), (16, .putfield 18), (19, .aload_n 0), (20, .lconst 0), (21, .putfield 21), (24, .return_)]
def za_i16 : List (Nat × Instr) := [(0, .aload_n 0), (1, .invokespecial 3), (4, .aload_n 0), (5, .iconst 0), (6, .putfield 9), (9, .aload_n 0), (10, .iconst (-1)), (11, .putfield 15), (14, .aload_n 0), (15, .iconst (-1)), (16, .putfield 18), (19, .return_)]
def za_i17 : List (Nat × Instr) := [(0, .aload_n 0), (1, .getfield 15), (4, .sipush 680), (7, .if_icmp .le 5), (10, .iconst (-1)), (11, .ireturn), (12, .aload_n 0), (13, .iload_n 1), (14, .invokevirtual 106), (17, .aload_n 0), (18, .iload_n 2), (19, .invokevirtual 106), (22, .aload_n 0), (23, .iload_n 3), (24, .invokevirtual 106), (27, .aload_n 0), (28, .iload 4), (30, .invokevirtual 106), (33, .aload_n 0), (34, .iload 5), (36, .invokevirtual 106), (39, .aload_n 0), (40, .getfield 15), (43, .ireturn)]
def za_i18 : List (Nat × Instr) := [(0, .bipush 24), (2, .istore_n 2), (3, .iload_n 2), (4, .ifCond .lt 42), (7, .aload_n 0), (8, .getfield 15), (11, .sipush 700), (14, .if_icmp .ge 32), (17, .aload_n 0), (18, .getfield 11), (21, .aload_n 0), (22, .getfield 15), (25, .iload_n 1), (26, .iload_n 2), (27, .ishr), (28, .i2b), (29, .bastore), (30, .aload_n 0), (31, .dup), (32, .getfield 15), (35, .iconst 1), (36, .iadd), (37, .putfield 15), (40, .iinc 2 (-8)), (43, .goto (-40)), (46, .return_)]
def za_i19 : List (Nat × Instr) := [(0, .aload_n 0), (1, .getfield 19), (4, .ireturn)]
def za_i20 : List (Nat × Instr) := [(0, .aload_n 0), (1, .getfield 38), (4, .invokevirtual 234), (7, .ifCond .eq 13), (10, .aload_n 0), (11, .getfield 38), (14, .getfield 171), (17, .goto 4), (20, .iconst (-1)), (21, .ireturn)]
def za_i21 : List (Nat × Instr) := [(0, .aload_n 0), (1, .getfield 40), (4, .ifCond .gt 5), (7, .iconst 0), (8, .ireturn), (9, .aload_n 0), (10, .dup), (11, .getfield 40), (14, .iconst 1), (15, .isub), (16, .putfield 40), (19, .aload_n 0), (20, .getfield 30), (23, .aload_n 0), (24, .getfield 40), (27, .iaload), (28, .istore_n 1), (29, .aload_n 0), (30, .getfield 33), (33, .aload_n 0), (34, .getfield 40), (37, .iaload), (38, .iconst (-1)), (39, .if_icmp .eq 21), (42, .aload_n 0), (43, .getfield 21), (46, .iload_n 1), (47, .aload_n 0), (48, .getfield 33), (51, .aload_n 0), (52, .getfield 40), (55, .iaload), (56, .iastore), (57, .goto 22), (60, .aload_n 0), (61, .getfield 18), (64, .iload_n 1), (65, .iaload), (66, .ifCond .le 13), (69, .aload_n 0), (70, .getfield 18), (73, .iload_n 1), (74, .dup2), (75, .iaload), (76, .iconst 1), (77, .isub), (78, .iastore), (79, .iconst 1), (80, .ireturn)]
def za_i22 : List (Nat × Instr) := [(0, .iconst 0), (1, .istore_n 1), (2, .iconst 0), (3, .istore_n 2), (4, .iload_n 2), (5, .aload_n 0), (6, .getfield 31), (9, .getfield 156), (12, .if_icmp .ge 67), (15, .aload_n 0), (16, .getfield 67), (19, .aload_n 0), (20, .getfield 31), (23, .aload_n 0), (24, .getfield 38), (27, .aload_n 0), (28, .getfield 31), (31, .getfield 283), (34, .iload_n 2), (35, .iaload), (36, .invokevirtual 288), (39, .lstore_n 3), (40, .aload_n 0), (41, .getfield 81), (44, .aload_n 0), (45, .getfield 31), (48, .iload_n 2), (49, .lload_n 3), (50, .invokevirtual 292), (53, .aload_n 0), (54, .getfield 81), (57, .getfield 296), (60, .getfield 242), (63, .iconst 4), (64, .if_icmp .ne 9), (67, .iload_n 1), (68, .iconst 1), (69, .iload_n 2), (70, .ishl), (71, .ior), (72, .istore_n 1), (73, .iinc 2 1), (76, .goto (-72)), (79, .iload_n 1), (80, .ireturn)]
def za_i23 : List (Nat × Instr) := [(0, .lconst 0), (1, .lstore 4), (3, .iconst 0), (4, .istore 6), (6, .iload 6), (8, .aload_n 2), (9, .getfield 86), (12, .if_icmp .ge 35), (15, .iload_n 3), (16, .iload 6), (18, .ishr), (19, .iconst 1), (20, .iand), (21, .ifCond .eq 20), (24, .aload_n 0), (25, .aload_n 1), (26, .aload_n 2), (27, .iload 6), (29, .invokevirtual 89), (32, .lload 4), (34, .aload_n 0), (35, .invokevirtual 93), (38, .lor), (39, .lstore 4), (41, .iinc 6 1), (44, .goto (-38)), (47, .lload 4), (49, .lreturn)]
def za_i24 : List (Nat × Instr) := [(0, .aload_n 0), (1, .aload_n 2), (2, .getfield 62), (5, .iload_n 3), (6, .iaload), (7, .aload_n 2), (8, .getfield 67), (11, .iload_n 3), (12, .iaload), (13, .invokevirtual 69), (16, .aload_n 2), (17, .getfield 73), (20, .iload_n 3), (21, .iaload), (22, .istore 4), (24, .iconst 0), (25, .istore 5), (27, .iload 5), (29, .iload 4), (31, .if_icmp .ge 58), (34, .aload_n 0), (35, .getfield 18), (38, .ifCond .ne 51), (41, .aload_n 0), (42, .iload 5), (44, .putfield 21), (47, .aload_n 0), (48, .aload_n 0), (49, .getfield 9), (52, .putfield 27), (55, .aload_n 0), (56, .aload_n 0), (57, .getfield 15), (60, .putfield 30), (63, .aload_n 0), (64, .aload_n 1), (65, .aload_n 2), (66, .iload_n 3), (67, .iload 5), (69, .invokevirtual 76), (72, .aload_n 2), (73, .iload_n 3), (74, .iload 5), (76, .invokevirtual 79), (79, .iconst 1), (80, .invokevirtual 82), (83, .iinc 5 1), (86, .goto (-59)), (89, .aload_n 0), (90, .getfield 18), (93, .ifCond .ne 9), (96, .aload_n 0), (97, .iload 4), (99, .putfield 21), (102, .return_)]
def za_i25 : List (Nat × Instr) := [(0, .aload_n 0), (1, .iload_n 1), (2, .putfield 9), (5, .aload_n 0), (6, .iload_n 2), (7, .putfield 15), (10, .aload_n 0), (11, .iconst 0), (12, .putfield 18), (15, .aload_n 0), (16, .iconst 0), (17, .putfield 21), (20, .aload_n 0), (21, .iconst 0), (22, .putfield 24), (25, .aload_n 0), (26, .iload_n 1), (27, .invokestatic 37), (30, .putfield 33), (33, .return_)]
def za_i26 : List (Nat × Instr) := [(0, .aload_n 0), (1, .getfield 24), (4, .iload_n 1), (5, .bipush 8), (7, .imul), (8, .iload_n 2), (9, .iadd), (10, .iaload), (11, .ireturn)]
def za_i27 : List (Nat × Instr) := [(0, .aload_n 0), (1, .getfield 27), (4, .iload_n 1), (5, .bipush 8), (7, .imul), (8, .iload_n 2), (9, .iadd), (10, .iaload), (11, .ireturn)]
def za_i28 : List (Nat × Instr) := [(0, .iconst 0), (1, .istore 5), (3, .iload 5), (5, .iload_n 3), (6, .if_icmp .ge 30), (9, .aload_n 0), (10, .getfield 18), (13, .ifCond .ne 23), (16, .aload_n 0), (17, .iload 5), (19, .putfield 24), (22, .aload_n 0), (23, .aload_n 1), (24, .iload_n 2), (25, .iload 4), (27, .invokevirtual 58), (30, .iinc 5 1), (33, .goto (-30)), (36, .aload_n 0), (37, .getfield 18), (40, .ifCond .ne 8), (43, .aload_n 0), (44, .iconst 0), (45, .putfield 24), (48, .return_)]
def za_i29 : List (Nat × Instr) := [(0, .iload_n 2), (1, .iconst (-1)), (2, .if_icmp .eq 18), (5, .aload_n 0), (6, .aload_n 1), (7, .aload_n 1), (8, .aload_n 0), (9, .getfield 9), (12, .iload_n 2), (13, .invokevirtual 41), (16, .iconst 1), (17, .invokevirtual 47), (20, .iload_n 3), (21, .ifCond .eq 25), (24, .aload_n 0), (25, .getfield 18), (28, .ifCond .ne 18), (31, .aload_n 1), (32, .aload_n 0), (33, .getfield 9), (36, .aload_n 0), (37, .getfield 15), (40, .invokevirtual 51), (43, .goto 4), (46, .iconst (-1)), (47, .istore 4), (49, .iload 4), (51, .iconst (-1)), (52, .if_icmp .eq 11), (55, .aload_n 0), (56, .aload_n 1), (57, .iload 4), (59, .iconst 2), (60, .invokevirtual 47), (63, .aload_n 0), (64, .getfield 18), (67, .ifCond .ne 13), (70, .aload_n 0), (71, .dup), (72, .getfield 15), (75, .iconst 1), (76, .iadd), (77, .putfield 15), (80, .return_)]
def za_i30 : List (Nat × Instr) := [(0, .iload_n 2), (1, .ifCond .lt 23), (4, .iload_n 2), (5, .iconst 4), (6, .if_icmp .ge 18), (9, .aload_n 0), (10, .getfield 9), (13, .iload_n 2), (14, .laload), (15, .iload_n 1), (16, .lushr), (17, .lconst 1), (18, .land), (19, .lconst 0), (20, .lcmp), (21, .ifCond .ne 5), (24, .iconst (-1)), (25, .ireturn), (26, .iload_n 2), (27, .tableswitch 43 0 2 #[25, 32, 36]), (52, .iload_n 1), (53, .aload_n 0), (54, .getfield 82), (57, .isub), (58, .ireturn), (59, .iload_n 1), (60, .iconst 1), (61, .iadd), (62, .ireturn), (63, .iload_n 1), (64, .aload_n 0), (65, .getfield 82), (68, .iadd), (69, .ireturn), (70, .iload_n 1), (71, .iconst 1), (72, .isub), (73, .ireturn)]
def za_i31 : List (Nat × Instr) := [(0, .iload_n 2), (1, .iconst (-1)), (2, .if_icmp .ne 9), (5, .aload_n 0), (6, .iconst 3), (7, .putfield 18), (10, .return_), (11, .aload_n 0), (12, .iload_n 2), (13, .putfield 9), (16, .aload_n 1), (17, .iload_n 2), (18, .invokevirtual 54), (21, .ifCond .eq 11), (24, .aload_n 0), (25, .iload_n 3), (26, .putfield 18), (29, .goto 16), (32, .aload_n 0), (33, .dup), (34, .getfield 33), (37, .iload_n 2), (38, .invokestatic 37), (41, .lor), (42, .putfield 33), (45, .return_)]
def za_i32 : List (Nat × Instr) := [(0, .aload_n 0), (1, .getfield 50), (4, .iload_n 1), (5, .lushr), (6, .lconst 1), (7, .land), (8, .lconst 0), (9, .lcmp), (10, .ifCond .eq 7), (13, .iconst 1), (14, .goto 4), (17, .iconst 0), (18, .ireturn)]
def za_i33 : List (Nat × Instr) := [(0, .iload_n 2), (1, .iconst 1), (2, .iand), (3, .ifCond .ne 17), (6, .aload_n 0), (7, .iload_n 1), (8, .aload_n 0), (9, .getfield 15), (12, .iload_n 1), (13, .iaload), (14, .invokevirtual 97), (17, .goto 4), (20, .iconst (-1)), (21, .ireturn)]
def za_i34 : List (Nat × Instr) := [(0, .aload_n 0), (1, .getfield 18), (4, .iconst 1), (5, .if_icmp .eq 11), (8, .aload_n 0), (9, .getfield 18), (12, .iconst 2), (13, .if_icmp .ne 13), (16, .aload_n 0), (17, .getfield 9), (20, .invokestatic 37), (23, .goto 4), (26, .lconst 0), (27, .lreturn)]
def za_i35 : List (Nat × Instr) := [(0, .aload_n 0), (1, .getfield 12), (4, .aload_n 1), (5, .getfield 29), (8, .iload_n 2), (9, .iaload), (10, .aload_n 1), (11, .getfield 34), (14, .iload_n 2), (15, .iaload), (16, .invokevirtual 37), (19, .aload_n 0), (20, .aload_n 1), (21, .invokevirtual 41), (24, .iconst 0), (25, .istore 5), (27, .iload 5), (29, .bipush 60), (31, .if_icmp .ge 44), (34, .aload_n 0), (35, .getfield 12), (38, .getfield 45), (41, .ifCond .ne 34), (44, .aload_n 0), (45, .aload_n 1), (46, .lload_n 3), (47, .invokevirtual 48), (50, .aload_n 0), (51, .getfield 12), (54, .aload_n 1), (55, .aload_n 0), (56, .aload_n 1), (57, .invokevirtual 52), (60, .iconst 1), (61, .invokevirtual 56), (64, .aload_n 0), (65, .aload_n 1), (66, .invokevirtual 41), (69, .iinc 5 1), (72, .goto (-45)), (75, .return_)]
def za_i36 : List (Nat × Instr) := [(0, .aload_n 0), (1, .getfield 12), (4, .getfield 45), (7, .ifCond .ne 29), (10, .aload_n 1), (11, .aload_n 0), (12, .getfield 12), (15, .getfield 60), (18, .invokevirtual 63), (21, .aload_n 1), (22, .getfield 67), (25, .if_icmp .lt 11), (28, .aload_n 0), (29, .getfield 12), (32, .iconst 4), (33, .putfield 45), (36, .return_)]
def za_i37 : List (Nat × Instr) := [(0, .aload_n 0), (1, .getfield 82), (4, .ifCond .le 12), (7, .iload_n 1), (8, .aload_n 0), (9, .getfield 82), (12, .irem), (13, .goto 4), (16, .iconst 0), (17, .ireturn)]
def za_i38 : List (Nat × Instr) := [(0, .aload_n 0), (1, .getfield 26), (4, .iconst 4), (5, .aload_n 1), (6, .aload_n 0), (7, .getfield 12), (10, .getfield 60), (13, .invokevirtual 63), (16, .iastore), (17, .aload_n 0), (18, .getfield 26), (21, .iconst 5), (22, .aload_n 1), (23, .aload_n 0), (24, .getfield 12), (27, .getfield 60), (30, .invokevirtual 70), (33, .iastore), (34, .aload_n 0), (35, .getfield 26), (38, .bipush 6), (40, .aload_n 0), (41, .getfield 12), (44, .getfield 73), (47, .iastore), (48, .aload_n 0), (49, .getfield 26), (52, .bipush 7), (54, .aload_n 1), (55, .aload_n 0), (56, .getfield 12), (59, .getfield 60), (62, .aload_n 0), (63, .getfield 12), (66, .getfield 73), (69, .invokevirtual 76), (72, .iconst (-1)), (73, .if_icmp .eq 7), (76, .iconst 1), (77, .goto 4), (80, .iconst 0), (81, .iastore), (82, .iconst 0), (83, .istore 4), (85, .iload 4), (87, .iconst 4), (88, .if_icmp .ge 53), (91, .aload_n 1), (92, .aload_n 0), (93, .getfield 12), (96, .getfield 60), (99, .iload 4), (101, .invokevirtual 80), (104, .istore 5), (106, .aload_n 0), (107, .getfield 26), (110, .iload 4), (112, .iload 5), (114, .iconst (-1)), (115, .if_icmp .eq 14), (118, .lload_n 2), (119, .iload 5), (121, .lushr), (122, .lconst 1), (123, .land), (124, .lconst 0), (125, .lcmp), (126, .ifCond .eq 7), (129, .iconst 1), (130, .goto 4), (133, .iconst 0), (134, .iastore), (135, .iinc 4 1), (138, .goto (-53)), (141, .return_)]
def za_i39 : List (Nat × Instr) := [(0, .aload_n 0), (1, .getfield 82), (4, .ifCond .le 12), (7, .iload_n 1), (8, .aload_n 0), (9, .getfield 82), (12, .idiv), (13, .goto 4), (16, .iconst 0), (17, .ireturn)]
def za_i40 : List (Nat × Instr) := [(0, .iconst 0), (1, .istore_n 2), (2, .iconst 0), (3, .istore_n 3), (4, .iload_n 3), (5, .aload_n 1), (6, .getfield 83), (9, .if_icmp .ge 38), (12, .aload_n 1), (13, .getfield 86), (16, .iload_n 3), (17, .iaload), (18, .istore 4), (20, .aload_n 0), (21, .aload_n 1), (22, .iload_n 2), (23, .iload 4), (25, .invokevirtual 89), (28, .ifCond .eq 10), (31, .aload_n 1), (32, .getfield 93), (35, .iload_n 3), (36, .iaload), (37, .ireturn), (38, .iload 4), (40, .istore_n 2), (41, .iinc 3 1), (44, .goto (-40)), (47, .iconst (-1)), (48, .ireturn)]
def za_i41 : List (Nat × Instr) := [(0, .aload_n 0), (1, .iconst 0), (2, .putfield 22), (5, .iload_n 2), (6, .istore 4), (8, .iload 4), (10, .iload_n 3), (11, .if_icmp .ge 120), (14, .iload 4), (16, .aload_n 1), (17, .getfield 96), (20, .arraylength), (21, .if_icmp .ge 110), (24, .aload_n 1), (25, .getfield 96), (28, .iload 4), (30, .iaload), (31, .istore 5), (33, .iconst (-1)), (34, .iload 5), (36, .isub), (37, .istore 6), (39, .iload 5), (41, .ifCond .lt 12), (44, .aload_n 0), (45, .iload 5), (47, .invokevirtual 99), (50, .goto 75), (53, .iload 6), (55, .bipush 8), (57, .if_icmp .ge 17), (60, .aload_n 0), (61, .aload_n 0), (62, .getfield 26), (65, .iload 6), (67, .iaload), (68, .invokevirtual 99), (71, .goto 54), (74, .iload 6), (76, .bipush 10), (78, .if_icmp .ne 22), (81, .aload_n 0), (82, .aload_n 0), (83, .invokevirtual 103), (86, .ifCond .ne 7), (89, .iconst 1), (90, .goto 4), (93, .iconst 0), (94, .invokevirtual 99), (97, .goto 28), (100, .aload_n 0), (101, .invokevirtual 103), (104, .istore 7), (106, .aload_n 0), (107, .invokevirtual 103), (110, .istore 8), (112, .aload_n 0), (113, .iload 8), (115, .iload 6), (117, .iload 7), (119, .invokestatic 107), (122, .invokevirtual 99), (125, .iinc 4 1), (128, .goto (-120)), (131, .aload_n 0), (132, .invokevirtual 103), (135, .ireturn)]
def za_i42 : List (Nat × Instr) := [(0, .aload_n 0), (1, .getfield 22), (4, .aload_n 0), (5, .getfield 18), (8, .arraylength), (9, .if_icmp .ge 23), (12, .aload_n 0), (13, .getfield 18), (16, .aload_n 0), (17, .getfield 22), (20, .iload_n 1), (21, .iastore), (22, .aload_n 0), (23, .dup), (24, .getfield 22), (27, .iconst 1), (28, .iadd), (29, .putfield 22), (32, .return_)]
def za_i43 : List (Nat × Instr) := [(0, .aload_n 0), (1, .getfield 22), (4, .ifCond .gt 5), (7, .iconst 0), (8, .ireturn), (9, .aload_n 0), (10, .dup), (11, .getfield 22), (14, .iconst 1), (15, .isub), (16, .putfield 22), (19, .aload_n 0), (20, .getfield 18), (23, .aload_n 0), (24, .getfield 22), (27, .iaload), (28, .ireturn)]
def za_i44 : List (Nat × Instr) := [(0, .iload_n 1), (1, .lookupswitch 127 #[(9, 113), (42, 75), (43, 67), (45, 71), (47, 79), (60, 91), (61, 102)]), (68, .iload_n 0), (69, .iload_n 2), (70, .iadd), (71, .ireturn), (72, .iload_n 0), (73, .iload_n 2), (74, .isub), (75, .ireturn), (76, .iload_n 0), (77, .iload_n 2), (78, .imul), (79, .ireturn), (80, .iload_n 2), (81, .ifCond .ne 7), (84, .iconst 0), (85, .goto 6), (88, .iload_n 0), (89, .iload_n 2), (90, .idiv), (91, .ireturn), (92, .iload_n 0), (93, .iload_n 2), (94, .if_icmp .ge 7), (97, .iconst 1), (98, .goto 4), (101, .iconst 0), (102, .ireturn), (103, .iload_n 0), (104, .iload_n 2), (105, .if_icmp .ne 7), (108, .iconst 1), (109, .goto 4), (112, .iconst 0), (113, .ireturn), (114, .iload_n 0), (115, .ifCond .eq 11), (118, .iload_n 2), (119, .ifCond .eq 7), (122, .iconst 1), (123, .goto 4), (126, .iconst 0), (127, .ireturn), (128, .iload_n 0), (129, .ifCond .ne 7), (132, .iload_n 2), (133, .ifCond .eq 7), (136, .iconst 1), (137, .goto 4), (140, .iconst 0), (141, .ireturn)]
def za_i45 : List (Nat × Instr) := [(0, .aload_n 0), (1, .getfield 48), (4, .aload_n 0), (5, .getfield 38), (8, .invokevirtual 359), (11, .aload_n 0), (12, .iconst 1), (13, .putfield 51), (16, .return_)]
def za_i46 : List (Nat × Instr) := [(0, .aload_n 0), (1, .aload_n 1), (2, .getfield 36), (5, .putfield 36), (8, .aload_n 0), (9, .aload_n 1), (10, .getfield 40), (13, .putfield 40), (16, .aload_n 1), (17, .getfield 9), (20, .iconst 0), (21, .aload_n 0), (22, .getfield 9), (25, .iconst 0), (26, .bipush 8), (28, .invokestatic 44), (31, .aload_n 1), (32, .getfield 15), (35, .iconst 0), (36, .aload_n 0), (37, .getfield 15), (40, .iconst 0), (41, .bipush 8), (43, .invokestatic 44), (46, .aload_n 1), (47, .getfield 18), (50, .iconst 0), (51, .aload_n 0), (52, .getfield 18), (55, .iconst 0), (56, .bipush 8), (58, .invokestatic 44), (61, .aload_n 1), (62, .getfield 21), (65, .iconst 0), (66, .aload_n 0), (67, .getfield 21), (70, .iconst 0), (71, .bipush 8), (73, .invokestatic 44), (76, .aload_n 1), (77, .getfield 24), (80, .iconst 0), (81, .aload_n 0), (82, .getfield 24), (85, .iconst 0), (86, .bipush 64), (88, .invokestatic 44), (91, .aload_n 1), (92, .getfield 27), (95, .iconst 0), (96, .aload_n 0), (97, .getfield 27), (100, .iconst 0), (101, .bipush 64), (103, .invokestatic 44), (106, .aload_n 1), (107, .getfield 30), (110, .iconst 0), (111, .aload_n 0), (112, .getfield 30), (115, .iconst 0), (116, .bipush 30), (118, .invokestatic 44), (121, .aload_n 1), (122, .getfield 33), (125, .iconst 0), (126, .aload_n 0), (127, .getfield 33), (130, .iconst 0), (131, .bipush 30), (133, .invokestatic 44), (136, .return_)]
def za_i47 : List (Nat × Instr) := [(0, .aload_n 0), (1, .getfield 51), (4, .ifCond .eq 14), (7, .aload_n 0), (8, .getfield 38), (11, .aload_n 0), (12, .getfield 48), (15, .invokevirtual 359), (18, .aload_n 0), (19, .getfield 51), (22, .ireturn)]
def za_i48 : List (Nat × Instr) := [(0, .aload_n 2), (1, .iconst 0), (2, .aload_n 0), (3, .iload_n 1), (4, .invokevirtual 7), (7, .i2l), (8, .lastore), (9, .goto 6), (12, .astore_n 3), (13, .iconst 1), (14, .ireturn), (15, .iconst 0), (16, .ireturn)]
def za_i49 : List (Nat × Instr) := [(0, .iload_n 1), (1, .ifCond .lt 11), (4, .iload_n 1), (5, .aload_n 0), (6, .getfield 15), (9, .if_icmp .le 13), (12, .new 110), (15, .dup), (16, .ldc 112), (18, .invokespecial 114), (21, .athrow), (22, .aload_n 0), (23, .iconst 0), (24, .putfield 15), (27, .aload_n 0), (28, .getfield 60), (31, .iload_n 1), (32, .aload_n 0), (33, .getfield 42), (36, .aload_n 0), (37, .getfield 45), (40, .invokevirtual 117), (43, .ifCond .ne 32), (46, .aload_n 0), (47, .aload_n 0), (48, .getfield 60), (51, .getfield 121), (54, .putfield 19), (57, .aload_n 0), (58, .dup), (59, .getfield 22), (62, .iconst 1), (63, .iadd), (64, .putfield 22), (67, .aload_n 0), (68, .getfield 60), (71, .getfield 122), (74, .ireturn), (75, .aload_n 0), (76, .invokevirtual 125), (79, .iconst 0), (80, .ireturn)]
def za_i50 : List (Nat × Instr) := [(0, .aload_n 2), (1, .invokevirtual 43), (4, .aload_n 3), (5, .invokevirtual 48), (8, .aload_n 0), (9, .getfield 39), (12, .invokevirtual 51), (15, .aload_n 0), (16, .iconst 0), (17, .putfield 9), (20, .aload_n 0), (21, .iconst 0), (22, .putfield 15), (25, .aload_n 0), (26, .getfield 30), (29, .iload_n 1), (30, .invokevirtual 52), (33, .iconst 0), (34, .istore 4), (36, .iload 4), (38, .sipush 700), (41, .if_icmp .gt 47), (44, .aload_n 0), (45, .getfield 30), (48, .getfield 56), (51, .ifCond .eq 37), (54, .aload_n 0), (55, .iload 4), (57, .ifCond .ne 7), (60, .iconst 1), (61, .goto 4), (64, .iconst 0), (65, .aload_n 2), (66, .aload_n 3), (67, .invokevirtual 59), (70, .ifCond .eq 10), (73, .aload_n 0), (74, .invokevirtual 63), (77, .ifCond .ne 5), (80, .iconst 0), (81, .ireturn), (82, .iinc 4 1), (85, .goto (-49)), (88, .iconst 1), (89, .ireturn)]
def za_i51 : List (Nat × Instr) := [(0, .aload_n 0), (1, .iconst 0), (2, .putfield 36), (5, .aload_n 0), (6, .iconst 0), (7, .putfield 40), (10, .return_)]
def za_i52 : List (Nat × Instr) := [(0, .aload_n 0), (1, .iconst 0), (2, .putfield 9), (5, .return_)]
def za_i53 : List (Nat × Instr) := [(0, .aload_n 0), (1, .iload_n 1), (2, .aload_n 0), (3, .getfield 27), (6, .arraylength), (7, .invokestatic 31), (10, .putfield 9), (13, .aload_n 0), (14, .iconst 0), (15, .putfield 15), (18, .aload_n 0), (19, .invokevirtual 37), (22, .return_)]
def za_i54 : List (Nat × Instr) := [(0, .iload_n 0), (1, .iload_n 1), (2, .if_icmp .gt 7), (5, .iload_n 0), (6, .goto 4), (9, .iload_n 1), (10, .ireturn)]
def za_i55 : List (Nat × Instr) := [(0, .aload_n 0), (1, .getfield 15), (4, .aload_n 0), (5, .getfield 9), (8, .if_icmp .ge 44), (11, .aload_n 0), (12, .getfield 27), (15, .aload_n 0), (16, .getfield 15), (19, .baload), (20, .bipush 32), (22, .if_icmp .eq 17), (25, .aload_n 0), (26, .getfield 27), (29, .aload_n 0), (30, .getfield 15), (33, .baload), (34, .bipush 10), (36, .if_icmp .ne 16), (39, .aload_n 0), (40, .dup), (41, .getfield 15), (44, .iconst 1), (45, .iadd), (46, .putfield 15), (49, .goto (-49)), (52, .aload_n 0), (53, .aload_n 0), (54, .getfield 15), (57, .putfield 18), (60, .aload_n 0), (61, .getfield 15), (64, .aload_n 0), (65, .getfield 9), (68, .if_icmp .lt 11), (71, .aload_n 0), (72, .iconst 0), (73, .putfield 21), (76, .goto 51), (79, .aload_n 0), (80, .getfield 27), (83, .aload_n 0), (84, .getfield 15), (87, .baload), (88, .invokestatic 40), (91, .ifCond .eq 10), (94, .aload_n 0), (95, .invokevirtual 44), (98, .goto 29), (101, .aload_n 0), (102, .getfield 27), (105, .aload_n 0), (106, .getfield 15), (109, .baload), (110, .invokestatic 47), (113, .ifCond .eq 10), (116, .aload_n 0), (117, .invokevirtual 50), (120, .goto 7), (123, .aload_n 0), (124, .invokevirtual 53), (127, .return_)]
def za_i56 : List (Nat × Instr) := [(0, .iload_n 0), (1, .bipush 97), (3, .if_icmp .lt 13), (6, .iload_n 0), (7, .bipush 122), (9, .if_icmp .gt 7), (12, .iconst 1), (13, .goto 4), (16, .iconst 0), (17, .ireturn)]
def za_i57 : List (Nat × Instr) := [(0, .aload_n 0), (1, .getfield 15), (4, .aload_n 0), (5, .getfield 9), (8, .if_icmp .ge 31), (11, .aload_n 0), (12, .getfield 27), (15, .aload_n 0), (16, .getfield 15), (19, .baload), (20, .invokestatic 40), (23, .ifCond .eq 16), (26, .aload_n 0), (27, .dup), (28, .getfield 15), (31, .iconst 1), (32, .iadd), (33, .putfield 15), (36, .goto (-36)), (39, .aload_n 0), (40, .iconst 3), (41, .putfield 21), (44, .aload_n 0), (45, .iconst 0), (46, .putfield 24), (49, .iconst 0), (50, .istore_n 1), (51, .iconst 0), (52, .istore_n 2), (53, .iload_n 2), (54, .ldc 56), (56, .invokevirtual 58), (59, .if_icmp .ge 104), (62, .ldc 56), (64, .iload_n 2), (65, .invokevirtual 63), (68, .istore_n 3), (69, .iload_n 3), (70, .bipush 32), (72, .if_icmp .eq 59), (75, .iload_n 1), (76, .iconst (-1)), (77, .if_icmp .eq 35), (80, .aload_n 0), (81, .getfield 18), (84, .iload_n 1), (85, .iadd), (86, .aload_n 0), (87, .getfield 15), (90, .if_icmp .ge 22), (93, .aload_n 0), (94, .getfield 27), (97, .aload_n 0), (98, .getfield 18), (101, .iload_n 1), (102, .iadd), (103, .baload), (104, .iload_n 3), (105, .if_icmp .ne 7), (108, .iconst 1), (109, .goto 4), (112, .iconst 0), (113, .istore 4), (115, .iload 4), (117, .ifCond .eq 9), (120, .iload_n 1), (121, .iconst 1), (122, .iadd), (123, .goto 4), (126, .iconst (-1)), (127, .istore_n 1), (128, .goto 29), (131, .iload_n 1), (132, .aload_n 0), (133, .getfield 15), (136, .aload_n 0), (137, .getfield 18), (140, .isub), (141, .if_icmp .ne 4), (144, .return_), (145, .iconst 0), (146, .istore_n 1), (147, .aload_n 0), (148, .dup), (149, .getfield 24), (152, .iconst 1), (153, .iadd), (154, .putfield 24), (157, .iinc 2 1), (160, .goto (-107)), (163, .return_)]
def za_i58 : List (Nat × Instr) := [(0, .iload_n 0), (1, .bipush 48), (3, .if_icmp .lt 13), (6, .iload_n 0), (7, .bipush 57), (9, .if_icmp .gt 7), (12, .iconst 1), (13, .goto 4), (16, .iconst 0), (17, .ireturn)]
def za_i59 : List (Nat × Instr) := [(0, .iconst 0), (1, .istore_n 1), (2, .aload_n 0), (3, .getfield 15), (6, .aload_n 0), (7, .getfield 9), (10, .if_icmp .ge 62), (13, .aload_n 0), (14, .getfield 27), (17, .aload_n 0), (18, .getfield 15), (21, .baload), (22, .invokestatic 47), (25, .ifCond .eq 47), (28, .aload_n 0), (29, .getfield 15), (32, .aload_n 0), (33, .getfield 18), (36, .isub), (37, .iconst 4), (38, .if_icmp .ge 21), (41, .iload_n 1), (42, .bipush 10), (44, .imul), (45, .aload_n 0), (46, .getfield 27), (49, .aload_n 0), (50, .getfield 15), (53, .baload), (54, .iadd), (55, .bipush 48), (57, .isub), (58, .istore_n 1), (59, .aload_n 0), (60, .dup), (61, .getfield 15), (64, .iconst 1), (65, .iadd), (66, .putfield 15), (69, .goto (-67)), (72, .aload_n 0), (73, .iconst 2), (74, .putfield 21), (77, .aload_n 0), (78, .aload_n 0), (79, .getfield 15), (82, .aload_n 0), (83, .getfield 18), (86, .isub), (87, .iconst 4), (88, .if_icmp .le 8), (91, .ldc 67), (93, .goto 4), (96, .iload_n 1), (97, .putfield 24), (100, .return_)]
def za_i60 : List (Nat × Instr) := [(0, .aload_n 0), (1, .aload_n 0), (2, .getfield 27), (5, .aload_n 0), (6, .getfield 15), (9, .baload), (10, .putfield 24), (13, .aload_n 0), (14, .getfield 24), (17, .tableswitch 111 40 61 #[103, 103, 103, 103, 111, 103, 111, 103, 111, 111, 111, 111, 111, 111, 111, 111, 111, 111, 111, 103, 103, 103]), (120, .aload_n 0), (121, .iconst 4), (122, .putfield 21), (125, .goto 8), (128, .aload_n 0), (129, .iconst 1), (130, .putfield 21), (133, .aload_n 0), (134, .dup), (135, .getfield 15), (138, .iconst 1), (139, .iadd), (140, .putfield 15), (143, .return_)]
def za_i61 : List (Nat × Instr) := [(0, .aload_n 0), (1, .getfield 30), (4, .getfield 56), (7, .iconst 3), (8, .if_icmp .eq 9), (11, .aload_n 0), (12, .iconst 1), (13, .invokevirtual 74), (16, .ireturn), (17, .aload_n 0), (18, .getfield 30), (21, .getfield 80), (24, .tableswitch 300 12 20 #[52, 74, 104, 126, 154, 180, 213, 246, 273]), (76, .aload_n 0), (77, .iload_n 1), (78, .invokevirtual 83), (81, .ifCond .eq 15), (84, .aload_n 0), (85, .aload_n 2), (86, .invokevirtual 87), (89, .ifCond .eq 7), (92, .iconst 1), (93, .goto 4), (96, .iconst 0), (97, .ireturn), (98, .aload_n 0), (99, .aload_n 2), (100, .getfield 91), (103, .invokestatic 95), (106, .bipush 20), (108, .invokevirtual 101), (111, .ifCond .eq 15), (114, .aload_n 0), (115, .aload_n 2), (116, .invokevirtual 104), (119, .ifCond .eq 7), (122, .iconst 1), (123, .goto 4), (126, .iconst 0), (127, .ireturn), (128, .aload_n 0), (129, .iconst 1), (130, .invokevirtual 83), (133, .ifCond .eq 15), (136, .aload_n 0), (137, .aload_n 2), (138, .invokevirtual 107), (141, .ifCond .eq 7), (144, .iconst 1), (145, .goto 4), (148, .iconst 0), (149, .ireturn), (150, .aload_n 0), (151, .aload_n 3), (152, .getfield 110), (155, .bipush 8), (157, .invokevirtual 101), (160, .ifCond .eq 16), (163, .aload_n 0), (164, .aload_n 2), (165, .aload_n 3), (166, .invokevirtual 113), (169, .ifCond .eq 7), (172, .iconst 1), (173, .goto 4), (176, .iconst 0), (177, .ireturn), (178, .aload_n 0), (179, .aload_n 2), (180, .getfield 117), (183, .iconst 5), (184, .invokevirtual 101), (187, .ifCond .eq 15), (190, .aload_n 0), (191, .aload_n 2), (192, .invokevirtual 120), (195, .ifCond .eq 7), (198, .iconst 1), (199, .goto 4), (202, .iconst 0), (203, .ireturn), (204, .aload_n 0), (205, .aload_n 0), (206, .getfield 9), (209, .ifCond .ne 7), (212, .iconst 1), (213, .goto 4), (216, .iconst 0), (217, .invokevirtual 83), (220, .ifCond .eq 15), (223, .aload_n 0), (224, .aload_n 2), (225, .invokevirtual 123), (228, .ifCond .eq 7), (231, .iconst 1), (232, .goto 4), (235, .iconst 0), (236, .ireturn), (237, .aload_n 0), (238, .aload_n 0), (239, .getfield 15), (242, .ifCond .ne 7), (245, .iconst 1), (246, .goto 4), (249, .iconst 0), (250, .invokevirtual 83), (253, .ifCond .eq 15), (256, .aload_n 0), (257, .aload_n 2), (258, .invokevirtual 126), (261, .ifCond .eq 7), (264, .iconst 1), (265, .goto 4), (268, .iconst 0), (269, .ireturn), (270, .aload_n 0), (271, .aload_n 2), (272, .getfield 129), (275, .iconst 4), (276, .invokevirtual 101), (279, .ifCond .eq 16), (282, .aload_n 0), (283, .aload_n 2), (284, .aload_n 3), (285, .invokevirtual 132), (288, .ifCond .eq 7), (291, .iconst 1), (292, .goto 4), (295, .iconst 0), (296, .ireturn), (297, .aload_n 0), (298, .aload_n 2), (299, .getfield 135), (302, .bipush 8), (304, .invokevirtual 101), (307, .ifCond .eq 15), (310, .aload_n 0), (311, .aload_n 2), (312, .invokevirtual 138), (315, .ifCond .eq 7), (318, .iconst 1), (319, .goto 4), (322, .iconst 0), (323, .ireturn), (324, .aload_n 0), (325, .iconst 1), (326, .invokevirtual 74), (329, .ireturn)]
def za_i62 : List (Nat × Instr) := [(0, .aload_n 0), (1, .iload_n 1), (2, .putfield 18), (5, .aload_n 0), (6, .aload_n 0), (7, .getfield 30), (10, .getfield 67), (13, .putfield 22), (16, .iconst 0), (17, .ireturn)]
def za_i63 : List (Nat × Instr) := [(0, .iload_n 1), (1, .ifCond .ne 9), (4, .aload_n 0), (5, .iconst 5), (6, .invokevirtual 74), (9, .ireturn), (10, .aload_n 0), (11, .getfield 30), (14, .invokevirtual 77), (17, .iconst 1), (18, .ireturn)]
def za_i64 : List (Nat × Instr) := [(0, .aload_n 0), (1, .iconst 2), (2, .bipush 8), (4, .invokevirtual 158), (7, .istore_n 2), (8, .iload_n 2), (9, .iconst (-1)), (10, .if_icmp .ne 7), (13, .iconst (-1)), (14, .goto 10), (17, .aload_n 0), (18, .iconst 2), (19, .bipush 8), (21, .invokevirtual 158), (24, .istore_n 3), (25, .iload_n 3), (26, .iconst (-1)), (27, .if_icmp .ne 5), (30, .iconst 0), (31, .ireturn), (32, .aload_n 1), (33, .iload_n 2), (34, .iload_n 3), (35, .invokevirtual 161), (38, .iconst 1), (39, .ireturn)]
def za_i65 : List (Nat × Instr) := [(0, .aload_n 0), (1, .iload_n 1), (2, .iload_n 2), (3, .invokevirtual 141), (6, .istore_n 3), (7, .iload_n 3), (8, .iconst (-1)), (9, .if_icmp .eq 10), (12, .aload_n 0), (13, .getfield 30), (16, .invokevirtual 77), (19, .iload_n 3), (20, .ireturn)]
def za_i66 : List (Nat × Instr) := [(0, .aload_n 0), (1, .getfield 30), (4, .getfield 56), (7, .iconst 2), (8, .if_icmp .eq 11), (11, .aload_n 0), (12, .iconst 1), (13, .invokevirtual 74), (16, .pop), (17, .iconst (-1)), (18, .ireturn), (19, .aload_n 0), (20, .getfield 30), (23, .getfield 80), (26, .iload_n 1), (27, .if_icmp .lt 14), (30, .aload_n 0), (31, .getfield 30), (34, .getfield 80), (37, .iload_n 2), (38, .if_icmp .le 11), (41, .aload_n 0), (42, .iconst 2), (43, .invokevirtual 74), (46, .pop), (47, .iconst (-1)), (48, .ireturn), (49, .aload_n 0), (50, .getfield 30), (53, .getfield 80), (56, .ireturn)]
def za_i67 : List (Nat × Instr) := [(0, .lload_n 0), (1, .lload_n 0), (2, .iconst 1), (3, .lushr), (4, .ldc2_w 314), (7, .land), (8, .lsub), (9, .lstore_n 0), (10, .lload_n 0), (11, .ldc2_w 316), (14, .land), (15, .lload_n 0), (16, .iconst 2), (17, .lushr), (18, .ldc2_w 316), (21, .land), (22, .ladd), (23, .lstore_n 0), (24, .lload_n 0), (25, .lload_n 0), (26, .iconst 4), (27, .lushr), (28, .ladd), (29, .ldc2_w 318), (32, .land), (33, .lstore_n 0), (34, .lload_n 0), (35, .lload_n 0), (36, .bipush 8), (38, .lushr), (39, .ladd), (40, .lstore_n 0), (41, .lload_n 0), (42, .lload_n 0), (43, .bipush 16), (45, .lushr), (46, .ladd), (47, .lstore_n 0), (48, .lload_n 0), (49, .lload_n 0), (50, .bipush 32), (52, .lushr), (53, .ladd), (54, .lstore_n 0), (55, .lload_n 0), (56, .l2i), (57, .bipush 127), (59, .iand), (60, .ireturn)]
def za_i68 : List (Nat × Instr) := [(0, .iload_n 1), (1, .iload_n 2), (2, .if_icmp .lt 9), (5, .aload_n 0), (6, .iconst 2), (7, .invokevirtual 74), (10, .ireturn), (11, .aload_n 0), (12, .getfield 30), (15, .invokevirtual 77), (18, .iconst 1), (19, .ireturn)]
def za_i69 : List (Nat × Instr) := [(0, .aload_n 0), (1, .aload_n 1), (2, .aload_n 1), (3, .getfield 91), (6, .invokevirtual 165), (9, .istore_n 2), (10, .iload_n 2), (11, .iconst (-1)), (12, .if_icmp .ne 5), (15, .iconst 0), (16, .ireturn), (17, .aload_n 1), (18, .dup), (19, .getfield 91), (22, .iload_n 2), (23, .invokestatic 154), (26, .lor), (27, .putfield 91), (30, .iconst 1), (31, .ireturn)]
def za_i70 : List (Nat × Instr) := [(0, .aload_n 0), (1, .iconst 0), (2, .aload_n 1), (3, .getfield 148), (6, .iconst 1), (7, .isub), (8, .invokevirtual 141), (11, .istore 4), (13, .iload 4), (15, .iconst (-1)), (16, .if_icmp .ne 5), (19, .iconst (-1)), (20, .ireturn), (21, .aload_n 0), (22, .getfield 30), (25, .invokevirtual 77), (28, .aload_n 0), (29, .iconst 0), (30, .aload_n 1), (31, .getfield 151), (34, .iconst 1), (35, .isub), (36, .invokevirtual 141), (39, .istore 5), (41, .iload 5), (43, .iconst (-1)), (44, .if_icmp .ne 5), (47, .iconst (-1)), (48, .ireturn), (49, .aload_n 1), (50, .getfield 148), (53, .iload 5), (55, .imul), (56, .iload 4), (58, .iadd), (59, .istore 6), (61, .lload_n 2), (62, .iload 6), (64, .invokestatic 154), (67, .land), (68, .lconst 0), (69, .lcmp), (70, .ifCond .eq 11), (73, .aload_n 0), (74, .iconst 4), (75, .invokevirtual 74), (78, .pop), (79, .iconst (-1)), (80, .ireturn), (81, .aload_n 0), (82, .getfield 30), (85, .invokevirtual 77), (88, .iload 6), (90, .ireturn)]
def za_i71 : List (Nat × Instr) := [(0, .aload_n 0), (1, .aload_n 1), (2, .aload_n 1), (3, .invokevirtual 169), (6, .invokevirtual 165), (9, .istore_n 2), (10, .iload_n 2), (11, .iconst (-1)), (12, .if_icmp .ne 7), (15, .iconst (-1)), (16, .goto 7), (19, .aload_n 0), (20, .invokevirtual 173), (23, .istore_n 3), (24, .iload_n 3), (25, .iconst (-1)), (26, .if_icmp .ne 5), (29, .iconst 0), (30, .ireturn), (31, .aload_n 1), (32, .iload_n 2), (33, .iload_n 3), (34, .invokevirtual 177), (37, .iconst 1), (38, .ireturn)]
def za_i72 : List (Nat × Instr) := [(0, .aload_n 0), (1, .getfield 19), (4, .iconst 0), (5, .laload), (6, .aload_n 0), (7, .getfield 19), (10, .iconst 1), (11, .laload), (12, .lor), (13, .aload_n 0), (14, .getfield 19), (17, .iconst 2), (18, .laload), (19, .lor), (20, .aload_n 0), (21, .getfield 19), (24, .iconst 3), (25, .laload), (26, .lor), (27, .lreturn)]
def za_i73 : List (Nat × Instr) := [(0, .aload_n 0), (1, .getfield 30), (4, .invokevirtual 145), (7, .ifCond .ne 11), (10, .aload_n 0), (11, .iconst 1), (12, .invokevirtual 74), (15, .pop), (16, .iconst (-1)), (17, .ireturn), (18, .aload_n 0), (19, .getfield 30), (22, .getfield 80), (25, .istore_n 1), (26, .aload_n 0), (27, .getfield 30), (30, .invokevirtual 77), (33, .iload_n 1), (34, .ireturn)]
def za_i74 : List (Nat × Instr) := [(0, .aload_n 0), (1, .getfield 21), (4, .iconst 3), (5, .if_icmp .ne 15), (8, .aload_n 0), (9, .getfield 24), (12, .iconst 4), (13, .if_icmp .ge 7), (16, .iconst 1), (17, .goto 4), (20, .iconst 0), (21, .ireturn)]
def za_i75 : List (Nat × Instr) := [(0, .aload_n 0), (1, .getfield 15), (4, .iload_n 1), (5, .iload_n 2), (6, .iastore), (7, .aload_n 0), (8, .getfield 19), (11, .iload_n 2), (12, .dup2), (13, .laload), (14, .iload_n 1), (15, .invokestatic 93), (18, .lor), (19, .lastore), (20, .return_)]
def za_i76 : List (Nat × Instr) := [(0, .aload_n 0), (1, .aload_n 1), (2, .lconst 0), (3, .invokevirtual 165), (6, .istore_n 3), (7, .iload_n 3), (8, .iconst (-1)), (9, .if_icmp .ne 7), (12, .iconst (-1)), (13, .goto 10), (16, .aload_n 0), (17, .iconst 0), (18, .bipush 99), (20, .invokevirtual 158), (23, .istore 4), (25, .iload 4), (27, .iconst (-1)), (28, .if_icmp .ne 5), (31, .iconst 0), (32, .ireturn), (33, .aload_n 2), (34, .getfield 110), (37, .istore 5), (39, .aload_n 2), (40, .iload_n 3), (41, .iload 4), (43, .invokevirtual 180), (46, .iconst 0), (47, .istore 6), (49, .iload 6), (51, .bipush 8), (53, .if_icmp .gt 65), (56, .aload_n 0), (57, .getfield 30), (60, .invokevirtual 145), (63, .ifCond .eq 55), (66, .iload 6), (68, .bipush 8), (70, .if_icmp .ne 9), (73, .aload_n 0), (74, .iconst 2), (75, .invokevirtual 74), (78, .ireturn), (79, .aload_n 0), (80, .invokevirtual 173), (83, .istore 7), (85, .aload_n 0), (86, .iconst 1), (87, .bipush 9), (89, .invokevirtual 158), (92, .istore 8), (94, .iload 8), (96, .iconst (-1)), (97, .if_icmp .ne 5), (100, .iconst 0), (101, .ireturn), (102, .aload_n 2), (103, .iload 5), (105, .iload 7), (107, .iload 8), (109, .invokevirtual 183), (112, .iinc 6 1), (115, .goto (-66)), (118, .iconst 1), (119, .ireturn)]
def za_i77 : List (Nat × Instr) := [(0, .aload_n 0), (1, .getfield 36), (4, .bipush 8), (6, .if_icmp .ge 53), (9, .aload_n 0), (10, .getfield 9), (13, .aload_n 0), (14, .getfield 36), (17, .iload_n 1), (18, .iastore), (19, .aload_n 0), (20, .getfield 15), (23, .aload_n 0), (24, .getfield 36), (27, .iload_n 2), (28, .iastore), (29, .aload_n 0), (30, .getfield 18), (33, .aload_n 0), (34, .getfield 36), (37, .iconst 0), (38, .iastore), (39, .aload_n 0), (40, .getfield 21), (43, .aload_n 0), (44, .getfield 36), (47, .iconst 0), (48, .iastore), (49, .aload_n 0), (50, .dup), (51, .getfield 36), (54, .iconst 1), (55, .iadd), (56, .putfield 36), (59, .return_)]
def za_i78 : List (Nat × Instr) := [(0, .aload_n 0), (1, .getfield 18), (4, .iload_n 1), (5, .iaload), (6, .bipush 8), (8, .if_icmp .ge 47), (11, .aload_n 0), (12, .getfield 24), (15, .iload_n 1), (16, .bipush 8), (18, .imul), (19, .aload_n 0), (20, .getfield 18), (23, .iload_n 1), (24, .iaload), (25, .iadd), (26, .iload_n 2), (27, .iastore), (28, .aload_n 0), (29, .getfield 27), (32, .iload_n 1), (33, .bipush 8), (35, .imul), (36, .aload_n 0), (37, .getfield 18), (40, .iload_n 1), (41, .iaload), (42, .iadd), (43, .iload_n 3), (44, .iastore), (45, .aload_n 0), (46, .getfield 18), (49, .iload_n 1), (50, .dup2), (51, .iaload), (52, .iconst 1), (53, .iadd), (54, .iastore), (55, .return_)]
def za_i79 : List (Nat × Instr) := [(0, .bipush 12), (2, .istore_n 2), (3, .iconst 0), (4, .istore_n 3), (5, .iload_n 3), (6, .iconst 4), (7, .if_icmp .ge 76), (10, .iload_n 3), (11, .iconst 3), (12, .if_icmp .ne 7), (15, .iconst 1), (16, .goto 4), (19, .iconst 0), (20, .istore 4), (22, .aload_n 0), (23, .iload 4), (25, .ifCond .eq 7), (28, .iload_n 2), (29, .goto 4), (32, .iconst 0), (33, .iload 4), (35, .ifCond .eq 7), (38, .iload_n 2), (39, .goto 5), (42, .bipush 12), (44, .invokevirtual 158), (47, .istore 5), (49, .iload 5), (51, .iconst (-1)), (52, .if_icmp .ne 5), (55, .iconst 0), (56, .ireturn), (57, .aload_n 1), (58, .getfield 187), (61, .aload_n 1), (62, .getfield 117), (65, .iconst 4), (66, .imul), (67, .iload_n 3), (68, .iadd), (69, .iload 5), (71, .iastore), (72, .iload_n 2), (73, .iload 5), (75, .isub), (76, .istore_n 2), (77, .iinc 3 1), (80, .goto (-75)), (83, .aload_n 1), (84, .dup), (85, .getfield 117), (88, .iconst 1), (89, .iadd), (90, .putfield 117), (93, .iconst 1), (94, .ireturn)]
def za_i80 : List (Nat × Instr) := [(0, .aload_n 0), (1, .aload_n 1), (2, .lconst 0), (3, .invokevirtual 165), (6, .istore_n 2), (7, .iload_n 2), (8, .iconst (-1)), (9, .if_icmp .ne 7), (12, .iconst (-1)), (13, .goto 10), (16, .aload_n 0), (17, .iconst 0), (18, .bipush 9), (20, .invokevirtual 158), (23, .istore_n 3), (24, .iload_n 3), (25, .iconst (-1)), (26, .if_icmp .ne 5), (29, .iconst 0), (30, .ireturn), (31, .aload_n 1), (32, .iload_n 2), (33, .putfield 191), (36, .aload_n 1), (37, .iload_n 3), (38, .putfield 194), (41, .aload_n 0), (42, .iconst 1), (43, .putfield 9), (46, .iconst 1), (47, .ireturn)]
def za_i81 : List (Nat × Instr) := [(0, .aload_n 0), (1, .iconst 0), (2, .bipush 7), (4, .invokevirtual 158), (7, .istore_n 2), (8, .iload_n 2), (9, .iconst (-1)), (10, .if_icmp .ne 5), (13, .iconst 0), (14, .ireturn), (15, .aload_n 1), (16, .iload_n 2), (17, .putfield 197), (20, .aload_n 0), (21, .iconst 1), (22, .putfield 15), (25, .iconst 1), (26, .ireturn)]
def za_i82 : List (Nat × Instr) := [(0, .aload_n 0), (1, .aload_n 1), (2, .lconst 0), (3, .invokevirtual 165), (6, .istore_n 3), (7, .iload_n 3), (8, .iconst (-1)), (9, .if_icmp .ne 7), (12, .iconst (-1)), (13, .goto 10), (16, .aload_n 0), (17, .iconst 0), (18, .bipush 99), (20, .invokevirtual 158), (23, .istore 4), (25, .iload 4), (27, .iconst (-1)), (28, .if_icmp .ne 5), (31, .iconst 0), (32, .ireturn), (33, .iconst 0), (34, .istore 5), (36, .iconst 0), (37, .istore 6), (39, .iload 6), (41, .bipush 8), (43, .if_icmp .gt 46), (46, .aload_n 0), (47, .getfield 30), (50, .getfield 56), (53, .iconst 2), (54, .if_icmp .ne 35), (57, .aload_n 0), (58, .aload_n 2), (59, .iload 5), (61, .invokevirtual 200), (64, .istore 7), (66, .iload 7), (68, .iconst (-1)), (69, .if_icmp .ne 5), (72, .iconst 0), (73, .ireturn), (74, .iload 5), (76, .iconst 1), (77, .iload 7), (79, .ishl), (80, .ior), (81, .istore 5), (83, .iinc 6 1), (86, .goto (-47)), (89, .aload_n 1), (90, .getfield 204), (93, .aload_n 1), (94, .getfield 129), (97, .iload_n 3), (98, .iastore), (99, .aload_n 1), (100, .getfield 207), (103, .aload_n 1), (104, .getfield 129), (107, .iload 4), (109, .iastore), (110, .aload_n 1), (111, .getfield 210), (114, .aload_n 1), (115, .getfield 129), (118, .iload 5), (120, .iastore), (121, .aload_n 1), (122, .dup), (123, .getfield 129), (126, .iconst 1), (127, .iadd), (128, .putfield 129), (131, .iconst 1), (132, .ireturn)]
def za_i83 : List (Nat × Instr) := [(0, .aload_n 0), (1, .iconst 0), (2, .sipush 9999), (5, .invokevirtual 141), (8, .istore_n 3), (9, .iload_n 3), (10, .iconst (-1)), (11, .if_icmp .ne 5), (14, .iconst (-1)), (15, .ireturn), (16, .iload_n 3), (17, .aload_n 1), (18, .getfield 110), (21, .if_icmp .lt 11), (24, .aload_n 0), (25, .iconst 3), (26, .invokevirtual 74), (29, .pop), (30, .iconst (-1)), (31, .ireturn), (32, .iload_n 2), (33, .iload_n 3), (34, .ishr), (35, .iconst 1), (36, .iand), (37, .ifCond .eq 11), (40, .aload_n 0), (41, .iconst 4), (42, .invokevirtual 74), (45, .pop), (46, .iconst (-1)), (47, .ireturn), (48, .aload_n 0), (49, .getfield 30), (52, .invokevirtual 77), (55, .iload_n 3), (56, .ireturn)]
def za_i84 : List (Nat × Instr) := [(0, .aload_n 0), (1, .getfield 39), (4, .aload_n 1), (5, .iconst 0), (6, .invokevirtual 213), (9, .ifCond .ne 15), (12, .aload_n 0), (13, .aload_n 0), (14, .getfield 39), (17, .getfield 217), (20, .invokevirtual 74), (23, .ireturn), (24, .aload_n 0), (25, .getfield 30), (28, .bipush 11), (30, .invokevirtual 218), (33, .ifCond .ne 9), (36, .aload_n 0), (37, .iconst 1), (38, .invokevirtual 74), (41, .ireturn), (42, .aload_n 0), (43, .getfield 30), (46, .invokevirtual 77), (49, .aload_n 0), (50, .invokevirtual 173), (53, .istore_n 2), (54, .iload_n 2), (55, .iconst (-1)), (56, .if_icmp .ne 5), (59, .iconst 0), (60, .ireturn), (61, .aload_n 1), (62, .getfield 221), (65, .aload_n 1), (66, .getfield 135), (69, .iload_n 2), (70, .iastore), (71, .aload_n 1), (72, .getfield 224), (75, .aload_n 1), (76, .getfield 135), (79, .aload_n 0), (80, .getfield 39), (83, .getfield 227), (86, .iastore), (87, .aload_n 1), (88, .dup), (89, .getfield 135), (92, .iconst 1), (93, .iadd), (94, .putfield 135), (97, .iconst 1), (98, .ireturn)]
def za_i85 : List (Nat × Instr) := [(0, .iload_n 2), (1, .bipush 6), (3, .if_icmp .lt 57), (6, .aload_n 0), (7, .getfield 18), (10, .getfield 32), (13, .iconst 2), (14, .if_icmp .eq 26), (17, .aload_n 0), (18, .getfield 18), (21, .getfield 32), (24, .iconst 3), (25, .if_icmp .eq 15), (28, .aload_n 0), (29, .getfield 18), (32, .bipush 40), (34, .invokevirtual 37), (37, .ifCond .eq 7), (40, .iconst 1), (41, .goto 4), (44, .iconst 0), (45, .istore_n 3), (46, .aload_n 0), (47, .iload_n 3), (48, .ifCond .eq 7), (51, .iconst 2), (52, .goto 4), (55, .iconst 1), (56, .invokevirtual 41), (59, .ireturn), (60, .aload_n 0), (61, .aload_n 1), (62, .iload_n 2), (63, .invokevirtual 44), (66, .ifCond .ne 5), (69, .iconst 0), (70, .ireturn), (71, .iconst 0), (72, .istore_n 3), (73, .iload_n 3), (74, .sipush 700), (77, .if_icmp .ge 46), (80, .aload_n 0), (81, .getfield 18), (84, .bipush 8), (86, .invokevirtual 48), (89, .ifCond .eq 34), (92, .aload_n 0), (93, .getfield 18), (96, .invokevirtual 51), (99, .aload_n 0), (100, .aload_n 1), (101, .iload_n 2), (102, .invokevirtual 44), (105, .ifCond .ne 5), (108, .iconst 0), (109, .ireturn), (110, .aload_n 0), (111, .aload_n 1), (112, .bipush 8), (114, .invokevirtual 54), (117, .iinc 3 1), (120, .goto (-47)), (123, .iconst 1), (124, .ireturn)]
def za_i86 : List (Nat × Instr) := [(0, .aload_n 0), (1, .getfield 21), (4, .iconst 4), (5, .if_icmp .ne 15), (8, .aload_n 0), (9, .getfield 24), (12, .iload_n 1), (13, .if_icmp .ne 7), (16, .iconst 1), (17, .goto 4), (20, .iconst 0), (21, .ireturn)]
def za_i87 : List (Nat × Instr) := [(0, .aload_n 0), (1, .iload_n 1), (2, .putfield 15), (5, .iconst 0), (6, .ireturn)]
def za_i88 : List (Nat × Instr) := [(0, .aload_n 0), (1, .aload_n 1), (2, .iload_n 2), (3, .invokevirtual 57), (6, .ifCond .ne 5), (9, .iconst 0), (10, .ireturn), (11, .iconst 0), (12, .istore_n 3), (13, .iload_n 3), (14, .sipush 700), (17, .if_icmp .ge 46), (20, .aload_n 0), (21, .getfield 18), (24, .bipush 9), (26, .invokevirtual 48), (29, .ifCond .eq 34), (32, .aload_n 0), (33, .getfield 18), (36, .invokevirtual 51), (39, .aload_n 0), (40, .aload_n 1), (41, .iload_n 2), (42, .invokevirtual 57), (45, .ifCond .ne 5), (48, .iconst 0), (49, .ireturn), (50, .aload_n 0), (51, .aload_n 1), (52, .bipush 9), (54, .invokevirtual 54), (57, .iinc 3 1), (60, .goto (-47)), (63, .iconst 1), (64, .ireturn)]
def za_i89 : List (Nat × Instr) := [(0, .iconst 0), (1, .istore_n 3), (2, .iload_n 3), (3, .bipush 6), (5, .if_icmp .ge 28), (8, .aload_n 0), (9, .getfield 18), (12, .bipush 10), (14, .invokevirtual 48), (17, .ifCond .eq 16), (20, .aload_n 0), (21, .getfield 18), (24, .invokevirtual 51), (27, .iinc 3 1), (30, .goto (-28)), (33, .aload_n 0), (34, .getfield 18), (37, .bipush 10), (39, .invokevirtual 48), (42, .ifCond .eq 9), (45, .aload_n 0), (46, .iconst 2), (47, .invokevirtual 41), (50, .ireturn), (51, .aload_n 0), (52, .aload_n 1), (53, .iload_n 2), (54, .invokevirtual 60), (57, .ifCond .ne 5), (60, .iconst 0), (61, .ireturn), (62, .iconst 0), (63, .istore 4), (65, .iload 4), (67, .iload_n 3), (68, .if_icmp .ge 16), (71, .aload_n 0), (72, .aload_n 1), (73, .bipush 10), (75, .invokevirtual 54), (78, .iinc 4 1), (81, .goto (-16)), (84, .iconst 1), (85, .ireturn)]
def za_i90 : List (Nat × Instr) := [(0, .aload_n 0), (1, .getfield 21), (4, .iconst 3), (5, .if_icmp .ne 15), (8, .aload_n 0), (9, .getfield 24), (12, .iload_n 1), (13, .if_icmp .ne 7), (16, .iconst 1), (17, .goto 4), (20, .iconst 0), (21, .ireturn)]
def za_i91 : List (Nat × Instr) := [(0, .aload_n 0), (1, .aload_n 1), (2, .iload_n 2), (3, .invokevirtual 63), (6, .ifCond .ne 5), (9, .iconst 0), (10, .ireturn), (11, .aload_n 0), (12, .getfield 18), (15, .bipush 60), (17, .invokevirtual 37), (20, .ifCond .ne 17), (23, .aload_n 0), (24, .getfield 18), (27, .bipush 61), (29, .invokevirtual 37), (32, .ifCond .ne 5), (35, .iconst 1), (36, .ireturn), (37, .aload_n 0), (38, .getfield 18), (41, .getfield 66), (44, .istore_n 3), (45, .aload_n 0), (46, .getfield 18), (49, .invokevirtual 51), (52, .aload_n 0), (53, .aload_n 1), (54, .iload_n 2), (55, .invokevirtual 63), (58, .ifCond .ne 5), (61, .iconst 0), (62, .ireturn), (63, .aload_n 0), (64, .aload_n 1), (65, .iload_n 3), (66, .invokevirtual 54), (69, .iconst 1), (70, .ireturn)]
def za_i92 : List (Nat × Instr) := [(0, .aload_n 0), (1, .aload_n 1), (2, .iload_n 2), (3, .invokevirtual 69), (6, .ifCond .ne 5), (9, .iconst 0), (10, .ireturn), (11, .iconst 0), (12, .istore_n 3), (13, .iload_n 3), (14, .sipush 700), (17, .if_icmp .ge 67), (20, .aload_n 0), (21, .getfield 18), (24, .bipush 43), (26, .invokevirtual 37), (29, .ifCond .ne 15), (32, .aload_n 0), (33, .getfield 18), (36, .bipush 45), (38, .invokevirtual 37), (41, .ifCond .eq 43), (44, .aload_n 0), (45, .getfield 18), (48, .getfield 66), (51, .istore 4), (53, .aload_n 0), (54, .getfield 18), (57, .invokevirtual 51), (60, .aload_n 0), (61, .aload_n 1), (62, .iload_n 2), (63, .invokevirtual 69), (66, .ifCond .ne 5), (69, .iconst 0), (70, .ireturn), (71, .aload_n 0), (72, .aload_n 1), (73, .iload 4), (75, .invokevirtual 54), (78, .iinc 3 1), (81, .goto (-68)), (84, .iconst 1), (85, .ireturn)]
def za_i93 : List (Nat × Instr) := [(0, .aload_n 0), (1, .aload_n 1), (2, .iload_n 2), (3, .invokevirtual 72), (6, .ifCond .ne 5), (9, .iconst 0), (10, .ireturn), (11, .iconst 0), (12, .istore_n 3), (13, .iload_n 3), (14, .sipush 700), (17, .if_icmp .ge 67), (20, .aload_n 0), (21, .getfield 18), (24, .bipush 42), (26, .invokevirtual 37), (29, .ifCond .ne 15), (32, .aload_n 0), (33, .getfield 18), (36, .bipush 47), (38, .invokevirtual 37), (41, .ifCond .eq 43), (44, .aload_n 0), (45, .getfield 18), (48, .getfield 66), (51, .istore 4), (53, .aload_n 0), (54, .getfield 18), (57, .invokevirtual 51), (60, .aload_n 0), (61, .aload_n 1), (62, .iload_n 2), (63, .invokevirtual 72), (66, .ifCond .ne 5), (69, .iconst 0), (70, .ireturn), (71, .aload_n 0), (72, .aload_n 1), (73, .iload 4), (75, .invokevirtual 54), (78, .iinc 3 1), (81, .goto (-68)), (84, .iconst 1), (85, .ireturn)]
def za_i94 : List (Nat × Instr) := [(0, .aload_n 0), (1, .getfield 18), (4, .bipush 40), (6, .invokevirtual 37), (9, .ifCond .eq 41), (12, .aload_n 0), (13, .getfield 18), (16, .invokevirtual 51), (19, .aload_n 0), (20, .aload_n 1), (21, .iload_n 2), (22, .iconst 1), (23, .iadd), (24, .invokevirtual 75), (27, .ifCond .ne 5), (30, .iconst 0), (31, .ireturn), (32, .aload_n 0), (33, .getfield 18), (36, .bipush 41), (38, .invokevirtual 37), (41, .ifCond .ne 104), (44, .aload_n 0), (45, .iconst 1), (46, .invokevirtual 41), (49, .ireturn), (50, .aload_n 0), (51, .getfield 18), (54, .getfield 32), (57, .iconst 2), (58, .if_icmp .ne 37), (61, .aload_n 0), (62, .getfield 18), (65, .getfield 66), (68, .sipush 9999), (71, .if_icmp .le 9), (74, .aload_n 0), (75, .iconst 2), (76, .invokevirtual 41), (79, .ireturn), (80, .aload_n 0), (81, .aload_n 1), (82, .aload_n 0), (83, .getfield 18), (86, .getfield 66), (89, .invokevirtual 28), (92, .goto 53), (95, .aload_n 0), (96, .getfield 18), (99, .getfield 32), (102, .iconst 3), (103, .if_icmp .ne 36), (106, .aload_n 0), (107, .getfield 18), (110, .getfield 66), (113, .bipush 8), (115, .if_icmp .lt 9), (118, .aload_n 0), (119, .iconst 3), (120, .invokevirtual 41), (123, .ireturn), (124, .aload_n 0), (125, .aload_n 1), (126, .aload_n 0), (127, .getfield 18), (130, .getfield 66), (133, .invokevirtual 54), (136, .goto 9), (139, .aload_n 0), (140, .iconst 1), (141, .invokevirtual 41), (144, .ireturn), (145, .aload_n 0), (146, .getfield 18), (149, .invokevirtual 51), (152, .iconst 1), (153, .ireturn)]
def za_i95 : List (Nat × Instr) := [(0, .aload_n 0), (1, .getfield 9), (4, .aload_n 1), (5, .getfield 22), (8, .arraylength), (9, .if_icmp .ge 23), (12, .aload_n 1), (13, .getfield 22), (16, .aload_n 0), (17, .getfield 9), (20, .iload_n 2), (21, .iastore), (22, .aload_n 0), (23, .dup), (24, .getfield 9), (27, .iconst 1), (28, .iadd), (29, .putfield 9), (32, .return_)]
def za_i96 : List (Nat × Instr) := [(0, .aload_n 0), (1, .aload_n 1), (2, .iconst (-1)), (3, .iload_n 2), (4, .isub), (5, .invokevirtual 28), (8, .return_)]
def za_i97 : List (Nat × Instr) := [(0, .aload_n 0), (1, .getfield 30), (4, .bipush 59), (6, .invokevirtual 70), (9, .ifCond .ne 9), (12, .aload_n 0), (13, .iconst 1), (14, .invokevirtual 74), (17, .ireturn), (18, .aload_n 0), (19, .getfield 30), (22, .invokevirtual 77), (25, .iconst 1), (26, .ireturn)]
def za_i98 : List (Nat × Instr) := [(0, .aload_n 0), (1, .getfield 31), (4, .astore_n 1), (5, .aload_n 0), (6, .getfield 38), (9, .astore_n 2), (10, .aload_n 0), (11, .aload_n 0), (12, .getfield 42), (15, .putfield 31), (18, .aload_n 0), (19, .aload_n 0), (20, .getfield 45), (23, .putfield 38), (26, .aload_n 0), (27, .aload_n 1), (28, .putfield 42), (31, .aload_n 0), (32, .aload_n 2), (33, .putfield 45), (36, .aload_n 0), (37, .iconst (-1)), (38, .putfield 19), (41, .aload_n 0), (42, .iconst 0), (43, .putfield 51), (46, .aload_n 0), (47, .getfield 88), (50, .invokevirtual 128), (53, .return_)]
def za_i99 : List (Nat × Instr) := [(0, .aload_n 0), (1, .iconst 0), (2, .putfield 47), (5, .return_)]
def za_i100 : List (Nat × Instr) := [(0, .aload_n 2), (1, .iconst 0), (2, .aload_n 0), (3, .iload_n 1), (4, .invokevirtual 15), (7, .i2l), (8, .lastore), (9, .goto 6), (12, .astore_n 3), (13, .iconst 1), (14, .ireturn), (15, .iconst 0), (16, .ireturn)]
def za_i101 : List (Nat × Instr) := [(0, .iload_n 1), (1, .tableswitch 192 0 14 #[75, 83, 91, 102, 113, 121, 129, 137, 145, 153, 161, 169, 177, 182, 187]), (76, .aload_n 0), (77, .getfield 31), (80, .getfield 131), (83, .ireturn), (84, .aload_n 0), (85, .getfield 31), (88, .getfield 134), (91, .ireturn), (92, .aload_n 0), (93, .getfield 31), (96, .getfield 137), (99, .invokestatic 141), (102, .ireturn), (103, .aload_n 0), (104, .getfield 31), (107, .invokevirtual 147), (110, .invokestatic 141), (113, .ireturn), (114, .aload_n 0), (115, .getfield 38), (118, .getfield 151), (121, .ireturn), (122, .aload_n 0), (123, .getfield 31), (126, .getfield 154), (129, .ireturn), (130, .aload_n 0), (131, .getfield 31), (134, .getfield 156), (137, .ireturn), (138, .aload_n 0), (139, .getfield 31), (142, .getfield 159), (145, .ireturn), (146, .aload_n 0), (147, .getfield 31), (150, .getfield 162), (153, .ireturn), (154, .aload_n 0), (155, .getfield 31), (158, .getfield 165), (161, .ireturn), (162, .aload_n 0), (163, .getfield 31), (166, .getfield 168), (169, .ireturn), (170, .aload_n 0), (171, .getfield 38), (174, .getfield 171), (177, .ireturn), (178, .aload_n 0), (179, .getfield 15), (182, .ireturn), (183, .aload_n 0), (184, .getfield 22), (187, .ireturn), (188, .aload_n 0), (189, .getfield 25), (192, .ireturn), (193, .new 174), (196, .dup), (197, .ldc 176), (199, .invokespecial 178), (202, .athrow)]
def za_i102 : List (Nat × Instr) := [(0, .aload_n 3), (1, .iconst 0), (2, .aload_n 0), (3, .iload_n 1), (4, .iload_n 2), (5, .invokevirtual 20), (8, .i2l), (9, .lastore), (10, .goto 7), (13, .astore 4), (15, .iconst 1), (16, .ireturn), (17, .iconst 0), (18, .ireturn)]
def za_i103 : List (Nat × Instr) := [(0, .iload_n 2), (1, .iconst 1), (2, .invokestatic 179), (5, .iload_n 1), (6, .ifCond .lt 14), (9, .iload_n 1), (10, .aload_n 0), (11, .getfield 31), (14, .invokevirtual 183), (17, .if_icmp .lt 13), (20, .new 174), (23, .dup), (24, .ldc 187), (26, .invokespecial 178), (29, .athrow), (30, .iload_n 2), (31, .ifCond .ne 20), (34, .aload_n 0), (35, .getfield 31), (38, .iload_n 1), (39, .invokevirtual 189), (42, .ifCond .eq 7), (45, .iconst 1), (46, .goto 4), (49, .iconst 0), (50, .ireturn), (51, .aload_n 0), (52, .getfield 31), (55, .getfield 193), (58, .iload_n 1), (59, .iaload), (60, .ireturn)]
def za_i104 : List (Nat × Instr) := [(0, .iload_n 0), (1, .ifCond .lt 8), (4, .iload_n 0), (5, .iload_n 1), (6, .if_icmp .le 14), (9, .new 174), (12, .dup), (13, .ldc_w 367), (16, .invokespecial 178), (19, .athrow), (20, .return_)]
def za_i105 : List (Nat × Instr) := [(0, .aload_n 0), (1, .getfield 82), (4, .aload_n 0), (5, .getfield 85), (8, .imul), (9, .ireturn)]
def za_i106 : List (Nat × Instr) := [(0, .aload_n 3), (1, .iconst 0), (2, .aload_n 0), (3, .iload_n 1), (4, .iload_n 2), (5, .invokevirtual 24), (8, .i2l), (9, .lastore), (10, .goto 7), (13, .astore 4), (15, .iconst 1), (16, .ireturn), (17, .iconst 0), (18, .ireturn)]
def za_i107 : List (Nat × Instr) := [(0, .aload_n 0), (1, .iload_n 1), (2, .invokevirtual 197), (5, .iload_n 2), (6, .iconst 3), (7, .invokestatic 179), (10, .iload_n 2), (11, .tableswitch 55 0 2 #[25, 35, 45]), (36, .aload_n 0), (37, .getfield 38), (40, .getfield 200), (43, .iload_n 1), (44, .iaload), (45, .ireturn), (46, .aload_n 0), (47, .getfield 38), (50, .getfield 203), (53, .iload_n 1), (54, .iaload), (55, .ireturn), (56, .aload_n 0), (57, .getfield 38), (60, .getfield 206), (63, .iload_n 1), (64, .iaload), (65, .ireturn), (66, .aload_n 0), (67, .getfield 38), (70, .getfield 209), (73, .iload_n 1), (74, .iaload), (75, .ireturn)]
def za_i108 : List (Nat × Instr) := [(0, .iload_n 1), (1, .ifCond .lt 14), (4, .iload_n 1), (5, .aload_n 0), (6, .getfield 38), (9, .getfield 151), (12, .if_icmp .lt 14), (15, .new 174), (18, .dup), (19, .ldc_w 363), (22, .invokespecial 178), (25, .athrow), (26, .return_)]
def za_i109 : List (Nat × Instr) := [(0, .aload 4), (2, .iconst 0), (3, .aload_n 0), (4, .iload_n 1), (5, .iload_n 2), (6, .iload_n 3), (7, .invokevirtual 27), (10, .i2l), (11, .lastore), (12, .goto 7), (15, .astore 5), (17, .iconst 1), (18, .ireturn), (19, .iconst 0), (20, .ireturn)]
def za_i110 : List (Nat × Instr) := [(0, .aload_n 0), (1, .iload_n 1), (2, .invokevirtual 197), (5, .iload_n 3), (6, .iconst 1), (7, .invokestatic 179), (10, .iload_n 2), (11, .ifCond .lt 16), (14, .iload_n 2), (15, .aload_n 0), (16, .getfield 38), (19, .getfield 206), (22, .iload_n 1), (23, .iaload), (24, .if_icmp .lt 13), (27, .new 174), (30, .dup), (31, .ldc 212), (33, .invokespecial 178), (36, .athrow), (37, .iload_n 3), (38, .ifCond .ne 15), (41, .aload_n 0), (42, .getfield 38), (45, .iload_n 1), (46, .iload_n 2), (47, .invokevirtual 214), (50, .goto 12), (53, .aload_n 0), (54, .getfield 38), (57, .iload_n 1), (58, .iload_n 2), (59, .invokevirtual 218), (62, .ireturn)]
def za_i111 : List (Nat × Instr) := [(0, .aload 4), (2, .iconst 0), (3, .aload_n 0), (4, .iload_n 1), (5, .iload_n 2), (6, .iload_n 3), (7, .invokevirtual 31), (10, .i2l), (11, .lastore), (12, .goto 7), (15, .astore 5), (17, .iconst 1), (18, .ireturn), (19, .iconst 0), (20, .ireturn)]
def za_i112 : List (Nat × Instr) := [(0, .aload_n 0), (1, .iload_n 1), (2, .invokevirtual 197), (5, .iload_n 2), (6, .ifCond .lt 23), (9, .iload_n 2), (10, .iconst 4), (11, .if_icmp .ge 18), (14, .iload_n 3), (15, .iconst 1), (16, .if_icmp .lt 13), (19, .iload_n 3), (20, .bipush 9), (22, .if_icmp .gt 7), (25, .iconst 1), (26, .goto 4), (29, .iconst 0), (30, .istore 4), (32, .iload 4), (34, .ifCond .eq 17), (37, .aload_n 0), (38, .getfield 38), (41, .getfield 206), (44, .iload_n 1), (45, .iaload), (46, .bipush 8), (48, .if_icmp .lt 15), (51, .aload_n 0), (52, .dup), (53, .getfield 25), (56, .iconst 1), (57, .iadd), (58, .putfield 25), (61, .iconst (-1)), (62, .ireturn), (63, .aload_n 0), (64, .getfield 38), (67, .iload_n 1), (68, .iconst (-1)), (69, .invokevirtual 221), (72, .aload_n 0), (73, .getfield 38), (76, .iload_n 1), (77, .iload_n 2), (78, .iload_n 3), (79, .invokevirtual 224), (82, .aload_n 0), (83, .getfield 38), (86, .getfield 206), (89, .iload_n 1), (90, .iaload), (91, .ireturn)]
def za_i113 : List (Nat × Instr) := [(0, .aload_n 0), (1, .getfield 40), (4, .bipush 30), (6, .if_icmp .lt 39), (9, .aload_n 0), (10, .getfield 30), (13, .iconst 1), (14, .aload_n 0), (15, .getfield 30), (18, .iconst 0), (19, .bipush 29), (21, .invokestatic 44), (24, .aload_n 0), (25, .getfield 33), (28, .iconst 1), (29, .aload_n 0), (30, .getfield 33), (33, .iconst 0), (34, .bipush 29), (36, .invokestatic 44), (39, .aload_n 0), (40, .bipush 29), (42, .putfield 40), (45, .aload_n 0), (46, .getfield 30), (49, .aload_n 0), (50, .getfield 40), (53, .iload_n 1), (54, .iastore), (55, .aload_n 0), (56, .getfield 33), (59, .aload_n 0), (60, .getfield 40), (63, .iload_n 2), (64, .iastore), (65, .aload_n 0), (66, .dup), (67, .getfield 40), (70, .iconst 1), (71, .iadd), (72, .putfield 40), (75, .return_)]
def za_i114 : List (Nat × Instr) := [(0, .aload 4), (2, .iconst 0), (3, .aload_n 0), (4, .iload_n 1), (5, .iload_n 2), (6, .iload_n 3), (7, .invokevirtual 34), (10, .i2l), (11, .lastore), (12, .goto 7), (15, .astore 5), (17, .iconst 1), (18, .ireturn), (19, .iconst 0), (20, .ireturn)]
def za_i115 : List (Nat × Instr) := [(0, .aload_n 0), (1, .iload_n 1), (2, .invokevirtual 197), (5, .iload_n 3), (6, .ifCond .lt 9), (9, .iload_n 3), (10, .bipush 100), (12, .if_icmp .le 15), (15, .aload_n 0), (16, .dup), (17, .getfield 25), (20, .iconst 1), (21, .iadd), (22, .putfield 25), (25, .iconst (-1)), (26, .ireturn), (27, .aload_n 0), (28, .getfield 38), (31, .iload_n 1), (32, .aload_n 0), (33, .getfield 38), (36, .getfield 209), (39, .iload_n 1), (40, .iaload), (41, .invokevirtual 221), (44, .aload_n 0), (45, .getfield 38), (48, .iload_n 1), (49, .iload_n 2), (50, .iload_n 3), (51, .invokevirtual 228), (54, .aload_n 0), (55, .getfield 38), (58, .getfield 209), (61, .iload_n 1), (62, .iaload), (63, .invokestatic 231), (66, .ireturn)]
def za_i116 : List (Nat × Instr) := [(0, .iload_n 2), (1, .istore 4), (3, .iconst 0), (4, .istore 5), (6, .iload 5), (8, .aload_n 0), (9, .getfield 18), (12, .iload_n 1), (13, .iaload), (14, .if_icmp .ge 49), (17, .iload 4), (19, .ldc 43), (21, .imul), (22, .sipush 12345), (25, .iadd), (26, .istore 4), (28, .iload 4), (30, .bipush 16), (32, .iushr), (33, .sipush 32767), (36, .iand), (37, .bipush 100), (39, .irem), (40, .iload_n 3), (41, .if_icmp .ge 16), (44, .aload_n 0), (45, .getfield 21), (48, .iload_n 1), (49, .dup2), (50, .iaload), (51, .iconst 1), (52, .iload 5), (54, .ishl), (55, .ior), (56, .iastore), (57, .iinc 5 1), (60, .goto (-54)), (63, .return_)]
def za_i117 : List (Nat × Instr) := [(0, .iload_n 0), (1, .iload_n 0), (2, .iconst 1), (3, .iushr), (4, .ldc_w 265), (7, .iand), (8, .isub), (9, .istore_n 0), (10, .iload_n 0), (11, .ldc_w 266), (14, .iand), (15, .iload_n 0), (16, .iconst 2), (17, .iushr), (18, .ldc_w 266), (21, .iand), (22, .iadd), (23, .istore_n 0), (24, .iload_n 0), (25, .iload_n 0), (26, .iconst 4), (27, .iushr), (28, .iadd), (29, .ldc_w 267), (32, .iand), (33, .istore_n 0), (34, .iload_n 0), (35, .iload_n 0), (36, .bipush 8), (38, .iushr), (39, .iadd), (40, .istore_n 0), (41, .iload_n 0), (42, .iload_n 0), (43, .bipush 16), (45, .iushr), (46, .iadd), (47, .istore_n 0), (48, .iload_n 0), (49, .bipush 63), (51, .iand), (52, .ireturn)]
def za_i118 : List (Nat × Instr) := [(0, .aload_n 3), (1, .iconst 0), (2, .aload_n 0), (3, .iload_n 1), (4, .iload_n 2), (5, .invokevirtual 37), (8, .i2l), (9, .lastore), (10, .goto 7), (13, .astore 4), (15, .iconst 1), (16, .ireturn), (17, .iconst 0), (18, .ireturn)]
def za_i119 : List (Nat × Instr) := [(0, .aload_n 0), (1, .iload_n 1), (2, .invokevirtual 197), (5, .iload_n 2), (6, .iconst 4), (7, .invokestatic 179), (10, .aload_n 0), (11, .getfield 67), (14, .aload_n 0), (15, .getfield 31), (18, .aload_n 0), (19, .getfield 38), (22, .iload_n 1), (23, .invokevirtual 238), (26, .iload_n 2), (27, .tableswitch 61 0 3 #[29, 37, 45, 53]), (56, .aload_n 0), (57, .getfield 67), (60, .getfield 242), (63, .ireturn), (64, .aload_n 0), (65, .getfield 67), (68, .getfield 245), (71, .ireturn), (72, .aload_n 0), (73, .getfield 67), (76, .getfield 247), (79, .ireturn), (80, .aload_n 0), (81, .getfield 67), (84, .getfield 250), (87, .ireturn), (88, .aload_n 0), (89, .getfield 67), (92, .getfield 253), (95, .ireturn)]
def za_i120 : List (Nat × Instr) := [(0, .aload_n 2), (1, .iconst 0), (2, .aload_n 0), (3, .iload_n 1), (4, .invokevirtual 40), (7, .ifCond .eq 7), (10, .lconst 1), (11, .goto 4), (14, .lconst 0), (15, .lastore), (16, .goto 6), (19, .astore_n 3), (20, .iconst 1), (21, .ireturn), (22, .iconst 0), (23, .ireturn)]
def za_i121 : List (Nat × Instr) := [(0, .aload_n 0), (1, .iload_n 1), (2, .invokevirtual 197), (5, .aload_n 0), (6, .getfield 67), (9, .aload_n 0), (10, .getfield 31), (13, .aload_n 0), (14, .getfield 38), (17, .iload_n 1), (18, .invokevirtual 238), (21, .aload_n 0), (22, .getfield 67), (25, .getfield 242), (28, .iconst 2), (29, .if_icmp .eq 5), (32, .iconst 0), (33, .ireturn), (34, .aload_n 0), (35, .getfield 67), (38, .getfield 247), (41, .istore_n 2), (42, .aload_n 0), (43, .getfield 67), (46, .aload_n 0), (47, .getfield 67), (50, .getfield 255), (53, .aload_n 0), (54, .getfield 67), (57, .getfield 258), (60, .invokevirtual 261), (63, .aload_n 0), (64, .getfield 67), (67, .aload_n 0), (68, .getfield 31), (71, .aload_n 0), (72, .getfield 38), (75, .iload_n 1), (76, .iload_n 2), (77, .invokevirtual 214), (80, .aload_n 0), (81, .getfield 38), (84, .iload_n 1), (85, .iload_n 2), (86, .invokevirtual 218), (89, .iconst 0), (90, .invokevirtual 264), (93, .aload_n 0), (94, .getfield 67), (97, .getfield 242), (100, .ifCond .ne 7), (103, .iconst 1), (104, .goto 4), (107, .iconst 0), (108, .ireturn)]
def za_i122 : List (Nat × Instr) := [(0, .aload_n 3), (1, .iconst 0), (2, .aload_n 0), (3, .iload_n 1), (4, .iload_n 2), (5, .invokevirtual 44), (8, .lastore), (9, .goto 7), (12, .astore 4), (14, .iconst 1), (15, .ireturn), (16, .iconst 0), (17, .ireturn)]
def za_i123 : List (Nat × Instr) := [(0, .aload_n 0), (1, .iload_n 1), (2, .invokevirtual 197), (5, .iload_n 2), (6, .ifCond .lt 16), (9, .iload_n 2), (10, .aload_n 0), (11, .getfield 38), (14, .getfield 206), (17, .iload_n 1), (18, .iaload), (19, .if_icmp .le 14), (22, .new 174), (25, .dup), (26, .ldc_w 268), (29, .invokespecial 178), (32, .athrow), (33, .aload_n 0), (34, .getfield 74), (37, .aload_n 0), (38, .getfield 31), (41, .aload_n 0), (42, .getfield 38), (45, .iload_n 1), (46, .iload_n 2), (47, .invokevirtual 270), (50, .lreturn)]
def za_i124 : List (Nat × Instr) := [(0, .aload_n 2), (1, .getfield 18), (4, .iload_n 3), (5, .iaload), (6, .iconst 1), (7, .iand), (8, .ifCond .ne 7), (11, .iconst 1), (12, .goto 4), (15, .iconst 0), (16, .istore 5), (18, .aload_n 0), (19, .iload 5), (21, .ifCond .eq 15), (24, .aload_n 2), (25, .getfield 24), (28, .iload_n 3), (29, .iaload), (30, .invokestatic 27), (33, .goto 4), (36, .lconst 0), (37, .putfield 9), (40, .aload_n 0), (41, .iload 5), (43, .ifCond .eq 7), (46, .lconst 0), (47, .goto 12), (50, .aload_n 2), (51, .getfield 24), (54, .iload_n 3), (55, .iaload), (56, .invokestatic 27), (59, .putfield 15), (62, .iconst 0), (63, .istore 6), (65, .iload 6), (67, .iload 4), (69, .if_icmp .ge 46), (72, .aload_n 2), (73, .iload_n 3), (74, .iload 6), (76, .invokevirtual 31), (79, .ifCond .eq 11), (82, .aload_n 0), (83, .aload_n 1), (84, .invokevirtual 35), (87, .goto 22), (90, .aload_n 0), (91, .aload_n 1), (92, .aload_n 2), (93, .iload_n 3), (94, .iload 6), (96, .invokevirtual 39), (99, .aload_n 2), (100, .iload_n 3), (101, .iload 6), (103, .invokevirtual 43), (106, .invokevirtual 46), (109, .iinc 6 1), (112, .goto (-47)), (115, .aload_n 0), (116, .getfield 9), (119, .aload_n 0), (120, .getfield 15), (123, .lor), (124, .lreturn)]
def za_i125 : List (Nat × Instr) := [(0, .aload_n 0), (1, .getfield 21), (4, .iload_n 1), (5, .iaload), (6, .iload_n 2), (7, .ishr), (8, .iconst 1), (9, .iand), (10, .ifCond .eq 7), (13, .iconst 1), (14, .goto 4), (17, .iconst 0), (18, .ireturn)]
def za_i126 : List (Nat × Instr) := [(0, .aload_n 0), (1, .getfield 9), (4, .lstore_n 2), (5, .aload_n 0), (6, .getfield 15), (9, .lstore 4), (11, .lconst 0), (12, .lstore 6), (14, .lconst 0), (15, .lstore 8), (17, .iconst 0), (18, .istore 10), (20, .iload 10), (22, .iconst 4), (23, .if_icmp .ge 61), (26, .aload_n 0), (27, .lload_n 2), (28, .putfield 9), (31, .aload_n 0), (32, .lload 4), (34, .putfield 15), (37, .iconst 0), (38, .istore 11), (40, .iload 11), (42, .bipush 9), (44, .if_icmp .ge 34), (47, .aload_n 0), (48, .aload_n 1), (49, .iload 10), (51, .invokevirtual 56), (54, .lload 6), (56, .aload_n 0), (57, .getfield 9), (60, .lor), (61, .lstore 6), (63, .lload 8), (65, .aload_n 0), (66, .getfield 15), (69, .lor), (70, .lstore 8), (72, .iinc 11 1), (75, .goto (-35)), (78, .iinc 10 1), (81, .goto (-61)), (84, .aload_n 0), (85, .lload 6), (87, .putfield 9), (90, .aload_n 0), (91, .lload 8), (93, .putfield 15), (96, .return_)]
def za_i127 : List (Nat × Instr) := [(0, .aload_n 1), (1, .aload_n 0), (2, .getfield 9), (5, .iload_n 2), (6, .iconst 1), (7, .invokevirtual 50), (10, .lstore_n 3), (11, .aload_n 0), (12, .aload_n 1), (13, .aload_n 0), (14, .getfield 15), (17, .iload_n 2), (18, .iconst 0), (19, .invokevirtual 50), (22, .putfield 9), (25, .aload_n 0), (26, .lload_n 3), (27, .putfield 15), (30, .return_)]
def za_i128 : List (Nat × Instr) := [(0, .aload_n 0), (1, .lload_n 1), (2, .iload_n 3), (3, .invokevirtual 116), (6, .aload_n 0), (7, .getfield 50), (10, .ldc2_w 88), (13, .lxor), (14, .land), (15, .lstore 5), (17, .iload 4), (19, .ifCond .eq 12), (22, .aload_n 0), (23, .lload 5), (25, .invokevirtual 120), (28, .goto 5), (31, .lload 5), (33, .lreturn)]
def za_i129 : List (Nat × Instr) := [(0, .lload_n 1), (1, .aload_n 0), (2, .getfield 9), (5, .iload_n 3), (6, .laload), (7, .land), (8, .lstore 4), (10, .iload_n 3), (11, .tableswitch 46 0 2 #[25, 33, 38]), (36, .lload 4), (38, .aload_n 0), (39, .getfield 82), (42, .lushr), (43, .lreturn), (44, .lload 4), (46, .iconst 1), (47, .lshl), (48, .lreturn), (49, .lload 4), (51, .aload_n 0), (52, .getfield 82), (55, .lshl), (56, .lreturn), (57, .lload 4), (59, .iconst 1), (60, .lushr), (61, .lreturn)]
def za_i130 : List (Nat × Instr) := [(0, .lload_n 1), (1, .lstore_n 3), (2, .lconst 0), (3, .lstore 5), (5, .iconst 0), (6, .istore 7), (8, .iload 7), (10, .iconst 4), (11, .if_icmp .ge 50), (14, .lload_n 1), (15, .aload_n 0), (16, .getfield 19), (19, .iload 7), (21, .laload), (22, .land), (23, .aload_n 0), (24, .getfield 9), (27, .iload 7), (29, .laload), (30, .land), (31, .lstore 8), (33, .lload_n 3), (34, .lload 8), (36, .ldc2_w 88), (39, .lxor), (40, .land), (41, .lstore_n 3), (42, .lload 5), (44, .aload_n 0), (45, .lload 8), (47, .iload 7), (49, .invokevirtual 116), (52, .lor), (53, .lstore 5), (55, .iinc 7 1), (58, .goto (-50)), (61, .lload_n 3), (62, .lload 5), (64, .aload_n 0), (65, .getfield 50), (68, .ldc2_w 88), (71, .lxor), (72, .land), (73, .lor), (74, .lreturn)]
def za_i131 : List (Nat × Instr) := [(0, .iconst 0), (1, .istore 4), (3, .iload 4), (5, .iload_n 3), (6, .if_icmp .ge 15), (9, .aload_n 0), (10, .aload_n 1), (11, .iload_n 2), (12, .invokevirtual 56), (15, .iinc 4 1), (18, .goto (-15)), (21, .return_)]
def za_i132 : List (Nat × Instr) := [(0, .aload_n 3), (1, .iconst 0), (2, .aload_n 0), (3, .iload_n 1), (4, .iload_n 2), (5, .invokevirtual 48), (8, .i2l), (9, .lastore), (10, .goto 7), (13, .astore 4), (15, .iconst 1), (16, .ireturn), (17, .iconst 0), (18, .ireturn)]
def za_i133 : List (Nat × Instr) := [(0, .aload_n 0), (1, .iload_n 1), (2, .invokevirtual 274), (5, .iload_n 2), (6, .iconst 2), (7, .invokestatic 179), (10, .iload_n 2), (11, .lookupswitch 45 #[(0, 25), (1, 35)]), (36, .aload_n 0), (37, .getfield 31), (40, .getfield 277), (43, .iload_n 1), (44, .iaload), (45, .ireturn), (46, .aload_n 0), (47, .getfield 31), (50, .getfield 280), (53, .iload_n 1), (54, .iaload), (55, .ireturn), (56, .aload_n 0), (57, .getfield 31), (60, .getfield 283), (63, .iload_n 1), (64, .iaload), (65, .ireturn)]
def za_i134 : List (Nat × Instr) := [(0, .iload_n 1), (1, .ifCond .lt 14), (4, .iload_n 1), (5, .aload_n 0), (6, .getfield 31), (9, .getfield 156), (12, .if_icmp .lt 14), (15, .new 174), (18, .dup), (19, .ldc_w 365), (22, .invokespecial 178), (25, .athrow), (26, .return_)]
def za_i135 : List (Nat × Instr) := [(0, .aload 4), (2, .iconst 0), (3, .aload_n 0), (4, .iload_n 1), (5, .iload_n 2), (6, .iload_n 3), (7, .invokevirtual 51), (10, .i2l), (11, .lastore), (12, .goto 11), (15, .astore 5), (17, .iconst 1), (18, .ireturn), (19, .astore 5), (21, .iconst 2), (22, .ireturn), (23, .iconst 0), (24, .ireturn)]
def za_i136 : List (Nat × Instr) := [(0, .aload_n 0), (1, .iload_n 1), (2, .invokevirtual 274), (5, .iload_n 3), (6, .iconst 2), (7, .invokestatic 179), (10, .iload_n 2), (11, .aload_n 0), (12, .getfield 38), (15, .getfield 151), (18, .iushr), (19, .ifCond .eq 14), (22, .new 110), (25, .dup), (26, .ldc_w 286), (29, .invokespecial 114), (32, .athrow), (33, .aload_n 0), (34, .getfield 81), (37, .aload_n 0), (38, .getfield 31), (41, .iload_n 1), (42, .aload_n 0), (43, .getfield 67), (46, .aload_n 0), (47, .getfield 31), (50, .aload_n 0), (51, .getfield 38), (54, .iload_n 2), (55, .invokevirtual 288), (58, .invokevirtual 292), (61, .iload_n 3), (62, .lookupswitch 48 #[(0, 26), (1, 37)]), (88, .aload_n 0), (89, .getfield 81), (92, .getfield 296), (95, .getfield 242), (98, .ireturn), (99, .aload_n 0), (100, .getfield 81), (103, .getfield 296), (106, .getfield 245), (109, .ireturn), (110, .aload_n 0), (111, .getfield 81), (114, .getfield 296), (117, .getfield 253), (120, .ireturn)]
def za_i137 : List (Nat × Instr) := [(0, .aload_n 2), (1, .iconst 0), (2, .aload_n 0), (3, .iload_n 1), (4, .invokevirtual 54), (7, .i2l), (8, .lastore), (9, .goto 6), (12, .astore_n 3), (13, .iconst 1), (14, .ireturn), (15, .iconst 0), (16, .ireturn)]
def za_i138 : List (Nat × Instr) := [(0, .aload_n 0), (1, .iload_n 1), (2, .invokevirtual 274), (5, .aload_n 0), (6, .getfield 88), (9, .aload_n 0), (10, .getfield 31), (13, .aload_n 0), (14, .getfield 38), (17, .aload_n 0), (18, .getfield 67), (21, .invokevirtual 297), (24, .aload_n 0), (25, .getfield 88), (28, .aload_n 0), (29, .getfield 31), (32, .aload_n 0), (33, .getfield 81), (36, .iload_n 1), (37, .invokevirtual 301), (40, .ireturn)]
def za_i139 : List (Nat × Instr) := [(0, .aload_n 0), (1, .aload_n 2), (2, .getfield 50), (5, .putfield 9), (8, .iconst 0), (9, .istore 4), (11, .iload 4), (13, .aload_n 0), (14, .getfield 9), (17, .if_icmp .ge 66), (20, .aload_n 3), (21, .aload_n 1), (22, .aload_n 2), (23, .iload 4), (25, .invokevirtual 53), (28, .aload_n 0), (29, .getfield 15), (32, .iload 4), (34, .aload_n 2), (35, .getfield 59), (38, .iload 4), (40, .iaload), (41, .iastore), (42, .aload_n 0), (43, .getfield 19), (46, .iload 4), (48, .aload_n 3), (49, .getfield 62), (52, .iastore), (53, .aload_n 0), (54, .getfield 22), (57, .iload 4), (59, .aload_n 3), (60, .invokevirtual 64), (63, .lastore), (64, .aload_n 0), (65, .getfield 26), (68, .iload 4), (70, .aload_n 0), (71, .iload 4), (73, .invokevirtual 67), (76, .iastore), (77, .iinc 4 1), (80, .goto (-69)), (83, .return_)]
def za_i140 : List (Nat × Instr) := [(0, .aload_n 0), (1, .getfield 22), (4, .iload_n 1), (5, .laload), (6, .lconst 0), (7, .lcmp), (8, .ifCond .ne 5), (11, .iconst 0), (12, .ireturn), (13, .iconst 0), (14, .istore_n 2), (15, .iload_n 2), (16, .iload_n 1), (17, .if_icmp .ge 29), (20, .aload_n 0), (21, .getfield 22), (24, .iload_n 2), (25, .laload), (26, .aload_n 0), (27, .getfield 22), (30, .iload_n 1), (31, .laload), (32, .lcmp), (33, .ifCond .ne 7), (36, .iconst 1), (37, .iload_n 2), (38, .ishl), (39, .ireturn), (40, .iinc 2 1), (43, .goto (-28)), (46, .iconst 1), (47, .iload_n 1), (48, .ishl), (49, .ireturn)]
def za_i141 : List (Nat × Instr) := [(0, .aload_n 0), (1, .getfield 29), (4, .iconst (-1)), (5, .invokestatic 77), (8, .aload_n 0), (9, .aload_n 0), (10, .aload_n 1), (11, .aload_n 1), (12, .getfield 83), (15, .invokevirtual 86), (18, .putfield 32), (21, .iconst 0), (22, .istore 4), (24, .iload 4), (26, .aload_n 0), (27, .getfield 9), (30, .if_icmp .ge 28), (33, .aload_n 0), (34, .getfield 35), (37, .iload 4), (39, .aload_n 0), (40, .aload_n 1), (41, .aload_n 0), (42, .getfield 19), (45, .iload 4), (47, .iaload), (48, .invokevirtual 86), (51, .iastore), (52, .iinc 4 1), (55, .goto (-31)), (58, .iconst (-1)), (59, .istore 4), (61, .iconst 0), (62, .istore 5), (64, .iload 5), (66, .aload_n 0), (67, .getfield 9), (70, .if_icmp .gt 112), (73, .iload 4), (75, .iconst (-1)), (76, .if_icmp .ne 106), (79, .iconst 0), (80, .istore 6), (82, .iload 6), (84, .iconst 1), (85, .aload_n 0), (86, .getfield 9), (89, .ishl), (90, .if_icmp .ge 86), (93, .iload 6), (95, .invokestatic 90), (98, .iload 5), (100, .if_icmp .ne 31), (103, .aload_n 0), (104, .iload 6), (106, .invokevirtual 95), (109, .ifCond .eq 22), (112, .iload 4), (114, .iconst (-1)), (115, .if_icmp .eq 12), (118, .aload_n 0), (119, .iload 5), (121, .invokevirtual 99), (124, .ifCond .eq 7), (127, .iconst 1), (128, .goto 4), (131, .iconst 0), (132, .istore 7), (134, .iload 7), (136, .ifCond .eq 34), (139, .aload_n 0), (140, .aload_n 1), (141, .aload_n 2), (142, .iload_n 3), (143, .iload 6), (145, .invokevirtual 102), (148, .ifCond .eq 22), (151, .aload_n 0), (152, .getfield 38), (155, .iconst 0), (156, .aload_n 0), (157, .getfield 41), (160, .iconst 0), (161, .bipush 8), (163, .invokestatic 106), (166, .iload 5), (168, .istore 4), (170, .iinc 6 1), (173, .goto (-91)), (176, .iinc 5 1), (179, .goto (-115)), (182, .iload 4), (184, .iconst (-1)), (185, .if_icmp .eq 24), (188, .aload_n 0), (189, .getfield 41), (192, .iconst 0), (193, .aload_n 0), (194, .getfield 44), (197, .iconst 0), (198, .bipush 8), (200, .invokestatic 106), (203, .aload_n 0), (204, .iload 4), (206, .putfield 47), (209, .iload 4), (211, .ireturn)]
def za_i142 : List (Nat × Instr) := [(0, .iconst 0), (1, .istore_n 3), (2, .iconst 0), (3, .istore 4), (5, .iload 4), (7, .aload_n 0), (8, .getfield 9), (11, .if_icmp .ge 35), (14, .aload_n 1), (15, .iload_n 2), (16, .aload_n 0), (17, .getfield 15), (20, .iload 4), (22, .iaload), (23, .invokevirtual 71), (26, .aload_n 1), (27, .getfield 112), (30, .if_icmp .gt 10), (33, .iload_n 3), (34, .iconst 1), (35, .iload 4), (37, .ishl), (38, .ior), (39, .istore_n 3), (40, .iinc 4 1), (43, .goto (-38)), (46, .iload_n 3), (47, .ireturn)]
def za_i143 : List (Nat × Instr) := [(0, .aload_n 0), (1, .iload_n 1), (2, .invokevirtual 101), (5, .aload_n 0), (6, .iload_n 2), (7, .invokevirtual 101), (10, .isub), (11, .invokestatic 105), (14, .istore_n 3), (15, .aload_n 0), (16, .iload_n 1), (17, .invokevirtual 110), (20, .aload_n 0), (21, .iload_n 2), (22, .invokevirtual 110), (25, .isub), (26, .invokestatic 105), (29, .istore 4), (31, .iload_n 3), (32, .iload 4), (34, .invokestatic 113), (37, .ireturn)]
def za_i144 : List (Nat × Instr) := [(0, .iload_n 0), (1, .ifCond .ge 8), (4, .iload_n 0), (5, .ineg), (6, .goto 4), (9, .iload_n 0), (10, .ireturn)]
def za_i145 : List (Nat × Instr) := [(0, .iload_n 0), (1, .iload_n 1), (2, .if_icmp .lt 7), (5, .iload_n 0), (6, .goto 4), (9, .iload_n 1), (10, .ireturn)]
def za_i146 : List (Nat × Instr) := [(0, .iload_n 1), (1, .istore_n 2), (2, .aload_n 0), (3, .getfield 32), (6, .istore_n 3), (7, .iconst 0), (8, .istore 4), (10, .iload 4), (12, .bipush 8), (14, .if_icmp .ge 63), (17, .iload_n 2), (18, .ifCond .eq 59), (21, .iload_n 2), (22, .iload_n 3), (23, .iand), (24, .ifCond .ne 5), (27, .iconst 0), (28, .ireturn), (29, .aload_n 0), (30, .getfield 38), (33, .iload 4), (35, .iload_n 2), (36, .iload_n 3), (37, .iand), (38, .invokestatic 115), (41, .iastore), (42, .iload_n 3), (43, .aload_n 0), (44, .getfield 35), (47, .aload_n 0), (48, .getfield 38), (51, .iload 4), (53, .iaload), (54, .iaload), (55, .ior), (56, .istore_n 3), (57, .iload_n 2), (58, .iconst 1), (59, .aload_n 0), (60, .getfield 38), (63, .iload 4), (65, .iaload), (66, .ishl), (67, .iconst (-1)), (68, .ixor), (69, .iand), (70, .istore_n 2), (71, .iinc 4 1), (74, .goto (-64)), (77, .iconst 1), (78, .ireturn)]
def za_i147 : List (Nat × Instr) := [(0, .iload_n 0), (1, .iconst (-1)), (2, .ixor), (3, .iload_n 0), (4, .iconst 1), (5, .isub), (6, .iand), (7, .istore_n 0), (8, .iload_n 0), (9, .ifCond .gt 8), (12, .iload_n 0), (13, .bipush 32), (15, .iand), (16, .ireturn), (17, .iconst 1), (18, .istore_n 1), (19, .iload_n 0), (20, .ldc_w 264), (23, .if_icmp .le 11), (26, .iinc 1 16), (29, .iload_n 0), (30, .bipush 16), (32, .iushr), (33, .istore_n 0), (34, .iload_n 0), (35, .sipush 256), (38, .if_icmp .le 11), (41, .iinc 1 8), (44, .iload_n 0), (45, .bipush 8), (47, .iushr), (48, .istore_n 0), (49, .iload_n 0), (50, .bipush 16), (52, .if_icmp .le 10), (55, .iinc 1 4), (58, .iload_n 0), (59, .iconst 4), (60, .iushr), (61, .istore_n 0), (62, .iload_n 0), (63, .iconst 4), (64, .if_icmp .le 10), (67, .iinc 1 2), (70, .iload_n 0), (71, .iconst 2), (72, .iushr), (73, .istore_n 0), (74, .iload_n 1), (75, .iload_n 0), (76, .iconst 1), (77, .iushr), (78, .iadd), (79, .ireturn)]
def za_i148 : List (Nat × Instr) := [(0, .iconst 0), (1, .istore_n 2), (2, .iload_n 2), (3, .iload_n 1), (4, .if_icmp .ge 45), (7, .aload_n 0), (8, .getfield 38), (11, .iload_n 2), (12, .iaload), (13, .aload_n 0), (14, .getfield 41), (17, .iload_n 2), (18, .iaload), (19, .if_icmp .eq 24), (22, .aload_n 0), (23, .getfield 38), (26, .iload_n 2), (27, .iaload), (28, .aload_n 0), (29, .getfield 41), (32, .iload_n 2), (33, .iaload), (34, .if_icmp .ge 7), (37, .iconst 1), (38, .goto 4), (41, .iconst 0), (42, .ireturn), (43, .iinc 2 1), (46, .goto (-44)), (49, .iconst 0), (50, .ireturn)]
def za_i149 : List (Nat × Instr) := [(0, .iconst 0), (1, .istore 5), (3, .lconst 0), (4, .lstore 6), (6, .iconst 0), (7, .istore 8), (9, .iload 8), (11, .aload_n 0), (12, .getfield 9), (15, .if_icmp .ge 43), (18, .iload 4), (20, .iload 8), (22, .ishr), (23, .iconst 1), (24, .iand), (25, .ifCond .eq 27), (28, .iload 5), (30, .aload_n 0), (31, .getfield 26), (34, .iload 8), (36, .iaload), (37, .ior), (38, .istore 5), (40, .lload 6), (42, .aload_n 0), (43, .getfield 22), (46, .iload 8), (48, .laload), (49, .lor), (50, .lstore 6), (52, .iinc 8 1), (55, .goto (-46)), (58, .aload_n 0), (59, .getfield 29), (62, .iload 5), (64, .iaload), (65, .iconst (-1)), (66, .if_icmp .ne 34), (69, .aload_n 2), (70, .aload_n 1), (71, .iload_n 3), (72, .lload 6), (74, .invokevirtual 118), (77, .aload_n 0), (78, .getfield 29), (81, .iload 5), (83, .aload_n 2), (84, .getfield 124), (87, .getfield 128), (90, .iconst 4), (91, .if_icmp .ne 7), (94, .iconst 1), (95, .goto 4), (98, .iconst 0), (99, .iastore), (100, .aload_n 0), (101, .getfield 29), (104, .iload 5), (106, .iaload), (107, .iconst 1), (108, .if_icmp .ne 7), (111, .iconst 1), (112, .goto 4), (115, .iconst 0), (116, .ireturn)]
def za_i150 : List (Nat × Instr) := [(0, .aload_n 2), (1, .iconst 0), (2, .aload_n 0), (3, .iload_n 1), (4, .invokevirtual 57), (7, .i2l), (8, .lastore), (9, .goto 6), (12, .astore_n 3), (13, .iconst 1), (14, .ireturn), (15, .iconst 0), (16, .ireturn)]
def za_i151 : List (Nat × Instr) := [(0, .iload_n 1), (1, .ifCond .lt 14), (4, .iload_n 1), (5, .aload_n 0), (6, .getfield 88), (9, .getfield 305), (12, .if_icmp .lt 14), (15, .new 174), (18, .dup), (19, .ldc_w 308), (22, .invokespecial 178), (25, .athrow), (26, .aload_n 0), (27, .getfield 88), (30, .getfield 310), (33, .iload_n 1), (34, .iaload), (35, .ireturn)]
def za_i152 : List (Nat × Instr) := [(0, .aload_n 3), (1, .iconst 0), (2, .aload_n 0), (3, .iload_n 1), (4, .iload_n 2), (5, .invokevirtual 60), (8, .i2l), (9, .lastore), (10, .goto 11), (13, .astore 4), (15, .iconst 1), (16, .ireturn), (17, .astore 4), (19, .iconst 2), (20, .ireturn), (21, .iconst 0), (22, .ireturn)]
def za_i153 : List (Nat × Instr) := [(0, .iload_n 2), (1, .iconst 1), (2, .invokestatic 179), (5, .iload_n 1), (6, .ifCond .lt 9), (9, .iload_n 1), (10, .bipush 7), (12, .if_icmp .le 14), (15, .new 110), (18, .dup), (19, .ldc_w 313), (22, .invokespecial 114), (25, .athrow), (26, .aload_n 0), (27, .getfield 88), (30, .aload_n 0), (31, .getfield 31), (34, .aload_n 0), (35, .getfield 38), (38, .aload_n 0), (39, .getfield 67), (42, .invokevirtual 297), (45, .iconst 0), (46, .istore_n 3), (47, .iconst 0), (48, .istore 4), (50, .iconst 0), (51, .istore 5), (53, .iload 5), (55, .aload_n 0), (56, .getfield 31), (59, .invokevirtual 183), (62, .if_icmp .ge 39), (65, .aload_n 0), (66, .getfield 88), (69, .aload_n 0), (70, .getfield 31), (73, .iload 5), (75, .iload_n 1), (76, .invokevirtual 315), (79, .istore 6), (81, .iload 6), (83, .iload 4), (85, .if_icmp .le 10), (88, .iload 5), (90, .istore_n 3), (91, .iload 6), (93, .istore 4), (95, .iinc 5 1), (98, .goto (-45)), (101, .iload_n 2), (102, .ifCond .ne 7), (105, .iload_n 3), (106, .goto 5), (109, .iload 4), (111, .ireturn)]
def za_i154 : List (Nat × Instr) := [(0, .iconst 0), (1, .istore 4), (3, .iconst 0), (4, .istore 5), (6, .iload 5), (8, .aload_n 0), (9, .getfield 9), (12, .if_icmp .ge 40), (15, .aload_n 0), (16, .getfield 22), (19, .iload 5), (21, .laload), (22, .lconst 0), (23, .lcmp), (24, .ifCond .eq 22), (27, .aload_n 1), (28, .iload_n 2), (29, .aload_n 0), (30, .getfield 19), (33, .iload 5), (35, .iaload), (36, .invokevirtual 71), (39, .iload_n 3), (40, .if_icmp .gt 6), (43, .iinc 4 1), (46, .iinc 5 1), (49, .goto (-43)), (52, .iload 4), (54, .ireturn)]
def za_i155 : List (Nat × Instr) := [(0, .aload_n 2), (1, .iconst 0), (2, .aload_n 0), (3, .iload_n 1), (4, .invokevirtual 63), (7, .lastore), (8, .goto 6), (11, .astore_n 3), (12, .iconst 1), (13, .ireturn), (14, .iconst 0), (15, .ireturn)]
def za_i156 : List (Nat × Instr) := [(0, .iload_n 1), (1, .iconst 2), (2, .invokestatic 179), (5, .lconst 0), (6, .lstore_n 2), (7, .lconst 0), (8, .lstore 4), (10, .iconst 0), (11, .istore 6), (13, .iload 6), (15, .aload_n 0), (16, .getfield 38), (19, .getfield 151), (22, .if_icmp .ge 60), (25, .aload_n 0), (26, .getfield 67), (29, .aload_n 0), (30, .getfield 31), (33, .aload_n 0), (34, .getfield 38), (37, .iload 6), (39, .invokevirtual 238), (42, .lload_n 2), (43, .aload_n 0), (44, .getfield 67), (47, .getfield 319), (50, .aload_n 0), (51, .getfield 67), (54, .invokevirtual 322), (57, .ldc2_w 325), (60, .lxor), (61, .land), (62, .lor), (63, .lstore_n 2), (64, .lload 4), (66, .aload_n 0), (67, .getfield 67), (70, .invokevirtual 322), (73, .lor), (74, .lstore 4), (76, .iinc 6 1), (79, .goto (-66)), (82, .iload_n 1), (83, .ifCond .ne 5), (86, .lload_n 2), (87, .lreturn), (88, .iload_n 1), (89, .iconst 1), (90, .if_icmp .ne 8), (93, .lload 4), (95, .goto 23), (98, .aload_n 0), (99, .getfield 31), (102, .getfield 327), (105, .lload_n 2), (106, .ldc2_w 325), (109, .lxor), (110, .land), (111, .lload 4), (113, .ldc2_w 325), (116, .lxor), (117, .land), (118, .lreturn)]
def za_i157 : List (Nat × Instr) := [(0, .aload_n 3), (1, .iconst 0), (2, .aload_n 0), (3, .iload_n 1), (4, .iload_n 2), (5, .invokevirtual 67), (8, .lastore), (9, .goto 7), (12, .astore 4), (14, .iconst 1), (15, .ireturn), (16, .iconst 0), (17, .ireturn)]
def za_i158 : List (Nat × Instr) := [(0, .aload_n 0), (1, .iload_n 1), (2, .invokevirtual 197), (5, .iload_n 2), (6, .iconst 3), (7, .invokestatic 179), (10, .aload_n 0), (11, .getfield 95), (14, .aload_n 0), (15, .getfield 31), (18, .aload_n 0), (19, .getfield 38), (22, .iload_n 1), (23, .invokevirtual 330), (26, .iload_n 2), (27, .tableswitch 52 0 2 #[25, 34, 43]), (52, .aload_n 0), (53, .getfield 95), (56, .getfield 333), (59, .i2l), (60, .lreturn), (61, .aload_n 0), (62, .getfield 95), (65, .getfield 336), (68, .i2l), (69, .lreturn), (70, .aload_n 0), (71, .getfield 95), (74, .getfield 339), (77, .i2l), (78, .lreturn), (79, .aload_n 0), (80, .getfield 95), (83, .getfield 342), (86, .lreturn)]
def za_i159 : List (Nat × Instr) := [(0, .aload_n 0), (1, .iconst (-1)), (2, .putfield 9), (5, .aload_n 0), (6, .iconst (-1)), (7, .putfield 15), (10, .aload_n 0), (11, .iconst (-1)), (12, .putfield 18), (15, .aload_n 0), (16, .lconst 0), (17, .putfield 21), (20, .iconst 0), (21, .istore 4), (23, .iload 4), (25, .aload_n 1), (26, .getfield 25), (29, .if_icmp .ge 67), (32, .iconst 0), (33, .istore 5), (35, .iload 5), (37, .aload_n 1), (38, .getfield 25), (41, .if_icmp .ge 49), (44, .iconst 1), (45, .istore 6), (47, .iload 4), (49, .iload 5), (51, .if_icmp .eq 33), (54, .iload 6), (56, .aload_n 2), (57, .getfield 30), (60, .iload_n 3), (61, .iaload), (62, .if_icmp .ge 22), (65, .aload_n 0), (66, .aload_n 1), (67, .aload_n 2), (68, .iload_n 3), (69, .iload 4), (71, .iload 5), (73, .iload 6), (75, .invokevirtual 36), (78, .iinc 6 1), (81, .goto (-34)), (84, .iinc 5 1), (87, .goto (-52)), (90, .iinc 4 1), (93, .goto (-70)), (96, .return_)]
def za_i160 : List (Nat × Instr) := [(0, .lconst 1), (1, .lstore 7), (3, .iconst 0), (4, .istore 9), (6, .iload 9), (8, .aload_n 2), (9, .getfield 30), (12, .iload_n 3), (13, .iaload), (14, .if_icmp .ge 40), (17, .lload 7), (19, .aload_n 1), (20, .iload 9), (22, .iload 6), (24, .if_icmp .ge 8), (27, .iload 4), (29, .goto 5), (32, .iload 5), (34, .aload_n 2), (35, .iload_n 3), (36, .iload 9), (38, .invokevirtual 40), (41, .invokevirtual 44), (44, .i2l), (45, .lmul), (46, .lstore 7), (48, .iinc 9 1), (51, .goto (-45)), (54, .lload 7), (56, .aload_n 0), (57, .getfield 21), (60, .lcmp), (61, .ifCond .le 27), (64, .aload_n 0), (65, .lload 7), (67, .putfield 21), (70, .aload_n 0), (71, .iload 4), (73, .putfield 9), (76, .aload_n 0), (77, .iload 5), (79, .putfield 15), (82, .aload_n 0), (83, .iload 6), (85, .putfield 18), (88, .return_)]
def za_i161 : List (Nat × Instr) := [(0, .aload_n 0), (1, .getfield 22), (4, .iload_n 1), (5, .iconst 4), (6, .imul), (7, .iload_n 2), (8, .iadd), (9, .iaload), (10, .ireturn)]
def za_i162 : List (Nat × Instr) := [(0, .aload 4), (2, .iconst 0), (3, .aload_n 0), (4, .iload_n 1), (5, .iload_n 2), (6, .iload_n 3), (7, .invokevirtual 70), (10, .i2l), (11, .lastore), (12, .goto 11), (15, .astore 5), (17, .iconst 1), (18, .ireturn), (19, .astore 5), (21, .iconst 2), (22, .ireturn), (23, .iconst 0), (24, .ireturn)]
def za_i163 : List (Nat × Instr) := [(0, .aload_n 0), (1, .iload_n 1), (2, .invokevirtual 197), (5, .aload_n 0), (6, .iload_n 2), (7, .invokevirtual 197), (10, .iload_n 3), (11, .iconst 2), (12, .invokestatic 179), (15, .iload_n 1), (16, .iload_n 2), (17, .if_icmp .ne 14), (20, .new 110), (23, .dup), (24, .ldc_w 345), (27, .invokespecial 114), (30, .athrow), (31, .aload_n 0), (32, .getfield 102), (35, .aload_n 0), (36, .getfield 38), (39, .iload_n 1), (40, .iload_n 2), (41, .invokevirtual 347), (44, .iload_n 3), (45, .lookupswitch 43 #[(0, 27), (1, 35)]), (72, .aload_n 0), (73, .getfield 102), (76, .getfield 350), (79, .ireturn), (80, .aload_n 0), (81, .getfield 102), (84, .getfield 353), (87, .ireturn), (88, .aload_n 0), (89, .getfield 102), (92, .getfield 356), (95, .ireturn)]
def za_i164 : List (Nat × Instr) := [(0, .aload_n 0), (1, .iconst 0), (2, .putfield 9), (5, .aload_n 0), (6, .iconst (-1)), (7, .putfield 15), (10, .aload_n 0), (11, .iconst (-1)), (12, .putfield 18), (15, .iconst 0), (16, .istore 4), (18, .iload 4), (20, .aload_n 1), (21, .getfield 21), (24, .iload_n 2), (25, .iaload), (26, .if_icmp .ge 68), (29, .iconst 0), (30, .istore 5), (32, .iload 5), (34, .aload_n 1), (35, .getfield 21), (38, .iload_n 3), (39, .iaload), (40, .if_icmp .ge 48), (43, .aload_n 1), (44, .iload_n 2), (45, .iload 4), (47, .iload_n 3), (48, .iload 5), (50, .invokestatic 27), (53, .istore 6), (55, .iload 6), (57, .aload_n 0), (58, .getfield 9), (61, .if_icmp .le 21), (64, .aload_n 0), (65, .iload 6), (67, .putfield 9), (70, .aload_n 0), (71, .iload 4), (73, .putfield 15), (76, .aload_n 0), (77, .iload 5), (79, .putfield 18), (82, .iinc 5 1), (85, .goto (-53)), (88, .iinc 4 1), (91, .goto (-73)), (94, .return_)]
def za_i165 : List (Nat × Instr) := [(0, .aload_n 0), (1, .getfield 21), (4, .iload_n 1), (5, .iaload), (6, .iload_n 2), (7, .isub), (8, .aload_n 0), (9, .getfield 21), (12, .iload_n 3), (13, .iaload), (14, .iload 4), (16, .isub), (17, .invokestatic 31), (20, .istore 5), (22, .iconst 0), (23, .istore 6), (25, .iload 6), (27, .iload 5), (29, .if_icmp .ge 53), (32, .aload_n 0), (33, .iload_n 1), (34, .iload_n 2), (35, .iload 6), (37, .iadd), (38, .invokevirtual 37), (41, .aload_n 0), (42, .iload_n 3), (43, .iload 4), (45, .iload 6), (47, .iadd), (48, .invokevirtual 37), (51, .if_icmp .ne 31), (54, .aload_n 0), (55, .iload_n 1), (56, .iload_n 2), (57, .iload 6), (59, .iadd), (60, .invokevirtual 40), (63, .aload_n 0), (64, .iload_n 3), (65, .iload 4), (67, .iload 6), (69, .iadd), (70, .invokevirtual 40), (73, .if_icmp .ne 9), (76, .iinc 6 1), (79, .goto (-54)), (82, .iload 6), (84, .ireturn)]
def za_i166 : List (Nat × Instr) := [(0, .aload_n 0), (1, .invokespecial 1), (4, .aload_n 0), (5, .bipush 6), (7, .putfield 7), (10, .aload_n 0), (11, .bipush 6), (13, .putfield 13), (16, .aload_n 0), (17, .iconst 2), (18, .putfield 16), (21, .aload_n 0), (22, .iconst 5), (23, .putfield 19), (26, .aload_n 0), (27, .bipush 64), (29, .newarray .int), (31, .putfield 22), (34, .aload_n 0), (35, .bipush 32), (37, .newarray .int), (39, .putfield 26), (42, .aload_n 0), (43, .sipush 128), (46, .newarray .int), (48, .putfield 29), (51, .aload_n 0), (52, .bipush 20), (54, .newarray .int), (56, .putfield 32), (59, .aload_n 0), (60, .bipush 12), (62, .newarray .int), (64, .putfield 35), (67, .aload_n 0), (68, .bipush 8), (70, .newarray .int), (72, .putfield 38), (75, .aload_n 0), (76, .bipush 8), (78, .newarray .int), (80, .putfield 41), (83, .aload_n 0), (84, .sipush 1600), (87, .newarray .int), (89, .putfield 44), (92, .aload_n 0), (93, .sipush 700), (96, .newarray .int), (98, .putfield 47), (101, .aload_n 0), (102, .iconst (-1)), (103, .putfield 50), (106, .aload_n 0), (107, .iconst 2), (108, .newarray .int), (110, .putfield 53), (113, .aload_n 0), (114, .bipush 64), (116, .newarray .int), (118, .putfield 56), (121, .aload_n 0), (122, .bipush 32), (124, .newarray .int), (126, .putfield 59), (129, .aload_n 0), (130, .sipush 128), (133, .newarray .int), (135, .putfield 62), (138, .aload_n 0), (139, .bipush 20), (141, .newarray .int), (143, .putfield 65), (146, .aload_n 0), (147, .bipush 12), (149, .newarray .int), (151, .putfield 68), (154, .aload_n 0), (155, .bipush 8), (157, .newarray .int), (159, .putfield 71), (162, .aload_n 0), (163, .bipush 8), (165, .newarray .int), (167, .putfield 74), (170, .aload_n 0), (171, .sipush 1600), (174, .newarray .int), (176, .putfield 77), (179, .aload_n 0), (180, .sipush 800), (183, .newarray .int), (185, .putfield 80), (188, .aload_n 0), (189, .bipush 9), (191, .newarray .boolean), (193, .putfield 83), (196, .aload_n 0), (197, .bipush 60), (199, .newarray .int), (201, .putfield 87), (204, .aload_n 0), (205, .bipush 73), (207, .newarray .long), (209, .putfield 90), (212, .aload_n 0), (213, .bipush 73), (215, .newarray .long), (217, .putfield 94), (220, .aload_n 0), (221, .bipush 73), (223, .newarray .long), (225, .putfield 97), (228, .aload_n 0), (229, .sipush 800), (232, .newarray .int), (234, .putfield 100), (237, .aload_n 0), (238, .bipush 8), (240, .newarray .int), (242, .putfield 103), (245, .aload_n 0), (246, .bipush 8), (248, .newarray .int), (250, .putfield 106), (253, .aload_n 0), (254, .bipush 8), (256, .newarray .int), (258, .putfield 109), (261, .aload_n 0), (262, .iconst (-1)), (263, .putfield 112), (266, .aload_n 0), (267, .bipush 32), (269, .newarray .int), (271, .putfield 115), (274, .aload_n 0), (275, .sipush 128), (278, .newarray .int), (280, .putfield 118), (283, .aload_n 0), (284, .bipush 60), (286, .newarray .int), (288, .putfield 121), (291, .iconst 0), (292, .istore_n 1), (293, .iload_n 1), (294, .bipush 64), (296, .if_icmp .ge 16), (299, .aload_n 0), (300, .getfield 22), (303, .iload_n 1), (304, .iconst (-1)), (305, .iastore), (306, .iinc 1 1), (309, .goto (-16)), (312, .return_)]
def za_i167 : List (Nat × Instr) := [(0, .aload_n 0), (1, .iconst 0), (2, .putfield 124), (5, .aload_n 0), (6, .getfield 127), (9, .bipush 20), (11, .iadd), (12, .sipush 700), (15, .if_icmp .le 5), (18, .iconst (-1)), (19, .ireturn), (20, .aload_n 0), (21, .iload_n 1), (22, .invokevirtual 130), (25, .aload_n 0), (26, .iload_n 2), (27, .invokevirtual 130), (30, .aload_n 0), (31, .iload_n 3), (32, .invokevirtual 130), (35, .aload_n 0), (36, .iload 4), (38, .invokevirtual 130), (41, .aload_n 0), (42, .iload 5), (44, .invokevirtual 130), (47, .aload_n 0), (48, .getfield 127), (51, .ireturn)]
def za_i168 : List (Nat × Instr) := [(0, .bipush 24), (2, .istore_n 2), (3, .iload_n 2), (4, .ifCond .lt 35), (7, .aload_n 0), (8, .getfield 47), (11, .aload_n 0), (12, .getfield 127), (15, .iload_n 1), (16, .iload_n 2), (17, .ishr), (18, .sipush 255), (21, .iand), (22, .iastore), (23, .aload_n 0), (24, .dup), (25, .getfield 127), (28, .iconst 1), (29, .iadd), (30, .putfield 127), (33, .iinc 2 (-8)), (36, .goto (-33)), (39, .return_)]
def za_i169 : List (Nat × Instr) := [(0, .aload_n 0), (1, .iconst 0), (2, .putfield 124), (5, .aload_n 0), (6, .iload_n 1), (7, .ifCond .lt 15), (10, .iload_n 1), (11, .aload_n 0), (12, .getfield 127), (15, .if_icmp .gt 7), (18, .iconst 1), (19, .goto 4), (22, .iconst 0), (23, .iconst 1), (24, .invokevirtual 325), (27, .ifCond .ne 5), (30, .iconst 0), (31, .ireturn), (32, .aload_n 0), (33, .iconst 0), (34, .putfield 127), (37, .aload_n 0), (38, .iconst (-1)), (39, .putfield 50), (42, .aload_n 0), (43, .iconst 0), (44, .putfield 180), (47, .aload_n 0), (48, .iload_n 1), (49, .putfield 134), (52, .aload_n 0), (53, .iconst 0), (54, .putfield 137), (57, .aload_n 0), (58, .bipush 6), (60, .putfield 251), (63, .aload_n 0), (64, .bipush 6), (66, .putfield 258), (69, .aload_n 0), (70, .iconst 0), (71, .putfield 286), (74, .aload_n 0), (75, .iconst 0), (76, .putfield 292), (79, .aload_n 0), (80, .iconst 0), (81, .putfield 264), (84, .aload_n 0), (85, .iconst 0), (86, .putfield 276), (89, .aload_n 0), (90, .iconst 0), (91, .putfield 279), (94, .aload_n 0), (95, .iconst 0), (96, .putfield 319), (99, .aload_n 0), (100, .iconst 0), (101, .putfield 304), (104, .aload_n 0), (105, .iconst 2), (106, .putfield 307), (109, .aload_n 0), (110, .iconst 5), (111, .putfield 313), (114, .aload_n 0), (115, .iconst 0), (116, .putfield 301), (119, .aload_n 0), (120, .iconst 0), (121, .putfield 310), (124, .aload_n 0), (125, .lconst 0), (126, .putfield 289), (129, .aload_n 0), (130, .iconst 0), (131, .putfield 209), (134, .iconst 0), (135, .istore_n 2), (136, .iload_n 2), (137, .bipush 64), (139, .if_icmp .ge 16), (142, .aload_n 0), (143, .getfield 56), (146, .iload_n 2), (147, .iconst (-1)), (148, .iastore), (149, .iinc 2 1), (152, .goto (-16)), (155, .aload_n 0), (156, .iconst 1), (157, .putfield 282), (160, .aload_n 0), (161, .invokevirtual 187), (164, .aload_n 0), (165, .invokevirtual 183), (168, .ifCond .eq 22), (171, .aload_n 0), (172, .getfield 157), (175, .ifCond .eq 15), (178, .aload_n 0), (179, .invokevirtual 329), (182, .aload_n 0), (183, .iconst 0), (184, .putfield 282), (187, .goto (-23)), (190, .aload_n 0), (191, .invokevirtual 183), (194, .ifCond .ne 18), (197, .aload_n 0), (198, .getfield 53), (201, .iconst 0), (202, .dup2), (203, .iaload), (204, .iconst 1), (205, .iadd), (206, .iastore), (207, .aload_n 0), (208, .getfield 180), (211, .ireturn), (212, .aload_n 0), (213, .aload_n 0), (214, .getfield 251), (217, .putfield 7), (220, .aload_n 0), (221, .aload_n 0), (222, .getfield 258), (225, .putfield 13), (228, .aload_n 0), (229, .aload_n 0), (230, .getfield 286), (233, .putfield 332), (236, .aload_n 0), (237, .aload_n 0), (238, .getfield 292), (241, .putfield 335), (244, .aload_n 0), (245, .aload_n 0), (246, .getfield 264), (249, .putfield 338), (252, .aload_n 0), (253, .aload_n 0), (254, .getfield 276), (257, .putfield 341), (260, .aload_n 0), (261, .aload_n 0), (262, .getfield 279), (265, .putfield 344), (268, .aload_n 0), (269, .aload_n 0), (270, .getfield 319), (273, .putfield 347), (276, .aload_n 0), (277, .aload_n 0), (278, .getfield 304), (281, .putfield 350), (284, .aload_n 0), (285, .aload_n 0), (286, .getfield 307), (289, .putfield 16), (292, .aload_n 0), (293, .aload_n 0), (294, .getfield 313), (297, .putfield 19), (300, .aload_n 0), (301, .aload_n 0), (302, .getfield 289), (305, .putfield 353), (308, .aload_n 0), (309, .aload_n 0), (310, .getfield 56), (313, .aload_n 0), (314, .getfield 22), (317, .invokevirtual 356), (320, .aload_n 0), (321, .aload_n 0), (322, .getfield 59), (325, .aload_n 0), (326, .getfield 26), (329, .invokevirtual 356), (332, .aload_n 0), (333, .aload_n 0), (334, .getfield 62), (337, .aload_n 0), (338, .getfield 29), (341, .invokevirtual 356), (344, .aload_n 0), (345, .aload_n 0), (346, .getfield 65), (349, .aload_n 0), (350, .getfield 32), (353, .invokevirtual 356), (356, .aload_n 0), (357, .aload_n 0), (358, .getfield 68), (361, .aload_n 0), (362, .getfield 35), (365, .invokevirtual 356), (368, .aload_n 0), (369, .aload_n 0), (370, .getfield 71), (373, .aload_n 0), (374, .getfield 38), (377, .invokevirtual 356), (380, .aload_n 0), (381, .aload_n 0), (382, .getfield 74), (385, .aload_n 0), (386, .getfield 41), (389, .invokevirtual 356), (392, .aload_n 0), (393, .aload_n 0), (394, .getfield 77), (397, .aload_n 0), (398, .getfield 44), (401, .invokevirtual 356), (404, .aload_n 0), (405, .iconst 0), (406, .putfield 360), (409, .aload_n 0), (410, .iconst (-1)), (411, .putfield 112), (414, .aload_n 0), (415, .iconst 0), (416, .putfield 363), (419, .iconst 0), (420, .ireturn)]
def za_i170 : List (Nat × Instr) := [(0, .aload_n 0), (1, .getfield 124), (4, .ifCond .ne 12), (7, .iload_n 1), (8, .ifCond .ne 8), (11, .aload_n 0), (12, .iload_n 2), (13, .putfield 124), (16, .aload_n 0), (17, .getfield 124), (20, .ifCond .ne 7), (23, .iconst 1), (24, .goto 4), (27, .iconst 0), (28, .ireturn)]
def za_i171 : List (Nat × Instr) := [(0, .aload_n 0), (1, .getfield 137), (4, .aload_n 0), (5, .getfield 134), (8, .if_icmp .ge 42), (11, .aload_n 0), (12, .aload_n 0), (13, .getfield 137), (16, .invokevirtual 140), (19, .bipush 32), (21, .if_icmp .eq 16), (24, .aload_n 0), (25, .aload_n 0), (26, .getfield 137), (29, .invokevirtual 140), (32, .bipush 10), (34, .if_icmp .ne 16), (37, .aload_n 0), (38, .dup), (39, .getfield 137), (42, .iconst 1), (43, .iadd), (44, .putfield 137), (47, .goto (-47)), (50, .aload_n 0), (51, .aload_n 0), (52, .getfield 137), (55, .putfield 144), (58, .aload_n 0), (59, .lconst 0), (60, .putfield 147), (63, .aload_n 0), (64, .iconst 0), (65, .putfield 151), (68, .aload_n 0), (69, .aload_n 0), (70, .getfield 137), (73, .invokevirtual 140), (76, .istore_n 1), (77, .aload_n 0), (78, .iload_n 1), (79, .putfield 154), (82, .aload_n 0), (83, .getfield 137), (86, .aload_n 0), (87, .getfield 134), (90, .if_icmp .lt 11), (93, .aload_n 0), (94, .iconst 0), (95, .putfield 157), (98, .goto 233), (101, .iload_n 1), (102, .invokestatic 160), (105, .ifCond .eq 75), (108, .aload_n 0), (109, .aload_n 0), (110, .getfield 137), (113, .invokevirtual 140), (116, .invokestatic 160), (119, .ifCond .eq 53), (122, .aload_n 0), (123, .getfield 137), (126, .aload_n 0), (127, .getfield 144), (130, .isub), (131, .bipush 7), (133, .if_icmp .ge 26), (136, .aload_n 0), (137, .aload_n 0), (138, .getfield 147), (141, .iconst 5), (142, .lshl), (143, .aload_n 0), (144, .aload_n 0), (145, .getfield 137), (148, .invokevirtual 140), (151, .bipush 96), (153, .isub), (154, .i2l), (155, .lor), (156, .putfield 147), (159, .aload_n 0), (160, .dup), (161, .getfield 137), (164, .iconst 1), (165, .iadd), (166, .putfield 137), (169, .goto (-61)), (172, .aload_n 0), (173, .iconst 1), (174, .putfield 157), (177, .goto 154), (180, .iload_n 1), (181, .invokestatic 164), (184, .ifCond .eq 74), (187, .aload_n 0), (188, .aload_n 0), (189, .getfield 137), (192, .invokevirtual 140), (195, .invokestatic 164), (198, .ifCond .eq 52), (201, .aload_n 0), (202, .getfield 137), (205, .aload_n 0), (206, .getfield 144), (209, .isub), (210, .iconst 4), (211, .if_icmp .ge 26), (214, .aload_n 0), (215, .bipush 10), (217, .aload_n 0), (218, .getfield 151), (221, .imul), (222, .aload_n 0), (223, .aload_n 0), (224, .getfield 137), (227, .invokevirtual 140), (230, .iadd), (231, .bipush 48), (233, .isub), (234, .putfield 151), (237, .aload_n 0), (238, .dup), (239, .getfield 137), (242, .iconst 1), (243, .iadd), (244, .putfield 137), (247, .goto (-60)), (250, .aload_n 0), (251, .iconst 2), (252, .putfield 157), (255, .goto 76), (258, .aload_n 0), (259, .dup), (260, .getfield 137), (263, .iconst 1), (264, .iadd), (265, .putfield 137), (268, .aload_n 0), (269, .iload_n 1), (270, .bipush 59), (272, .if_icmp .eq 51), (275, .iload_n 1), (276, .bipush 40), (278, .if_icmp .eq 45), (281, .iload_n 1), (282, .bipush 41), (284, .if_icmp .eq 39), (287, .iload_n 1), (288, .bipush 43), (290, .if_icmp .eq 33), (293, .iload_n 1), (294, .bipush 45), (296, .if_icmp .eq 27), (299, .iload_n 1), (300, .bipush 42), (302, .if_icmp .eq 21), (305, .iload_n 1), (306, .bipush 47), (308, .if_icmp .eq 15), (311, .iload_n 1), (312, .bipush 60), (314, .if_icmp .eq 9), (317, .iload_n 1), (318, .bipush 61), (320, .if_icmp .ne 7), (323, .iconst 3), (324, .goto 4), (327, .iconst 4), (328, .putfield 157), (331, .aload_n 0), (332, .aload_n 0), (333, .getfield 137), (336, .aload_n 0), (337, .getfield 144), (340, .isub), (341, .putfield 167), (344, .return_)]
def za_i172 : List (Nat × Instr) := [(0, .iload_n 1), (1, .aload_n 0), (2, .getfield 134), (5, .if_icmp .ge 12), (8, .aload_n 0), (9, .getfield 47), (12, .iload_n 1), (13, .iaload), (14, .goto 4), (17, .iconst 0), (18, .ireturn)]
def za_i173 : List (Nat × Instr) := [(0, .iload_n 0), (1, .bipush 97), (3, .if_icmp .lt 13), (6, .iload_n 0), (7, .bipush 122), (9, .if_icmp .gt 7), (12, .iconst 1), (13, .goto 4), (16, .iconst 0), (17, .ireturn)]
def za_i174 : List (Nat × Instr) := [(0, .iload_n 0), (1, .bipush 48), (3, .if_icmp .lt 13), (6, .iload_n 0), (7, .bipush 57), (9, .if_icmp .gt 7), (12, .iconst 1), (13, .goto 4), (16, .iconst 0), (17, .ireturn)]
def za_i175 : List (Nat × Instr) := [(0, .aload_n 0), (1, .getfield 180), (4, .ifCond .ne 7), (7, .iconst 1), (8, .goto 4), (11, .iconst 0), (12, .ireturn)]
def za_i176 : List (Nat × Instr) := [(0, .aload_n 0), (1, .invokevirtual 197), (4, .istore_n 1), (5, .iload_n 1), (6, .bipush 8), (8, .if_icmp .ne 52), (11, .aload_n 0), (12, .getfield 282), (15, .ifCond .ne 8), (18, .aload_n 0), (19, .iconst 5), (20, .invokevirtual 190), (23, .aload_n 0), (24, .invokevirtual 183), (27, .ifCond .ne 4), (30, .return_), (31, .aload_n 0), (32, .invokevirtual 187), (35, .aload_n 0), (36, .aload_n 0), (37, .iconst 2), (38, .bipush 8), (40, .invokevirtual 254), (43, .putfield 251), (46, .aload_n 0), (47, .aload_n 0), (48, .iconst 2), (49, .bipush 8), (51, .invokevirtual 254), (54, .putfield 258), (57, .goto 426), (60, .iload_n 1), (61, .bipush 9), (63, .if_icmp .ne 96), (66, .aload_n 0), (67, .getfield 286), (70, .bipush 20), (72, .if_icmp .ne 8), (75, .aload_n 0), (76, .iconst 2), (77, .invokevirtual 190), (80, .aload_n 0), (81, .invokevirtual 183), (84, .ifCond .ne 4), (87, .return_), (88, .aload_n 0), (89, .invokevirtual 187), (92, .aload_n 0), (93, .invokevirtual 261), (96, .istore_n 2), (97, .aload_n 0), (98, .invokevirtual 183), (101, .ifCond .eq 21), (104, .aload_n 0), (105, .getfield 289), (108, .iload_n 2), (109, .lshr), (110, .lconst 1), (111, .land), (112, .lconst 1), (113, .lcmp), (114, .ifCond .ne 8), (117, .aload_n 0), (118, .iconst 4), (119, .invokevirtual 190), (122, .aload_n 0), (123, .invokevirtual 183), (126, .ifCond .ne 4), (129, .return_), (130, .aload_n 0), (131, .dup), (132, .getfield 289), (135, .lconst 1), (136, .iload_n 2), (137, .lshl), (138, .lor), (139, .putfield 289), (142, .aload_n 0), (143, .dup), (144, .getfield 286), (147, .iconst 1), (148, .iadd), (149, .putfield 286), (152, .aload_n 0), (153, .invokevirtual 187), (156, .goto 327), (159, .iload_n 1), (160, .bipush 10), (162, .if_icmp .ne 78), (165, .aload_n 0), (166, .invokevirtual 187), (169, .aload_n 0), (170, .invokevirtual 261), (173, .istore_n 2), (174, .aload_n 0), (175, .invokevirtual 183), (178, .ifCond .eq 18), (181, .aload_n 0), (182, .getfield 56), (185, .iload_n 2), (186, .iaload), (187, .iconst (-1)), (188, .if_icmp .eq 8), (191, .aload_n 0), (192, .iconst 4), (193, .invokevirtual 190), (196, .aload_n 0), (197, .invokevirtual 183), (200, .ifCond .eq 7), (203, .aload_n 0), (204, .invokevirtual 187), (207, .aload_n 0), (208, .invokevirtual 273), (211, .istore_n 3), (212, .aload_n 0), (213, .invokevirtual 183), (216, .ifCond .ne 4), (219, .return_), (220, .aload_n 0), (221, .getfield 56), (224, .iload_n 2), (225, .iload_n 3), (226, .iastore), (227, .aload_n 0), (228, .dup), (229, .getfield 292), (232, .iconst 1), (233, .iadd), (234, .putfield 292), (237, .goto 246), (240, .iload_n 1), (241, .bipush 11), (243, .if_icmp .ne 10), (246, .aload_n 0), (247, .invokevirtual 295), (250, .goto 233), (253, .iload_n 1), (254, .bipush 12), (256, .if_icmp .ne 10), (259, .aload_n 0), (260, .invokevirtual 298), (263, .goto 220), (266, .iload_n 1), (267, .bipush 13), (269, .if_icmp .ne 54), (272, .aload_n 0), (273, .getfield 301), (276, .ifCond .eq 8), (279, .aload_n 0), (280, .iconst 5), (281, .invokevirtual 190), (284, .aload_n 0), (285, .invokevirtual 183), (288, .ifCond .ne 4), (291, .return_), (292, .aload_n 0), (293, .iconst 1), (294, .putfield 301), (297, .aload_n 0), (298, .invokevirtual 187), (301, .aload_n 0), (302, .aload_n 0), (303, .invokevirtual 267), (306, .putfield 304), (309, .aload_n 0), (310, .aload_n 0), (311, .iconst 0), (312, .bipush 9), (314, .invokevirtual 254), (317, .putfield 307), (320, .goto 163), (323, .iload_n 1), (324, .bipush 14), (326, .if_icmp .ne 46), (329, .aload_n 0), (330, .getfield 310), (333, .ifCond .eq 8), (336, .aload_n 0), (337, .iconst 5), (338, .invokevirtual 190), (341, .aload_n 0), (342, .invokevirtual 183), (345, .ifCond .ne 4), (348, .return_), (349, .aload_n 0), (350, .iconst 1), (351, .putfield 310), (354, .aload_n 0), (355, .invokevirtual 187), (358, .aload_n 0), (359, .aload_n 0), (360, .iconst 0), (361, .bipush 7), (363, .invokevirtual 254), (366, .putfield 313), (369, .goto 114), (372, .iload_n 1), (373, .bipush 15), (375, .if_icmp .ne 10), (378, .aload_n 0), (379, .invokevirtual 316), (382, .goto 101), (385, .iload_n 1), (386, .bipush 16), (388, .if_icmp .ne 90), (391, .aload_n 0), (392, .getfield 319), (395, .bipush 8), (397, .if_icmp .ne 8), (400, .aload_n 0), (401, .iconst 2), (402, .invokevirtual 190), (405, .aload_n 0), (406, .invokevirtual 183), (409, .ifCond .ne 4), (412, .return_), (413, .aload_n 0), (414, .invokevirtual 187), (417, .aload_n 0), (418, .getfield 71), (421, .aload_n 0), (422, .getfield 319), (425, .aload_n 0), (426, .getfield 209), (429, .iastore), (430, .aload_n 0), (431, .invokevirtual 322), (434, .aload_n 0), (435, .aload_n 0), (436, .invokevirtual 197), (439, .bipush 17), (441, .if_icmp .ne 7), (444, .iconst 1), (445, .goto 4), (448, .iconst 0), (449, .invokevirtual 205), (452, .aload_n 0), (453, .getfield 74), (456, .aload_n 0), (457, .getfield 319), (460, .aload_n 0), (461, .invokevirtual 273), (464, .iastore), (465, .aload_n 0), (466, .dup), (467, .getfield 319), (470, .iconst 1), (471, .iadd), (472, .putfield 319), (475, .goto 8), (478, .aload_n 0), (479, .iconst 1), (480, .invokevirtual 190), (483, .aload_n 0), (484, .aload_n 0), (485, .bipush 59), (487, .invokevirtual 227), (490, .invokevirtual 205), (493, .return_)]
def za_i177 : List (Nat × Instr) := [(0, .aload_n 0), (1, .getfield 157), (4, .iconst 1), (5, .if_icmp .ne 12), (8, .aload_n 0), (9, .getfield 167), (12, .bipush 7), (14, .if_icmp .le 5), (17, .iconst (-1)), (18, .ireturn), (19, .iconst 0), (20, .istore_n 1), (21, .iload_n 1), (22, .bipush 21), (24, .if_icmp .ge 23), (27, .iload_n 1), (28, .invokestatic 176), (31, .aload_n 0), (32, .getfield 147), (35, .lcmp), (36, .ifCond .ne 5), (39, .iload_n 1), (40, .ireturn), (41, .iinc 1 1), (44, .goto (-23)), (47, .iconst (-1)), (48, .ireturn)]
def za_i178 : List (Nat × Instr) := [(0, .iload_n 0), (1, .tableswitch 392 0 19 #[95, 111, 126, 142, 157, 169, 181, 196, 211, 225, 240, 258, 274, 289, 306, 321, 337, 352, 365, 379]), (96, .bipush 110), (98, .bipush 111), (100, .bipush 114), (102, .bipush 116), (104, .bipush 104), (106, .iconst 0), (107, .iconst 0), (108, .invokestatic 172), (111, .lreturn), (112, .bipush 101), (114, .bipush 97), (116, .bipush 115), (118, .bipush 116), (120, .iconst 0), (121, .iconst 0), (122, .iconst 0), (123, .invokestatic 172), (126, .lreturn), (127, .bipush 115), (129, .bipush 111), (131, .bipush 117), (133, .bipush 116), (135, .bipush 104), (137, .iconst 0), (138, .iconst 0), (139, .invokestatic 172), (142, .lreturn), (143, .bipush 119), (145, .bipush 101), (147, .bipush 115), (149, .bipush 116), (151, .iconst 0), (152, .iconst 0), (153, .iconst 0), (154, .invokestatic 172), (157, .lreturn), (158, .bipush 120), (160, .iconst 0), (161, .iconst 0), (162, .iconst 0), (163, .iconst 0), (164, .iconst 0), (165, .iconst 0), (166, .invokestatic 172), (169, .lreturn), (170, .bipush 121), (172, .iconst 0), (173, .iconst 0), (174, .iconst 0), (175, .iconst 0), (176, .iconst 0), (177, .iconst 0), (178, .invokestatic 172), (181, .lreturn), (182, .bipush 104), (184, .bipush 111), (186, .bipush 117), (188, .bipush 114), (190, .iconst 0), (191, .iconst 0), (192, .iconst 0), (193, .invokestatic 172), (196, .lreturn), (197, .bipush 116), (199, .bipush 105), (201, .bipush 100), (203, .bipush 101), (205, .iconst 0), (206, .iconst 0), (207, .iconst 0), (208, .invokestatic 172), (211, .lreturn), (212, .bipush 115), (214, .bipush 101), (216, .bipush 97), (218, .iconst 0), (219, .iconst 0), (220, .iconst 0), (221, .iconst 0), (222, .invokestatic 172), (225, .lreturn), (226, .bipush 114), (228, .bipush 111), (230, .bipush 99), (232, .bipush 107), (234, .iconst 0), (235, .iconst 0), (236, .iconst 0), (237, .invokestatic 172), (240, .lreturn), (241, .bipush 99), (243, .bipush 117), (245, .bipush 114), (247, .bipush 114), (249, .bipush 101), (251, .bipush 110), (253, .bipush 116), (255, .invokestatic 172), (258, .lreturn), (259, .bipush 115), (261, .bipush 108), (263, .bipush 97), (265, .bipush 116), (267, .bipush 101), (269, .iconst 0), (270, .iconst 0), (271, .invokestatic 172), (274, .lreturn), (275, .bipush 104), (277, .bipush 97), (279, .bipush 110), (281, .bipush 100), (283, .iconst 0), (284, .iconst 0), (285, .iconst 0), (286, .invokestatic 172), (289, .lreturn), (290, .bipush 115), (292, .bipush 99), (294, .bipush 104), (296, .bipush 111), (298, .bipush 111), (300, .bipush 108), (302, .iconst 0), (303, .invokestatic 172), (306, .lreturn), (307, .bipush 103), (309, .bipush 111), (311, .bipush 97), (313, .bipush 108), (315, .iconst 0), (316, .iconst 0), (317, .iconst 0), (318, .invokestatic 172), (321, .lreturn), (322, .bipush 112), (324, .bipush 105), (326, .bipush 108), (328, .bipush 111), (330, .bipush 116), (332, .iconst 0), (333, .iconst 0), (334, .invokestatic 172), (337, .lreturn), (338, .bipush 114), (340, .bipush 117), (342, .bipush 108), (344, .bipush 101), (346, .iconst 0), (347, .iconst 0), (348, .iconst 0), (349, .invokestatic 172), (352, .lreturn), (353, .bipush 103), (355, .bipush 111), (357, .iconst 0), (358, .iconst 0), (359, .iconst 0), (360, .iconst 0), (361, .iconst 0), (362, .invokestatic 172), (365, .lreturn), (366, .bipush 97), (368, .bipush 110), (370, .bipush 100), (372, .iconst 0), (373, .iconst 0), (374, .iconst 0), (375, .iconst 0), (376, .invokestatic 172), (379, .lreturn), (380, .bipush 111), (382, .bipush 114), (384, .iconst 0), (385, .iconst 0), (386, .iconst 0), (387, .iconst 0), (388, .iconst 0), (389, .invokestatic 172), (392, .lreturn), (393, .bipush 110), (395, .bipush 111), (397, .bipush 116), (399, .iconst 0), (400, .iconst 0), (401, .iconst 0), (402, .iconst 0), (403, .invokestatic 172), (406, .lreturn)]
def za_i179 : List (Nat × Instr) := [(0, .iload_n 0), (1, .i2l), (2, .ldc2_w 170), (5, .lsub), (6, .lstore 7), (8, .iload_n 1), (9, .ifCond .eq 15), (12, .lload 7), (14, .iconst 5), (15, .lshl), (16, .iload_n 1), (17, .bipush 96), (19, .isub), (20, .i2l), (21, .lor), (22, .lstore 7), (24, .iload_n 2), (25, .ifCond .eq 15), (28, .lload 7), (30, .iconst 5), (31, .lshl), (32, .iload_n 2), (33, .bipush 96), (35, .isub), (36, .i2l), (37, .lor), (38, .lstore 7), (40, .iload_n 3), (41, .ifCond .eq 15), (44, .lload 7), (46, .iconst 5), (47, .lshl), (48, .iload_n 3), (49, .bipush 96), (51, .isub), (52, .i2l), (53, .lor), (54, .lstore 7), (56, .iload 4), (58, .ifCond .eq 16), (61, .lload 7), (63, .iconst 5), (64, .lshl), (65, .iload 4), (67, .bipush 96), (69, .isub), (70, .i2l), (71, .lor), (72, .lstore 7), (74, .iload 5), (76, .ifCond .eq 16), (79, .lload 7), (81, .iconst 5), (82, .lshl), (83, .iload 5), (85, .bipush 96), (87, .isub), (88, .i2l), (89, .lor), (90, .lstore 7), (92, .iload 6), (94, .ifCond .eq 16), (97, .lload 7), (99, .iconst 5), (100, .lshl), (101, .iload 6), (103, .bipush 96), (105, .isub), (106, .i2l), (107, .lor), (108, .lstore 7), (110, .lload 7), (112, .lreturn)]
def za_i180 : List (Nat × Instr) := [(0, .aload_n 0), (1, .getfield 180), (4, .ifCond .eq 4), (7, .return_), (8, .aload_n 0), (9, .iload_n 1), (10, .putfield 180), (13, .aload_n 0), (14, .aload_n 0), (15, .getfield 144), (18, .putfield 50), (21, .return_)]
def za_i181 : List (Nat × Instr) := [(0, .aload_n 0), (1, .iload_n 1), (2, .iload_n 2), (3, .invokevirtual 193), (6, .ifCond .eq 10), (9, .aload_n 0), (10, .getfield 151), (13, .goto 4), (16, .iconst 0), (17, .istore_n 3), (18, .aload_n 0), (19, .invokevirtual 183), (22, .ifCond .eq 7), (25, .aload_n 0), (26, .invokevirtual 187), (29, .iload_n 3), (30, .ireturn)]
def za_i182 : List (Nat × Instr) := [(0, .aload_n 0), (1, .invokevirtual 183), (4, .ifCond .ne 5), (7, .iconst 0), (8, .ireturn), (9, .aload_n 0), (10, .getfield 157), (13, .iconst 2), (14, .if_icmp .eq 11), (17, .aload_n 0), (18, .iconst 1), (19, .invokevirtual 190), (22, .goto 32), (25, .aload_n 0), (26, .getfield 167), (29, .iconst 4), (30, .if_icmp .gt 19), (33, .aload_n 0), (34, .getfield 151), (37, .iload_n 1), (38, .if_icmp .lt 11), (41, .aload_n 0), (42, .getfield 151), (45, .iload_n 2), (46, .if_icmp .le 8), (49, .aload_n 0), (50, .iconst 2), (51, .invokevirtual 190), (54, .aload_n 0), (55, .invokevirtual 183), (58, .ireturn)]
def za_i183 : List (Nat × Instr) := [(0, .aload_n 0), (1, .iconst 0), (2, .aload_n 0), (3, .getfield 251), (6, .iconst 1), (7, .isub), (8, .invokevirtual 254), (11, .istore_n 1), (12, .aload_n 0), (13, .iconst 0), (14, .aload_n 0), (15, .getfield 258), (18, .iconst 1), (19, .isub), (20, .invokevirtual 193), (23, .ifCond .eq 17), (26, .aload_n 0), (27, .getfield 251), (30, .aload_n 0), (31, .getfield 151), (34, .imul), (35, .iload_n 1), (36, .iadd), (37, .goto 4), (40, .iconst 0), (41, .ireturn)]
def za_i184 : List (Nat × Instr) := [(0, .aload_n 0), (1, .invokevirtual 183), (4, .ifCond .eq 10), (7, .aload_n 0), (8, .invokevirtual 197), (11, .goto 4), (14, .iconst (-1)), (15, .istore_n 1), (16, .aload_n 0), (17, .iload_n 1), (18, .iconst 0), (19, .iconst 3), (20, .invokestatic 201), (23, .invokevirtual 205), (26, .iload_n 1), (27, .ireturn)]
def za_i185 : List (Nat × Instr) := [(0, .iload_n 0), (1, .iload_n 1), (2, .if_icmp .lt 12), (5, .iload_n 0), (6, .iload_n 2), (7, .if_icmp .gt 7), (10, .iconst 1), (11, .goto 4), (14, .iconst 0), (15, .ireturn)]
def za_i186 : List (Nat × Instr) := [(0, .aload_n 0), (1, .invokevirtual 183), (4, .ifCond .ne 4), (7, .return_), (8, .iload_n 1), (9, .ifCond .eq 10), (12, .aload_n 0), (13, .invokevirtual 187), (16, .goto 8), (19, .aload_n 0), (20, .iconst 1), (21, .invokevirtual 190), (24, .return_)]
def za_i187 : List (Nat × Instr) := [(0, .aload_n 0), (1, .getfield 264), (4, .bipush 8), (6, .if_icmp .ne 8), (9, .aload_n 0), (10, .iconst 2), (11, .invokevirtual 190), (14, .aload_n 0), (15, .invokevirtual 183), (18, .ifCond .ne 4), (21, .return_), (22, .aload_n 0), (23, .invokevirtual 187), (26, .iconst 4), (27, .aload_n 0), (28, .getfield 264), (31, .imul), (32, .istore_n 1), (33, .aload_n 0), (34, .getfield 59), (37, .iload_n 1), (38, .aload_n 0), (39, .invokevirtual 267), (42, .iastore), (43, .aload_n 0), (44, .getfield 59), (47, .iload_n 1), (48, .iconst 1), (49, .iadd), (50, .aload_n 0), (51, .iconst 0), (52, .bipush 99), (54, .invokevirtual 254), (57, .iastore), (58, .iconst 0), (59, .istore_n 2), (60, .aload_n 0), (61, .invokevirtual 270), (64, .ifCond .eq 73), (67, .iload_n 2), (68, .bipush 8), (70, .if_icmp .ne 8), (73, .aload_n 0), (74, .iconst 2), (75, .invokevirtual 190), (78, .aload_n 0), (79, .invokevirtual 183), (82, .ifCond .ne 4), (85, .return_), (86, .aload_n 0), (87, .getfield 62), (90, .bipush 16), (92, .aload_n 0), (93, .getfield 264), (96, .imul), (97, .iconst 2), (98, .iload_n 2), (99, .imul), (100, .iadd), (101, .aload_n 0), (102, .invokevirtual 273), (105, .iastore), (106, .aload_n 0), (107, .getfield 62), (110, .bipush 16), (112, .aload_n 0), (113, .getfield 264), (116, .imul), (117, .iconst 2), (118, .iload_n 2), (119, .imul), (120, .iadd), (121, .iconst 1), (122, .iadd), (123, .aload_n 0), (124, .iconst 1), (125, .bipush 9), (127, .invokevirtual 254), (130, .iastore), (131, .iinc 2 1), (134, .goto (-74)), (137, .aload_n 0), (138, .getfield 59), (141, .iload_n 1), (142, .iconst 2), (143, .iadd), (144, .iload_n 2), (145, .iastore), (146, .aload_n 0), (147, .getfield 59), (150, .iload_n 1), (151, .iconst 3), (152, .iadd), (153, .iconst 0), (154, .iastore), (155, .aload_n 0), (156, .invokevirtual 183), (159, .ifCond .eq 13), (162, .aload_n 0), (163, .dup), (164, .getfield 264), (167, .iconst 1), (168, .iadd), (169, .putfield 264), (172, .return_)]
def za_i188 : List (Nat × Instr) := [(0, .aload_n 0), (1, .invokevirtual 261), (4, .istore_n 1), (5, .aload_n 0), (6, .invokevirtual 183), (9, .ifCond .eq 7), (12, .aload_n 0), (13, .invokevirtual 187), (16, .iload_n 1), (17, .ireturn)]
def za_i189 : List (Nat × Instr) := [(0, .aload_n 0), (1, .invokevirtual 183), (4, .ifCond .eq 19), (7, .aload_n 0), (8, .invokevirtual 197), (11, .iconst 0), (12, .iconst 3), (13, .invokestatic 201), (16, .ifCond .eq 7), (19, .iconst 1), (20, .goto 4), (23, .iconst 0), (24, .ireturn)]
def za_i190 : List (Nat × Instr) := [(0, .aload_n 0), (1, .getfield 276), (4, .iconst 5), (5, .if_icmp .ne 8), (8, .aload_n 0), (9, .iconst 2), (10, .invokevirtual 190), (13, .aload_n 0), (14, .invokevirtual 183), (17, .ifCond .ne 4), (20, .return_), (21, .aload_n 0), (22, .invokevirtual 187), (25, .bipush 12), (27, .istore_n 1), (28, .iconst 0), (29, .istore_n 2), (30, .iload_n 2), (31, .iconst 4), (32, .if_icmp .ge 71), (35, .aload_n 0), (36, .iload_n 2), (37, .iconst 3), (38, .if_icmp .ge 7), (41, .iconst 0), (42, .goto 13), (45, .iload_n 1), (46, .ifCond .ge 8), (49, .bipush 13), (51, .goto 4), (54, .iload_n 1), (55, .iload_n 2), (56, .iconst 3), (57, .if_icmp .ge 8), (60, .bipush 12), (62, .goto 13), (65, .iload_n 1), (66, .ifCond .ge 8), (69, .bipush 12), (71, .goto 4), (74, .iload_n 1), (75, .invokevirtual 254), (78, .istore_n 3), (79, .aload_n 0), (80, .getfield 65), (83, .iconst 4), (84, .aload_n 0), (85, .getfield 276), (88, .imul), (89, .iload_n 2), (90, .iadd), (91, .iload_n 3), (92, .iastore), (93, .iload_n 1), (94, .iload_n 3), (95, .isub), (96, .istore_n 1), (97, .iinc 2 1), (100, .goto (-70)), (103, .aload_n 0), (104, .invokevirtual 183), (107, .ifCond .eq 13), (110, .aload_n 0), (111, .dup), (112, .getfield 276), (115, .iconst 1), (116, .iadd), (117, .putfield 276), (120, .return_)]
def za_i191 : List (Nat × Instr) := [(0, .aload_n 0), (1, .getfield 279), (4, .iconst 4), (5, .if_icmp .ne 8), (8, .aload_n 0), (9, .iconst 2), (10, .invokevirtual 190), (13, .aload_n 0), (14, .invokevirtual 183), (17, .ifCond .ne 4), (20, .return_), (21, .aload_n 0), (22, .invokevirtual 187), (25, .aload_n 0), (26, .getfield 68), (29, .iconst 3), (30, .aload_n 0), (31, .getfield 279), (34, .imul), (35, .aload_n 0), (36, .invokevirtual 267), (39, .iastore), (40, .aload_n 0), (41, .getfield 68), (44, .iconst 3), (45, .aload_n 0), (46, .getfield 279), (49, .imul), (50, .iconst 1), (51, .iadd), (52, .aload_n 0), (53, .iconst 0), (54, .bipush 99), (56, .invokevirtual 254), (59, .iastore), (60, .iconst 0), (61, .istore_n 1), (62, .aload_n 0), (63, .invokevirtual 183), (66, .ifCond .eq 87), (69, .aload_n 0), (70, .getfield 157), (73, .iconst 2), (74, .if_icmp .ne 79), (77, .aload_n 0), (78, .getfield 167), (81, .iconst 4), (82, .if_icmp .le 11), (85, .aload_n 0), (86, .iconst 2), (87, .invokevirtual 190), (90, .goto 39), (93, .aload_n 0), (94, .getfield 151), (97, .aload_n 0), (98, .getfield 264), (101, .if_icmp .lt 11), (104, .aload_n 0), (105, .iconst 3), (106, .invokevirtual 190), (109, .goto 20), (112, .iload_n 1), (113, .aload_n 0), (114, .getfield 151), (117, .ishr), (118, .iconst 1), (119, .iand), (120, .iconst 1), (121, .if_icmp .ne 8), (124, .aload_n 0), (125, .iconst 4), (126, .invokevirtual 190), (129, .aload_n 0), (130, .invokevirtual 183), (133, .ifCond .ne 4), (136, .return_), (137, .iload_n 1), (138, .iconst 1), (139, .aload_n 0), (140, .getfield 151), (143, .ishl), (144, .ior), (145, .istore_n 1), (146, .aload_n 0), (147, .invokevirtual 187), (150, .goto (-88)), (153, .aload_n 0), (154, .getfield 68), (157, .iconst 3), (158, .aload_n 0), (159, .getfield 279), (162, .imul), (163, .iconst 2), (164, .iadd), (165, .iload_n 1), (166, .iastore), (167, .aload_n 0), (168, .invokevirtual 183), (171, .ifCond .eq 13), (174, .aload_n 0), (175, .dup), (176, .getfield 279), (179, .iconst 1), (180, .iadd), (181, .putfield 279), (184, .return_)]
def za_i192 : List (Nat × Instr) := [(0, .aload_n 0), (1, .invokevirtual 183), (4, .ifCond .ne 4), (7, .return_), (8, .aload_n 0), (9, .iconst 0), (10, .putfield 212), (13, .aload_n 0), (14, .iconst 0), (15, .putfield 224), (18, .aload_n 0), (19, .invokevirtual 233), (22, .aload_n 0), (23, .iconst 1), (24, .invokevirtual 242), (27, .iconst 1), (28, .istore_n 1), (29, .iload_n 1), (30, .ifCond .eq 295), (33, .aload_n 0), (34, .invokevirtual 183), (37, .ifCond .eq 288), (40, .aload_n 0), (41, .invokevirtual 197), (44, .istore_n 2), (45, .iload_n 2), (46, .bipush 18), (48, .if_icmp .eq 9), (51, .iload_n 2), (52, .bipush 19), (54, .if_icmp .ne 55), (57, .aload_n 0), (58, .iload_n 2), (59, .bipush 18), (61, .if_icmp .ne 7), (64, .iconst 2), (65, .goto 4), (68, .iconst 1), (69, .invokevirtual 239), (72, .aload_n 0), (73, .iload_n 2), (74, .bipush 18), (76, .if_icmp .ne 7), (79, .iconst 4), (80, .goto 4), (83, .iconst 5), (84, .invokevirtual 230), (87, .aload_n 0), (88, .getfield 83), (91, .aload_n 0), (92, .getfield 224), (95, .iconst 0), (96, .bastore), (97, .aload_n 0), (98, .invokevirtual 187), (101, .aload_n 0), (102, .iconst 1), (103, .invokevirtual 242), (106, .goto 216), (109, .aload_n 0), (110, .bipush 60), (112, .invokevirtual 227), (115, .ifCond .ne 12), (118, .aload_n 0), (119, .bipush 61), (121, .invokevirtual 227), (124, .ifCond .eq 62), (127, .aload_n 0), (128, .getfield 83), (131, .aload_n 0), (132, .getfield 224), (135, .baload), (136, .ifCond .ne 50), (139, .aload_n 0), (140, .iconst 4), (141, .invokevirtual 239), (144, .aload_n 0), (145, .aload_n 0), (146, .bipush 60), (148, .invokevirtual 227), (151, .ifCond .eq 8), (154, .bipush 6), (156, .goto 5), (159, .bipush 7), (161, .invokevirtual 230), (164, .aload_n 0), (165, .getfield 83), (168, .aload_n 0), (169, .getfield 224), (172, .iconst 1), (173, .bastore), (174, .aload_n 0), (175, .invokevirtual 187), (178, .aload_n 0), (179, .iconst 0), (180, .invokevirtual 242), (183, .goto 139), (186, .aload_n 0), (187, .bipush 43), (189, .invokevirtual 227), (192, .ifCond .ne 12), (195, .aload_n 0), (196, .bipush 45), (198, .invokevirtual 227), (201, .ifCond .eq 40), (204, .aload_n 0), (205, .iconst 5), (206, .invokevirtual 239), (209, .aload_n 0), (210, .aload_n 0), (211, .bipush 43), (213, .invokevirtual 227), (216, .ifCond .eq 8), (219, .bipush 8), (221, .goto 5), (224, .bipush 9), (226, .invokevirtual 230), (229, .aload_n 0), (230, .invokevirtual 187), (233, .aload_n 0), (234, .iconst 0), (235, .invokevirtual 242), (238, .goto 84), (241, .aload_n 0), (242, .bipush 42), (244, .invokevirtual 227), (247, .ifCond .ne 12), (250, .aload_n 0), (251, .bipush 47), (253, .invokevirtual 227), (256, .ifCond .eq 41), (259, .aload_n 0), (260, .bipush 6), (262, .invokevirtual 239), (265, .aload_n 0), (266, .aload_n 0), (267, .bipush 42), (269, .invokevirtual 227), (272, .ifCond .eq 8), (275, .bipush 10), (277, .goto 5), (280, .bipush 11), (282, .invokevirtual 230), (285, .aload_n 0), (286, .invokevirtual 187), (289, .aload_n 0), (290, .iconst 0), (291, .invokevirtual 242), (294, .goto 28), (297, .aload_n 0), (298, .bipush 41), (300, .invokevirtual 227), (303, .ifCond .eq 17), (306, .aload_n 0), (307, .invokevirtual 245), (310, .ifCond .eq 10), (313, .aload_n 0), (314, .invokevirtual 248), (317, .goto 5), (320, .iconst 0), (321, .istore_n 1), (322, .goto (-293)), (325, .aload_n 0), (326, .invokevirtual 183), (329, .ifCond .eq 16), (332, .aload_n 0), (333, .getfield 224), (336, .iconst 1), (337, .if_icmp .le 8), (340, .aload_n 0), (341, .iconst 1), (342, .invokevirtual 190), (345, .aload_n 0), (346, .iconst 0), (347, .invokevirtual 239), (350, .aload_n 0), (351, .iconst 0), (352, .invokevirtual 221), (355, .return_)]
def za_i193 : List (Nat × Instr) := [(0, .aload_n 0), (1, .getfield 224), (4, .bipush 6), (6, .if_icmp .ge 24), (9, .aload_n 0), (10, .dup), (11, .getfield 224), (14, .iconst 1), (15, .iadd), (16, .putfield 224), (19, .aload_n 0), (20, .getfield 83), (23, .aload_n 0), (24, .getfield 224), (27, .iconst 0), (28, .bastore), (29, .return_), (30, .aload_n 0), (31, .aload_n 0), (32, .getfield 157), (35, .iconst 2), (36, .if_icmp .eq 20), (39, .aload_n 0), (40, .getfield 157), (43, .iconst 1), (44, .if_icmp .eq 12), (47, .aload_n 0), (48, .bipush 40), (50, .invokevirtual 227), (53, .ifCond .eq 7), (56, .iconst 2), (57, .goto 4), (60, .iconst 1), (61, .invokevirtual 190), (64, .return_)]
def za_i194 : List (Nat × Instr) := [(0, .aload_n 0), (1, .getfield 157), (4, .iconst 3), (5, .if_icmp .ne 15), (8, .aload_n 0), (9, .getfield 154), (12, .iload_n 1), (13, .if_icmp .ne 7), (16, .iconst 1), (17, .goto 4), (20, .iconst 0), (21, .ireturn)]
def za_i195 : List (Nat × Instr) := [(0, .iload_n 1), (1, .istore_n 2), (2, .iconst 1), (3, .istore_n 3), (4, .iload_n 3), (5, .ifCond .eq 115), (8, .aload_n 0), (9, .invokevirtual 183), (12, .ifCond .eq 108), (15, .iconst 0), (16, .istore 4), (18, .aload_n 0), (19, .invokevirtual 183), (22, .ifCond .eq 53), (25, .iload_n 2), (26, .ifCond .eq 49), (29, .aload_n 0), (30, .invokevirtual 197), (33, .bipush 20), (35, .if_icmp .ne 40), (38, .iload 4), (40, .bipush 6), (42, .if_icmp .ne 8), (45, .aload_n 0), (46, .iconst 2), (47, .invokevirtual 190), (50, .iinc 4 1), (53, .aload_n 0), (54, .invokevirtual 183), (57, .ifCond .ne 6), (60, .goto (-42)), (63, .aload_n 0), (64, .iconst 3), (65, .invokevirtual 230), (68, .aload_n 0), (69, .invokevirtual 187), (72, .goto (-54)), (75, .aload_n 0), (76, .invokevirtual 183), (79, .ifCond .eq 16), (82, .aload_n 0), (83, .bipush 40), (85, .invokevirtual 227), (88, .ifCond .eq 7), (91, .iconst 1), (92, .goto 4), (95, .iconst 0), (96, .istore_n 3), (97, .iload_n 3), (98, .ifCond .eq 19), (101, .aload_n 0), (102, .bipush 14), (104, .invokevirtual 230), (107, .aload_n 0), (108, .invokevirtual 187), (111, .aload_n 0), (112, .invokevirtual 233), (115, .iconst 1), (116, .istore_n 2), (117, .goto (-113)), (120, .aload_n 0), (121, .invokevirtual 236), (124, .return_)]
def za_i196 : List (Nat × Instr) := [(0, .aload_n 0), (1, .getfield 80), (4, .aload_n 0), (5, .getfield 212), (8, .iload_n 1), (9, .iastore), (10, .aload_n 0), (11, .dup), (12, .getfield 212), (15, .iconst 1), (16, .iadd), (17, .putfield 212), (20, .return_)]
def za_i197 : List (Nat × Instr) := [(0, .aload_n 0), (1, .invokevirtual 183), (4, .ifCond .ne 4), (7, .return_), (8, .aload_n 0), (9, .getfield 157), (12, .iconst 2), (13, .if_icmp .ne 32), (16, .aload_n 0), (17, .getfield 167), (20, .iconst 4), (21, .if_icmp .le 8), (24, .aload_n 0), (25, .iconst 2), (26, .invokevirtual 190), (29, .aload_n 0), (30, .iconst 1), (31, .invokevirtual 221), (34, .aload_n 0), (35, .aload_n 0), (36, .getfield 151), (39, .invokevirtual 221), (42, .goto 49), (45, .aload_n 0), (46, .getfield 157), (49, .iconst 1), (50, .if_icmp .ne 36), (53, .aload_n 0), (54, .invokevirtual 197), (57, .istore_n 1), (58, .iload_n 1), (59, .ifCond .lt 9), (62, .iload_n 1), (63, .bipush 7), (65, .if_icmp .le 8), (68, .aload_n 0), (69, .iconst 3), (70, .invokevirtual 190), (73, .aload_n 0), (74, .iconst 2), (75, .invokevirtual 221), (78, .aload_n 0), (79, .iload_n 1), (80, .invokevirtual 221), (83, .goto 8), (86, .aload_n 0), (87, .iconst 1), (88, .invokevirtual 190), (91, .aload_n 0), (92, .invokevirtual 183), (95, .ifCond .eq 7), (98, .aload_n 0), (99, .invokevirtual 187), (102, .return_)]
def za_i198 : List (Nat × Instr) := [(0, .aload_n 0), (1, .getfield 77), (4, .aload_n 0), (5, .getfield 209), (8, .iload_n 1), (9, .iastore), (10, .aload_n 0), (11, .dup), (12, .getfield 209), (15, .iconst 1), (16, .iadd), (17, .putfield 209), (20, .return_)]
def za_i199 : List (Nat × Instr) := [(0, .aload_n 0), (1, .getfield 212), (4, .ifCond .le 64), (7, .aload_n 0), (8, .getfield 80), (11, .aload_n 0), (12, .getfield 212), (15, .iconst 1), (16, .isub), (17, .iaload), (18, .invokestatic 215), (21, .ifCond .ne 47), (24, .aload_n 0), (25, .getfield 80), (28, .aload_n 0), (29, .getfield 212), (32, .iconst 1), (33, .isub), (34, .iaload), (35, .invokestatic 218), (38, .iload_n 1), (39, .if_icmp .lt 29), (42, .aload_n 0), (43, .dup), (44, .getfield 212), (47, .iconst 1), (48, .isub), (49, .putfield 212), (52, .aload_n 0), (53, .aload_n 0), (54, .getfield 80), (57, .aload_n 0), (58, .getfield 212), (61, .iaload), (62, .invokevirtual 221), (65, .goto (-65)), (68, .return_)]
def za_i200 : List (Nat × Instr) := [(0, .iload_n 0), (1, .bipush 14), (3, .if_icmp .lt 7), (6, .iconst 1), (7, .goto 4), (10, .iconst 0), (11, .ireturn)]
def za_i201 : List (Nat × Instr) := [(0, .iload_n 0), (1, .iconst 5), (2, .if_icmp .ne 7), (5, .iconst 1), (6, .goto 55), (9, .iload_n 0), (10, .iconst 4), (11, .if_icmp .ne 7), (14, .iconst 2), (15, .goto 46), (18, .iload_n 0), (19, .iconst 3), (20, .if_icmp .ne 7), (23, .iconst 3), (24, .goto 37), (27, .iload_n 0), (28, .bipush 6), (30, .if_icmp .eq 9), (33, .iload_n 0), (34, .bipush 7), (36, .if_icmp .ne 7), (39, .iconst 4), (40, .goto 21), (43, .iload_n 0), (44, .bipush 8), (46, .if_icmp .eq 9), (49, .iload_n 0), (50, .bipush 9), (52, .if_icmp .ne 7), (55, .iconst 5), (56, .goto 5), (59, .bipush 6), (61, .ireturn)]
def za_i202 : List (Nat × Instr) := [(0, .aload_n 0), (1, .getfield 212), (4, .iconst 1), (5, .isub), (6, .istore_n 1), (7, .iload_n 1), (8, .ifCond .lt 21), (11, .aload_n 0), (12, .getfield 80), (15, .iload_n 1), (16, .iaload), (17, .invokestatic 215), (20, .ifCond .ne 9), (23, .iinc 1 (-1)), (26, .goto (-19)), (29, .iload_n 1), (30, .ifCond .lt 7), (33, .iconst 1), (34, .goto 4), (37, .iconst 0), (38, .ireturn)]
def za_i203 : List (Nat × Instr) := [(0, .aload_n 0), (1, .iconst 0), (2, .invokevirtual 239), (5, .aload_n 0), (6, .dup), (7, .getfield 212), (10, .iconst 1), (11, .isub), (12, .putfield 212), (15, .aload_n 0), (16, .dup), (17, .getfield 224), (20, .iconst 1), (21, .isub), (22, .putfield 224), (25, .aload_n 0), (26, .invokevirtual 187), (29, .return_)]
def za_i204 : List (Nat × Instr) := [(0, .iconst 0), (1, .istore_n 3), (2, .iload_n 3), (3, .aload_n 1), (4, .arraylength), (5, .if_icmp .ge 15), (8, .aload_n 2), (9, .iload_n 3), (10, .aload_n 1), (11, .iload_n 3), (12, .iaload), (13, .iastore), (14, .iinc 3 1), (17, .goto (-15)), (20, .return_)]
def za_i205 : List (Nat × Instr) := [(0, .aload_n 0), (1, .iconst 0), (2, .putfield 124), (5, .aload_n 0), (6, .getfield 50), (9, .ireturn)]
def za_i206 : List (Nat × Instr) := [(0, .aload_n 0), (1, .iconst 0), (2, .putfield 124), (5, .aload_n 0), (6, .iload_n 1), (7, .iconst 0), (8, .bipush 14), (10, .invokestatic 201), (13, .iconst 1), (14, .invokevirtual 325), (17, .ifCond .ne 5), (20, .iconst 0), (21, .ireturn), (22, .iload_n 1), (23, .tableswitch 130 0 12 #[65, 70, 75, 80, 85, 90, 95, 100, 105, 110, 115, 120, 125]), (88, .aload_n 0), (89, .getfield 7), (92, .ireturn), (93, .aload_n 0), (94, .getfield 13), (97, .ireturn), (98, .aload_n 0), (99, .getfield 332), (102, .ireturn), (103, .aload_n 0), (104, .getfield 335), (107, .ireturn), (108, .aload_n 0), (109, .getfield 338), (112, .ireturn), (113, .aload_n 0), (114, .getfield 341), (117, .ireturn), (118, .aload_n 0), (119, .getfield 344), (122, .ireturn), (123, .aload_n 0), (124, .getfield 347), (127, .ireturn), (128, .aload_n 0), (129, .getfield 350), (132, .ireturn), (133, .aload_n 0), (134, .getfield 16), (137, .ireturn), (138, .aload_n 0), (139, .getfield 19), (142, .ireturn), (143, .aload_n 0), (144, .getfield 360), (147, .ireturn), (148, .aload_n 0), (149, .getfield 127), (152, .ireturn), (153, .aload_n 0), (154, .getfield 53), (157, .iload_n 1), (158, .bipush 13), (160, .isub), (161, .iaload), (162, .ireturn)]
def za_i207 : List (Nat × Instr) := [(0, .aload_n 0), (1, .iconst 0), (2, .putfield 124), (5, .aload_n 0), (6, .iload_n 1), (7, .ifCond .lt 20), (10, .iload_n 1), (11, .aload_n 0), (12, .getfield 7), (15, .aload_n 0), (16, .getfield 13), (19, .imul), (20, .if_icmp .ge 7), (23, .iconst 1), (24, .goto 4), (27, .iconst 0), (28, .iconst 1), (29, .invokevirtual 325), (32, .ifCond .eq 12), (35, .aload_n 0), (36, .iload_n 2), (37, .iconst 1), (38, .invokevirtual 366), (41, .ifCond .ne 5), (44, .iconst 0), (45, .ireturn), (46, .iload_n 2), (47, .ifCond .ne 15), (50, .aload_n 0), (51, .getfield 353), (54, .iload_n 1), (55, .lshr), (56, .lconst 1), (57, .land), (58, .l2i), (59, .goto 9), (62, .aload_n 0), (63, .getfield 22), (66, .iload_n 1), (67, .iaload), (68, .ireturn)]
def za_i208 : List (Nat × Instr) := [(0, .aload_n 0), (1, .iload_n 1), (2, .iconst 0), (3, .iload_n 2), (4, .invokestatic 201), (7, .iconst 1), (8, .invokevirtual 325), (11, .ireturn)]
def za_i209 : List (Nat × Instr) := [(0, .aload_n 0), (1, .iconst 0), (2, .putfield 124), (5, .aload_n 0), (6, .iload_n 1), (7, .invokevirtual 369), (10, .ifCond .eq 25), (13, .aload_n 0), (14, .iload_n 2), (15, .iconst 3), (16, .invokevirtual 366), (19, .ifCond .eq 16), (22, .aload_n 0), (23, .getfield 26), (26, .iconst 4), (27, .iload_n 1), (28, .imul), (29, .iload_n 2), (30, .iadd), (31, .iaload), (32, .goto 4), (35, .iconst 0), (36, .ireturn)]
def za_i210 : List (Nat × Instr) := [(0, .aload_n 0), (1, .iload_n 1), (2, .ifCond .lt 15), (5, .iload_n 1), (6, .aload_n 0), (7, .getfield 338), (10, .if_icmp .ge 7), (13, .iconst 1), (14, .goto 4), (17, .iconst 0), (18, .iconst 1), (19, .invokevirtual 325), (22, .ireturn)]
def za_i211 : List (Nat × Instr) := [(0, .aload_n 0), (1, .iconst 0), (2, .putfield 124), (5, .aload_n 0), (6, .iload_n 1), (7, .invokevirtual 369), (10, .ifCond .eq 56), (13, .aload_n 0), (14, .iload_n 2), (15, .ifCond .lt 16), (18, .iload_n 2), (19, .aload_n 0), (20, .iload_n 1), (21, .invokevirtual 372), (24, .if_icmp .ge 7), (27, .iconst 1), (28, .goto 4), (31, .iconst 0), (32, .iconst 1), (33, .invokevirtual 325), (36, .ifCond .eq 30), (39, .aload_n 0), (40, .iload_n 3), (41, .iconst 1), (42, .invokevirtual 366), (45, .ifCond .eq 21), (48, .aload_n 0), (49, .getfield 29), (52, .bipush 16), (54, .iload_n 1), (55, .imul), (56, .iconst 2), (57, .iload_n 2), (58, .imul), (59, .iadd), (60, .iload_n 3), (61, .iadd), (62, .iaload), (63, .goto 4), (66, .iconst 0), (67, .ireturn)]
def za_i212 : List (Nat × Instr) := [(0, .aload_n 0), (1, .getfield 26), (4, .iconst 4), (5, .iload_n 1), (6, .imul), (7, .iconst 2), (8, .iadd), (9, .iaload), (10, .ireturn)]
def za_i213 : List (Nat × Instr) := [(0, .aload_n 0), (1, .iconst 0), (2, .putfield 124), (5, .aload_n 0), (6, .iload_n 1), (7, .invokevirtual 369), (10, .ifCond .ne 5), (13, .iconst 0), (14, .ireturn), (15, .aload_n 0), (16, .iload_n 1), (17, .invokevirtual 372), (20, .istore 4), (22, .iload 4), (24, .bipush 8), (26, .if_icmp .eq 22), (29, .iload_n 2), (30, .iconst 0), (31, .iconst 3), (32, .invokestatic 201), (35, .ifCond .eq 13), (38, .iload_n 3), (39, .iconst 1), (40, .bipush 9), (42, .invokestatic 201), (45, .ifCond .ne 8), (48, .aload_n 0), (49, .invokevirtual 375), (52, .ireturn), (53, .aload_n 0), (54, .getfield 29), (57, .bipush 16), (59, .iload_n 1), (60, .imul), (61, .iconst 2), (62, .iload 4), (64, .imul), (65, .iadd), (66, .iload_n 2), (67, .iastore), (68, .aload_n 0), (69, .getfield 29), (72, .bipush 16), (74, .iload_n 1), (75, .imul), (76, .iconst 2), (77, .iload 4), (79, .imul), (80, .iadd), (81, .iconst 1), (82, .iadd), (83, .iload_n 3), (84, .iastore), (85, .aload_n 0), (86, .getfield 26), (89, .iconst 4), (90, .iload_n 1), (91, .imul), (92, .iconst 2), (93, .iadd), (94, .iload 4), (96, .iconst 1), (97, .iadd), (98, .iastore), (99, .aload_n 0), (100, .iload_n 1), (101, .iconst (-1)), (102, .invokevirtual 378), (105, .iload 4), (107, .iconst 1), (108, .iadd), (109, .ireturn)]
def za_i214 : List (Nat × Instr) := [(0, .aload_n 0), (1, .getfield 53), (4, .iconst 1), (5, .dup2), (6, .iaload), (7, .iconst 1), (8, .iadd), (9, .iastore), (10, .iconst (-1)), (11, .ireturn)]
def za_i215 : List (Nat × Instr) := [(0, .aload_n 0), (1, .getfield 360), (4, .bipush 30), (6, .if_icmp .ne 41), (9, .iconst 2), (10, .istore_n 3), (11, .iload_n 3), (12, .bipush 60), (14, .if_icmp .ge 23), (17, .aload_n 0), (18, .getfield 87), (21, .iload_n 3), (22, .iconst 2), (23, .isub), (24, .aload_n 0), (25, .getfield 87), (28, .iload_n 3), (29, .iaload), (30, .iastore), (31, .iinc 3 1), (34, .goto (-23)), (37, .aload_n 0), (38, .dup), (39, .getfield 360), (42, .iconst 1), (43, .isub), (44, .putfield 360), (47, .aload_n 0), (48, .getfield 87), (51, .iconst 2), (52, .aload_n 0), (53, .getfield 360), (56, .imul), (57, .iload_n 1), (58, .iastore), (59, .aload_n 0), (60, .getfield 87), (63, .iconst 2), (64, .aload_n 0), (65, .getfield 360), (68, .imul), (69, .iconst 1), (70, .iadd), (71, .iload_n 2), (72, .iastore), (73, .aload_n 0), (74, .dup), (75, .getfield 360), (78, .iconst 1), (79, .iadd), (80, .putfield 360), (83, .return_)]
def za_i216 : List (Nat × Instr) := [(0, .aload_n 0), (1, .iconst 0), (2, .putfield 124), (5, .aload_n 0), (6, .iload_n 1), (7, .invokevirtual 369), (10, .ifCond .ne 5), (13, .iconst 0), (14, .ireturn), (15, .iload_n 3), (16, .iconst 0), (17, .bipush 100), (19, .invokestatic 201), (22, .ifCond .ne 8), (25, .aload_n 0), (26, .invokevirtual 375), (29, .ireturn), (30, .aload_n 0), (31, .iload_n 1), (32, .aload_n 0), (33, .getfield 26), (36, .iconst 4), (37, .iload_n 1), (38, .imul), (39, .iconst 3), (40, .iadd), (41, .iaload), (42, .invokevirtual 378), (45, .iload_n 2), (46, .istore 4), (48, .iconst 0), (49, .istore 5), (51, .iload 5), (53, .aload_n 0), (54, .iload_n 1), (55, .invokevirtual 372), (58, .if_icmp .ge 54), (61, .iload 4), (63, .ldc_w 382), (66, .imul), (67, .sipush 12345), (70, .iadd), (71, .istore 4), (73, .iload 4), (75, .bipush 16), (77, .ishr), (78, .sipush 32767), (81, .iand), (82, .bipush 100), (84, .irem), (85, .iload_n 3), (86, .if_icmp .ge 20), (89, .aload_n 0), (90, .getfield 26), (93, .iconst 4), (94, .iload_n 1), (95, .imul), (96, .iconst 3), (97, .iadd), (98, .dup2), (99, .iaload), (100, .iconst 1), (101, .iload 5), (103, .ishl), (104, .ior), (105, .iastore), (106, .iinc 5 1), (109, .goto (-58)), (112, .aload_n 0), (113, .getfield 26), (116, .iconst 4), (117, .iload_n 1), (118, .imul), (119, .iconst 3), (120, .iadd), (121, .iaload), (122, .invokestatic 383), (125, .ireturn)]
def za_i217 : List (Nat × Instr) := [(0, .iconst 0), (1, .istore_n 1), (2, .iconst 0), (3, .istore_n 2), (4, .iload_n 2), (5, .bipush 8), (7, .if_icmp .ge 17), (10, .iload_n 1), (11, .iload_n 0), (12, .iload_n 2), (13, .ishr), (14, .iconst 1), (15, .iand), (16, .iadd), (17, .istore_n 1), (18, .iinc 2 1), (21, .goto (-17)), (24, .iload_n 1), (25, .ireturn)]
def za_i218 : List (Nat × Instr) := [(0, .aload_n 0), (1, .iconst 0), (2, .putfield 124), (5, .aload_n 0), (6, .getfield 360), (9, .ifCond .ne 5), (12, .iconst (-1)), (13, .ireturn), (14, .aload_n 0), (15, .dup), (16, .getfield 360), (19, .iconst 1), (20, .isub), (21, .putfield 360), (24, .aload_n 0), (25, .getfield 87), (28, .iconst 2), (29, .aload_n 0), (30, .getfield 360), (33, .imul), (34, .iaload), (35, .istore_n 1), (36, .aload_n 0), (37, .getfield 87), (40, .iconst 2), (41, .aload_n 0), (42, .getfield 360), (45, .imul), (46, .iconst 1), (47, .iadd), (48, .iaload), (49, .iconst (-1)), (50, .if_icmp .ne 20), (53, .aload_n 0), (54, .getfield 26), (57, .iconst 4), (58, .iload_n 1), (59, .imul), (60, .iconst 2), (61, .iadd), (62, .dup2), (63, .iaload), (64, .iconst 1), (65, .isub), (66, .iastore), (67, .goto 26), (70, .aload_n 0), (71, .getfield 26), (74, .iconst 4), (75, .iload_n 1), (76, .imul), (77, .iconst 3), (78, .iadd), (79, .aload_n 0), (80, .getfield 87), (83, .iconst 2), (84, .aload_n 0), (85, .getfield 360), (88, .imul), (89, .iconst 1), (90, .iadd), (91, .iaload), (92, .iastore), (93, .aload_n 0), (94, .getfield 360), (97, .ireturn)]
def za_i219 : List (Nat × Instr) := [(0, .aload_n 0), (1, .iconst 0), (2, .putfield 124), (5, .aload_n 0), (6, .iload_n 1), (7, .invokevirtual 369), (10, .ifCond .eq 12), (13, .aload_n 0), (14, .iload_n 2), (15, .iconst 4), (16, .invokevirtual 366), (19, .ifCond .ne 5), (22, .iconst 0), (23, .ireturn), (24, .aload_n 0), (25, .iload_n 1), (26, .invokevirtual 420), (29, .iload_n 2), (30, .ifCond .ne 10), (33, .aload_n 0), (34, .getfield 401), (37, .goto 43), (40, .iload_n 2), (41, .iconst 1), (42, .if_icmp .ne 10), (45, .aload_n 0), (46, .getfield 386), (49, .goto 31), (52, .iload_n 2), (53, .iconst 2), (54, .if_icmp .ne 10), (57, .aload_n 0), (58, .getfield 404), (61, .goto 19), (64, .iload_n 2), (65, .iconst 3), (66, .if_icmp .ne 10), (69, .aload_n 0), (70, .getfield 413), (73, .goto 7), (76, .aload_n 0), (77, .getfield 398), (80, .ireturn)]
def za_i220 : List (Nat × Instr) := [(0, .aload_n 0), (1, .aload_n 0), (2, .getfield 26), (5, .iconst 4), (6, .iload_n 1), (7, .imul), (8, .iaload), (9, .putfield 386), (12, .aload_n 0), (13, .aload_n 0), (14, .getfield 26), (17, .iconst 4), (18, .iload_n 1), (19, .imul), (20, .iconst 1), (21, .iadd), (22, .iaload), (23, .putfield 398), (26, .aload_n 0), (27, .lconst 1), (28, .aload_n 0), (29, .getfield 386), (32, .lshl), (33, .putfield 395), (36, .aload_n 0), (37, .iconst 0), (38, .putfield 401), (41, .aload_n 0), (42, .iconst 0), (43, .putfield 404), (46, .aload_n 0), (47, .getfield 404), (50, .aload_n 0), (51, .iload_n 1), (52, .invokevirtual 372), (55, .if_icmp .ge 122), (58, .aload_n 0), (59, .aload_n 0), (60, .getfield 386), (63, .putfield 407), (66, .aload_n 0), (67, .aload_n 0), (68, .getfield 398), (71, .putfield 410), (74, .aload_n 0), (75, .iconst 0), (76, .putfield 413), (79, .aload_n 0), (80, .getfield 413), (83, .aload_n 0), (84, .getfield 29), (87, .bipush 16), (89, .iload_n 1), (90, .imul), (91, .iconst 2), (92, .aload_n 0), (93, .getfield 404), (96, .imul), (97, .iadd), (98, .iconst 1), (99, .iadd), (100, .iaload), (101, .if_icmp .ge 63), (104, .aload_n 0), (105, .aload_n 0), (106, .aload_n 0), (107, .getfield 29), (110, .bipush 16), (112, .iload_n 1), (113, .imul), (114, .iconst 2), (115, .aload_n 0), (116, .getfield 404), (119, .imul), (120, .iadd), (121, .iaload), (122, .aload_n 0), (123, .getfield 398), (126, .iconst 1), (127, .invokevirtual 416), (130, .putfield 401), (133, .aload_n 0), (134, .getfield 401), (137, .ifCond .eq 4), (140, .return_), (141, .aload_n 0), (142, .dup), (143, .getfield 398), (146, .iconst 1), (147, .iadd), (148, .putfield 398), (151, .aload_n 0), (152, .dup), (153, .getfield 413), (156, .iconst 1), (157, .iadd), (158, .putfield 413), (161, .goto (-82)), (164, .aload_n 0), (165, .dup), (166, .getfield 404), (169, .iconst 1), (170, .iadd), (171, .putfield 404), (174, .goto (-128)), (177, .aload_n 0), (178, .iconst 0), (179, .putfield 413), (182, .return_)]
def za_i221 : List (Nat × Instr) := [(0, .iload_n 1), (1, .iconst (-1)), (2, .if_icmp .eq 52), (5, .aload_n 0), (6, .aload_n 0), (7, .getfield 386), (10, .iload_n 1), (11, .invokevirtual 389), (14, .istore 4), (16, .iload 4), (18, .iconst (-1)), (19, .if_icmp .ne 5), (22, .iconst 3), (23, .ireturn), (24, .aload_n 0), (25, .iload 4), (27, .putfield 386), (30, .aload_n 0), (31, .iload 4), (33, .invokevirtual 392), (36, .ifCond .eq 5), (39, .iconst 1), (40, .ireturn), (41, .aload_n 0), (42, .dup), (43, .getfield 395), (46, .lconst 1), (47, .iload 4), (49, .lshl), (50, .lor), (51, .putfield 395), (54, .iload_n 3), (55, .ifCond .eq 42), (58, .iload_n 2), (59, .iconst 2), (60, .irem), (61, .ifCond .ne 36), (64, .aload_n 0), (65, .getfield 22), (68, .aload_n 0), (69, .getfield 386), (72, .iaload), (73, .iconst (-1)), (74, .if_icmp .eq 23), (77, .aload_n 0), (78, .aload_n 0), (79, .getfield 386), (82, .aload_n 0), (83, .getfield 22), (86, .aload_n 0), (87, .getfield 386), (90, .iaload), (91, .invokevirtual 389), (94, .goto 4), (97, .iconst (-1)), (98, .istore 4), (100, .iload 4), (102, .iconst (-1)), (103, .if_icmp .ne 5), (106, .iconst 0), (107, .ireturn), (108, .aload_n 0), (109, .iload 4), (111, .putfield 386), (114, .aload_n 0), (115, .iload 4), (117, .invokevirtual 392), (120, .ifCond .eq 5), (123, .iconst 2), (124, .ireturn), (125, .aload_n 0), (126, .dup), (127, .getfield 395), (130, .lconst 1), (131, .iload 4), (133, .lshl), (134, .lor), (135, .putfield 395), (138, .iconst 0), (139, .ireturn)]
def za_i222 : List (Nat × Instr) := [(0, .iload_n 1), (1, .aload_n 0), (2, .getfield 7), (5, .irem), (6, .iload_n 2), (7, .iconst 1), (8, .if_icmp .ne 7), (11, .iconst 1), (12, .goto 13), (15, .iload_n 2), (16, .iconst 3), (17, .if_icmp .ne 7), (20, .iconst (-1)), (21, .goto 4), (24, .iconst 0), (25, .iadd), (26, .istore_n 3), (27, .iload_n 1), (28, .aload_n 0), (29, .getfield 7), (32, .idiv), (33, .iload_n 2), (34, .iconst 2), (35, .if_icmp .ne 7), (38, .iconst 1), (39, .goto 12), (42, .iload_n 2), (43, .ifCond .ne 7), (46, .iconst (-1)), (47, .goto 4), (50, .iconst 0), (51, .iadd), (52, .istore 4), (54, .iload_n 3), (55, .ifCond .lt 25), (58, .iload 4), (60, .ifCond .lt 20), (63, .iload_n 3), (64, .aload_n 0), (65, .getfield 7), (68, .if_icmp .ge 12), (71, .iload 4), (73, .aload_n 0), (74, .getfield 13), (77, .if_icmp .lt 7), (80, .iconst (-1)), (81, .goto 12), (84, .aload_n 0), (85, .getfield 7), (88, .iload 4), (90, .imul), (91, .iload_n 3), (92, .iadd), (93, .ireturn)]
def za_i223 : List (Nat × Instr) := [(0, .aload_n 0), (1, .getfield 353), (4, .iload_n 1), (5, .lshr), (6, .lconst 1), (7, .land), (8, .lconst 1), (9, .lcmp), (10, .ifCond .ne 7), (13, .iconst 1), (14, .goto 4), (17, .iconst 0), (18, .ireturn)]
def za_i224 : List (Nat × Instr) := [(0, .aload_n 0), (1, .iconst 0), (2, .putfield 124), (5, .aload_n 0), (6, .iload_n 1), (7, .invokevirtual 369), (10, .ifCond .ne 5), (13, .iconst 0), (14, .ireturn), (15, .aload_n 0), (16, .iload_n 1), (17, .invokevirtual 420), (20, .aload_n 0), (21, .getfield 401), (24, .iconst 2), (25, .if_icmp .eq 5), (28, .iconst 0), (29, .ireturn), (30, .aload_n 0), (31, .getfield 404), (34, .istore_n 2), (35, .aload_n 0), (36, .aload_n 0), (37, .getfield 407), (40, .putfield 386), (43, .iconst 0), (44, .istore_n 3), (45, .iload_n 3), (46, .aload_n 0), (47, .getfield 29), (50, .bipush 16), (52, .iload_n 1), (53, .imul), (54, .iconst 2), (55, .iload_n 2), (56, .imul), (57, .iadd), (58, .iconst 1), (59, .iadd), (60, .iaload), (61, .if_icmp .ge 38), (64, .aload_n 0), (65, .aload_n 0), (66, .getfield 29), (69, .bipush 16), (71, .iload_n 1), (72, .imul), (73, .iconst 2), (74, .iload_n 2), (75, .imul), (76, .iadd), (77, .iaload), (78, .aload_n 0), (79, .getfield 410), (82, .iload_n 3), (83, .iadd), (84, .iconst 0), (85, .invokevirtual 416), (88, .ifCond .eq 5), (91, .iconst 0), (92, .ireturn), (93, .iinc 3 1), (96, .goto (-51)), (99, .iconst 1), (100, .ireturn)]
def za_i225 : List (Nat × Instr) := [(0, .aload_n 0), (1, .iconst 0), (2, .putfield 124), (5, .aload_n 0), (6, .iload_n 1), (7, .invokevirtual 369), (10, .ifCond .eq 29), (13, .aload_n 0), (14, .iload_n 2), (15, .ifCond .lt 16), (18, .iload_n 2), (19, .aload_n 0), (20, .iload_n 1), (21, .invokevirtual 372), (24, .if_icmp .gt 7), (27, .iconst 1), (28, .goto 4), (31, .iconst 0), (32, .iconst 1), (33, .invokevirtual 325), (36, .ifCond .ne 5), (39, .lconst 0), (40, .lreturn), (41, .iconst 0), (42, .istore_n 3), (43, .iload_n 3), (44, .bipush 72), (46, .if_icmp .gt 16), (49, .aload_n 0), (50, .getfield 90), (53, .iload_n 3), (54, .lconst 0), (55, .lastore), (56, .iinc 3 1), (59, .goto (-16)), (62, .aload_n 0), (63, .getfield 90), (66, .iconst 0), (67, .lconst 1), (68, .aload_n 0), (69, .getfield 26), (72, .iconst 4), (73, .iload_n 1), (74, .imul), (75, .iaload), (76, .lshl), (77, .lastore), (78, .iconst 0), (79, .istore_n 3), (80, .iload_n 3), (81, .iload_n 2), (82, .if_icmp .ge 249), (85, .aload_n 0), (86, .getfield 26), (89, .iconst 4), (90, .iload_n 1), (91, .imul), (92, .iconst 3), (93, .iadd), (94, .iaload), (95, .iload_n 3), (96, .ishr), (97, .iconst 1), (98, .iand), (99, .iconst 1), (100, .if_icmp .ne 7), (103, .iconst 1), (104, .goto 4), (107, .iconst 0), (108, .istore 4), (110, .iconst 0), (111, .istore 5), (113, .iload 5), (115, .bipush 72), (117, .if_icmp .gt 17), (120, .aload_n 0), (121, .getfield 94), (124, .iload 5), (126, .lconst 0), (127, .lastore), (128, .iinc 5 1), (131, .goto (-18)), (134, .iconst 0), (135, .istore 5), (137, .iload 5), (139, .iconst 4), (140, .if_icmp .ge 155), (143, .iload 4), (145, .ifCond .ne 24), (148, .iload 5), (150, .aload_n 0), (151, .getfield 29), (154, .bipush 16), (156, .iload_n 1), (157, .imul), (158, .iconst 2), (159, .iload_n 3), (160, .imul), (161, .iadd), (162, .iaload), (163, .if_icmp .eq 6), (166, .goto 123), (169, .iconst 0), (170, .istore 6), (172, .iload 6), (174, .bipush 72), (176, .if_icmp .gt 23), (179, .aload_n 0), (180, .getfield 97), (183, .iload 6), (185, .aload_n 0), (186, .getfield 90), (189, .iload 6), (191, .laload), (192, .lastore), (193, .iinc 6 1), (196, .goto (-24)), (199, .iconst 1), (200, .istore 6), (202, .iload 6), (204, .bipush 9), (206, .if_icmp .gt 83), (209, .aload_n 0), (210, .iload 5), (212, .aload_n 0), (213, .getfield 26), (216, .iconst 4), (217, .iload_n 1), (218, .imul), (219, .iconst 1), (220, .iadd), (221, .iaload), (222, .invokevirtual 423), (225, .iconst 0), (226, .istore 7), (228, .iload 7), (230, .bipush 72), (232, .if_icmp .gt 51), (235, .iload 4), (237, .ifCond .ne 23), (240, .iload 6), (242, .aload_n 0), (243, .getfield 29), (246, .bipush 16), (248, .iload_n 1), (249, .imul), (250, .iconst 2), (251, .iload_n 3), (252, .imul), (253, .iadd), (254, .iconst 1), (255, .iadd), (256, .iaload), (257, .if_icmp .ne 26), (260, .aload_n 0), (261, .getfield 94), (264, .iload 7), (266, .dup2), (267, .laload), (268, .aload_n 0), (269, .getfield 97), (272, .iload 7), (274, .laload), (275, .lor), (276, .lastore), (277, .iinc 7 1), (280, .goto (-52)), (283, .iinc 6 1), (286, .goto (-84)), (289, .iinc 5 1), (292, .goto (-155)), (295, .iconst 0), (296, .istore 5), (298, .iload 5), (300, .bipush 72), (302, .if_icmp .gt 23), (305, .aload_n 0), (306, .getfield 90), (309, .iload 5), (311, .aload_n 0), (312, .getfield 94), (315, .iload 5), (317, .laload), (318, .lastore), (319, .iinc 5 1), (322, .goto (-24)), (325, .iinc 3 1), (328, .goto (-248)), (331, .lconst 0), (332, .lstore_n 3), (333, .iconst 0), (334, .istore 5), (336, .iload 5), (338, .bipush 72), (340, .if_icmp .gt 19), (343, .lload_n 3), (344, .aload_n 0), (345, .getfield 90), (348, .iload 5), (350, .laload), (351, .lor), (352, .lstore_n 3), (353, .iinc 5 1), (356, .goto (-20)), (359, .lload_n 3), (360, .lreturn)]
def za_i226 : List (Nat × Instr) := [(0, .bipush 72), (2, .istore_n 3), (3, .iload_n 3), (4, .ifCond .le 95), (7, .lconst 0), (8, .lstore 4), (10, .iconst 0), (11, .istore 6), (13, .iload 6), (15, .aload_n 0), (16, .getfield 7), (19, .aload_n 0), (20, .getfield 13), (23, .imul), (24, .if_icmp .ge 61), (27, .aload_n 0), (28, .getfield 97), (31, .iload_n 3), (32, .iconst 1), (33, .isub), (34, .laload), (35, .iload 6), (37, .lshr), (38, .lconst 1), (39, .land), (40, .lconst 0), (41, .lcmp), (42, .ifCond .ne 6), (45, .goto 34), (48, .aload_n 0), (49, .iload 6), (51, .putfield 386), (54, .aload_n 0), (55, .iload_n 1), (56, .iload_n 2), (57, .iload_n 3), (58, .iadd), (59, .iconst 1), (60, .isub), (61, .iconst 1), (62, .invokevirtual 416), (65, .ifCond .ne 14), (68, .lload 4), (70, .lconst 1), (71, .aload_n 0), (72, .getfield 386), (75, .lshl), (76, .lor), (77, .lstore 4), (79, .iinc 6 1), (82, .goto (-69)), (85, .aload_n 0), (86, .getfield 97), (89, .iload_n 3), (90, .lload 4), (92, .lastore), (93, .iinc 3 (-1)), (96, .goto (-93)), (99, .aload_n 0), (100, .getfield 97), (103, .iconst 0), (104, .lconst 0), (105, .lastore), (106, .return_)]
def za_i227 : List (Nat × Instr) := [(0, .aload_n 0), (1, .iconst 0), (2, .putfield 124), (5, .aload_n 0), (6, .iload_n 1), (7, .invokevirtual 426), (10, .ifCond .eq 25), (13, .aload_n 0), (14, .iload_n 2), (15, .iconst 2), (16, .invokevirtual 366), (19, .ifCond .eq 16), (22, .aload_n 0), (23, .getfield 35), (26, .iconst 3), (27, .iload_n 1), (28, .imul), (29, .iload_n 2), (30, .iadd), (31, .iaload), (32, .goto 4), (35, .iconst 0), (36, .ireturn)]
def za_i228 : List (Nat × Instr) := [(0, .aload_n 0), (1, .iload_n 1), (2, .ifCond .lt 15), (5, .iload_n 1), (6, .aload_n 0), (7, .getfield 344), (10, .if_icmp .ge 7), (13, .iconst 1), (14, .goto 4), (17, .iconst 0), (18, .iconst 1), (19, .invokevirtual 325), (22, .ireturn)]
def za_i229 : List (Nat × Instr) := [(0, .aload_n 0), (1, .iconst 0), (2, .putfield 124), (5, .aload_n 0), (6, .iload_n 1), (7, .invokevirtual 426), (10, .ifCond .eq 39), (13, .aload_n 0), (14, .iload_n 3), (15, .iconst 2), (16, .invokevirtual 366), (19, .ifCond .eq 30), (22, .aload_n 0), (23, .iload_n 2), (24, .ifCond .lt 17), (27, .iload_n 2), (28, .iconst 1), (29, .aload_n 0), (30, .getfield 338), (33, .ishl), (34, .if_icmp .ge 7), (37, .iconst 1), (38, .goto 4), (41, .iconst 0), (42, .iconst 2), (43, .invokevirtual 325), (46, .ifCond .ne 5), (49, .iconst 0), (50, .ireturn), (51, .aload_n 0), (52, .iload_n 1), (53, .iload_n 2), (54, .invokevirtual 447), (57, .iload_n 3), (58, .ifCond .ne 10), (61, .aload_n 0), (62, .getfield 401), (65, .goto 19), (68, .iload_n 3), (69, .iconst 1), (70, .if_icmp .ne 10), (73, .aload_n 0), (74, .getfield 386), (77, .goto 7), (80, .aload_n 0), (81, .getfield 398), (84, .ireturn)]
def za_i230 : List (Nat × Instr) := [(0, .aload_n 0), (1, .iload_n 2), (2, .invokevirtual 440), (5, .lstore_n 3), (6, .aload_n 0), (7, .aload_n 0), (8, .getfield 35), (11, .iconst 3), (12, .iload_n 1), (13, .imul), (14, .iaload), (15, .putfield 386), (18, .aload_n 0), (19, .aload_n 0), (20, .getfield 35), (23, .iconst 3), (24, .iload_n 1), (25, .imul), (26, .iconst 1), (27, .iadd), (28, .iaload), (29, .putfield 398), (32, .aload_n 0), (33, .aload_n 0), (34, .getfield 386), (37, .aload_n 0), (38, .getfield 7), (41, .irem), (42, .aload_n 0), (43, .getfield 19), (46, .if_icmp .lt 7), (49, .iconst 4), (50, .goto 4), (53, .iconst 0), (54, .putfield 401), (57, .iconst 0), (58, .istore 5), (60, .iload 5), (62, .bipush 60), (64, .if_icmp .ge 81), (67, .aload_n 0), (68, .getfield 401), (71, .ifCond .ne 74), (74, .aload_n 0), (75, .aload_n 0), (76, .aload_n 0), (77, .aload_n 0), (78, .getfield 386), (81, .aload_n 0), (82, .getfield 398), (85, .lload_n 3), (86, .invokevirtual 443), (89, .aload_n 0), (90, .getfield 398), (93, .iconst 1), (94, .invokevirtual 416), (97, .putfield 401), (100, .aload_n 0), (101, .getfield 401), (104, .ifCond .eq 4), (107, .return_), (108, .aload_n 0), (109, .dup), (110, .getfield 398), (113, .iconst 1), (114, .iadd), (115, .putfield 398), (118, .aload_n 0), (119, .getfield 386), (122, .aload_n 0), (123, .getfield 7), (126, .irem), (127, .aload_n 0), (128, .getfield 19), (131, .if_icmp .lt 8), (134, .aload_n 0), (135, .iconst 4), (136, .putfield 401), (139, .iinc 5 1), (142, .goto (-82)), (145, .return_)]
def za_i231 : List (Nat × Instr) := [(0, .lconst 0), (1, .lstore_n 2), (2, .iconst 0), (3, .istore 4), (5, .iload 4), (7, .aload_n 0), (8, .getfield 338), (11, .if_icmp .ge 52), (14, .iload_n 1), (15, .iload 4), (17, .ishr), (18, .iconst 1), (19, .iand), (20, .ifCond .ne 6), (23, .goto 34), (26, .aload_n 0), (27, .iload 4), (29, .invokevirtual 420), (32, .aload_n 0), (33, .getfield 401), (36, .iconst 1), (37, .if_icmp .eq 11), (40, .aload_n 0), (41, .getfield 401), (44, .iconst 2), (45, .if_icmp .ne 12), (48, .lload_n 2), (49, .lconst 1), (50, .aload_n 0), (51, .getfield 386), (54, .lshl), (55, .lor), (56, .lstore_n 2), (57, .iinc 4 1), (60, .goto (-55)), (63, .lload_n 2), (64, .lreturn)]
def za_i232 : List (Nat × Instr) := [(0, .iconst 0), (1, .istore 5), (3, .iload 5), (5, .aload_n 0), (6, .getfield 347), (9, .if_icmp .ge 34), (12, .aload_n 0), (13, .aload_n 0), (14, .getfield 38), (17, .iload 5), (19, .iaload), (20, .iload_n 1), (21, .iload_n 2), (22, .lload_n 3), (23, .invokevirtual 437), (26, .ifCond .eq 11), (29, .aload_n 0), (30, .getfield 41), (33, .iload 5), (35, .iaload), (36, .ireturn), (37, .iinc 5 1), (40, .goto (-37)), (43, .iconst (-1)), (44, .ireturn)]
def za_i233 : List (Nat × Instr) := [(0, .iconst 0), (1, .istore 6), (3, .iload_n 1), (4, .istore 7), (6, .aload_n 0), (7, .getfield 44), (10, .iload 7), (12, .iaload), (13, .ifCond .eq 145), (16, .aload_n 0), (17, .getfield 44), (20, .iload 7), (22, .iaload), (23, .istore 8), (25, .iinc 7 1), (28, .iload 8), (30, .iconst 1), (31, .if_icmp .eq 9), (34, .iload 8), (36, .iconst 2), (37, .if_icmp .ne 50), (40, .aload_n 0), (41, .getfield 100), (44, .iload 6), (46, .iload 8), (48, .iconst 1), (49, .if_icmp .ne 13), (52, .aload_n 0), (53, .getfield 44), (56, .iload 7), (58, .iaload), (59, .goto 18), (62, .aload_n 0), (63, .aload_n 0), (64, .getfield 44), (67, .iload 7), (69, .iaload), (70, .iload_n 2), (71, .iload_n 3), (72, .lload 4), (74, .invokevirtual 429), (77, .iastore), (78, .iinc 7 1), (81, .iinc 6 1), (84, .goto 71), (87, .iload 8), (89, .iconst 3), (90, .if_icmp .ne 32), (93, .aload_n 0), (94, .getfield 100), (97, .iload 6), (99, .iconst 1), (100, .isub), (101, .aload_n 0), (102, .getfield 100), (105, .iload 6), (107, .iconst 1), (108, .isub), (109, .iaload), (110, .ifCond .ne 7), (113, .iconst 1), (114, .goto 4), (117, .iconst 0), (118, .iastore), (119, .goto 36), (122, .iinc 6 (-1)), (125, .aload_n 0), (126, .getfield 100), (129, .iload 6), (131, .iconst 1), (132, .isub), (133, .iload 8), (135, .aload_n 0), (136, .getfield 100), (139, .iload 6), (141, .iconst 1), (142, .isub), (143, .iaload), (144, .aload_n 0), (145, .getfield 100), (148, .iload 6), (150, .iaload), (151, .invokestatic 433), (154, .iastore), (155, .goto (-149)), (158, .aload_n 0), (159, .getfield 100), (162, .iconst 0), (163, .iaload), (164, .ireturn)]
def za_i234 : List (Nat × Instr) := [(0, .iload_n 1), (1, .tableswitch 84 4 7 #[31, 38, 45, 47]), (32, .iload_n 2), (33, .aload_n 0), (34, .getfield 7), (37, .irem), (38, .ireturn), (39, .iload_n 2), (40, .aload_n 0), (41, .getfield 7), (44, .idiv), (45, .ireturn), (46, .iload_n 3), (47, .ireturn), (48, .iload_n 3), (49, .iconst 2), (50, .irem), (51, .ifCond .ne 32), (54, .aload_n 0), (55, .getfield 22), (58, .iload_n 2), (59, .iaload), (60, .iconst (-1)), (61, .if_icmp .eq 22), (64, .aload_n 0), (65, .iload_n 2), (66, .aload_n 0), (67, .getfield 22), (70, .iload_n 2), (71, .iaload), (72, .invokevirtual 389), (75, .iconst (-1)), (76, .if_icmp .eq 7), (79, .iconst 1), (80, .goto 4), (83, .iconst 0), (84, .ireturn), (85, .aload_n 0), (86, .iload_n 2), (87, .iload_n 1), (88, .invokevirtual 389), (91, .istore 6), (93, .iload 6), (95, .iconst (-1)), (96, .if_icmp .eq 15), (99, .lload 4), (101, .iload 6), (103, .lshr), (104, .lconst 1), (105, .land), (106, .lconst 1), (107, .lcmp), (108, .ifCond .ne 7), (111, .iconst 1), (112, .goto 4), (115, .iconst 0), (116, .ireturn)]
def za_i235 : List (Nat × Instr) := [(0, .iload_n 0), (1, .tableswitch 105 4 10 #[43, 57, 71, 82, 93, 97, 101]), (44, .iload_n 1), (45, .ifCond .eq 11), (48, .iload_n 2), (49, .ifCond .eq 7), (52, .iconst 1), (53, .goto 4), (56, .iconst 0), (57, .ireturn), (58, .iload_n 1), (59, .ifCond .ne 7), (62, .iload_n 2), (63, .ifCond .eq 7), (66, .iconst 1), (67, .goto 4), (70, .iconst 0), (71, .ireturn), (72, .iload_n 1), (73, .iload_n 2), (74, .if_icmp .ge 7), (77, .iconst 1), (78, .goto 4), (81, .iconst 0), (82, .ireturn), (83, .iload_n 1), (84, .iload_n 2), (85, .if_icmp .ne 7), (88, .iconst 1), (89, .goto 4), (92, .iconst 0), (93, .ireturn), (94, .iload_n 1), (95, .iload_n 2), (96, .iadd), (97, .ireturn), (98, .iload_n 1), (99, .iload_n 2), (100, .isub), (101, .ireturn), (102, .iload_n 1), (103, .iload_n 2), (104, .imul), (105, .ireturn), (106, .iload_n 2), (107, .ifCond .ne 7), (110, .iconst 0), (111, .goto 6), (114, .iload_n 1), (115, .iload_n 2), (116, .idiv), (117, .ireturn)]
def za_i236 : List (Nat × Instr) := [(0, .aload_n 0), (1, .iconst 0), (2, .putfield 124), (5, .iconst 0), (6, .istore_n 1), (7, .iconst 0), (8, .istore_n 2), (9, .iload_n 2), (10, .aload_n 0), (11, .getfield 344), (14, .if_icmp .ge 42), (17, .aload_n 0), (18, .iload_n 2), (19, .aload_n 0), (20, .getfield 35), (23, .iconst 3), (24, .iload_n 2), (25, .imul), (26, .iconst 2), (27, .iadd), (28, .iaload), (29, .invokevirtual 447), (32, .iload_n 1), (33, .aload_n 0), (34, .getfield 401), (37, .iconst 4), (38, .if_icmp .ne 9), (41, .iconst 1), (42, .iload_n 2), (43, .ishl), (44, .goto 4), (47, .iconst 0), (48, .ior), (49, .istore_n 1), (50, .iinc 2 1), (53, .goto (-44)), (56, .iload_n 1), (57, .ireturn)]
def za_i237 : List (Nat × Instr) := [(0, .aload_n 0), (1, .iconst 0), (2, .putfield 124), (5, .aload_n 0), (6, .iload_n 1), (7, .invokevirtual 426), (10, .ifCond .ne 5), (13, .iconst 0), (14, .ireturn), (15, .iconst 0), (16, .istore_n 2), (17, .iload_n 2), (18, .aload_n 0), (19, .getfield 338), (22, .if_icmp .ge 24), (25, .aload_n 0), (26, .iload_n 2), (27, .invokevirtual 420), (30, .aload_n 0), (31, .getfield 106), (34, .iload_n 2), (35, .aload_n 0), (36, .getfield 386), (39, .iastore), (40, .iinc 2 1), (43, .goto (-26)), (46, .iconst 0), (47, .istore_n 2), (48, .iload_n 2), (49, .aload_n 0), (50, .getfield 338), (53, .if_icmp .gt 40), (56, .aload_n 0), (57, .iload_n 1), (58, .iload_n 2), (59, .invokevirtual 458), (62, .ifCond .ne 6), (65, .goto 22), (68, .aload_n 0), (69, .iload_n 2), (70, .putfield 112), (73, .aload_n 0), (74, .aload_n 0), (75, .getfield 103), (78, .aload_n 0), (79, .getfield 109), (82, .invokevirtual 356), (85, .iload_n 2), (86, .ireturn), (87, .iinc 2 1), (90, .goto (-42)), (93, .iconst (-1)), (94, .ireturn)]
def za_i238 : List (Nat × Instr) := [(0, .iconst 0), (1, .istore_n 3), (2, .aload_n 0), (3, .getfield 103), (6, .iconst 0), (7, .iconst (-1)), (8, .iastore), (9, .iload_n 3), (10, .ifCond .lt 144), (13, .iload_n 3), (14, .iload_n 2), (15, .if_icmp .ne 58), (18, .iconst 0), (19, .istore 4), (21, .iconst 0), (22, .istore 5), (24, .iload 5), (26, .iload_n 2), (27, .if_icmp .ge 23), (30, .iload 4), (32, .iconst 1), (33, .aload_n 0), (34, .getfield 103), (37, .iload 5), (39, .iaload), (40, .ishl), (41, .ior), (42, .istore 4), (44, .iinc 5 1), (47, .goto (-23)), (50, .aload_n 0), (51, .iload_n 1), (52, .iload 4), (54, .invokevirtual 447), (57, .aload_n 0), (58, .getfield 401), (61, .iconst 4), (62, .if_icmp .ne 5), (65, .iconst 1), (66, .ireturn), (67, .iinc 3 (-1)), (70, .goto (-61)), (73, .aload_n 0), (74, .getfield 103), (77, .iload_n 3), (78, .dup2), (79, .iaload), (80, .iconst 1), (81, .iadd), (82, .iastore), (83, .aload_n 0), (84, .getfield 103), (87, .iload_n 3), (88, .iaload), (89, .aload_n 0), (90, .getfield 338), (93, .if_icmp .ge 24), (96, .aload_n 0), (97, .iload_n 3), (98, .invokevirtual 455), (101, .ifCond .ne 16), (104, .aload_n 0), (105, .getfield 103), (108, .iload_n 3), (109, .dup2), (110, .iaload), (111, .iconst 1), (112, .iadd), (113, .iastore), (114, .goto (-31)), (117, .aload_n 0), (118, .getfield 103), (121, .iload_n 3), (122, .iaload), (123, .aload_n 0), (124, .getfield 338), (127, .if_icmp .lt 9), (130, .iinc 3 (-1)), (133, .goto (-124)), (136, .iinc 3 1), (139, .iload_n 3), (140, .iload_n 2), (141, .if_icmp .ge (-132)), (144, .aload_n 0), (145, .getfield 103), (148, .iload_n 3), (149, .iconst (-1)), (150, .iastore), (151, .goto (-142)), (154, .iconst 0), (155, .ireturn)]
def za_i239 : List (Nat × Instr) := [(0, .iconst 0), (1, .istore_n 2), (2, .iload_n 2), (3, .iload_n 1), (4, .if_icmp .ge 26), (7, .aload_n 0), (8, .getfield 103), (11, .iload_n 2), (12, .iaload), (13, .aload_n 0), (14, .getfield 103), (17, .iload_n 1), (18, .iaload), (19, .if_icmp .ne 5), (22, .iconst 0), (23, .ireturn), (24, .iinc 2 1), (27, .goto (-25)), (30, .aload_n 0), (31, .aload_n 0), (32, .getfield 26), (35, .iconst 4), (36, .aload_n 0), (37, .getfield 103), (40, .iload_n 1), (41, .iaload), (42, .imul), (43, .iaload), (44, .aload_n 0), (45, .getfield 350), (48, .aload_n 0), (49, .getfield 16), (52, .invokevirtual 452), (55, .istore_n 2), (56, .iconst 0), (57, .istore_n 3), (58, .iload_n 3), (59, .iload_n 1), (60, .if_icmp .ge 54), (63, .iload_n 2), (64, .ifCond .ne 38), (67, .aload_n 0), (68, .aload_n 0), (69, .getfield 26), (72, .iconst 4), (73, .aload_n 0), (74, .getfield 103), (77, .iload_n 1), (78, .iaload), (79, .imul), (80, .iaload), (81, .aload_n 0), (82, .getfield 106), (85, .aload_n 0), (86, .getfield 103), (89, .iload_n 3), (90, .iaload), (91, .iaload), (92, .aload_n 0), (93, .getfield 16), (96, .invokevirtual 452), (99, .ifCond .eq 7), (102, .iconst 1), (103, .goto 4), (106, .iconst 0), (107, .istore_n 2), (108, .iinc 3 1), (111, .goto (-53)), (114, .iload_n 2), (115, .ireturn)]
def za_i240 : List (Nat × Instr) := [(0, .iload_n 1), (1, .aload_n 0), (2, .getfield 7), (5, .irem), (6, .iload_n 2), (7, .aload_n 0), (8, .getfield 7), (11, .irem), (12, .invokestatic 449), (15, .iload_n 3), (16, .if_icmp .gt 26), (19, .iload_n 1), (20, .aload_n 0), (21, .getfield 7), (24, .idiv), (25, .iload_n 2), (26, .aload_n 0), (27, .getfield 7), (30, .idiv), (31, .invokestatic 449), (34, .iload_n 3), (35, .if_icmp .gt 7), (38, .iconst 1), (39, .goto 4), (42, .iconst 0), (43, .ireturn)]
def za_i241 : List (Nat × Instr) := [(0, .iload_n 0), (1, .iload_n 1), (2, .if_icmp .ge 9), (5, .iload_n 1), (6, .iload_n 0), (7, .isub), (8, .goto 6), (11, .iload_n 0), (12, .iload_n 1), (13, .isub), (14, .ireturn)]
def za_i242 : List (Nat × Instr) := [(0, .aload_n 0), (1, .iconst 0), (2, .putfield 124), (5, .aload_n 0), (6, .aload_n 0), (7, .getfield 112), (10, .iconst (-1)), (11, .if_icmp .eq 19), (14, .iload_n 1), (15, .ifCond .lt 15), (18, .iload_n 1), (19, .aload_n 0), (20, .getfield 112), (23, .if_icmp .ge 7), (26, .iconst 1), (27, .goto 4), (30, .iconst 0), (31, .iconst 1), (32, .invokevirtual 325), (35, .ifCond .eq 12), (38, .aload_n 0), (39, .getfield 109), (42, .iload_n 1), (43, .iaload), (44, .goto 4), (47, .iconst 0), (48, .ireturn)]
def za_i243 : List (Nat × Instr) := [(0, .aload_n 0), (1, .iconst 0), (2, .putfield 124), (5, .aload_n 0), (6, .iload_n 2), (7, .iconst 1), (8, .invokevirtual 366), (11, .ifCond .eq 18), (14, .aload_n 0), (15, .iload_n 1), (16, .iconst 0), (17, .bipush 7), (19, .invokestatic 201), (22, .iconst 2), (23, .invokevirtual 325), (26, .ifCond .ne 5), (29, .iconst 0), (30, .ireturn), (31, .iconst (-1)), (32, .istore_n 3), (33, .iconst 0), (34, .istore 4), (36, .iconst 0), (37, .istore 5), (39, .iload 5), (41, .aload_n 0), (42, .getfield 7), (45, .aload_n 0), (46, .getfield 13), (49, .imul), (50, .if_icmp .ge 98), (53, .iconst 0), (54, .istore 6), (56, .iconst 0), (57, .istore 7), (59, .iload 7), (61, .aload_n 0), (62, .getfield 338), (65, .if_icmp .ge 55), (68, .aload_n 0), (69, .iload 7), (71, .invokevirtual 420), (74, .iload 6), (76, .aload_n 0), (77, .getfield 401), (80, .iconst 1), (81, .if_icmp .eq 11), (84, .aload_n 0), (85, .getfield 401), (88, .iconst 2), (89, .if_icmp .ne 21), (92, .aload_n 0), (93, .aload_n 0), (94, .getfield 386), (97, .iload 5), (99, .iload_n 1), (100, .invokevirtual 452), (103, .ifCond .eq 7), (106, .iconst 1), (107, .goto 4), (110, .iconst 0), (111, .iadd), (112, .istore 6), (114, .iinc 7 1), (117, .goto (-58)), (120, .iload_n 3), (121, .iconst (-1)), (122, .if_icmp .eq 13), (125, .iload 6), (127, .iload 4), (129, .if_icmp .gt 6), (132, .goto 10), (135, .iload 5), (137, .istore_n 3), (138, .iload 6), (140, .istore 4), (142, .iinc 5 1), (145, .goto (-106)), (148, .iload_n 2), (149, .ifCond .ne 7), (152, .iload_n 3), (153, .goto 5), (156, .iload 4), (158, .ireturn)]
def za_i244 : List (Nat × Instr) := [(0, .aload_n 0), (1, .iconst 0), (2, .putfield 124), (5, .aload_n 0), (6, .iload_n 1), (7, .iconst 2), (8, .invokevirtual 366), (11, .ifCond .ne 5), (14, .lconst 0), (15, .lreturn), (16, .lconst 0), (17, .lstore_n 2), (18, .aload_n 0), (19, .iconst 1), (20, .aload_n 0), (21, .getfield 338), (24, .ishl), (25, .iconst 1), (26, .isub), (27, .invokevirtual 440), (30, .lstore 4), (32, .iconst 0), (33, .istore 6), (35, .iload 6), (37, .aload_n 0), (38, .getfield 338), (41, .if_icmp .ge 22), (44, .aload_n 0), (45, .iload 6), (47, .invokevirtual 420), (50, .lload_n 2), (51, .aload_n 0), (52, .getfield 395), (55, .lor), (56, .lstore_n 2), (57, .iinc 6 1), (60, .goto (-25)), (63, .iload_n 1), (64, .iconst 2), (65, .if_icmp .ge 14), (68, .iload_n 1), (69, .ifCond .ne 7), (72, .lload_n 2), (73, .goto 5), (76, .lload 4), (78, .lreturn), (79, .lconst 0), (80, .lstore 6), (82, .iconst 0), (83, .istore 8), (85, .iload 8), (87, .aload_n 0), (88, .getfield 7), (91, .aload_n 0), (92, .getfield 13), (95, .imul), (96, .if_icmp .ge 36), (99, .lload 6), (101, .lload_n 2), (102, .lload 4), (104, .lor), (105, .iload 8), (107, .lshr), (108, .lconst 1), (109, .land), (110, .lconst 0), (111, .lcmp), (112, .ifCond .ne 10), (115, .lconst 1), (116, .iload 8), (118, .lshl), (119, .goto 4), (122, .lconst 0), (123, .lor), (124, .lstore 6), (126, .iinc 8 1), (129, .goto (-44)), (132, .lload 6), (134, .lreturn)]
def za_i245 : List (Nat × Instr) := [(0, .aload_n 0), (1, .iconst 0), (2, .putfield 124), (5, .aload_n 0), (6, .iload_n 1), (7, .invokevirtual 369), (10, .ifCond .eq 12), (13, .aload_n 0), (14, .iload_n 2), (15, .iconst 3), (16, .invokevirtual 366), (19, .ifCond .ne 5), (22, .lconst 0), (23, .lreturn), (24, .iconst (-1)), (25, .istore_n 3), (26, .iconst (-1)), (27, .istore 4), (29, .iconst (-1)), (30, .istore 5), (32, .lconst 0), (33, .lstore 6), (35, .iconst 0), (36, .istore 8), (38, .iload 8), (40, .aload_n 0), (41, .getfield 341), (44, .if_icmp .ge 92), (47, .iconst 0), (48, .istore 9), (50, .iload 9), (52, .aload_n 0), (53, .getfield 341), (56, .if_icmp .ge 74), (59, .iconst 1), (60, .istore 10), (62, .iload 10), (64, .aload_n 0), (65, .iload_n 1), (66, .invokevirtual 372), (69, .if_icmp .ge 55), (72, .iload 8), (74, .iload 9), (76, .if_icmp .eq 48), (79, .aload_n 0), (80, .iload_n 1), (81, .iload 8), (83, .iload 9), (85, .iload 10), (87, .invokevirtual 461), (90, .lstore 11), (92, .lload 11), (94, .lload 6), (96, .lcmp), (97, .ifCond .gt 6), (100, .goto 18), (103, .lload 11), (105, .lstore 6), (107, .iload 8), (109, .istore_n 3), (110, .iload 9), (112, .istore 4), (114, .iload 10), (116, .istore 5), (118, .iinc 10 1), (121, .goto (-59)), (124, .iinc 9 1), (127, .goto (-77)), (130, .iinc 8 1), (133, .goto (-95)), (136, .iload_n 2), (137, .ifCond .ne 8), (140, .iload_n 3), (141, .i2l), (142, .goto 27), (145, .iload_n 2), (146, .iconst 1), (147, .if_icmp .ne 9), (150, .iload 4), (152, .i2l), (153, .goto 16), (156, .iload_n 2), (157, .iconst 2), (158, .if_icmp .ne 9), (161, .iload 5), (163, .i2l), (164, .goto 5), (167, .lload 6), (169, .lreturn)]
def za_i246 : List (Nat × Instr) := [(0, .lconst 1), (1, .lstore 5), (3, .iconst 0), (4, .istore 7), (6, .iload 7), (8, .aload_n 0), (9, .iload_n 1), (10, .invokevirtual 372), (13, .if_icmp .ge 49), (16, .lload 5), (18, .aload_n 0), (19, .getfield 32), (22, .iconst 4), (23, .iload 7), (25, .iload 4), (27, .if_icmp .ge 7), (30, .iload_n 2), (31, .goto 4), (34, .iload_n 3), (35, .imul), (36, .aload_n 0), (37, .getfield 29), (40, .bipush 16), (42, .iload_n 1), (43, .imul), (44, .iconst 2), (45, .iload 7), (47, .imul), (48, .iadd), (49, .iaload), (50, .iadd), (51, .iaload), (52, .i2l), (53, .lmul), (54, .lstore 5), (56, .iinc 7 1), (59, .goto (-53)), (62, .lload 5), (64, .lreturn)]
def za_i247 : List (Nat × Instr) := [(0, .aload_n 0), (1, .iconst 0), (2, .putfield 124), (5, .aload_n 0), (6, .iload_n 1), (7, .invokevirtual 369), (10, .ifCond .eq 38), (13, .aload_n 0), (14, .iload_n 2), (15, .invokevirtual 369), (18, .ifCond .eq 30), (21, .aload_n 0), (22, .iload_n 3), (23, .iconst 2), (24, .invokevirtual 366), (27, .ifCond .eq 21), (30, .aload_n 0), (31, .iload_n 1), (32, .iload_n 2), (33, .if_icmp .eq 7), (36, .iconst 1), (37, .goto 4), (40, .iconst 0), (41, .iconst 2), (42, .invokevirtual 325), (45, .ifCond .ne 5), (48, .iconst 0), (49, .ireturn), (50, .iconst 0), (51, .istore 4), (53, .iconst (-1)), (54, .istore 5), (56, .iconst (-1)), (57, .istore 6), (59, .iconst 0), (60, .istore 7), (62, .iload 7), (64, .aload_n 0), (65, .iload_n 1), (66, .invokevirtual 372), (69, .if_icmp .ge 66), (72, .iconst 0), (73, .istore 8), (75, .iload 8), (77, .aload_n 0), (78, .iload_n 2), (79, .invokevirtual 372), (82, .if_icmp .ge 47), (85, .aload_n 0), (86, .iload_n 1), (87, .iload 7), (89, .iload_n 2), (90, .iload 8), (92, .invokevirtual 465), (95, .iload 4), (97, .if_icmp .gt 6), (100, .goto 23), (103, .aload_n 0), (104, .iload_n 1), (105, .iload 7), (107, .iload_n 2), (108, .iload 8), (110, .invokevirtual 465), (113, .istore 4), (115, .iload 7), (117, .istore 5), (119, .iload 8), (121, .istore 6), (123, .iinc 8 1), (126, .goto (-51)), (129, .iinc 7 1), (132, .goto (-70)), (135, .iload_n 3), (136, .ifCond .ne 8), (139, .iload 4), (141, .goto 15), (144, .iload_n 3), (145, .iconst 1), (146, .if_icmp .ne 8), (149, .iload 5), (151, .goto 5), (154, .iload 6), (156, .ireturn)]
def za_i248 : List (Nat × Instr) := [(0, .iconst 0), (1, .istore 5), (3, .iload_n 2), (4, .iload 5), (6, .iadd), (7, .aload_n 0), (8, .iload_n 1), (9, .invokevirtual 372), (12, .if_icmp .ge 98), (15, .iload 4), (17, .iload 5), (19, .iadd), (20, .aload_n 0), (21, .iload_n 3), (22, .invokevirtual 372), (25, .if_icmp .ge 85), (28, .aload_n 0), (29, .getfield 29), (32, .bipush 16), (34, .iload_n 1), (35, .imul), (36, .iconst 2), (37, .iload_n 2), (38, .iload 5), (40, .iadd), (41, .imul), (42, .iadd), (43, .iaload), (44, .aload_n 0), (45, .getfield 29), (48, .bipush 16), (50, .iload_n 3), (51, .imul), (52, .iconst 2), (53, .iload 4), (55, .iload 5), (57, .iadd), (58, .imul), (59, .iadd), (60, .iaload), (61, .if_icmp .ne 49), (64, .aload_n 0), (65, .getfield 29), (68, .bipush 16), (70, .iload_n 1), (71, .imul), (72, .iconst 2), (73, .iload_n 2), (74, .iload 5), (76, .iadd), (77, .imul), (78, .iadd), (79, .iconst 1), (80, .iadd), (81, .iaload), (82, .aload_n 0), (83, .getfield 29), (86, .bipush 16), (88, .iload_n 3), (89, .imul), (90, .iconst 2), (91, .iload 4), (93, .iload 5), (95, .iadd), (96, .imul), (97, .iadd), (98, .iconst 1), (99, .iadd), (100, .iaload), (101, .if_icmp .ne 9), (104, .iinc 5 1), (107, .goto (-104)), (110, .iload 5), (112, .ireturn)]
def za_i249 : List (Nat × Instr) := [(0, .aload_n 0), (1, .iconst 0), (2, .putfield 124), (5, .aload_n 0), (6, .iconst 1), (7, .putfield 363), (10, .aload_n 0), (11, .aload_n 0), (12, .getfield 360), (15, .putfield 469), (18, .aload_n 0), (19, .aload_n 0), (20, .getfield 26), (23, .aload_n 0), (24, .getfield 115), (27, .invokevirtual 356), (30, .aload_n 0), (31, .aload_n 0), (32, .getfield 29), (35, .aload_n 0), (36, .getfield 118), (39, .invokevirtual 356), (42, .aload_n 0), (43, .aload_n 0), (44, .getfield 87), (47, .aload_n 0), (48, .getfield 121), (51, .invokevirtual 356), (54, .return_)]
def za_i250 : List (Nat × Instr) := [(0, .aload_n 0), (1, .iconst 0), (2, .putfield 124), (5, .aload_n 0), (6, .getfield 363), (9, .ifCond .ne 5), (12, .iconst 0), (13, .ireturn), (14, .aload_n 0), (15, .aload_n 0), (16, .getfield 469), (19, .putfield 360), (22, .aload_n 0), (23, .aload_n 0), (24, .getfield 115), (27, .aload_n 0), (28, .getfield 26), (31, .invokevirtual 356), (34, .aload_n 0), (35, .aload_n 0), (36, .getfield 118), (39, .aload_n 0), (40, .getfield 29), (43, .invokevirtual 356), (46, .aload_n 0), (47, .aload_n 0), (48, .getfield 121), (51, .aload_n 0), (52, .getfield 87), (55, .invokevirtual 356), (58, .iconst 1), (59, .ireturn)]
def za_iL : List (Nat × Instr) := [(0, .new 8), (3, .dup), (4, .invokespecial 73), (7, .astore_n 1), (8, .new 74), (11, .dup), (12, .invokespecial 76), (15, .astore_n 2), (16, .iconst 1), (17, .newarray .long), (19, .astore_n 3), (20, .iconst 0), (21, .istore 4), (23, .iload 4), (25, .aload_n 0), (26, .arraylength), (27, .bipush 6), (29, .isub), (30, .if_icmp .gt 972), (33, .aload_n 0), (34, .iload 4), (36, .iaload), (37, .bipush 31), (39, .iand), (40, .tableswitch 956 0 23 #[112, 185, 213, 226, 254, 294, 334, 386, 438, 490, 503, 543, 571, 611, 651, 703, 716, 744, 772, 812, 840, 880, 932, 943]), (152, .aload_n 1), (153, .aload_n 0), (154, .iload 4), (156, .iconst 1), (157, .iadd), (158, .iaload), (159, .aload_n 0), (160, .iload 4), (162, .iconst 2), (163, .iadd), (164, .iaload), (165, .aload_n 0), (166, .iload 4), (168, .iconst 3), (169, .iadd), (170, .iaload), (171, .aload_n 0), (172, .iload 4), (174, .iconst 4), (175, .iadd), (176, .iaload), (177, .aload_n 0), (178, .iload 4), (180, .iconst 5), (181, .iadd), (182, .iaload), (183, .invokevirtual 77), (186, .aload_n 2), (187, .aload_n 0), (188, .iload 4), (190, .iconst 1), (191, .iadd), (192, .iaload), (193, .aload_n 0), (194, .iload 4), (196, .iconst 2), (197, .iadd), (198, .iaload), (199, .aload_n 0), (200, .iload 4), (202, .iconst 3), (203, .iadd), (204, .iaload), (205, .aload_n 0), (206, .iload 4), (208, .iconst 4), (209, .iadd), (210, .iaload), (211, .aload_n 0), (212, .iload 4), (214, .iconst 5), (215, .iadd), (216, .iaload), (217, .invokevirtual 81), (220, .if_icmp .eq 776), (223, .iconst 0), (224, .ireturn), (225, .aload_n 1), (226, .aload_n 0), (227, .iload 4), (229, .iconst 1), (230, .iadd), (231, .iaload), (232, .aload_n 3), (233, .invokestatic 82), (236, .istore 5), (238, .aload_n 2), (239, .aload_n 0), (240, .iload 4), (242, .iconst 1), (243, .iadd), (244, .iaload), (245, .invokevirtual 87), (248, .istore 6), (250, .goto 746), (253, .aload_n 1), (254, .invokevirtual 88), (257, .pop), (258, .aload_n 2), (259, .invokevirtual 92), (262, .pop), (263, .goto 733), (266, .aload_n 1), (267, .aload_n 0), (268, .iload 4), (270, .iconst 1), (271, .iadd), (272, .iaload), (273, .aload_n 3), (274, .invokestatic 93), (277, .istore 5), (279, .aload_n 2), (280, .aload_n 0), (281, .iload 4), (283, .iconst 1), (284, .iadd), (285, .iaload), (286, .invokevirtual 95), (289, .istore 6), (291, .goto 705), (294, .aload_n 1), (295, .aload_n 0), (296, .iload 4), (298, .iconst 1), (299, .iadd), (300, .iaload), (301, .aload_n 0), (302, .iload 4), (304, .iconst 2), (305, .iadd), (306, .iaload), (307, .aload_n 3), (308, .invokestatic 96), (311, .istore 5), (313, .aload_n 2), (314, .aload_n 0), (315, .iload 4), (317, .iconst 1), (318, .iadd), (319, .iaload), (320, .aload_n 0), (321, .iload 4), (323, .iconst 2), (324, .iadd), (325, .iaload), (326, .invokevirtual 99), (329, .istore 6), (331, .goto 665), (334, .aload_n 1), (335, .aload_n 0), (336, .iload 4), (338, .iconst 1), (339, .iadd), (340, .iaload), (341, .aload_n 0), (342, .iload 4), (344, .iconst 2), (345, .iadd), (346, .iaload), (347, .aload_n 3), (348, .invokestatic 100), (351, .istore 5), (353, .aload_n 2), (354, .aload_n 0), (355, .iload 4), (357, .iconst 1), (358, .iadd), (359, .iaload), (360, .aload_n 0), (361, .iload 4), (363, .iconst 2), (364, .iadd), (365, .iaload), (366, .invokevirtual 102), (369, .istore 6), (371, .goto 625), (374, .aload_n 1), (375, .aload_n 0), (376, .iload 4), (378, .iconst 1), (379, .iadd), (380, .iaload), (381, .aload_n 0), (382, .iload 4), (384, .iconst 2), (385, .iadd), (386, .iaload), (387, .aload_n 0), (388, .iload 4), (390, .iconst 3), (391, .iadd), (392, .iaload), (393, .aload_n 3), (394, .invokestatic 103), (397, .istore 5), (399, .aload_n 2), (400, .aload_n 0), (401, .iload 4), (403, .iconst 1), (404, .iadd), (405, .iaload), (406, .aload_n 0), (407, .iload 4), (409, .iconst 2), (410, .iadd), (411, .iaload), (412, .aload_n 0), (413, .iload 4), (415, .iconst 3), (416, .iadd), (417, .iaload), (418, .invokevirtual 106), (421, .istore 6), (423, .goto 573), (426, .aload_n 1), (427, .aload_n 0), (428, .iload 4), (430, .iconst 1), (431, .iadd), (432, .iaload), (433, .aload_n 0), (434, .iload 4), (436, .iconst 2), (437, .iadd), (438, .iaload), (439, .aload_n 0), (440, .iload 4), (442, .iconst 3), (443, .iadd), (444, .iaload), (445, .aload_n 3), (446, .invokestatic 107), (449, .istore 5), (451, .aload_n 2), (452, .aload_n 0), (453, .iload 4), (455, .iconst 1), (456, .iadd), (457, .iaload), (458, .aload_n 0), (459, .iload 4), (461, .iconst 2), (462, .iadd), (463, .iaload), (464, .aload_n 0), (465, .iload 4), (467, .iconst 3), (468, .iadd), (469, .iaload), (470, .invokevirtual 109), (473, .istore 6), (475, .goto 521), (478, .aload_n 1), (479, .aload_n 0), (480, .iload 4), (482, .iconst 1), (483, .iadd), (484, .iaload), (485, .aload_n 0), (486, .iload 4), (488, .iconst 2), (489, .iadd), (490, .iaload), (491, .aload_n 0), (492, .iload 4), (494, .iconst 3), (495, .iadd), (496, .iaload), (497, .aload_n 3), (498, .invokestatic 110), (501, .istore 5), (503, .aload_n 2), (504, .aload_n 0), (505, .iload 4), (507, .iconst 1), (508, .iadd), (509, .iaload), (510, .aload_n 0), (511, .iload 4), (513, .iconst 2), (514, .iadd), (515, .iaload), (516, .aload_n 0), (517, .iload 4), (519, .iconst 3), (520, .iadd), (521, .iaload), (522, .invokevirtual 112), (525, .istore 6), (527, .goto 469), (530, .aload_n 1), (531, .invokevirtual 113), (534, .pop), (535, .aload_n 2), (536, .invokevirtual 116), (539, .pop), (540, .goto 456), (543, .aload_n 1), (544, .aload_n 0), (545, .iload 4), (547, .iconst 1), (548, .iadd), (549, .iaload), (550, .aload_n 0), (551, .iload 4), (553, .iconst 2), (554, .iadd), (555, .iaload), (556, .aload_n 3), (557, .invokestatic 117), (560, .istore 5), (562, .aload_n 2), (563, .aload_n 0), (564, .iload 4), (566, .iconst 1), (567, .iadd), (568, .iaload), (569, .aload_n 0), (570, .iload 4), (572, .iconst 2), (573, .iadd), (574, .iaload), (575, .invokevirtual 119), (578, .istore 6), (580, .goto 416), (583, .aload_n 1), (584, .aload_n 0), (585, .iload 4), (587, .iconst 1), (588, .iadd), (589, .iaload), (590, .aload_n 3), (591, .invokestatic 120), (594, .istore 5), (596, .aload_n 2), (597, .aload_n 0), (598, .iload 4), (600, .iconst 1), (601, .iadd), (602, .iaload), (603, .invokevirtual 122), (606, .istore 6), (608, .goto 388), (611, .aload_n 1), (612, .aload_n 0), (613, .iload 4), (615, .iconst 1), (616, .iadd), (617, .iaload), (618, .aload_n 0), (619, .iload 4), (621, .iconst 2), (622, .iadd), (623, .iaload), (624, .aload_n 3), (625, .invokestatic 123), (628, .istore 5), (630, .aload_n 2), (631, .aload_n 0), (632, .iload 4), (634, .iconst 1), (635, .iadd), (636, .iaload), (637, .aload_n 0), (638, .iload 4), (640, .iconst 2), (641, .iadd), (642, .iaload), (643, .invokevirtual 125), (646, .lstore 6), (648, .goto 348), (651, .aload_n 1), (652, .aload_n 0), (653, .iload 4), (655, .iconst 1), (656, .iadd), (657, .iaload), (658, .aload_n 0), (659, .iload 4), (661, .iconst 2), (662, .iadd), (663, .iaload), (664, .aload_n 3), (665, .invokestatic 126), (668, .istore 5), (670, .aload_n 2), (671, .aload_n 0), (672, .iload 4), (674, .iconst 1), (675, .iadd), (676, .iaload), (677, .aload_n 0), (678, .iload 4), (680, .iconst 2), (681, .iadd), (682, .iaload), (683, .invokevirtual 128), (686, .istore 6), (688, .goto 308), (691, .aload_n 1), (692, .aload_n 0), (693, .iload 4), (695, .iconst 1), (696, .iadd), (697, .iaload), (698, .aload_n 0), (699, .iload 4), (701, .iconst 2), (702, .iadd), (703, .iaload), (704, .aload_n 0), (705, .iload 4), (707, .iconst 3), (708, .iadd), (709, .iaload), (710, .aload_n 3), (711, .invokestatic 129), (714, .istore 5), (716, .aload_n 2), (717, .aload_n 0), (718, .iload 4), (720, .iconst 1), (721, .iadd), (722, .iaload), (723, .aload_n 0), (724, .iload 4), (726, .iconst 2), (727, .iadd), (728, .iaload), (729, .aload_n 0), (730, .iload 4), (732, .iconst 3), (733, .iadd), (734, .iaload), (735, .invokevirtual 131), (738, .istore 6), (740, .goto 256), (743, .aload_n 1), (744, .invokevirtual 132), (747, .pop), (748, .aload_n 2), (749, .invokevirtual 135), (752, .pop), (753, .goto 243), (756, .aload_n 1), (757, .aload_n 0), (758, .iload 4), (760, .iconst 1), (761, .iadd), (762, .iaload), (763, .aload_n 3), (764, .invokestatic 136), (767, .istore 5), (769, .aload_n 2), (770, .aload_n 0), (771, .iload 4), (773, .iconst 1), (774, .iadd), (775, .iaload), (776, .invokevirtual 138), (779, .istore 6), (781, .goto 215), (784, .aload_n 1), (785, .aload_n 0), (786, .iload 4), (788, .iconst 1), (789, .iadd), (790, .iaload), (791, .aload_n 3), (792, .invokestatic 139), (795, .istore 5), (797, .aload_n 2), (798, .aload_n 0), (799, .iload 4), (801, .iconst 1), (802, .iadd), (803, .iaload), (804, .invokevirtual 141), (807, .istore 6), (809, .goto 187), (812, .aload_n 1), (813, .aload_n 0), (814, .iload 4), (816, .iconst 1), (817, .iadd), (818, .iaload), (819, .aload_n 0), (820, .iload 4), (822, .iconst 2), (823, .iadd), (824, .iaload), (825, .aload_n 3), (826, .invokestatic 142), (829, .istore 5), (831, .aload_n 2), (832, .aload_n 0), (833, .iload 4), (835, .iconst 1), (836, .iadd), (837, .iaload), (838, .aload_n 0), (839, .iload 4), (841, .iconst 2), (842, .iadd), (843, .iaload), (844, .invokevirtual 144), (847, .istore 6), (849, .goto 147), (852, .aload_n 1), (853, .aload_n 0), (854, .iload 4), (856, .iconst 1), (857, .iadd), (858, .iaload), (859, .aload_n 3), (860, .invokestatic 145), (863, .istore 5), (865, .aload_n 2), (866, .aload_n 0), (867, .iload 4), (869, .iconst 1), (870, .iadd), (871, .iaload), (872, .invokevirtual 147), (875, .lstore 6), (877, .goto 119), (880, .aload_n 1), (881, .aload_n 0), (882, .iload 4), (884, .iconst 1), (885, .iadd), (886, .iaload), (887, .aload_n 0), (888, .iload 4), (890, .iconst 2), (891, .iadd), (892, .iaload), (893, .aload_n 3), (894, .invokestatic 148), (897, .istore 5), (899, .aload_n 2), (900, .aload_n 0), (901, .iload 4), (903, .iconst 1), (904, .iadd), (905, .iaload), (906, .aload_n 0), (907, .iload 4), (909, .iconst 2), (910, .iadd), (911, .iaload), (912, .invokevirtual 150), (915, .lstore 6), (917, .goto 79), (920, .aload_n 1), (921, .aload_n 0), (922, .iload 4), (924, .iconst 1), (925, .iadd), (926, .iaload), (927, .aload_n 0), (928, .iload 4), (930, .iconst 2), (931, .iadd), (932, .iaload), (933, .aload_n 0), (934, .iload 4), (936, .iconst 3), (937, .iadd), (938, .iaload), (939, .aload_n 3), (940, .invokestatic 151), (943, .istore 5), (945, .aload_n 2), (946, .aload_n 0), (947, .iload 4), (949, .iconst 1), (950, .iadd), (951, .iaload), (952, .aload_n 0), (953, .iload 4), (955, .iconst 2), (956, .iadd), (957, .iaload), (958, .aload_n 0), (959, .iload 4), (961, .iconst 3), (962, .iadd), (963, .iaload), (964, .invokevirtual 153), (967, .istore 6), (969, .goto 27), (972, .aload_n 1), (973, .invokevirtual 154), (976, .aload_n 2), (977, .invokevirtual 157), (980, .goto 16), (983, .aload_n 1), (984, .invokevirtual 158), (987, .pop), (988, .aload_n 2), (989, .invokevirtual 162), (992, .pop), (993, .goto 3), (996, .iinc 4 6), (999, .goto (-976)), (1002, .iconst 1), (1003, .ireturn)]
def za_ML0 : List za_MI := [(yX11_init, prog_1_method_1_code, 1, none, 11, 71, 3518, [], za_i0),
  (yX10_init, prog_12_method_1_code, 1, none, 10, 10, 820, [], za_i1),
  (yX10_clear, prog_12_method_2_code, 1, none, 10, 0, 0, [], za_i2),
  (yX10_setSize, prog_12_method_3_code, 6, none, 10, 0, 0, [], za_i3),
  (yX11_bit, prog_1_method_31_code, 1, (some FieldType.long), 11, 0, 0, [], za_i4),
  (yJ7_fill_53178, prog_31_method_103_code, 4, none, 17, 0, 0, [], za_i5),
  (yJ7_fill_d0a16, prog_31_method_101_code, 5, none, 17, 0, 0, [], za_i6),
  (yX0_init, prog_2_method_1_code, 1, none, 0, 8, 220, [], za_i7),
  (yX7_init, prog_9_method_1_code, 2, none, 7, 2, 9, [], za_i8),
  (yX9_init, prog_11_method_1_code, 2, none, 9, 0, 0, [], za_i9),
  (yX2_init, prog_4_method_1_code, 2, none, 2, 0, 0, [], za_i10),
  (yX8_init, prog_10_method_1_code, 1, none, 8, 0, 0, [], za_i11),
  (yX3_init, prog_5_method_1_code, 1, none, 3, 0, 0, [], za_i12),
  (yX5_init, prog_7_method_1_code, 1, none, 5, 3, 80, [], za_i13),
  (yX1_init, prog_3_method_1_code, 1, none, 1, 9, 320, [], za_i14),
  (yX4_init, prog_6_method_1_code, 1, none, 4, 0, 0, [], za_i15),
  (yX6_init, prog_8_method_1_code, 1, none, 6, 0, 0, [], za_i16),
  (yX11_feed, prog_1_method_2_code, 6, (some FieldType.int), 11, 0, 0, [], za_i17),
  (yX11_putNumber, prog_1_method_3_code, 3, none, 11, 0, 0, [], za_i18),
  (yX11_fault, prog_1_method_6_code, 1, (some FieldType.int), 11, 0, 0, [], za_i19),
  (yX11_undo, prog_1_method_13_code, 1, (some FieldType.int), 11, 0, 0, [], za_i20),
  (yX0_takeBack, prog_2_method_10_code, 2, (some FieldType.boolean), 0, 0, 0, [], za_i21),
  (yX11_exam, prog_1_method_19_code, 5, (some FieldType.int), 11, 0, 0, [], za_i22),
  (yX8_knownBy, prog_10_method_8_code, 7, (some FieldType.long), 8, 0, 0, [], za_i23),
  (yX8_follow, prog_10_method_6_code, 6, none, 8, 0, 0, [], za_i24),
  (yX8_begin, prog_10_method_2_code, 3, none, 8, 0, 0, [], za_i25),
  (yX0_wayOf, prog_2_method_5_code, 3, (some FieldType.int), 0, 0, 0, [], za_i26),
  (yX0_stepsOf, prog_2_method_6_code, 3, (some FieldType.int), 0, 0, 0, [], za_i27),
  (yX8_followMark, prog_10_method_5_code, 6, none, 8, 0, 0, [], za_i28),
  (yX8_sail, prog_10_method_3_code, 5, none, 8, 0, 0, [], za_i29),
  (yX10_nextCell, prog_12_method_10_code, 3, (some FieldType.int), 10, 0, 0, [], za_i30),
  (yX8_goTo, prog_10_method_4_code, 4, none, 8, 0, 0, [], za_i31),
  (yX10_isRock, prog_12_method_7_code, 2, (some FieldType.boolean), 10, 0, 0, [], za_i32),
  (yX10_drivenTo, prog_12_method_11_code, 3, (some FieldType.int), 10, 0, 0, [], za_i33),
  (yX8_wreck, prog_10_method_7_code, 1, (some FieldType.long), 8, 0, 0, [], za_i34),
  (yX5_sailBy, prog_7_method_2_code, 6, none, 5, 0, 0, [], za_i35),
  (yX5_lookForGoal, prog_7_method_3_code, 2, none, 5, 0, 0, [], za_i36),
  (yX10_xOf, prog_12_method_5_code, 2, (some FieldType.int), 10, 0, 0, [], za_i37),
  (yX5_lookAround, prog_7_method_4_code, 6, none, 5, 0, 0, [], za_i38),
  (yX10_yOf, prog_12_method_6_code, 2, (some FieldType.int), 10, 0, 0, [], za_i39)]
def za_ML1 : List za_MI := [(yX5_wayByRules, prog_7_method_5_code, 5, (some FieldType.int), 5, 0, 0, [], za_i40),
  (yX5_worth, prog_7_method_6_code, 9, (some FieldType.int), 5, 0, 0, [], za_i41),
  (yX5_push, prog_7_method_7_code, 2, none, 5, 0, 0, [], za_i42),
  (yX5_pop, prog_7_method_8_code, 1, (some FieldType.int), 5, 0, 0, [], za_i43),
  (yX5_joined, prog_7_method_9_code, 3, (some FieldType.int), 5, 0, 0, [], za_i44),
  (yX11_image, prog_1_method_26_code, 1, none, 11, 0, 0, [], za_i45),
  (yX0_copyFrom, prog_2_method_11_code, 2, none, 0, 0, 0, [], za_i46),
  (yX11_restore, prog_1_method_27_code, 1, (some FieldType.boolean), 11, 0, 0, [], za_i47),
  (yL_sea, method_3_code, 4, (some FieldType.int), 13, 1, 6, [(0, 9, 12, 13)], za_i48),
  (yX11_sea, prog_1_method_4_code, 2, (some FieldType.int), 11, 1, 6, [], za_i49),
  (yX7_read, prog_9_method_2_code, 5, (some FieldType.boolean), 7, 0, 0, [], za_i50),
  (yX0_clear, prog_2_method_2_code, 1, none, 0, 0, 0, [], za_i51),
  (yX2_clear, prog_4_method_2_code, 1, none, 2, 0, 0, [], za_i52),
  (yX9_open, prog_11_method_2_code, 2, none, 9, 0, 0, [], za_i53),
  (yJ9_min_7cf53, prog_22_method_69_code, 2, (some FieldType.int), 16, 0, 0, [], za_i54),
  (yX9_advance, prog_11_method_3_code, 1, none, 9, 0, 0, [], za_i55),
  (yX9_isLetter, prog_11_method_4_code, 1, (some FieldType.boolean), 9, 0, 0, [], za_i56),
  (yX9_takeWord, prog_11_method_6_code, 5, none, 9, 0, 0, [], za_i57),
  (yX9_isDigit, prog_11_method_5_code, 1, (some FieldType.boolean), 9, 0, 0, [], za_i58),
  (yX9_takeNumber, prog_11_method_7_code, 2, none, 9, 0, 0, [], za_i59),
  (yX9_takeSign, prog_11_method_8_code, 1, none, 9, 0, 0, [], za_i60),
  (yX7_readLine, prog_9_method_5_code, 4, (some FieldType.boolean), 7, 0, 0, [], za_i61),
  (yX7_refuse, prog_9_method_3_code, 2, (some FieldType.boolean), 7, 0, 0, [], za_i62),
  (yX7_readHead, prog_9_method_6_code, 2, (some FieldType.boolean), 7, 0, 0, [], za_i63),
  (yX7_readSize, prog_9_method_12_code, 4, (some FieldType.boolean), 7, 0, 0, [], za_i64),
  (yX7_readNumber, prog_9_method_9_code, 4, (some FieldType.int), 7, 0, 0, [], za_i65),
  (yX7_lookAtNumber, prog_9_method_8_code, 3, (some FieldType.int), 7, 0, 0, [], za_i66),
  (yJ13_bitCount_95d88, prog_21_method_50_code, 2, (some FieldType.int), 15, 0, 0, [], za_i67),
  (yX7_readHead_, prog_9_method_7_code, 3, (some FieldType.boolean), 7, 0, 0, [], za_i68),
  (yX7_readRock, prog_9_method_13_code, 3, (some FieldType.boolean), 7, 0, 0, [], za_i69),
  (yX7_readCell, prog_9_method_11_code, 7, (some FieldType.int), 7, 0, 0, [], za_i70),
  (yX7_readCurrent, prog_9_method_14_code, 4, (some FieldType.boolean), 7, 0, 0, [], za_i71),
  (yX10_allCurrents, prog_12_method_9_code, 1, (some FieldType.long), 10, 0, 0, [], za_i72),
  (yX7_readWay, prog_9_method_10_code, 2, (some FieldType.int), 7, 0, 0, [], za_i73),
  (yX9_isWay, prog_11_method_10_code, 1, (some FieldType.boolean), 9, 0, 0, [], za_i74),
  (yX10_addCurrent, prog_12_method_8_code, 3, none, 10, 0, 0, [], za_i75),
  (yX7_readSlate, prog_9_method_15_code, 9, (some FieldType.boolean), 7, 0, 0, [], za_i76),
  (yX0_addSlate, prog_2_method_3_code, 3, none, 0, 0, 0, [], za_i77),
  (yX0_putMark, prog_2_method_4_code, 4, none, 0, 0, 0, [], za_i78),
  (yX7_readHand, prog_9_method_16_code, 6, (some FieldType.boolean), 7, 0, 0, [], za_i79)]
def za_ML2 : List za_MI := [(yX7_readSchool, prog_9_method_17_code, 4, (some FieldType.boolean), 7, 0, 0, [], za_i80),
  (yX7_readGoal, prog_9_method_18_code, 3, (some FieldType.boolean), 7, 0, 0, [], za_i81),
  (yX7_readPilot, prog_9_method_19_code, 8, (some FieldType.boolean), 7, 0, 0, [], za_i82),
  (yX7_readRead, prog_9_method_20_code, 4, (some FieldType.int), 7, 0, 0, [], za_i83),
  (yX7_readRule, prog_9_method_21_code, 3, (some FieldType.boolean), 7, 0, 0, [], za_i84),
  (yX2_readExpr, prog_4_method_6_code, 4, (some FieldType.boolean), 2, 0, 0, [], za_i85),
  (yX9_isSign, prog_11_method_11_code, 2, (some FieldType.boolean), 9, 0, 0, [], za_i86),
  (yX2_refuse, prog_4_method_3_code, 2, (some FieldType.boolean), 2, 0, 0, [], za_i87),
  (yX2_readAnd, prog_4_method_7_code, 4, (some FieldType.boolean), 2, 0, 0, [], za_i88),
  (yX2_readNot, prog_4_method_8_code, 5, (some FieldType.boolean), 2, 0, 0, [], za_i89),
  (yX9_isWord, prog_11_method_9_code, 2, (some FieldType.boolean), 9, 0, 0, [], za_i90),
  (yX2_readTest, prog_4_method_9_code, 4, (some FieldType.boolean), 2, 0, 0, [], za_i91),
  (yX2_readSum, prog_4_method_10_code, 5, (some FieldType.boolean), 2, 0, 0, [], za_i92),
  (yX2_readProduct, prog_4_method_11_code, 5, (some FieldType.boolean), 2, 0, 0, [], za_i93),
  (yX2_readPart, prog_4_method_12_code, 3, (some FieldType.boolean), 2, 0, 0, [], za_i94),
  (yX2_put, prog_4_method_4_code, 3, none, 2, 0, 0, [], za_i95),
  (yX2_putDone, prog_4_method_5_code, 3, none, 2, 0, 0, [], za_i96),
  (yX7_readEnd, prog_9_method_4_code, 1, (some FieldType.boolean), 7, 0, 0, [], za_i97),
  (yX11_takeNext, prog_1_method_5_code, 3, none, 11, 0, 0, [], za_i98),
  (yX1_forget, prog_3_method_2_code, 1, none, 1, 0, 0, [], za_i99),
  (yL_count, method_4_code, 4, (some FieldType.int), 13, 1, 6, [(0, 9, 12, 18)], za_i100),
  (yX11_count, prog_1_method_7_code, 2, (some FieldType.int), 11, 1, 6, [], za_i101),
  (yL_cell, method_5_code, 5, (some FieldType.int), 13, 2, 12, [(0, 10, 13, 18)], za_i102),
  (yX11_cell, prog_1_method_8_code, 3, (some FieldType.int), 11, 2, 12, [], za_i103),
  (yX11_needWhat, prog_1_method_30_code, 2, none, 11, 1, 6, [], za_i104),
  (yX10_cells, prog_12_method_4_code, 1, (some FieldType.int), 10, 0, 0, [], za_i105),
  (yL_slate, method_6_code, 5, (some FieldType.int), 13, 2, 12, [(0, 10, 13, 18)], za_i106),
  (yX11_slate, prog_1_method_9_code, 3, (some FieldType.int), 11, 2, 12, [], za_i107),
  (yX11_needSlate, prog_1_method_28_code, 2, none, 11, 1, 6, [], za_i108),
  (yL_mark, method_7_code, 6, (some FieldType.int), 13, 3, 18, [(0, 12, 15, 18)], za_i109),
  (yX11_mark, prog_1_method_10_code, 4, (some FieldType.int), 11, 3, 18, [], za_i110),
  (yL_write, method_8_code, 6, (some FieldType.int), 13, 1, 6, [(0, 12, 15, 18)], za_i111),
  (yX11_write, prog_1_method_11_code, 5, (some FieldType.int), 11, 1, 6, [], za_i112),
  (yX0_keepAct, prog_2_method_9_code, 3, none, 0, 0, 0, [], za_i113),
  (yL_rub, method_9_code, 6, (some FieldType.int), 13, 1, 6, [(0, 12, 15, 18)], za_i114),
  (yX11_rub, prog_1_method_12_code, 4, (some FieldType.int), 11, 1, 6, [], za_i115),
  (yX0_rubMarks, prog_2_method_8_code, 6, none, 0, 0, 0, [], za_i116),
  (yJ6_bitCount_0f7a4, prog_20_method_49_code, 1, (some FieldType.int), 14, 0, 0, [], za_i117),
  (yL_voyage, method_10_code, 5, (some FieldType.int), 13, 2, 12, [(0, 10, 13, 18)], za_i118),
  (yX11_voyage, prog_1_method_14_code, 3, (some FieldType.int), 11, 2, 12, [], za_i119)]
def za_ML3 : List za_MI := [(yL_explained, method_11_code, 4, (some FieldType.int), 13, 1, 6, [(0, 16, 19, 18)], za_i120),
  (yX11_explained, prog_1_method_15_code, 3, (some FieldType.boolean), 11, 1, 6, [], za_i121),
  (yL_where, method_12_code, 5, (some FieldType.int), 13, 2, 12, [(0, 9, 12, 18)], za_i122),
  (yX11_where, prog_1_method_16_code, 3, (some FieldType.long), 11, 2, 12, [], za_i123),
  (yX3_cellsBehind, prog_5_method_2_code, 7, (some FieldType.long), 3, 0, 0, [], za_i124),
  (yX0_isRubbed, prog_2_method_7_code, 3, (some FieldType.boolean), 0, 0, 0, [], za_i125),
  (yX3_sailAnyhow, prog_5_method_5_code, 12, none, 3, 0, 0, [], za_i126),
  (yX3_sailStep, prog_5_method_3_code, 5, none, 3, 0, 0, [], za_i127),
  (yX10_sailed, prog_12_method_14_code, 7, (some FieldType.long), 10, 0, 0, [], za_i128),
  (yX10_moved, prog_12_method_13_code, 6, (some FieldType.long), 10, 0, 0, [], za_i129),
  (yX10_driven, prog_12_method_15_code, 10, (some FieldType.long), 10, 0, 0, [], za_i130),
  (yX3_sailMark, prog_5_method_4_code, 5, none, 3, 0, 0, [], za_i131),
  (yL_pilot, method_13_code, 5, (some FieldType.int), 13, 2, 12, [(0, 10, 13, 18)], za_i132),
  (yX11_pilot, prog_1_method_17_code, 3, (some FieldType.int), 11, 2, 12, [], za_i133),
  (yX11_needPilot, prog_1_method_29_code, 2, none, 11, 1, 6, [], za_i134),
  (yL_sails, method_14_code, 6, (some FieldType.int), 13, 3, 18, [(0, 12, 15, 18), (0, 12, 19, 13)], za_i135),
  (yX11_sails, prog_1_method_18_code, 4, (some FieldType.int), 11, 3, 18, [], za_i136),
  (yL_study, method_15_code, 4, (some FieldType.int), 13, 1, 6, [(0, 9, 12, 18)], za_i137),
  (yX11_study, prog_1_method_20_code, 2, (some FieldType.int), 11, 1, 6, [], za_i138),
  (yX1_learn, prog_3_method_3_code, 5, none, 1, 0, 0, [], za_i139),
  (yX1_lessonOf, prog_3_method_4_code, 3, (some FieldType.int), 1, 0, 0, [], za_i140),
  (yX1_find, prog_3_method_6_code, 8, (some FieldType.int), 1, 0, 0, [], za_i141),
  (yX1_beginningNear, prog_3_method_7_code, 5, (some FieldType.int), 1, 0, 0, [], za_i142),
  (yX10_farness, prog_12_method_12_code, 5, (some FieldType.int), 10, 0, 0, [], za_i143),
  (yJ9_abs_0f7a4, prog_22_method_59_code, 1, (some FieldType.int), 16, 0, 0, [], za_i144),
  (yJ9_max_7cf53, prog_22_method_65_code, 2, (some FieldType.int), 16, 0, 0, [], za_i145),
  (yX1_putInRow, prog_3_method_8_code, 5, (some FieldType.boolean), 1, 0, 0, [], za_i146),
  (yJ6_numberOfTrailingZeros_0f7a4, prog_20_method_48_code, 2, (some FieldType.int), 14, 0, 0, [], za_i147),
  (yX1_rowIsAhead, prog_3_method_9_code, 3, (some FieldType.boolean), 1, 0, 0, [], za_i148),
  (yX1_bringsThrough, prog_3_method_10_code, 9, (some FieldType.boolean), 1, 0, 0, [], za_i149),
  (yL_studied, method_16_code, 4, (some FieldType.int), 13, 1, 6, [(0, 9, 12, 18)], za_i150),
  (yX11_studied, prog_1_method_21_code, 2, (some FieldType.int), 11, 1, 6, [], za_i151),
  (yL_dive, method_17_code, 5, (some FieldType.int), 13, 2, 12, [(0, 10, 13, 18), (0, 10, 17, 13)], za_i152),
  (yX11_dive, prog_1_method_22_code, 7, (some FieldType.int), 11, 2, 12, [], za_i153),
  (yX1_wrecksNear, prog_3_method_5_code, 6, (some FieldType.int), 1, 0, 0, [], za_i154),
  (yL_chart, method_18_code, 4, (some FieldType.int), 13, 1, 6, [(0, 8, 11, 18)], za_i155),
  (yX11_chart, prog_1_method_23_code, 7, (some FieldType.long), 11, 1, 6, [], za_i156),
  (yL_hand, method_19_code, 5, (some FieldType.int), 13, 2, 12, [(0, 9, 12, 18)], za_i157),
  (yX11_hand, prog_1_method_24_code, 3, (some FieldType.long), 11, 2, 12, [], za_i158),
  (yX4_compare, prog_6_method_2_code, 7, none, 4, 0, 0, [], za_i159)]
def za_ML4 : List za_MI := [(yX4_weigh, prog_6_method_3_code, 10, none, 4, 0, 0, [], za_i160),
  (yX10_weightOf, prog_12_method_16_code, 3, (some FieldType.int), 10, 0, 0, [], za_i161),
  (yL_copied, method_20_code, 6, (some FieldType.int), 13, 4, 24, [(0, 12, 15, 18), (0, 12, 19, 13)], za_i162),
  (yX11_copied, prog_1_method_25_code, 4, (some FieldType.int), 11, 4, 24, [], za_i163),
  (yX6_compare, prog_8_method_2_code, 7, none, 6, 0, 0, [], za_i164),
  (yX6_alikeFrom, prog_8_method_3_code, 7, (some FieldType.int), 6, 0, 0, [], za_i165),
  (yX12_init, prog_14_method_1_code, 2, none, 12, 31, 6578, [], za_i166),
  (yX12_feed, prog_14_method_8_code, 6, (some FieldType.int), 12, 0, 0, [], za_i167),
  (yX12_lays, prog_14_method_9_code, 3, none, 12, 0, 0, [], za_i168),
  (yX12_sea, prog_14_method_42_code, 3, (some FieldType.int), 12, 0, 0, [], za_i169),
  (yX12_right, prog_14_method_3_code, 3, (some FieldType.boolean), 12, 0, 0, [], za_i170),
  (yX12_goes, prog_14_method_13_code, 2, none, 12, 0, 0, [], za_i171),
  (yX12_byteAt, prog_14_method_10_code, 2, (some FieldType.int), 12, 0, 0, [], za_i172),
  (yX12_isLetter, prog_14_method_11_code, 1, (some FieldType.boolean), 12, 0, 0, [], za_i173),
  (yX12_isDigit, prog_14_method_12_code, 1, (some FieldType.boolean), 12, 0, 0, [], za_i174),
  (yX12_isGood, prog_14_method_18_code, 1, (some FieldType.boolean), 12, 0, 0, [], za_i175),
  (yX12_line, prog_14_method_41_code, 4, none, 12, 0, 0, [], za_i176),
  (yX12_knownWord, prog_14_method_16_code, 2, (some FieldType.int), 12, 0, 0, [], za_i177),
  (yX12_letters, prog_14_method_15_code, 1, (some FieldType.long), 12, 0, 0, [], za_i178),
  (yX12_spelled, prog_14_method_14_code, 9, (some FieldType.long), 12, 0, 0, [], za_i179),
  (yX12_wrong, prog_14_method_17_code, 2, none, 12, 0, 0, [], za_i180),
  (yX12_number, prog_14_method_22_code, 4, (some FieldType.int), 12, 0, 0, [], za_i181),
  (yX12_numberHere, prog_14_method_21_code, 3, (some FieldType.boolean), 12, 0, 0, [], za_i182),
  (yX12_cellHere, prog_14_method_36_code, 2, (some FieldType.int), 12, 0, 0, [], za_i183),
  (yX12_way, prog_14_method_24_code, 2, (some FieldType.int), 12, 0, 0, [], za_i184),
  (yX12_within, prog_14_method_4_code, 3, (some FieldType.boolean), 12, 0, 0, [], za_i185),
  (yX12_need, prog_14_method_20_code, 2, none, 12, 0, 0, [], za_i186),
  (yX12_readsSlate, prog_14_method_38_code, 3, none, 12, 0, 0, [], za_i187),
  (yX12_cellRead, prog_14_method_37_code, 2, (some FieldType.int), 12, 0, 0, [], za_i188),
  (yX12_isWay, prog_14_method_23_code, 1, (some FieldType.boolean), 12, 0, 0, [], za_i189),
  (yX12_readsHand, prog_14_method_39_code, 4, none, 12, 0, 0, [], za_i190),
  (yX12_readsPilot, prog_14_method_40_code, 2, none, 12, 0, 0, [], za_i191),
  (yX12_expression, prog_14_method_35_code, 3, none, 12, 0, 0, [], za_i192),
  (yX12_deeper, prog_14_method_31_code, 1, none, 12, 0, 0, [], za_i193),
  (yX12_isSign, prog_14_method_19_code, 2, (some FieldType.boolean), 12, 0, 0, [], za_i194),
  (yX12_operand, prog_14_method_32_code, 5, none, 12, 0, 0, [], za_i195),
  (yX12_waitsFor, prog_14_method_29_code, 2, none, 12, 0, 0, [], za_i196),
  (yX12_part, prog_14_method_30_code, 2, none, 12, 0, 0, [], za_i197),
  (yX12_puts, prog_14_method_25_code, 2, none, 12, 0, 0, [], za_i198),
  (yX12_drops, prog_14_method_28_code, 2, none, 12, 0, 0, [], za_i199)]
def za_ML5 : List za_MI := [(yX12_isOpen, prog_14_method_26_code, 1, (some FieldType.boolean), 12, 0, 0, [], za_i200),
  (yX12_strength, prog_14_method_27_code, 1, (some FieldType.int), 12, 0, 0, [], za_i201),
  (yX12_isOpened, prog_14_method_33_code, 2, (some FieldType.boolean), 12, 0, 0, [], za_i202),
  (yX12_closes, prog_14_method_34_code, 1, none, 12, 0, 0, [], za_i203),
  (yX12_copies, prog_14_method_7_code, 4, none, 12, 0, 0, [], za_i204),
  (yX12_fault, prog_14_method_43_code, 1, (some FieldType.int), 12, 0, 0, [], za_i205),
  (yX12_count, prog_14_method_44_code, 2, (some FieldType.int), 12, 0, 0, [], za_i206),
  (yX12_cell, prog_14_method_48_code, 3, (some FieldType.int), 12, 0, 0, [], za_i207),
  (yX12_isWhat, prog_14_method_47_code, 3, (some FieldType.boolean), 12, 0, 0, [], za_i208),
  (yX12_slate, prog_14_method_50_code, 3, (some FieldType.int), 12, 0, 0, [], za_i209),
  (yX12_isSlate, prog_14_method_45_code, 2, (some FieldType.boolean), 12, 0, 0, [], za_i210),
  (yX12_mark, prog_14_method_51_code, 4, (some FieldType.int), 12, 0, 0, [], za_i211),
  (yX12_marks, prog_14_method_49_code, 2, (some FieldType.int), 12, 0, 0, [], za_i212),
  (yX12_write, prog_14_method_54_code, 5, (some FieldType.int), 12, 0, 0, [], za_i213),
  (yX12_refuses, prog_14_method_53_code, 1, (some FieldType.int), 12, 0, 0, [], za_i214),
  (yX12_keeps, prog_14_method_52_code, 4, none, 12, 0, 0, [], za_i215),
  (yX12_rub, prog_14_method_55_code, 6, (some FieldType.int), 12, 0, 0, [], za_i216),
  (yX12_bits, prog_14_method_6_code, 3, (some FieldType.int), 12, 0, 0, [], za_i217),
  (yX12_undo, prog_14_method_56_code, 2, (some FieldType.int), 12, 0, 0, [], za_i218),
  (yX12_voyage, prog_14_method_61_code, 3, (some FieldType.int), 12, 0, 0, [], za_i219),
  (yX12_sailsOf, prog_14_method_60_code, 2, none, 12, 0, 0, [], za_i220),
  (yX12_steps, prog_14_method_59_code, 5, (some FieldType.int), 12, 0, 0, [], za_i221),
  (yX12_beside, prog_14_method_57_code, 5, (some FieldType.int), 12, 0, 0, [], za_i222),
  (yX12_isRock, prog_14_method_58_code, 2, (some FieldType.boolean), 12, 0, 0, [], za_i223),
  (yX12_explained, prog_14_method_62_code, 4, (some FieldType.boolean), 12, 0, 0, [], za_i224),
  (yX12_where, prog_14_method_64_code, 8, (some FieldType.long), 12, 0, 0, [], za_i225),
  (yX12_stepsAll, prog_14_method_63_code, 7, none, 12, 0, 0, [], za_i226),
  (yX12_pilot, prog_14_method_65_code, 3, (some FieldType.int), 12, 0, 0, [], za_i227),
  (yX12_isPilot, prog_14_method_46_code, 2, (some FieldType.boolean), 12, 0, 0, [], za_i228),
  (yX12_sails, prog_14_method_72_code, 4, (some FieldType.int), 12, 0, 0, [], za_i229),
  (yX12_pilots, prog_14_method_71_code, 6, none, 12, 0, 0, [], za_i230),
  (yX12_knownBy, prog_14_method_66_code, 5, (some FieldType.long), 12, 0, 0, [], za_i231),
  (yX12_wayOf, prog_14_method_70_code, 6, (some FieldType.int), 12, 0, 0, [], za_i232),
  (yX12_reckons, prog_14_method_69_code, 9, (some FieldType.int), 12, 0, 0, [], za_i233),
  (yX12_valueOf, prog_14_method_67_code, 7, (some FieldType.int), 12, 0, 0, [], za_i234),
  (yX12_works, prog_14_method_68_code, 3, (some FieldType.int), 12, 0, 0, [], za_i235),
  (yX12_exam, prog_14_method_73_code, 3, (some FieldType.int), 12, 0, 0, [], za_i236),
  (yX12_study, prog_14_method_77_code, 3, (some FieldType.int), 12, 0, 0, [], za_i237),
  (yX12_studies, prog_14_method_76_code, 6, (some FieldType.boolean), 12, 0, 0, [], za_i238),
  (yX12_isRead, prog_14_method_75_code, 4, (some FieldType.boolean), 12, 0, 0, [], za_i239)]
def za_ML6 : List za_MI := [(yX12_isNear, prog_14_method_74_code, 4, (some FieldType.boolean), 12, 0, 0, [], za_i240),
  (yX12_off, prog_14_method_5_code, 2, (some FieldType.int), 12, 0, 0, [], za_i241),
  (yX12_studied, prog_14_method_78_code, 2, (some FieldType.int), 12, 0, 0, [], za_i242),
  (yX12_dive, prog_14_method_79_code, 8, (some FieldType.int), 12, 0, 0, [], za_i243),
  (yX12_chart, prog_14_method_80_code, 9, (some FieldType.long), 12, 0, 0, [], za_i244),
  (yX12_hand, prog_14_method_82_code, 13, (some FieldType.long), 12, 0, 0, [], za_i245),
  (yX12_product, prog_14_method_81_code, 8, (some FieldType.long), 12, 0, 0, [], za_i246),
  (yX12_copied, prog_14_method_84_code, 9, (some FieldType.int), 12, 0, 0, [], za_i247),
  (yX12_alike, prog_14_method_83_code, 6, (some FieldType.int), 12, 0, 0, [], za_i248),
  (yX12_image, prog_14_method_85_code, 1, none, 12, 0, 0, [], za_i249),
  (yX12_restore, prog_14_method_86_code, 1, (some FieldType.boolean), 12, 0, 0, [], za_i250)]
def za_ML : List za_MI := za_ML0 ++ (za_ML1 ++ (za_ML2 ++ (za_ML3 ++ (za_ML4 ++ (za_ML5 ++ (za_ML6))))))
def za_MT (j : Nat) : Option za_MI := za_ML[j]?
def za_cp0 : List (Nat × za_row) := [(3, 4, 0, 0, 0), (9, 0, 0, 1, 1), (15, 0, 0, 2, 1), (18, 0, 0, 3, 1), (21, 0, 0, 4, 1), (24, 0, 0, 5, 1), (27, 0, 0, 6, 1), (30, 0, 0, 8, 1), (33, 0, 0, 9, 1), (36, 0, 0, 0, 0), (40, 0, 0, 7, 0), (43, 7, 0, 0, 1103515245), (44, 14, 0, 0, 0)]
def za_cp1 : List (Nat × za_row) := [(3, 4, 0, 0, 0), (9, 0, 1, 0, 0), (15, 0, 1, 1, 1), (19, 0, 1, 2, 1), (22, 0, 1, 3, 1), (26, 0, 1, 4, 1), (29, 0, 1, 5, 1), (32, 0, 1, 6, 0), (35, 0, 1, 7, 1), (38, 0, 1, 8, 1), (41, 0, 1, 9, 1), (44, 0, 1, 10, 1), (47, 0, 1, 11, 0), (50, 0, 0, 0, 0), (53, 1, 24, 3, 0), (59, 0, 0, 1, 1), (62, 0, 8, 0, 0), (64, 1, 34, 0, 0), (67, 1, 140, 1, 0), (71, 1, 143, 2, 0), (77, 2, 5, 2, 0), (83, 0, 10, 9, 0), (86, 1, 142, 2, 0), (90, 2, 117, 1, 0), (95, 1, 146, 1, 0), (99, 1, 148, 1, 0), (102, 1, 149, 4, 0), (106, 14, 0, 0, 0), (112, 0, 10, 10, 0), (115, 2, 147, 1, 0), (118, 1, 35, 3, 0), (124, 0, 5, 0, 1), (128, 0, 8, 2, 0)]
def za_cp2 : List (Nat × za_row) := [(3, 4, 0, 0, 0), (9, 0, 2, 1, 0), (15, 0, 2, 2, 0), (18, 0, 2, 0, 1), (22, 0, 10, 19, 1), (28, 1, 95, 2, 0), (32, 0, 9, 4, 0), (37, 1, 86, 1, 0), (41, 1, 87, 1, 0), (44, 1, 88, 2, 0), (48, 1, 90, 1, 0), (51, 1, 55, 0, 0), (54, 1, 96, 2, 0), (57, 1, 89, 2, 0), (60, 1, 91, 2, 0), (63, 1, 92, 2, 0), (66, 0, 9, 5, 0), (69, 1, 93, 2, 0), (72, 1, 94, 2, 0), (75, 1, 85, 2, 0)]
def za_cp3 : List (Nat × za_row) := [(3, 4, 0, 0, 0), (9, 0, 3, 0, 0), (15, 0, 3, 1, 0), (18, 0, 0, 2, 1), (24, 0, 0, 1, 1), (27, 12, 4, 1, 0), (31, 1, 125, 2, 0), (35, 1, 126, 1, 0), (39, 1, 26, 2, 0), (43, 1, 27, 2, 0), (46, 1, 131, 3, 0), (50, 1, 128, 3, 0), (56, 1, 127, 2, 0)]
def za_cp4 : List (Nat × za_row) := [(3, 4, 0, 0, 0), (9, 0, 4, 0, 0), (15, 0, 4, 1, 0), (18, 0, 4, 2, 0), (21, 0, 4, 3, 0), (25, 0, 10, 7, 0), (30, 0, 0, 3, 1), (36, 1, 160, 6, 0), (40, 1, 26, 2, 0), (44, 1, 161, 2, 0)]
def za_cp5 : List (Nat × za_row) := [(3, 4, 0, 0, 0), (9, 5, 8, 0, 0), (11, 13, 11, 0, 0), (12, 0, 5, 0, 1), (18, 0, 5, 1, 1), (22, 0, 5, 2, 0), (26, 0, 5, 3, 1), (29, 0, 10, 13, 1), (34, 0, 10, 14, 1), (37, 1, 25, 2, 0), (41, 1, 36, 1, 0), (45, 0, 8, 2, 0), (48, 1, 38, 2, 0), (52, 1, 40, 1, 0), (56, 1, 29, 3, 0), (60, 0, 8, 0, 0), (63, 1, 37, 1, 0), (67, 0, 10, 11, 0), (70, 1, 39, 1, 0), (73, 0, 8, 1, 0), (76, 1, 33, 2, 0), (80, 1, 30, 2, 0), (83, 0, 10, 16, 0), (86, 0, 10, 18, 1), (89, 1, 41, 3, 0), (93, 0, 10, 17, 1), (96, 0, 10, 19, 1), (99, 1, 42, 1, 0), (103, 1, 43, 0, 0), (107, 2, 44, 3, 0)]
def za_cp6 : List (Nat × za_row) := [(3, 4, 0, 0, 0), (9, 0, 6, 0, 0), (15, 0, 6, 1, 0), (18, 0, 6, 2, 0), (21, 0, 0, 3, 1), (27, 2, 165, 5, 0), (31, 2, 54, 2, 0), (37, 1, 26, 2, 0), (40, 1, 27, 2, 0)]
def za_cp7 : List (Nat × za_row) := [(3, 4, 0, 0, 0), (9, 0, 7, 2, 0), (15, 0, 7, 3, 0), (18, 0, 7, 4, 0), (22, 0, 7, 5, 0), (25, 5, 9, 0, 0), (27, 3, 9, 1, 0), (30, 0, 7, 0, 1), (34, 5, 2, 0, 0), (36, 3, 10, 1, 0), (39, 0, 7, 1, 1), (43, 11, 2, 0, 0), (48, 1, 51, 0, 0), (51, 1, 52, 0, 0), (52, 1, 53, 1, 0), (56, 0, 9, 4, 0), (59, 1, 61, 3, 0), (63, 1, 97, 0, 0), (67, 0, 9, 3, 0), (70, 1, 86, 1, 0), (74, 1, 62, 1, 0), (77, 1, 55, 0, 0), (80, 0, 9, 5, 0), (83, 1, 63, 1, 0), (87, 1, 64, 1, 0), (91, 0, 10, 3, 0), (95, 2, 67, 1, 0), (101, 1, 68, 2, 0), (104, 1, 69, 1, 0), (107, 1, 71, 1, 0), (110, 0, 0, 0, 0), (113, 1, 76, 2, 0), (117, 0, 10, 7, 0), (120, 1, 79, 1, 0), (123, 1, 80, 1, 0), (126, 1, 81, 1, 0), (129, 0, 10, 12, 0), (132, 1, 82, 2, 0), (135, 0, 10, 16, 0), (138, 1, 84, 1, 0), (141, 1, 66, 2, 0), (145, 1, 74, 0, 0), (148, 0, 10, 0, 0), (151, 0, 10, 1, 0), (154, 12, 4, 1, 0), (158, 1, 65, 2, 0), (161, 11, 3, 2, 0), (165, 1, 70, 2, 0), (169, 1, 72, 0, 0), (173, 1, 73, 0, 0), (177, 1, 75, 2, 0), (180, 1, 77, 2, 0), (183, 1, 78, 3, 0), (187, 0, 10, 8, 1), (191, 0, 10, 9, 0), (194, 0, 10, 10, 0), (197, 0, 10, 11, 0), (200, 1, 83, 2, 0), (204, 0, 10, 13, 1), (207, 0, 10, 14, 1), (210, 0, 10, 15, 1), (213, 11, 85, 2, 0), (217, 0, 2, 2, 0), (218, 1, 90, 1, 0), (221, 0, 10, 17, 1), (224, 0, 10, 18, 1), (227, 0, 2, 1, 0)]
def za_cp8 : List (Nat × za_row) := [(3, 4, 0, 0, 0), (9, 0, 8, 0, 0), (15, 0, 8, 1, 0), (18, 0, 8, 2, 0), (21, 0, 8, 3, 0), (24, 0, 8, 4, 0), (27, 0, 8, 5, 0), (30, 0, 8, 6, 0), (33, 0, 8, 7, 0), (37, 12, 4, 1, 0), (41, 1, 30, 2, 0), (47, 1, 31, 3, 0), (51, 1, 33, 2, 0), (54, 1, 32, 1, 0), (58, 1, 29, 3, 0), (62, 0, 0, 1, 1), (67, 0, 0, 2, 1), (69, 1, 25, 2, 0), (73, 0, 0, 3, 1), (76, 1, 26, 2, 0), (79, 1, 27, 2, 0), (82, 1, 28, 4, 0), (86, 0, 0, 0, 0), (89, 1, 24, 3, 0), (93, 1, 34, 0, 0)]
def za_cp9 : List (Nat × za_row) := [(3, 4, 0, 0, 0), (9, 0, 9, 1, 0), (15, 0, 9, 2, 0), (18, 0, 9, 3, 0), (21, 0, 9, 4, 0), (24, 0, 9, 5, 0), (27, 0, 9, 0, 1), (31, 2, 54, 2, 0), (37, 1, 55, 0, 0), (40, 2, 56, 1, 0), (44, 1, 57, 0, 0), (47, 2, 58, 1, 0), (50, 1, 59, 0, 0), (53, 1, 60, 0, 0), (56, 10, 0, 0, 0), (67, 7, 0, 0, 2147483647)]
def za_cp10 : List (Nat × za_row) := [(3, 4, 0, 0, 0), (9, 0, 10, 4, 1), (15, 0, 10, 5, 1), (19, 0, 10, 6, 1), (22, 0, 10, 8, 1), (25, 0, 10, 13, 1), (28, 0, 10, 14, 1), (31, 0, 10, 15, 1), (34, 0, 10, 17, 1), (37, 0, 10, 18, 1), (40, 0, 10, 19, 1), (43, 1, 2, 0, 0), (46, 1, 3, 2, 0), (50, 0, 10, 3, 0), (54, 2, 5, 2, 0), (60, 2, 6, 2, 0), (63, 0, 10, 7, 0), (67, 0, 10, 9, 0), (70, 0, 10, 10, 0), (73, 0, 10, 11, 0), (76, 0, 10, 12, 0), (79, 0, 10, 16, 0), (82, 0, 10, 0, 0), (85, 0, 10, 1, 0), (88, 8, 0, 0, (-1)), (90, 0, 10, 2, 0), (93, 12, 4, 1, 0), (97, 1, 30, 2, 0), (101, 1, 37, 1, 0), (105, 2, 144, 1, 0), (110, 1, 39, 1, 0), (113, 2, 145, 2, 0), (116, 1, 129, 2, 0), (120, 1, 130, 1, 0)]
def za_cp11 : List (Nat × za_row) := [(3, 4, 0, 0, 0), (11, 0, 11, 0, 1), (15, 0, 11, 1, 0), (19, 0, 11, 2, 0), (22, 0, 11, 3, 0), (25, 0, 11, 4, 0), (28, 5, 10, 0, 0), (30, 3, 1, 0, 0), (31, 0, 11, 5, 0), (35, 5, 0, 0, 0), (37, 13, 7, 0, 0), (38, 0, 11, 6, 0), (42, 0, 11, 7, 0), (45, 0, 11, 8, 0), (48, 0, 11, 9, 1), (51, 0, 11, 10, 0), (55, 5, 7, 0, 0), (57, 3, 8, 1, 0), (60, 0, 11, 11, 1), (64, 5, 8, 0, 0), (66, 13, 11, 0, 0), (67, 0, 11, 12, 1), (71, 5, 3, 0, 0), (73, 13, 12, 0, 0), (74, 0, 11, 13, 1), (78, 5, 5, 0, 0), (80, 13, 13, 0, 0), (81, 0, 11, 14, 1), (85, 5, 1, 0, 0), (87, 13, 14, 0, 0), (88, 0, 11, 15, 1), (92, 5, 4, 0, 0), (94, 13, 15, 0, 0), (95, 0, 11, 16, 1), (99, 5, 6, 0, 0), (101, 13, 16, 0, 0), (102, 0, 11, 17, 1), (106, 1, 18, 1, 0), (110, 6, 1, 0, 0), (112, 10, 0, 0, 0), (114, 15, 1, 0, 0), (117, 1, 50, 3, 0), (121, 0, 7, 5, 0), (122, 0, 7, 4, 0), (125, 1, 98, 0, 0), (128, 1, 99, 0, 0), (131, 0, 10, 0, 0), (134, 0, 10, 1, 0), (137, 0, 10, 3, 0), (141, 2, 67, 1, 0), (147, 1, 72, 0, 0), (151, 0, 0, 0, 0), (154, 0, 10, 7, 0), (156, 0, 10, 12, 0), (159, 0, 10, 16, 0), (162, 0, 10, 9, 0), (165, 0, 10, 10, 0), (168, 0, 10, 11, 0), (171, 0, 0, 7, 0), (174, 6, 0, 0, 0), (176, 10, 0, 0, 0), (178, 15, 0, 0, 0), (179, 2, 104, 2, 0), (183, 1, 105, 0, 0), (187, 10, 0, 0, 0), (189, 1, 32, 1, 0), (193, 0, 10, 5, 1), (197, 1, 108, 1, 0), (200, 0, 0, 1, 1), (203, 0, 0, 2, 1), (206, 0, 0, 3, 1), (209, 0, 0, 4, 1), (212, 10, 0, 0, 0), (214, 1, 26, 2, 0), (218, 1, 27, 2, 0), (221, 1, 113, 2, 0), (224, 1, 78, 3, 0), (228, 1, 116, 3, 0), (231, 2, 117, 1, 0), (234, 1, 21, 0, 0), (238, 1, 24, 3, 0), (242, 0, 8, 2, 0), (245, 0, 8, 0, 0), (247, 0, 8, 3, 0), (250, 0, 8, 4, 0), (253, 0, 8, 1, 0), (255, 0, 8, 5, 0), (258, 0, 8, 6, 0), (261, 1, 25, 2, 0), (264, 1, 28, 4, 0), (268, 10, 0, 0, 0), (270, 1, 124, 4, 0), (274, 1, 134, 1, 0), (277, 0, 10, 13, 1), (280, 0, 10, 14, 1), (283, 0, 10, 15, 1), (286, 10, 0, 0, 0), (288, 1, 23, 3, 0), (292, 1, 35, 3, 0), (296, 0, 5, 0, 1), (297, 1, 139, 3, 0), (301, 1, 141, 3, 0), (305, 0, 1, 11, 0), (308, 10, 0, 0, 0), (310, 0, 1, 10, 1), (313, 10, 0, 0, 0), (315, 1, 154, 3, 0), (319, 0, 8, 7, 0), (322, 1, 34, 0, 0), (325, 8, 0, 0, (-1)), (327, 0, 10, 2, 0), (330, 1, 159, 3, 0), (333, 0, 4, 0, 0), (336, 0, 4, 1, 0), (339, 0, 4, 2, 0), (342, 0, 4, 3, 0), (345, 10, 0, 0, 0), (347, 1, 164, 3, 0), (350, 0, 6, 0, 0), (353, 0, 6, 1, 0), (356, 0, 6, 2, 0), (359, 1, 46, 1, 0), (363, 10, 0, 0, 0), (365, 10, 0, 0, 0), (367, 10, 0, 0, 0)]
def za_cp12 : List (Nat × za_row) := [(1, 4, 0, 0, 0), (7, 0, 12, 1, 0), (13, 0, 12, 2, 0), (16, 0, 12, 10, 0), (19, 0, 12, 11, 0), (22, 0, 12, 13, 1), (26, 0, 12, 14, 1), (29, 0, 12, 15, 1), (32, 0, 12, 16, 1), (35, 0, 12, 17, 1), (38, 0, 12, 18, 1), (41, 0, 12, 19, 1), (44, 0, 12, 20, 1), (47, 0, 12, 21, 1), (50, 0, 12, 24, 0), (53, 0, 12, 25, 1), (56, 0, 12, 52, 1), (59, 0, 12, 53, 1), (62, 0, 12, 54, 1), (65, 0, 12, 55, 1), (68, 0, 12, 56, 1), (71, 0, 12, 57, 1), (74, 0, 12, 58, 1), (77, 0, 12, 59, 1), (80, 0, 12, 60, 1), (83, 0, 12, 61, 1), (87, 0, 12, 63, 1), (90, 0, 12, 72, 1), (94, 0, 12, 73, 1), (97, 0, 12, 74, 1), (100, 0, 12, 75, 1), (103, 0, 12, 76, 1), (106, 0, 12, 77, 1), (109, 0, 12, 78, 1), (112, 0, 12, 79, 0), (115, 0, 12, 82, 1), (118, 0, 12, 83, 1), (121, 0, 12, 84, 1), (124, 0, 12, 0, 0), (127, 0, 12, 22, 0), (130, 1, 168, 1, 0), (134, 0, 12, 26, 0), (137, 0, 12, 27, 0), (140, 1, 172, 1, 0), (144, 0, 12, 29, 0), (147, 0, 12, 33, 0), (151, 0, 12, 31, 0), (154, 0, 12, 32, 0), (157, 0, 12, 28, 0), (160, 2, 173, 1, 0), (164, 2, 174, 1, 0), (167, 0, 12, 30, 0), (170, 8, 0, 0, 96), (172, 2, 179, 7, 0), (176, 2, 178, 1, 0), (180, 0, 12, 23, 0), (183, 1, 175, 0, 0), (187, 1, 171, 0, 0), (190, 1, 180, 1, 0), (193, 1, 182, 2, 0), (197, 1, 177, 0, 0), (201, 2, 185, 3, 0), (205, 1, 186, 1, 0), (209, 0, 12, 45, 0), (212, 0, 12, 46, 0), (215, 2, 200, 1, 0), (218, 2, 201, 1, 0), (221, 1, 198, 1, 0), (224, 0, 12, 47, 0), (227, 1, 194, 1, 0), (230, 1, 196, 1, 0), (233, 1, 193, 0, 0), (236, 1, 197, 0, 0), (239, 1, 199, 1, 0), (242, 1, 195, 1, 0), (245, 1, 202, 0, 0), (248, 1, 203, 0, 0), (251, 0, 12, 34, 0), (254, 1, 181, 2, 0), (258, 0, 12, 35, 0), (261, 1, 183, 0, 0), (264, 0, 12, 38, 0), (267, 1, 188, 0, 0), (270, 1, 189, 0, 0), (273, 1, 184, 0, 0), (276, 0, 12, 39, 0), (279, 0, 12, 40, 0), (282, 0, 12, 50, 0), (286, 0, 12, 36, 0), (289, 0, 12, 51, 0), (292, 0, 12, 37, 0), (295, 1, 187, 0, 0), (298, 1, 190, 0, 0), (301, 0, 12, 48, 0), (304, 0, 12, 42, 0), (307, 0, 12, 43, 0), (310, 0, 12, 49, 0), (313, 0, 12, 44, 0), (316, 1, 191, 0, 0), (319, 0, 12, 41, 0), (322, 1, 192, 0, 0), (325, 1, 170, 2, 0), (329, 1, 176, 0, 0), (332, 0, 12, 3, 0), (335, 0, 12, 4, 0), (338, 0, 12, 5, 0), (341, 0, 12, 6, 0), (344, 0, 12, 7, 0), (347, 0, 12, 8, 0), (350, 0, 12, 9, 0), (353, 0, 12, 12, 0), (356, 1, 204, 2, 0), (360, 0, 12, 62, 0), (363, 0, 12, 80, 0), (366, 1, 208, 2, 0), (369, 1, 210, 1, 0), (372, 1, 212, 1, 0), (375, 1, 214, 0, 0), (378, 1, 215, 2, 0), (382, 7, 0, 0, 1103515245), (383, 2, 217, 1, 0), (386, 0, 12, 64, 0), (389, 1, 222, 2, 0), (392, 1, 223, 1, 0), (395, 0, 12, 65, 0), (398, 0, 12, 69, 0), (401, 0, 12, 66, 0), (404, 0, 12, 67, 0), (407, 0, 12, 70, 0), (410, 0, 12, 71, 0), (413, 0, 12, 68, 0), (416, 1, 221, 3, 0), (420, 1, 220, 1, 0), (423, 1, 226, 2, 0), (426, 1, 228, 1, 0), (429, 1, 234, 4, 0), (433, 2, 235, 3, 0), (437, 1, 233, 4, 0), (440, 1, 231, 1, 0), (443, 1, 232, 3, 0), (447, 1, 230, 2, 0), (449, 2, 241, 2, 0), (452, 1, 240, 3, 0), (455, 1, 239, 1, 0), (458, 1, 238, 2, 0), (461, 1, 246, 4, 0), (465, 1, 248, 4, 0), (469, 0, 12, 81, 0)]
def za_cp13 : List (Nat × za_row) := [(7, 1, 49, 1, 0), (8, 5, 11, 0, 0), (13, 6, 1, 0, 0), (15, 1, 101, 1, 0), (18, 6, 0, 0, 0), (20, 1, 103, 2, 0), (24, 1, 107, 2, 0), (27, 1, 110, 3, 0), (31, 1, 112, 3, 0), (34, 1, 115, 3, 0), (37, 1, 119, 2, 0), (40, 1, 121, 1, 0), (44, 1, 123, 2, 0), (48, 1, 133, 2, 0), (51, 1, 136, 3, 0), (54, 1, 138, 1, 0), (57, 1, 151, 1, 0), (60, 1, 153, 2, 0), (63, 1, 156, 1, 0), (67, 1, 158, 2, 0), (70, 1, 163, 3, 0), (73, 3, 0, 0, 0), (74, 5, 12, 0, 0), (76, 3, 166, 0, 0), (77, 1, 17, 5, 0), (81, 1, 167, 5, 0), (82, 2, 48, 3, 0), (87, 1, 169, 1, 0), (88, 1, 19, 0, 0), (92, 1, 205, 0, 0), (93, 2, 100, 3, 0), (95, 1, 206, 1, 0), (96, 2, 102, 4, 0), (99, 1, 207, 2, 0), (100, 2, 106, 4, 0), (102, 1, 209, 2, 0), (103, 2, 109, 5, 0), (106, 1, 211, 3, 0), (107, 2, 111, 5, 0), (109, 1, 213, 3, 0), (110, 2, 114, 5, 0), (112, 1, 216, 3, 0), (113, 1, 20, 0, 0), (116, 1, 218, 0, 0), (117, 2, 118, 4, 0), (119, 1, 219, 2, 0), (120, 2, 120, 3, 0), (122, 1, 224, 1, 0), (123, 2, 122, 4, 0), (125, 1, 225, 2, 0), (126, 2, 132, 4, 0), (128, 1, 227, 2, 0), (129, 2, 135, 5, 0), (131, 1, 229, 3, 0), (132, 1, 22, 0, 0), (135, 1, 236, 0, 0), (136, 2, 137, 3, 0), (138, 1, 237, 1, 0), (139, 2, 150, 3, 0), (141, 1, 242, 1, 0), (142, 2, 152, 4, 0), (144, 1, 243, 2, 0), (145, 2, 155, 3, 0), (147, 1, 244, 1, 0), (148, 2, 157, 4, 0), (150, 1, 245, 2, 0), (151, 2, 162, 5, 0), (153, 1, 247, 3, 0), (154, 1, 45, 0, 0), (157, 1, 249, 0, 0), (158, 1, 47, 0, 0), (162, 1, 250, 0, 0)]
def za_cp14 : List (Nat × za_row) := [(264, 7, 0, 0, 65536), (265, 7, 0, 0, 1431655765), (266, 7, 0, 0, 858993459), (267, 7, 0, 0, 252645135)]
def za_cp15 : List (Nat × za_row) := [(314, 8, 0, 0, 6148914691236517205), (316, 8, 0, 0, 3689348814741910323), (318, 8, 0, 0, 1085102592571150095)]
def za_cp16 : List (Nat × za_row) := []
def za_cp17 : List (Nat × za_row) := []
def za_lk : List (Nat × za_row) → Nat → Option za_row
  | [], _ => none
  | q :: l, k => bif Nat.beq q.1 k then some q.2 else za_lk l k
def za_cpl (c : Nat) : List (Nat × za_row) := match c with
  | 0 => za_cp0
  | 1 => za_cp1
  | 2 => za_cp2
  | 3 => za_cp3
  | 4 => za_cp4
  | 5 => za_cp5
  | 6 => za_cp6
  | 7 => za_cp7
  | 8 => za_cp8
  | 9 => za_cp9
  | 10 => za_cp10
  | 11 => za_cp11
  | 12 => za_cp12
  | 13 => za_cp13
  | 14 => za_cp14
  | 15 => za_cp15
  | 16 => za_cp16
  | 17 => za_cp17
  | _ => []
def za_CP (c k : Nat) : Option za_row := za_lk (za_cpl c) k
def za_ow (c : Nat) : String := match c with
  | 0 => RX0
  | 1 => RX1
  | 2 => RX2
  | 3 => RX3
  | 4 => RX4
  | 5 => RX5
  | 6 => RX6
  | 7 => RX7
  | 8 => RX8
  | 9 => RX9
  | 10 => RX10
  | 11 => RX11
  | 12 => RX12
  | 13 => RL
  | 14 => RJ6
  | 15 => RJ13
  | 16 => RJ9
  | _ => RJ7
def zL : za_MI := (yL_law, cL_law, 8, some .boolean, 13, 601024, 7293033, [], za_iL)
end
section
/-! ===== the instructions are the code's; each method's word ===== -/
def za_ln (i : Instr) : Nat := match i with
  | .iload _ | .lload _ | .aload _ | .istore _ | .lstore _ | .astore _ | .bipush _ | .ldc _ | .newarray _ => 2
  | .sipush _ | .ldc_w _ | .ldc2_w _ | .iinc _ _ | .ifCond _ _ | .if_icmp _ _ | .goto _ | .getfield _ | .putfield _ | .invokevirtual _ | .invokestatic _ | .invokespecial _ | .new _ => 3
  | _ => 1
def za_sw (i : Instr) : Bool := match i with
  | .tableswitch _ _ _ _ => true
  | .lookupswitch _ _ => true
  | _ => false
def za_dok (cc : ByteArray) (q : Nat × Instr) : Bool := match decode cc q.1 with
  | .ok (i, n) => decide (i = q.2) && (za_sw i || Nat.beq n (za_ln i))
  | _ => false
theorem za_dok_ok {cc : ByteArray} {q : Nat × Instr} (h : za_dok cc q = true) : ∃ n, decode cc q.1 = .ok (q.2, n) ∧ (za_sw q.2 = true ∨ n = za_ln q.2) := by
  unfold za_dok at h
  split at h
  · rename_i i n hd
    simp only [Bool.and_eq_true, decide_eq_true_eq, Bool.or_eq_true] at h
    obtain ⟨e, h⟩ := h
    subst e
    exact ⟨n, hd, h.elim Or.inl (fun z => Or.inr (Nat.eq_of_beq_eq_true z))⟩
  · cases h
theorem za_fe_mem : ∀ {l : List (Nat × Instr)} {pc : Nat} {i : Instr}, za_fe l pc = some i → (pc, i) ∈ l
  | [], _, _, h => by cases h
  | q :: l, k, r, h => by
    unfold za_fe at h
    cases hb : Nat.beq q.1 k with
    | true =>
      have e := Nat.eq_of_beq_eq_true hb
      simp only [hb, cond_true, Option.some.injEq] at h
      obtain ⟨q1, q2⟩ := q
      dsimp only at h e
      rw [← e, ← h]
      exact List.mem_cons_self
    | false =>
      simp only [hb, cond_false] at h
      exact List.mem_cons_of_mem _ (za_fe_mem h)
theorem za_fe_ok {cc : ByteArray} {l : List (Nat × Instr)} {pc : Nat} {i : Instr} (hl : l.all (za_dok cc) = true) (h : za_fe l pc = some i) : ∃ n, decode cc pc = .ok (i, n) ∧ (za_sw i = true ∨ n = za_ln i) := za_dok_ok (q := (pc, i)) (List.all_eq_true.mp hl (pc, i) (za_fe_mem h))
theorem za_fe_1 {cc : ByteArray} {l : List (Nat × Instr)} {pc : Nat} {i : Instr} (hl : l.all (za_dok cc) = true) (h : za_fe l pc = some i) (hs : za_sw i = false) : decode cc pc = .ok (i, za_ln i) := by
  obtain ⟨n, h1, h2⟩ := za_fe_ok hl h
  rcases h2 with h2 | h2
  · rw [h2] at hs; cases hs
  · rw [← h2]; exact h1
theorem zd_0 : za_i0.all (za_dok prog_1_method_1_code) = true := by decide +kernel
theorem zd_1 : za_i1.all (za_dok prog_12_method_1_code) = true := by decide +kernel
theorem zd_2 : za_i2.all (za_dok prog_12_method_2_code) = true := by decide +kernel
theorem zd_3 : za_i3.all (za_dok prog_12_method_3_code) = true := by decide +kernel
theorem zd_4 : za_i4.all (za_dok prog_1_method_31_code) = true := by decide +kernel
theorem zd_5 : za_i5.all (za_dok prog_31_method_103_code) = true := by decide +kernel
theorem zd_6 : za_i6.all (za_dok prog_31_method_101_code) = true := by decide +kernel
theorem zd_7 : za_i7.all (za_dok prog_2_method_1_code) = true := by decide +kernel
theorem zd_8 : za_i8.all (za_dok prog_9_method_1_code) = true := by decide +kernel
theorem zd_9 : za_i9.all (za_dok prog_11_method_1_code) = true := by decide +kernel
theorem zd_10 : za_i10.all (za_dok prog_4_method_1_code) = true := by decide +kernel
theorem zd_11 : za_i11.all (za_dok prog_10_method_1_code) = true := by decide +kernel
theorem zd_12 : za_i12.all (za_dok prog_5_method_1_code) = true := by decide +kernel
theorem zd_13 : za_i13.all (za_dok prog_7_method_1_code) = true := by decide +kernel
theorem zd_14 : za_i14.all (za_dok prog_3_method_1_code) = true := by decide +kernel
theorem zd_15 : za_i15.all (za_dok prog_6_method_1_code) = true := by decide +kernel
theorem zd_16 : za_i16.all (za_dok prog_8_method_1_code) = true := by decide +kernel
theorem zd_17 : za_i17.all (za_dok prog_1_method_2_code) = true := by decide +kernel
theorem zd_18 : za_i18.all (za_dok prog_1_method_3_code) = true := by decide +kernel
theorem zd_19 : za_i19.all (za_dok prog_1_method_6_code) = true := by decide +kernel
theorem zd_20 : za_i20.all (za_dok prog_1_method_13_code) = true := by decide +kernel
theorem zd_21 : za_i21.all (za_dok prog_2_method_10_code) = true := by decide +kernel
theorem zd_22 : za_i22.all (za_dok prog_1_method_19_code) = true := by decide +kernel
theorem zd_23 : za_i23.all (za_dok prog_10_method_8_code) = true := by decide +kernel
theorem zd_24 : za_i24.all (za_dok prog_10_method_6_code) = true := by decide +kernel
theorem zd_25 : za_i25.all (za_dok prog_10_method_2_code) = true := by decide +kernel
theorem zd_26 : za_i26.all (za_dok prog_2_method_5_code) = true := by decide +kernel
theorem zd_27 : za_i27.all (za_dok prog_2_method_6_code) = true := by decide +kernel
theorem zd_28 : za_i28.all (za_dok prog_10_method_5_code) = true := by decide +kernel
theorem zd_29 : za_i29.all (za_dok prog_10_method_3_code) = true := by decide +kernel
theorem zd_30 : za_i30.all (za_dok prog_12_method_10_code) = true := by decide +kernel
theorem zd_31 : za_i31.all (za_dok prog_10_method_4_code) = true := by decide +kernel
theorem zd_32 : za_i32.all (za_dok prog_12_method_7_code) = true := by decide +kernel
theorem zd_33 : za_i33.all (za_dok prog_12_method_11_code) = true := by decide +kernel
theorem zd_34 : za_i34.all (za_dok prog_10_method_7_code) = true := by decide +kernel
theorem zd_35 : za_i35.all (za_dok prog_7_method_2_code) = true := by decide +kernel
theorem zd_36 : za_i36.all (za_dok prog_7_method_3_code) = true := by decide +kernel
theorem zd_37 : za_i37.all (za_dok prog_12_method_5_code) = true := by decide +kernel
theorem zd_38 : za_i38.all (za_dok prog_7_method_4_code) = true := by decide +kernel
theorem zd_39 : za_i39.all (za_dok prog_12_method_6_code) = true := by decide +kernel
theorem zd_40 : za_i40.all (za_dok prog_7_method_5_code) = true := by decide +kernel
theorem zd_41 : za_i41.all (za_dok prog_7_method_6_code) = true := by decide +kernel
theorem zd_42 : za_i42.all (za_dok prog_7_method_7_code) = true := by decide +kernel
theorem zd_43 : za_i43.all (za_dok prog_7_method_8_code) = true := by decide +kernel
theorem zd_44 : za_i44.all (za_dok prog_7_method_9_code) = true := by decide +kernel
theorem zd_45 : za_i45.all (za_dok prog_1_method_26_code) = true := by decide +kernel
theorem zd_46 : za_i46.all (za_dok prog_2_method_11_code) = true := by decide +kernel
theorem zd_47 : za_i47.all (za_dok prog_1_method_27_code) = true := by decide +kernel
theorem zd_48 : za_i48.all (za_dok method_3_code) = true := by decide +kernel
theorem zd_49 : za_i49.all (za_dok prog_1_method_4_code) = true := by decide +kernel
theorem zd_50 : za_i50.all (za_dok prog_9_method_2_code) = true := by decide +kernel
theorem zd_51 : za_i51.all (za_dok prog_2_method_2_code) = true := by decide +kernel
theorem zd_52 : za_i52.all (za_dok prog_4_method_2_code) = true := by decide +kernel
theorem zd_53 : za_i53.all (za_dok prog_11_method_2_code) = true := by decide +kernel
theorem zd_54 : za_i54.all (za_dok prog_22_method_69_code) = true := by decide +kernel
theorem zd_55 : za_i55.all (za_dok prog_11_method_3_code) = true := by decide +kernel
theorem zd_56 : za_i56.all (za_dok prog_11_method_4_code) = true := by decide +kernel
theorem zd_57 : za_i57.all (za_dok prog_11_method_6_code) = true := by decide +kernel
theorem zd_58 : za_i58.all (za_dok prog_11_method_5_code) = true := by decide +kernel
theorem zd_59 : za_i59.all (za_dok prog_11_method_7_code) = true := by decide +kernel
theorem zd_60 : za_i60.all (za_dok prog_11_method_8_code) = true := by decide +kernel
theorem zd_61 : za_i61.all (za_dok prog_9_method_5_code) = true := by decide +kernel
theorem zd_62 : za_i62.all (za_dok prog_9_method_3_code) = true := by decide +kernel
theorem zd_63 : za_i63.all (za_dok prog_9_method_6_code) = true := by decide +kernel
theorem zd_64 : za_i64.all (za_dok prog_9_method_12_code) = true := by decide +kernel
theorem zd_65 : za_i65.all (za_dok prog_9_method_9_code) = true := by decide +kernel
theorem zd_66 : za_i66.all (za_dok prog_9_method_8_code) = true := by decide +kernel
theorem zd_67 : za_i67.all (za_dok prog_21_method_50_code) = true := by decide +kernel
theorem zd_68 : za_i68.all (za_dok prog_9_method_7_code) = true := by decide +kernel
theorem zd_69 : za_i69.all (za_dok prog_9_method_13_code) = true := by decide +kernel
theorem zd_70 : za_i70.all (za_dok prog_9_method_11_code) = true := by decide +kernel
theorem zd_71 : za_i71.all (za_dok prog_9_method_14_code) = true := by decide +kernel
theorem zd_72 : za_i72.all (za_dok prog_12_method_9_code) = true := by decide +kernel
theorem zd_73 : za_i73.all (za_dok prog_9_method_10_code) = true := by decide +kernel
theorem zd_74 : za_i74.all (za_dok prog_11_method_10_code) = true := by decide +kernel
theorem zd_75 : za_i75.all (za_dok prog_12_method_8_code) = true := by decide +kernel
theorem zd_76 : za_i76.all (za_dok prog_9_method_15_code) = true := by decide +kernel
theorem zd_77 : za_i77.all (za_dok prog_2_method_3_code) = true := by decide +kernel
theorem zd_78 : za_i78.all (za_dok prog_2_method_4_code) = true := by decide +kernel
theorem zd_79 : za_i79.all (za_dok prog_9_method_16_code) = true := by decide +kernel
theorem zd_80 : za_i80.all (za_dok prog_9_method_17_code) = true := by decide +kernel
theorem zd_81 : za_i81.all (za_dok prog_9_method_18_code) = true := by decide +kernel
theorem zd_82 : za_i82.all (za_dok prog_9_method_19_code) = true := by decide +kernel
theorem zd_83 : za_i83.all (za_dok prog_9_method_20_code) = true := by decide +kernel
theorem zd_84 : za_i84.all (za_dok prog_9_method_21_code) = true := by decide +kernel
theorem zd_85 : za_i85.all (za_dok prog_4_method_6_code) = true := by decide +kernel
theorem zd_86 : za_i86.all (za_dok prog_11_method_11_code) = true := by decide +kernel
theorem zd_87 : za_i87.all (za_dok prog_4_method_3_code) = true := by decide +kernel
theorem zd_88 : za_i88.all (za_dok prog_4_method_7_code) = true := by decide +kernel
theorem zd_89 : za_i89.all (za_dok prog_4_method_8_code) = true := by decide +kernel
theorem zd_90 : za_i90.all (za_dok prog_11_method_9_code) = true := by decide +kernel
theorem zd_91 : za_i91.all (za_dok prog_4_method_9_code) = true := by decide +kernel
theorem zd_92 : za_i92.all (za_dok prog_4_method_10_code) = true := by decide +kernel
theorem zd_93 : za_i93.all (za_dok prog_4_method_11_code) = true := by decide +kernel
theorem zd_94 : za_i94.all (za_dok prog_4_method_12_code) = true := by decide +kernel
theorem zd_95 : za_i95.all (za_dok prog_4_method_4_code) = true := by decide +kernel
theorem zd_96 : za_i96.all (za_dok prog_4_method_5_code) = true := by decide +kernel
theorem zd_97 : za_i97.all (za_dok prog_9_method_4_code) = true := by decide +kernel
theorem zd_98 : za_i98.all (za_dok prog_1_method_5_code) = true := by decide +kernel
theorem zd_99 : za_i99.all (za_dok prog_3_method_2_code) = true := by decide +kernel
theorem zd_100 : za_i100.all (za_dok method_4_code) = true := by decide +kernel
theorem zd_101 : za_i101.all (za_dok prog_1_method_7_code) = true := by decide +kernel
theorem zd_102 : za_i102.all (za_dok method_5_code) = true := by decide +kernel
theorem zd_103 : za_i103.all (za_dok prog_1_method_8_code) = true := by decide +kernel
theorem zd_104 : za_i104.all (za_dok prog_1_method_30_code) = true := by decide +kernel
theorem zd_105 : za_i105.all (za_dok prog_12_method_4_code) = true := by decide +kernel
theorem zd_106 : za_i106.all (za_dok method_6_code) = true := by decide +kernel
theorem zd_107 : za_i107.all (za_dok prog_1_method_9_code) = true := by decide +kernel
theorem zd_108 : za_i108.all (za_dok prog_1_method_28_code) = true := by decide +kernel
theorem zd_109 : za_i109.all (za_dok method_7_code) = true := by decide +kernel
theorem zd_110 : za_i110.all (za_dok prog_1_method_10_code) = true := by decide +kernel
theorem zd_111 : za_i111.all (za_dok method_8_code) = true := by decide +kernel
theorem zd_112 : za_i112.all (za_dok prog_1_method_11_code) = true := by decide +kernel
theorem zd_113 : za_i113.all (za_dok prog_2_method_9_code) = true := by decide +kernel
theorem zd_114 : za_i114.all (za_dok method_9_code) = true := by decide +kernel
theorem zd_115 : za_i115.all (za_dok prog_1_method_12_code) = true := by decide +kernel
theorem zd_116 : za_i116.all (za_dok prog_2_method_8_code) = true := by decide +kernel
theorem zd_117 : za_i117.all (za_dok prog_20_method_49_code) = true := by decide +kernel
theorem zd_118 : za_i118.all (za_dok method_10_code) = true := by decide +kernel
theorem zd_119 : za_i119.all (za_dok prog_1_method_14_code) = true := by decide +kernel
theorem zd_120 : za_i120.all (za_dok method_11_code) = true := by decide +kernel
theorem zd_121 : za_i121.all (za_dok prog_1_method_15_code) = true := by decide +kernel
theorem zd_122 : za_i122.all (za_dok method_12_code) = true := by decide +kernel
theorem zd_123 : za_i123.all (za_dok prog_1_method_16_code) = true := by decide +kernel
theorem zd_124 : za_i124.all (za_dok prog_5_method_2_code) = true := by decide +kernel
end
section
theorem zd_125 : za_i125.all (za_dok prog_2_method_7_code) = true := by decide +kernel
theorem zd_126 : za_i126.all (za_dok prog_5_method_5_code) = true := by decide +kernel
theorem zd_127 : za_i127.all (za_dok prog_5_method_3_code) = true := by decide +kernel
theorem zd_128 : za_i128.all (za_dok prog_12_method_14_code) = true := by decide +kernel
theorem zd_129 : za_i129.all (za_dok prog_12_method_13_code) = true := by decide +kernel
theorem zd_130 : za_i130.all (za_dok prog_12_method_15_code) = true := by decide +kernel
theorem zd_131 : za_i131.all (za_dok prog_5_method_4_code) = true := by decide +kernel
theorem zd_132 : za_i132.all (za_dok method_13_code) = true := by decide +kernel
theorem zd_133 : za_i133.all (za_dok prog_1_method_17_code) = true := by decide +kernel
theorem zd_134 : za_i134.all (za_dok prog_1_method_29_code) = true := by decide +kernel
theorem zd_135 : za_i135.all (za_dok method_14_code) = true := by decide +kernel
theorem zd_136 : za_i136.all (za_dok prog_1_method_18_code) = true := by decide +kernel
theorem zd_137 : za_i137.all (za_dok method_15_code) = true := by decide +kernel
theorem zd_138 : za_i138.all (za_dok prog_1_method_20_code) = true := by decide +kernel
theorem zd_139 : za_i139.all (za_dok prog_3_method_3_code) = true := by decide +kernel
theorem zd_140 : za_i140.all (za_dok prog_3_method_4_code) = true := by decide +kernel
theorem zd_141 : za_i141.all (za_dok prog_3_method_6_code) = true := by decide +kernel
theorem zd_142 : za_i142.all (za_dok prog_3_method_7_code) = true := by decide +kernel
theorem zd_143 : za_i143.all (za_dok prog_12_method_12_code) = true := by decide +kernel
theorem zd_144 : za_i144.all (za_dok prog_22_method_59_code) = true := by decide +kernel
theorem zd_145 : za_i145.all (za_dok prog_22_method_65_code) = true := by decide +kernel
theorem zd_146 : za_i146.all (za_dok prog_3_method_8_code) = true := by decide +kernel
theorem zd_147 : za_i147.all (za_dok prog_20_method_48_code) = true := by decide +kernel
theorem zd_148 : za_i148.all (za_dok prog_3_method_9_code) = true := by decide +kernel
theorem zd_149 : za_i149.all (za_dok prog_3_method_10_code) = true := by decide +kernel
theorem zd_150 : za_i150.all (za_dok method_16_code) = true := by decide +kernel
theorem zd_151 : za_i151.all (za_dok prog_1_method_21_code) = true := by decide +kernel
theorem zd_152 : za_i152.all (za_dok method_17_code) = true := by decide +kernel
theorem zd_153 : za_i153.all (za_dok prog_1_method_22_code) = true := by decide +kernel
theorem zd_154 : za_i154.all (za_dok prog_3_method_5_code) = true := by decide +kernel
theorem zd_155 : za_i155.all (za_dok method_18_code) = true := by decide +kernel
theorem zd_156 : za_i156.all (za_dok prog_1_method_23_code) = true := by decide +kernel
theorem zd_157 : za_i157.all (za_dok method_19_code) = true := by decide +kernel
theorem zd_158 : za_i158.all (za_dok prog_1_method_24_code) = true := by decide +kernel
theorem zd_159 : za_i159.all (za_dok prog_6_method_2_code) = true := by decide +kernel
theorem zd_160 : za_i160.all (za_dok prog_6_method_3_code) = true := by decide +kernel
theorem zd_161 : za_i161.all (za_dok prog_12_method_16_code) = true := by decide +kernel
theorem zd_162 : za_i162.all (za_dok method_20_code) = true := by decide +kernel
theorem zd_163 : za_i163.all (za_dok prog_1_method_25_code) = true := by decide +kernel
theorem zd_164 : za_i164.all (za_dok prog_8_method_2_code) = true := by decide +kernel
theorem zd_165 : za_i165.all (za_dok prog_8_method_3_code) = true := by decide +kernel
theorem zd_166 : za_i166.all (za_dok prog_14_method_1_code) = true := by decide +kernel
theorem zd_167 : za_i167.all (za_dok prog_14_method_8_code) = true := by decide +kernel
theorem zd_168 : za_i168.all (za_dok prog_14_method_9_code) = true := by decide +kernel
theorem zd_169 : za_i169.all (za_dok prog_14_method_42_code) = true := by decide +kernel
theorem zd_170 : za_i170.all (za_dok prog_14_method_3_code) = true := by decide +kernel
theorem zd_171 : za_i171.all (za_dok prog_14_method_13_code) = true := by decide +kernel
theorem zd_172 : za_i172.all (za_dok prog_14_method_10_code) = true := by decide +kernel
theorem zd_173 : za_i173.all (za_dok prog_14_method_11_code) = true := by decide +kernel
theorem zd_174 : za_i174.all (za_dok prog_14_method_12_code) = true := by decide +kernel
theorem zd_175 : za_i175.all (za_dok prog_14_method_18_code) = true := by decide +kernel
theorem zd_176 : za_i176.all (za_dok prog_14_method_41_code) = true := by decide +kernel
theorem zd_177 : za_i177.all (za_dok prog_14_method_16_code) = true := by decide +kernel
theorem zd_178 : za_i178.all (za_dok prog_14_method_15_code) = true := by decide +kernel
theorem zd_179 : za_i179.all (za_dok prog_14_method_14_code) = true := by decide +kernel
theorem zd_180 : za_i180.all (za_dok prog_14_method_17_code) = true := by decide +kernel
theorem zd_181 : za_i181.all (za_dok prog_14_method_22_code) = true := by decide +kernel
theorem zd_182 : za_i182.all (za_dok prog_14_method_21_code) = true := by decide +kernel
theorem zd_183 : za_i183.all (za_dok prog_14_method_36_code) = true := by decide +kernel
theorem zd_184 : za_i184.all (za_dok prog_14_method_24_code) = true := by decide +kernel
theorem zd_185 : za_i185.all (za_dok prog_14_method_4_code) = true := by decide +kernel
theorem zd_186 : za_i186.all (za_dok prog_14_method_20_code) = true := by decide +kernel
theorem zd_187 : za_i187.all (za_dok prog_14_method_38_code) = true := by decide +kernel
theorem zd_188 : za_i188.all (za_dok prog_14_method_37_code) = true := by decide +kernel
theorem zd_189 : za_i189.all (za_dok prog_14_method_23_code) = true := by decide +kernel
theorem zd_190 : za_i190.all (za_dok prog_14_method_39_code) = true := by decide +kernel
theorem zd_191 : za_i191.all (za_dok prog_14_method_40_code) = true := by decide +kernel
theorem zd_192 : za_i192.all (za_dok prog_14_method_35_code) = true := by decide +kernel
theorem zd_193 : za_i193.all (za_dok prog_14_method_31_code) = true := by decide +kernel
theorem zd_194 : za_i194.all (za_dok prog_14_method_19_code) = true := by decide +kernel
theorem zd_195 : za_i195.all (za_dok prog_14_method_32_code) = true := by decide +kernel
theorem zd_196 : za_i196.all (za_dok prog_14_method_29_code) = true := by decide +kernel
theorem zd_197 : za_i197.all (za_dok prog_14_method_30_code) = true := by decide +kernel
theorem zd_198 : za_i198.all (za_dok prog_14_method_25_code) = true := by decide +kernel
theorem zd_199 : za_i199.all (za_dok prog_14_method_28_code) = true := by decide +kernel
theorem zd_200 : za_i200.all (za_dok prog_14_method_26_code) = true := by decide +kernel
theorem zd_201 : za_i201.all (za_dok prog_14_method_27_code) = true := by decide +kernel
theorem zd_202 : za_i202.all (za_dok prog_14_method_33_code) = true := by decide +kernel
theorem zd_203 : za_i203.all (za_dok prog_14_method_34_code) = true := by decide +kernel
theorem zd_204 : za_i204.all (za_dok prog_14_method_7_code) = true := by decide +kernel
theorem zd_205 : za_i205.all (za_dok prog_14_method_43_code) = true := by decide +kernel
theorem zd_206 : za_i206.all (za_dok prog_14_method_44_code) = true := by decide +kernel
theorem zd_207 : za_i207.all (za_dok prog_14_method_48_code) = true := by decide +kernel
theorem zd_208 : za_i208.all (za_dok prog_14_method_47_code) = true := by decide +kernel
theorem zd_209 : za_i209.all (za_dok prog_14_method_50_code) = true := by decide +kernel
theorem zd_210 : za_i210.all (za_dok prog_14_method_45_code) = true := by decide +kernel
theorem zd_211 : za_i211.all (za_dok prog_14_method_51_code) = true := by decide +kernel
theorem zd_212 : za_i212.all (za_dok prog_14_method_49_code) = true := by decide +kernel
theorem zd_213 : za_i213.all (za_dok prog_14_method_54_code) = true := by decide +kernel
theorem zd_214 : za_i214.all (za_dok prog_14_method_53_code) = true := by decide +kernel
theorem zd_215 : za_i215.all (za_dok prog_14_method_52_code) = true := by decide +kernel
theorem zd_216 : za_i216.all (za_dok prog_14_method_55_code) = true := by decide +kernel
theorem zd_217 : za_i217.all (za_dok prog_14_method_6_code) = true := by decide +kernel
theorem zd_218 : za_i218.all (za_dok prog_14_method_56_code) = true := by decide +kernel
theorem zd_219 : za_i219.all (za_dok prog_14_method_61_code) = true := by decide +kernel
theorem zd_220 : za_i220.all (za_dok prog_14_method_60_code) = true := by decide +kernel
theorem zd_221 : za_i221.all (za_dok prog_14_method_59_code) = true := by decide +kernel
theorem zd_222 : za_i222.all (za_dok prog_14_method_57_code) = true := by decide +kernel
theorem zd_223 : za_i223.all (za_dok prog_14_method_58_code) = true := by decide +kernel
theorem zd_224 : za_i224.all (za_dok prog_14_method_62_code) = true := by decide +kernel
theorem zd_225 : za_i225.all (za_dok prog_14_method_64_code) = true := by decide +kernel
theorem zd_226 : za_i226.all (za_dok prog_14_method_63_code) = true := by decide +kernel
theorem zd_227 : za_i227.all (za_dok prog_14_method_65_code) = true := by decide +kernel
theorem zd_228 : za_i228.all (za_dok prog_14_method_46_code) = true := by decide +kernel
theorem zd_229 : za_i229.all (za_dok prog_14_method_72_code) = true := by decide +kernel
theorem zd_230 : za_i230.all (za_dok prog_14_method_71_code) = true := by decide +kernel
theorem zd_231 : za_i231.all (za_dok prog_14_method_66_code) = true := by decide +kernel
theorem zd_232 : za_i232.all (za_dok prog_14_method_70_code) = true := by decide +kernel
theorem zd_233 : za_i233.all (za_dok prog_14_method_69_code) = true := by decide +kernel
theorem zd_234 : za_i234.all (za_dok prog_14_method_67_code) = true := by decide +kernel
theorem zd_235 : za_i235.all (za_dok prog_14_method_68_code) = true := by decide +kernel
theorem zd_236 : za_i236.all (za_dok prog_14_method_73_code) = true := by decide +kernel
theorem zd_237 : za_i237.all (za_dok prog_14_method_77_code) = true := by decide +kernel
theorem zd_238 : za_i238.all (za_dok prog_14_method_76_code) = true := by decide +kernel
theorem zd_239 : za_i239.all (za_dok prog_14_method_75_code) = true := by decide +kernel
theorem zd_240 : za_i240.all (za_dok prog_14_method_74_code) = true := by decide +kernel
theorem zd_241 : za_i241.all (za_dok prog_14_method_5_code) = true := by decide +kernel
theorem zd_242 : za_i242.all (za_dok prog_14_method_78_code) = true := by decide +kernel
theorem zd_243 : za_i243.all (za_dok prog_14_method_79_code) = true := by decide +kernel
theorem zd_244 : za_i244.all (za_dok prog_14_method_80_code) = true := by decide +kernel
theorem zd_245 : za_i245.all (za_dok prog_14_method_82_code) = true := by decide +kernel
theorem zd_246 : za_i246.all (za_dok prog_14_method_81_code) = true := by decide +kernel
theorem zd_247 : za_i247.all (za_dok prog_14_method_84_code) = true := by decide +kernel
theorem zd_248 : za_i248.all (za_dok prog_14_method_83_code) = true := by decide +kernel
theorem zd_249 : za_i249.all (za_dok prog_14_method_85_code) = true := by decide +kernel
theorem zd_250 : za_i250.all (za_dok prog_14_method_86_code) = true := by decide +kernel
end
section
def za_iL0 : List (Nat × Instr) := [(0, .new 8), (3, .dup), (4, .invokespecial 73), (7, .astore_n 1), (8, .new 74), (11, .dup), (12, .invokespecial 76), (15, .astore_n 2), (16, .iconst 1), (17, .newarray .long), (19, .astore_n 3), (20, .iconst 0), (21, .istore 4), (23, .iload 4), (25, .aload_n 0), (26, .arraylength), (27, .bipush 6), (29, .isub), (30, .if_icmp .gt 972), (33, .aload_n 0), (34, .iload 4), (36, .iaload), (37, .bipush 31), (39, .iand), (40, .tableswitch 956 0 23 #[112, 185, 213, 226, 254, 294, 334, 386, 438, 490, 503, 543, 571, 611, 651, 703, 716, 744, 772, 812, 840, 880, 932, 943]), (152, .aload_n 1), (153, .aload_n 0), (154, .iload 4), (156, .iconst 1), (157, .iadd), (158, .iaload), (159, .aload_n 0), (160, .iload 4), (162, .iconst 2), (163, .iadd), (164, .iaload), (165, .aload_n 0), (166, .iload 4), (168, .iconst 3), (169, .iadd), (170, .iaload), (171, .aload_n 0), (172, .iload 4), (174, .iconst 4), (175, .iadd), (176, .iaload), (177, .aload_n 0), (178, .iload 4), (180, .iconst 5), (181, .iadd), (182, .iaload), (183, .invokevirtual 77), (186, .aload_n 2), (187, .aload_n 0), (188, .iload 4), (190, .iconst 1), (191, .iadd), (192, .iaload), (193, .aload_n 0), (194, .iload 4)]
theorem zd_L0 : za_iL0.all (za_dok cL_law) = true := by decide +kernel
def za_iL1 : List (Nat × Instr) := [(196, .iconst 2), (197, .iadd), (198, .iaload), (199, .aload_n 0), (200, .iload 4), (202, .iconst 3), (203, .iadd), (204, .iaload), (205, .aload_n 0), (206, .iload 4), (208, .iconst 4), (209, .iadd), (210, .iaload), (211, .aload_n 0), (212, .iload 4), (214, .iconst 5), (215, .iadd), (216, .iaload), (217, .invokevirtual 81), (220, .if_icmp .eq 776), (223, .iconst 0), (224, .ireturn), (225, .aload_n 1), (226, .aload_n 0), (227, .iload 4), (229, .iconst 1), (230, .iadd), (231, .iaload), (232, .aload_n 3), (233, .invokestatic 82), (236, .istore 5), (238, .aload_n 2), (239, .aload_n 0), (240, .iload 4), (242, .iconst 1), (243, .iadd), (244, .iaload), (245, .invokevirtual 87), (248, .istore 6), (250, .goto 746), (253, .aload_n 1), (254, .invokevirtual 88), (257, .pop), (258, .aload_n 2), (259, .invokevirtual 92), (262, .pop), (263, .goto 733), (266, .aload_n 1), (267, .aload_n 0), (268, .iload 4), (270, .iconst 1), (271, .iadd), (272, .iaload), (273, .aload_n 3), (274, .invokestatic 93), (277, .istore 5), (279, .aload_n 2), (280, .aload_n 0), (281, .iload 4), (283, .iconst 1)]
theorem zd_L1 : za_iL1.all (za_dok cL_law) = true := by decide +kernel
def za_iL2 : List (Nat × Instr) := [(284, .iadd), (285, .iaload), (286, .invokevirtual 95), (289, .istore 6), (291, .goto 705), (294, .aload_n 1), (295, .aload_n 0), (296, .iload 4), (298, .iconst 1), (299, .iadd), (300, .iaload), (301, .aload_n 0), (302, .iload 4), (304, .iconst 2), (305, .iadd), (306, .iaload), (307, .aload_n 3), (308, .invokestatic 96), (311, .istore 5), (313, .aload_n 2), (314, .aload_n 0), (315, .iload 4), (317, .iconst 1), (318, .iadd), (319, .iaload), (320, .aload_n 0), (321, .iload 4), (323, .iconst 2), (324, .iadd), (325, .iaload), (326, .invokevirtual 99), (329, .istore 6), (331, .goto 665), (334, .aload_n 1), (335, .aload_n 0), (336, .iload 4), (338, .iconst 1), (339, .iadd), (340, .iaload), (341, .aload_n 0), (342, .iload 4), (344, .iconst 2), (345, .iadd), (346, .iaload), (347, .aload_n 3), (348, .invokestatic 100), (351, .istore 5), (353, .aload_n 2), (354, .aload_n 0), (355, .iload 4), (357, .iconst 1), (358, .iadd), (359, .iaload), (360, .aload_n 0), (361, .iload 4), (363, .iconst 2), (364, .iadd), (365, .iaload), (366, .invokevirtual 102), (369, .istore 6)]
theorem zd_L2 : za_iL2.all (za_dok cL_law) = true := by decide +kernel
def za_iL3 : List (Nat × Instr) := [(371, .goto 625), (374, .aload_n 1), (375, .aload_n 0), (376, .iload 4), (378, .iconst 1), (379, .iadd), (380, .iaload), (381, .aload_n 0), (382, .iload 4), (384, .iconst 2), (385, .iadd), (386, .iaload), (387, .aload_n 0), (388, .iload 4), (390, .iconst 3), (391, .iadd), (392, .iaload), (393, .aload_n 3), (394, .invokestatic 103), (397, .istore 5), (399, .aload_n 2), (400, .aload_n 0), (401, .iload 4), (403, .iconst 1), (404, .iadd), (405, .iaload), (406, .aload_n 0), (407, .iload 4), (409, .iconst 2), (410, .iadd), (411, .iaload), (412, .aload_n 0), (413, .iload 4), (415, .iconst 3), (416, .iadd), (417, .iaload), (418, .invokevirtual 106), (421, .istore 6), (423, .goto 573), (426, .aload_n 1), (427, .aload_n 0), (428, .iload 4), (430, .iconst 1), (431, .iadd), (432, .iaload), (433, .aload_n 0), (434, .iload 4), (436, .iconst 2), (437, .iadd), (438, .iaload), (439, .aload_n 0), (440, .iload 4), (442, .iconst 3), (443, .iadd), (444, .iaload), (445, .aload_n 3), (446, .invokestatic 107), (449, .istore 5), (451, .aload_n 2), (452, .aload_n 0)]
theorem zd_L3 : za_iL3.all (za_dok cL_law) = true := by decide +kernel
def za_iL4 : List (Nat × Instr) := [(453, .iload 4), (455, .iconst 1), (456, .iadd), (457, .iaload), (458, .aload_n 0), (459, .iload 4), (461, .iconst 2), (462, .iadd), (463, .iaload), (464, .aload_n 0), (465, .iload 4), (467, .iconst 3), (468, .iadd), (469, .iaload), (470, .invokevirtual 109), (473, .istore 6), (475, .goto 521), (478, .aload_n 1), (479, .aload_n 0), (480, .iload 4), (482, .iconst 1), (483, .iadd), (484, .iaload), (485, .aload_n 0), (486, .iload 4), (488, .iconst 2), (489, .iadd), (490, .iaload), (491, .aload_n 0), (492, .iload 4), (494, .iconst 3), (495, .iadd), (496, .iaload), (497, .aload_n 3), (498, .invokestatic 110), (501, .istore 5), (503, .aload_n 2), (504, .aload_n 0), (505, .iload 4), (507, .iconst 1), (508, .iadd), (509, .iaload), (510, .aload_n 0), (511, .iload 4), (513, .iconst 2), (514, .iadd), (515, .iaload), (516, .aload_n 0), (517, .iload 4), (519, .iconst 3), (520, .iadd), (521, .iaload), (522, .invokevirtual 112), (525, .istore 6), (527, .goto 469), (530, .aload_n 1), (531, .invokevirtual 113), (534, .pop), (535, .aload_n 2), (536, .invokevirtual 116)]
theorem zd_L4 : za_iL4.all (za_dok cL_law) = true := by decide +kernel
def za_iL5 : List (Nat × Instr) := [(539, .pop), (540, .goto 456), (543, .aload_n 1), (544, .aload_n 0), (545, .iload 4), (547, .iconst 1), (548, .iadd), (549, .iaload), (550, .aload_n 0), (551, .iload 4), (553, .iconst 2), (554, .iadd), (555, .iaload), (556, .aload_n 3), (557, .invokestatic 117), (560, .istore 5), (562, .aload_n 2), (563, .aload_n 0), (564, .iload 4), (566, .iconst 1), (567, .iadd), (568, .iaload), (569, .aload_n 0), (570, .iload 4), (572, .iconst 2), (573, .iadd), (574, .iaload), (575, .invokevirtual 119), (578, .istore 6), (580, .goto 416), (583, .aload_n 1), (584, .aload_n 0), (585, .iload 4), (587, .iconst 1), (588, .iadd), (589, .iaload), (590, .aload_n 3), (591, .invokestatic 120), (594, .istore 5), (596, .aload_n 2), (597, .aload_n 0), (598, .iload 4), (600, .iconst 1), (601, .iadd), (602, .iaload), (603, .invokevirtual 122), (606, .istore 6), (608, .goto 388), (611, .aload_n 1), (612, .aload_n 0), (613, .iload 4), (615, .iconst 1), (616, .iadd), (617, .iaload), (618, .aload_n 0), (619, .iload 4), (621, .iconst 2), (622, .iadd), (623, .iaload), (624, .aload_n 3)]
theorem zd_L5 : za_iL5.all (za_dok cL_law) = true := by decide +kernel
end
section
def za_iL6 : List (Nat × Instr) := [(625, .invokestatic 123), (628, .istore 5), (630, .aload_n 2), (631, .aload_n 0), (632, .iload 4), (634, .iconst 1), (635, .iadd), (636, .iaload), (637, .aload_n 0), (638, .iload 4), (640, .iconst 2), (641, .iadd), (642, .iaload), (643, .invokevirtual 125), (646, .lstore 6), (648, .goto 348), (651, .aload_n 1), (652, .aload_n 0), (653, .iload 4), (655, .iconst 1), (656, .iadd), (657, .iaload), (658, .aload_n 0), (659, .iload 4), (661, .iconst 2), (662, .iadd), (663, .iaload), (664, .aload_n 3), (665, .invokestatic 126), (668, .istore 5), (670, .aload_n 2), (671, .aload_n 0), (672, .iload 4), (674, .iconst 1), (675, .iadd), (676, .iaload), (677, .aload_n 0), (678, .iload 4), (680, .iconst 2), (681, .iadd), (682, .iaload), (683, .invokevirtual 128), (686, .istore 6), (688, .goto 308), (691, .aload_n 1), (692, .aload_n 0), (693, .iload 4), (695, .iconst 1), (696, .iadd), (697, .iaload), (698, .aload_n 0), (699, .iload 4), (701, .iconst 2), (702, .iadd), (703, .iaload), (704, .aload_n 0), (705, .iload 4), (707, .iconst 3), (708, .iadd), (709, .iaload)]
theorem zd_L6 : za_iL6.all (za_dok cL_law) = true := by decide +kernel
def za_iL7 : List (Nat × Instr) := [(710, .aload_n 3), (711, .invokestatic 129), (714, .istore 5), (716, .aload_n 2), (717, .aload_n 0), (718, .iload 4), (720, .iconst 1), (721, .iadd), (722, .iaload), (723, .aload_n 0), (724, .iload 4), (726, .iconst 2), (727, .iadd), (728, .iaload), (729, .aload_n 0), (730, .iload 4), (732, .iconst 3), (733, .iadd), (734, .iaload), (735, .invokevirtual 131), (738, .istore 6), (740, .goto 256), (743, .aload_n 1), (744, .invokevirtual 132), (747, .pop), (748, .aload_n 2), (749, .invokevirtual 135), (752, .pop), (753, .goto 243), (756, .aload_n 1), (757, .aload_n 0), (758, .iload 4), (760, .iconst 1), (761, .iadd), (762, .iaload), (763, .aload_n 3), (764, .invokestatic 136), (767, .istore 5), (769, .aload_n 2), (770, .aload_n 0), (771, .iload 4), (773, .iconst 1), (774, .iadd), (775, .iaload), (776, .invokevirtual 138), (779, .istore 6), (781, .goto 215), (784, .aload_n 1), (785, .aload_n 0), (786, .iload 4), (788, .iconst 1), (789, .iadd), (790, .iaload), (791, .aload_n 3), (792, .invokestatic 139), (795, .istore 5), (797, .aload_n 2), (798, .aload_n 0), (799, .iload 4), (801, .iconst 1)]
theorem zd_L7 : za_iL7.all (za_dok cL_law) = true := by decide +kernel
def za_iL8 : List (Nat × Instr) := [(802, .iadd), (803, .iaload), (804, .invokevirtual 141), (807, .istore 6), (809, .goto 187), (812, .aload_n 1), (813, .aload_n 0), (814, .iload 4), (816, .iconst 1), (817, .iadd), (818, .iaload), (819, .aload_n 0), (820, .iload 4), (822, .iconst 2), (823, .iadd), (824, .iaload), (825, .aload_n 3), (826, .invokestatic 142), (829, .istore 5), (831, .aload_n 2), (832, .aload_n 0), (833, .iload 4), (835, .iconst 1), (836, .iadd), (837, .iaload), (838, .aload_n 0), (839, .iload 4), (841, .iconst 2), (842, .iadd), (843, .iaload), (844, .invokevirtual 144), (847, .istore 6), (849, .goto 147), (852, .aload_n 1), (853, .aload_n 0), (854, .iload 4), (856, .iconst 1), (857, .iadd), (858, .iaload), (859, .aload_n 3), (860, .invokestatic 145), (863, .istore 5), (865, .aload_n 2), (866, .aload_n 0), (867, .iload 4), (869, .iconst 1), (870, .iadd), (871, .iaload), (872, .invokevirtual 147), (875, .lstore 6), (877, .goto 119), (880, .aload_n 1), (881, .aload_n 0), (882, .iload 4), (884, .iconst 1), (885, .iadd), (886, .iaload), (887, .aload_n 0), (888, .iload 4), (890, .iconst 2)]
theorem zd_L8 : za_iL8.all (za_dok cL_law) = true := by decide +kernel
def za_iL9 : List (Nat × Instr) := [(891, .iadd), (892, .iaload), (893, .aload_n 3), (894, .invokestatic 148), (897, .istore 5), (899, .aload_n 2), (900, .aload_n 0), (901, .iload 4), (903, .iconst 1), (904, .iadd), (905, .iaload), (906, .aload_n 0), (907, .iload 4), (909, .iconst 2), (910, .iadd), (911, .iaload), (912, .invokevirtual 150), (915, .lstore 6), (917, .goto 79), (920, .aload_n 1), (921, .aload_n 0), (922, .iload 4), (924, .iconst 1), (925, .iadd), (926, .iaload), (927, .aload_n 0), (928, .iload 4), (930, .iconst 2), (931, .iadd), (932, .iaload), (933, .aload_n 0), (934, .iload 4), (936, .iconst 3), (937, .iadd), (938, .iaload), (939, .aload_n 3), (940, .invokestatic 151), (943, .istore 5), (945, .aload_n 2), (946, .aload_n 0), (947, .iload 4), (949, .iconst 1), (950, .iadd), (951, .iaload), (952, .aload_n 0), (953, .iload 4), (955, .iconst 2), (956, .iadd), (957, .iaload), (958, .aload_n 0), (959, .iload 4), (961, .iconst 3), (962, .iadd), (963, .iaload), (964, .invokevirtual 153), (967, .istore 6), (969, .goto 27), (972, .aload_n 1), (973, .invokevirtual 154), (976, .aload_n 2)]
theorem zd_L9 : za_iL9.all (za_dok cL_law) = true := by decide +kernel
def za_iL10 : List (Nat × Instr) := [(977, .invokevirtual 157), (980, .goto 16), (983, .aload_n 1), (984, .invokevirtual 158), (987, .pop), (988, .aload_n 2), (989, .invokevirtual 162), (992, .pop), (993, .goto 3), (996, .iinc 4 6), (999, .goto (-976)), (1002, .iconst 1), (1003, .ireturn)]
theorem zd_L10 : za_iL10.all (za_dok cL_law) = true := by decide +kernel
end
section
/-! ===== the tables hold what the Statement's words say ===== -/
def za_wd : List Cond := lw_tbl.filter goodWord
theorem za_mem {ws : List Cond} (ps : List Nat) (h : ws = ps.filterMap (fun i => lw_tbl[i]?)) (hg : ws.all goodWord = true) : ∀ w ∈ ws, w ∈ za_wd := by
  intro w hw
  have h1 := List.all_eq_true.mp hg w hw
  rw [h] at hw
  obtain ⟨i, -, hi⟩ := List.mem_filterMap.mp hw
  exact List.mem_filter.mpr ⟨List.mem_of_getElem? hi, h1⟩
def za_exn (ex : Nat) : String := match ex with
  | 0 => "java/util/NoSuchElementException"
  | _ => "java/lang/IllegalArgumentException"
def za_wY (j : Nat) (f : MethodName → List Cond) : List Cond := match za_MT j with
  | some Y => f Y.1
  | none => []
def za_wC (ci : Nat) (f : vw_C → List Cond) : List Cond := match vwCl[ci]? with
  | some q => f q
  | none => []
/-- the words that an entry of a constant pool needs -/
def za_need (own : String) (k : Nat) (r : za_row) : List Cond := match r.1 with
  | 0 => za_wC r.2.1 (fun q => [.fieldLink own k (q.2.1 r.2.2.1).1 (q.2.1 r.2.2.1).2.1 (q.2.1 r.2.2.1).2.2.1])
  | 1 => za_wY r.2.1 (fun y => [.methodLink own k y, .instanceMethod y, .selects y.cls y y])
  | 2 => za_wY r.2.1 (fun y => [.methodLink own k y, .static y])
  | 3 => za_wY r.2.1 (fun y => [.methodLink own k y, .instanceMethod y])
  | 4 => [.methodLink own k objectInit, .instanceMethod objectInit, .code objectInit ⟨#[0xb1]⟩ 1 none]
  | 5 => za_wC r.2.1 (fun q => [.classLink own k q.1, .instantiable q.1 q.2.2, .initialized q.1])
  | 6 => [.classLink own k (za_exn r.2.1), .initialized (za_exn r.2.1)]
  | 7 => [.constant own k (Int32.ofInt r.2.2.2)]
  | 8 => [.constantLong own k (Int64.ofInt r.2.2.2)]
  | 11 => za_wY r.2.1 (fun y => [.instanceMethod y, .selects y.cls y y])
  | 12 => za_wY r.2.1 (fun y => [.static y])
  | 13 => za_wY r.2.1 (fun y => [.instanceMethod y])
  | 14 => [.methodLink own k arraycopyName, .native arraycopyName, .static arraycopyName, .initialized "java/lang/System"]
  | _ => []
def za_sY (j : Nat) (f : za_MI → Bool) : Bool := match za_MT j with
  | some Y => f Y
  | none => false
/-- what is asked beside the words -/
def za_np (Y : za_MI) (n : Nat) : Bool := decide ((parseMethodDescriptor Y.1.desc).map (fun d => d.parameters.length) = some n)
def za_side (r : za_row) : Bool := match r.1 with
  | 0 => match vwCl[r.2.1]? with
    | some q => Nat.blt r.2.2.1 q.2.2 && decide ((if r.2.2.2 = 0 then false else true) = (q.2.1 r.2.2.1).2.2.2) && decide ((q.2.1 r.2.2.1).1 = q.1)
    | none => false
  | 1 => za_sY r.2.1 (fun Y => za_np Y r.2.2.1 && decide ((vwCl[za_cl Y]?).map (fun q => q.1) = some Y.1.cls) && decide (za_hh Y = []))
  | 11 => za_sY r.2.1 (fun Y => za_np Y r.2.2.1 && decide ((vwCl[za_cl Y]?).map (fun q => q.1) = some Y.1.cls) && decide (za_hh Y = []))
  | 2 => za_sY r.2.1 (fun Y => za_np Y r.2.2.1)
  | 12 => za_sY r.2.1 (fun Y => za_np Y r.2.2.1 && decide (za_hh Y = []))
  | 3 => za_sY r.2.1 (fun Y => za_np Y r.2.2.1 && decide (Y.1.name = "<init>") && decide (za_rt Y = none) && decide (za_hh Y = []))
  | 13 => za_sY r.2.1 (fun Y => za_np Y r.2.2.1 && decide (Y.1.name = "<init>") && decide (za_rt Y = none) && decide (za_hh Y = []))
  | 5 => match vwCl[r.2.1]? with
    | some _ => true
    | none => false
  | 6 => Nat.blt r.2.1 2
  | _ => true
def za_words (own : String) (rs : List (Nat × za_row)) : List Cond := rs.flatMap (fun q => za_need own q.1 q.2)
set_option maxRecDepth 20000 in
theorem zc_f0 : ∀ w ∈ u_ws RX0 TX0 10, w ∈ za_wd := za_mem [304, 306, 308, 310, 312, 314, 316, 318, 320, 322] (by decide +kernel) (by decide +kernel)
set_option maxRecDepth 20000 in
theorem zc_f1 : ∀ w ∈ u_ws RX1 TX1 12, w ∈ za_wd := za_mem [500, 502, 504, 506, 508, 510, 512, 514, 516, 518, 520, 522] (by decide +kernel) (by decide +kernel)
set_option maxRecDepth 20000 in
theorem zc_f2 : ∀ w ∈ u_ws RX2 TX2 3, w ∈ za_wd := za_mem [372, 374, 376] (by decide +kernel) (by decide +kernel)
set_option maxRecDepth 20000 in
theorem zc_f3 : ∀ w ∈ u_ws RX3 TX3 2, w ∈ za_wd := za_mem [452, 454] (by decide +kernel) (by decide +kernel)
set_option maxRecDepth 20000 in
theorem zc_f4 : ∀ w ∈ u_ws RX4 TX4 4, w ∈ za_wd := za_mem [539, 541, 543, 545] (by decide +kernel) (by decide +kernel)
set_option maxRecDepth 20000 in
theorem zc_f5 : ∀ w ∈ u_ws RX5 TX5 4, w ∈ za_wd := za_mem [471, 473, 475, 477] (by decide +kernel) (by decide +kernel)
set_option maxRecDepth 20000 in
theorem zc_f6 : ∀ w ∈ u_ws RX6 TX6 3, w ∈ za_wd := za_mem [560, 562, 564] (by decide +kernel) (by decide +kernel)
set_option maxRecDepth 20000 in
theorem zc_f7 : ∀ w ∈ u_ws RX7 TX7 6, w ∈ za_wd := za_mem [387, 389, 391, 393, 395, 397] (by decide +kernel) (by decide +kernel)
set_option maxRecDepth 20000 in
theorem zc_f8 : ∀ w ∈ u_ws RX8 TX8 8, w ∈ za_wd := za_mem [427, 429, 431, 433, 435, 437, 439, 441] (by decide +kernel) (by decide +kernel)
set_option maxRecDepth 20000 in
theorem zc_f9 : ∀ w ∈ u_ws RX9 TX9 6, w ∈ za_wd := za_mem [348, 350, 352, 354, 356, 358] (by decide +kernel) (by decide +kernel)
set_option maxRecDepth 20000 in
theorem zc_f10 : ∀ w ∈ u_ws RX10 TX10 20, w ∈ za_wd := za_mem [227, 229, 231, 233, 235, 237, 239, 241, 243, 245, 247, 249, 251, 253, 255, 257, 259, 261, 263, 265] (by decide +kernel) (by decide +kernel)
set_option maxRecDepth 20000 in
theorem zc_f11 : ∀ w ∈ u_ws RX11 TX11 18, w ∈ za_wd := za_mem [585, 587, 589, 591, 593, 595, 597, 599, 601, 603, 605, 607, 609, 611, 613, 615, 617, 619] (by decide +kernel) (by decide +kernel)
set_option maxRecDepth 20000 in
theorem zc_f12 : ∀ w ∈ u_ws RX12 TX12 85, w ∈ za_wd := za_mem [1475, 1477, 1479, 1481, 1483, 1485, 1487, 1489, 1491, 1493, 1495, 1497, 1499, 1501, 1503, 1505, 1507, 1509, 1511, 1513, 1515, 1517, 1519, 1521, 1523, 1525, 1527, 1529, 1531, 1533, 1535, 1537, 1539, 1541, 1543, 1545, 1547, 1549, 1551, 1553, 1555, 1557, 1559, 1561, 1563, 1565, 1567, 1569, 1571, 1573, 1575, 1577, 1579, 1581, 1583, 1585, 1587, 1589, 1591, 1593, 1595, 1597, 1599, 1601, 1603, 1605, 1607, 1609, 1611, 1613, 1615, 1617, 1619, 1621, 1623, 1625, 1627, 1629, 1631, 1633, 1635, 1637, 1639, 1641, 1643] (by decide +kernel) (by decide +kernel)
set_option maxRecDepth 20000 in
theorem zc_w0 : ∀ w ∈ za_words RX0 za_cp0, w ∈ za_wd := za_mem [276, 141, 142, 282, 287, 291, 296, 298, 299, 302, 303, 277, 300, 1173, 747, 749, 748, 133] (by decide +kernel) (by decide +kernel)
theorem zc_s0 : za_cp0.all (fun q => za_side q.2) = true := by decide +kernel
set_option maxRecDepth 20000 in
theorem zc_w1 : ∀ w ∈ za_words RX1 za_cp1, w ∈ za_wd := za_mem [485, 141, 142, 486, 487, 488, 489, 490, 491, 492, 493, 494, 495, 496, 498, 278, 1271, 651, 652, 284, 408, 1272, 693, 694, 1273, 1275, 51, 1286, 1287, 1288, 1281, 162, 189, 1282, 1284, 52, 1298, 1175, 1299, 1301, 53, 1307, 1309, 54, 1311, 1313, 55, 1316, 749, 748, 133, 193, 1303, 1304, 1315, 697, 698, 466, 415] (by decide +kernel) (by decide +kernel)
theorem zc_s1 : za_cp1.all (fun q => za_side q.2) = true := by decide +kernel
set_option maxRecDepth 20000 in
theorem zc_w2 : ∀ w ∈ za_words RX2 za_cp2, w ∈ za_wd := za_mem [366, 141, 142, 368, 370, 367, 225, 1063, 1065, 40, 344, 1025, 1026, 1027, 1029, 1031, 33, 1033, 1035, 34, 1041, 1042, 1043, 1045, 849, 850, 1067, 1069, 41, 1037, 1039, 35, 1046, 1048, 36, 1050, 1052, 37, 347, 1054, 1056, 38, 1058, 1060, 39, 1062, 1023, 32] (by decide +kernel) (by decide +kernel)
theorem zc_s2 : za_cp2.all (fun q => za_side q.2) = true := by decide +kernel
set_option maxRecDepth 20000 in
theorem zc_w3 : ∀ w ∈ za_words RX3 za_cp3, w ∈ za_wd := za_mem [449, 141, 142, 450, 451, 288, 283, 159, 1210, 1211, 1212, 1214, 1216, 45, 1234, 660, 661, 1235, 664, 665, 1236, 1238, 49, 1222, 1223, 1224, 1218, 1220, 46] (by decide +kernel) (by decide +kernel)
theorem zc_s3 : za_cp3.all (fun q => za_side q.2) = true := by decide +kernel
set_option maxRecDepth 20000 in
theorem zc_w4 : ∀ w ∈ za_words RX4 za_cp4, w ∈ za_wd := za_mem [530, 141, 142, 531, 533, 535, 537, 182, 293, 1357, 1359, 56, 1361, 660, 661, 1362, 1363, 1364] (by decide +kernel) (by decide +kernel)
theorem zc_s4 : za_cp4.all (fun q => za_side q.2) = true := by decide +kernel
set_option maxRecDepth 20000 in
theorem zc_w5 : ∀ w ∈ za_words RX5 za_cp5, w ∈ za_wd := za_mem [462, 141, 142, 463, 401, 115, 403, 465, 468, 469, 470, 204, 208, 700, 655, 656, 701, 703, 4, 414, 709, 711, 5, 719, 721, 6, 738, 672, 673, 407, 705, 706, 707, 197, 713, 714, 715, 411, 717, 688, 689, 718, 676, 677, 215, 222, 723, 725, 7, 219, 226, 727, 729, 8, 731, 733, 9, 735, 736] (by decide +kernel) (by decide +kernel)
theorem zc_s5 : za_cp5.all (fun q => za_side q.2) = true := by decide +kernel
set_option maxRecDepth 20000 in
theorem zc_w6 : ∀ w ∈ za_words RX6 za_cp6, w ∈ za_wd := za_mem [553, 141, 142, 554, 556, 558, 292, 1378, 1379, 1381, 846, 1382, 660, 661, 1383, 664, 665] (by decide +kernel) (by decide +kernel)
theorem zc_s6 : za_cp6.all (fun q => za_side q.2) = true := by decide +kernel
set_option maxRecDepth 20000 in
theorem zc_w7 : ∀ w ∈ za_words RX7 za_cp7, w ∈ za_wd := za_mem [330, 141, 142, 381, 382, 383, 385, 331, 332, 113, 333, 334, 379, 361, 362, 114, 363, 364, 380, 151, 0, 833, 834, 835, 837, 838, 839, 841, 842, 843, 343, 920, 922, 14, 1072, 1074, 42, 341, 1076, 1026, 1027, 924, 926, 15, 932, 849, 850, 346, 928, 930, 16, 933, 935, 17, 176, 946, 947, 952, 954, 20, 956, 958, 21, 965, 967, 23, 279, 985, 987, 25, 184, 997, 999, 26, 1001, 1003, 27, 1005, 1007, 28, 201, 1009, 1011, 29, 216, 1017, 1019, 31, 941, 943, 19, 977, 978, 979, 169, 172, 159, 937, 939, 18, 155, 1, 960, 962, 22, 969, 970, 971, 973, 975, 24, 981, 982, 983, 989, 990, 991, 993, 994, 995, 187, 191, 195, 199, 1013, 1015, 30, 206, 210, 213, 1023, 32, 371, 1071, 1042, 1043, 220, 223, 369] (by decide +kernel) (by decide +kernel)
theorem zc_s7 : za_cp7.all (fun q => za_side q.2) = true := by decide +kernel
set_option maxRecDepth 20000 in
theorem zc_w8 : ∀ w ∈ za_words RX8 za_cp8, w ∈ za_wd := za_mem [405, 141, 142, 406, 410, 413, 417, 419, 421, 423, 425, 159, 675, 676, 677, 679, 681, 3, 687, 688, 689, 683, 684, 685, 671, 672, 673, 285, 289, 654, 655, 656, 294, 659, 660, 661, 663, 664, 665, 667, 668, 669, 281, 650, 651, 652, 692, 693, 694] (by decide +kernel) (by decide +kernel)
theorem zc_s8 : za_cp8.all (fun q => za_side q.2) = true := by decide +kernel
set_option maxRecDepth 20000 in
theorem zc_w9 : ∀ w ∈ za_words RX9 za_cp9, w ∈ za_wd := za_mem [336, 141, 142, 338, 339, 340, 342, 345, 337, 845, 846, 848, 849, 850, 852, 853, 855, 857, 11, 908, 909, 911, 913, 12, 916, 918, 13, 915] (by decide +kernel) (by decide +kernel)
theorem zc_s9 : za_cp9.all (fun q => za_side q.2) = true := by decide +kernel
set_option maxRecDepth 20000 in
theorem zc_w10 : ∀ w ∈ za_words RX10 za_cp10, w ∈ za_wd := za_mem [148, 141, 142, 178, 179, 181, 186, 203, 207, 211, 218, 221, 224, 149, 151, 0, 153, 155, 1, 175, 161, 162, 164, 165, 183, 188, 192, 196, 200, 214, 167, 170, 157, 173, 159, 691, 676, 677, 1290, 706, 707, 1291, 1292, 1294, 714, 715, 1295, 1296, 1226, 1228, 47, 1230, 1232, 48] (by decide +kernel) (by decide +kernel)
theorem zc_s10 : za_cp10.all (fun q => za_side q.2) = true := by decide +kernel
set_option maxRecDepth 20000 in
theorem zc_w11 : ∀ w ∈ za_words RX11 za_cp11, w ∈ za_wd := za_mem [140, 141, 142, 567, 568, 569, 570, 571, 143, 144, 109, 145, 146, 572, 271, 272, 111, 274, 573, 574, 575, 576, 577, 325, 326, 112, 327, 328, 578, 400, 401, 115, 403, 579, 444, 445, 116, 447, 580, 457, 458, 117, 460, 581, 480, 481, 118, 483, 582, 525, 526, 119, 528, 583, 548, 549, 120, 551, 584, 626, 628, 2, 762, 125, 828, 829, 830, 386, 384, 1077, 1079, 43, 1081, 1082, 1083, 168, 171, 177, 1093, 947, 1094, 970, 971, 280, 185, 202, 217, 190, 194, 198, 301, 1095, 132, 1118, 1119, 1122, 1123, 1124, 1127, 684, 685, 180, 1135, 1137, 44, 286, 290, 295, 297, 1148, 660, 661, 1149, 664, 665, 1157, 1158, 1159, 1161, 994, 995, 1169, 1170, 1171, 1174, 1175, 638, 639, 640, 1187, 651, 652, 416, 409, 418, 420, 412, 422, 424, 1195, 655, 656, 1196, 668, 669, 1205, 1206, 1207, 1247, 1249, 50, 205, 209, 212, 646, 647, 648, 696, 697, 698, 467, 1267, 1268, 1269, 1277, 1278, 1279, 499, 497, 1333, 1334, 1335, 426, 1344, 693, 694, 1345, 174, 1353, 1354, 1355, 532, 534, 536, 538, 1374, 1375, 1376, 555, 557, 559, 743, 744, 745] (by decide +kernel) (by decide +kernel)
theorem zc_s11 : za_cp11.all (fun q => za_side q.2) = true := by decide +kernel
set_option maxRecDepth 20000 in
theorem zc_w12 : ∀ w ∈ za_words RX12 za_cp12, w ∈ za_wd := za_mem [1389, 141, 142, 1391, 1392, 1400, 1401, 1403, 1404, 1405, 1406, 1407, 1408, 1409, 1410, 1411, 1414, 1415, 1442, 1443, 1444, 1445, 1446, 1447, 1448, 1449, 1450, 1451, 1453, 1462, 1463, 1464, 1465, 1466, 1467, 1468, 1469, 1472, 1473, 1474, 1390, 1412, 1651, 1653, 57, 1416, 1417, 1667, 1669, 60, 1419, 1423, 1421, 1422, 1418, 1671, 1672, 1674, 1675, 1420, 1695, 1692, 1693, 1689, 1690, 1413, 1677, 1679, 61, 1663, 1665, 59, 1696, 1698, 64, 1704, 1706, 66, 1685, 1687, 63, 1716, 1717, 1719, 1721, 69, 1435, 1436, 1775, 1776, 1778, 1779, 1767, 1769, 81, 1437, 1751, 1753, 77, 1759, 1761, 79, 1747, 1749, 76, 1763, 1765, 80, 1771, 1773, 82, 1755, 1757, 78, 1781, 1783, 83, 1785, 1787, 84, 1424, 1700, 1702, 65, 1425, 1708, 1710, 67, 1428, 1727, 1729, 71, 1731, 1733, 72, 1712, 1714, 68, 1429, 1430, 1440, 1426, 1441, 1427, 1723, 1725, 70, 1735, 1737, 73, 1438, 1432, 1433, 1439, 1434, 1739, 1741, 74, 1431, 1743, 1745, 75, 1659, 1661, 58, 1681, 1683, 62, 1393, 1394, 1395, 1396, 1397, 1398, 1399, 1402, 1789, 1791, 85, 1452, 1470, 1805, 1807, 86, 1813, 1815, 87, 1821, 1823, 88, 1829, 1831, 89, 1833, 1835, 90, 1841, 1842, 1843, 1454, 1861, 1863, 93, 1865, 1867, 94, 1455, 1459, 1456, 1457, 1460, 1461, 1458, 1857, 1859, 92, 1853, 1855, 91, 1877, 1879, 95, 1885, 1887, 96, 1909, 1911, 101, 1913, 1914, 1905, 1907, 100, 1897, 1899, 98, 1901, 1903, 99, 1893, 1895, 97, 1936, 1937, 1932, 1934, 104, 1928, 1930, 103, 1924, 1926, 102, 1955, 1957, 105, 1963, 1965, 106, 1471] (by decide +kernel) (by decide +kernel)
theorem zc_s12 : za_cp12.all (fun q => za_side q.2) = true := by decide +kernel
set_option maxRecDepth 20000 in
theorem zc_w13 : ∀ w ∈ za_words RL za_cp13, w ∈ za_wd := za_mem [758, 759, 760, 135, 136, 108, 757, 125, 1089, 1090, 1091, 1088, 132, 1114, 1115, 1116, 1131, 1132, 1133, 1143, 1144, 1145, 1153, 1154, 1155, 1165, 1166, 1167, 1183, 1184, 1185, 1191, 1192, 1193, 1200, 1201, 1202, 1243, 1244, 1245, 1255, 1256, 1257, 1263, 1264, 1265, 1320, 1321, 1322, 1328, 1329, 1330, 1340, 1341, 1342, 1349, 1350, 1351, 1369, 1370, 1371, 137, 138, 1384, 1385, 121, 1386, 1387, 622, 623, 624, 1647, 1648, 1649, 754, 755, 1655, 1656, 1657, 630, 631, 632, 1793, 1794, 1795, 1085, 1086, 1797, 1798, 1799, 1111, 1112, 1801, 1802, 1803, 1128, 1129, 1809, 1810, 1811, 1140, 1141, 1817, 1818, 1819, 1150, 1151, 1825, 1826, 1827, 1162, 1163, 1837, 1838, 1839, 634, 635, 636, 1845, 1846, 1847, 1180, 1181, 1849, 1850, 1851, 1188, 1189, 1869, 1870, 1871, 1197, 1198, 1873, 1874, 1875, 1240, 1241, 1881, 1882, 1883, 1252, 1253, 1889, 1890, 1891, 642, 643, 644, 1916, 1917, 1918, 1260, 1261, 1920, 1921, 1922, 1317, 1318, 1939, 1940, 1941, 1325, 1326, 1943, 1944, 1945, 1337, 1338, 1947, 1948, 1949, 1346, 1347, 1951, 1952, 1953, 1366, 1367, 1959, 1960, 1961, 739, 740, 741, 1967, 1968, 1969, 750, 751, 752, 1971, 1972, 1973] (by decide +kernel) (by decide +kernel)
theorem zc_s13 : za_cp13.all (fun q => za_side q.2) = true := by decide +kernel
set_option maxRecDepth 20000 in
theorem zc_w14 : ∀ w ∈ za_words RJ6 za_cp14, w ∈ za_wd := za_mem [1306, 1177, 1178, 1179] (by decide +kernel) (by decide +kernel)
theorem zc_s14 : za_cp14.all (fun q => za_side q.2) = true := by decide +kernel
set_option maxRecDepth 20000 in
theorem zc_w15 : ∀ w ∈ za_words RJ13 za_cp15, w ∈ za_wd := za_mem [949, 950, 951] (by decide +kernel) (by decide +kernel)
theorem zc_s15 : za_cp15.all (fun q => za_side q.2) = true := by decide +kernel
set_option maxRecDepth 20000 in
theorem zc_w16 : ∀ w ∈ za_words RJ9 za_cp16, w ∈ za_wd := za_mem [] (by decide +kernel) (by decide +kernel)
theorem zc_s16 : za_cp16.all (fun q => za_side q.2) = true := by decide +kernel
set_option maxRecDepth 20000 in
theorem zc_w17 : ∀ w ∈ za_words RJ7 za_cp17, w ∈ za_wd := za_mem [] (by decide +kernel) (by decide +kernel)
theorem zc_s17 : za_cp17.all (fun q => za_side q.2) = true := by decide +kernel
theorem za_lk_mem : ∀ {l : List (Nat × za_row)} {k : Nat} {r : za_row}, za_lk l k = some r → (k, r) ∈ l
  | [], _, _, h => by cases h
  | q :: l, k, r, h => by
    unfold za_lk at h
    cases hb : Nat.beq q.1 k with
    | true =>
      have e := Nat.eq_of_beq_eq_true hb
      simp only [hb, cond_true, Option.some.injEq] at h
      obtain ⟨q1, q2⟩ := q
      dsimp only at h e
      rw [← e, ← h]
      exact List.mem_cons_self
    | false =>
      simp only [hb, cond_false] at h
      exact List.mem_cons_of_mem _ (za_lk_mem h)
theorem zc_w : ∀ (c : Nat), ∀ w ∈ za_words (za_ow c) (za_cpl c), w ∈ za_wd := by
  intro c
  match c with
  | 0 => exact zc_w0
  | 1 => exact zc_w1
  | 2 => exact zc_w2
  | 3 => exact zc_w3
  | 4 => exact zc_w4
  | 5 => exact zc_w5
  | 6 => exact zc_w6
  | 7 => exact zc_w7
  | 8 => exact zc_w8
  | 9 => exact zc_w9
  | 10 => exact zc_w10
  | 11 => exact zc_w11
  | 12 => exact zc_w12
  | 13 => exact zc_w13
  | 14 => exact zc_w14
  | 15 => exact zc_w15
  | 16 => exact zc_w16
  | 17 => exact zc_w17
  | _ + 18 => intro w hw; simp [za_cpl, za_words] at hw
theorem zc_s : ∀ (c : Nat), (za_cpl c).all (fun q => za_side q.2) = true := by
  intro c
  match c with
  | 0 => exact zc_s0
  | 1 => exact zc_s1
  | 2 => exact zc_s2
  | 3 => exact zc_s3
  | 4 => exact zc_s4
  | 5 => exact zc_s5
  | 6 => exact zc_s6
  | 7 => exact zc_s7
  | 8 => exact zc_s8
  | 9 => exact zc_s9
  | 10 => exact zc_s10
  | 11 => exact zc_s11
  | 12 => exact zc_s12
  | 13 => exact zc_s13
  | 14 => exact zc_s14
  | 15 => exact zc_s15
  | 16 => exact zc_s16
  | 17 => exact zc_s17
  | _ + 18 => rfl
/-- an entry that is found: its words hold, and what is asked beside them -/
theorem zc_row {c k : Nat} {r : za_row} (h : za_CP c k = some r) : (∀ w ∈ za_need (za_ow c) k r, w ∈ za_wd) ∧ za_side r = true := by
  have hm := za_lk_mem h
  exact ⟨fun w hw => zc_w c w (List.mem_flatMap.mpr ⟨_, hm, hw⟩), List.all_eq_true.mp (zc_s c) _ hm⟩
theorem zc_cls {ci : Nat} {q : vw_C} (h : vwCl[ci]? = some q) : (∀ w ∈ u_ws q.1 q.2.1 q.2.2, w ∈ za_wd) ∧ (∀ k, k < q.2.2 → parseFieldDescriptor (q.2.1 k).2.2.1 = some (za_tyX ci k)) ∧ (∀ a, a < q.2.2 → ∀ b, b < q.2.2 → a ≠ b → (q.2.1 a).2.1 ≠ (q.2.1 b).2.1) ∧ q.2.2 = za_nX ci ∧ q.1 = za_ow ci := by
  match ci, h with
  | 0, h => cases h; exact ⟨zc_f0, tyX0_ok, nmX0, rfl, rfl⟩
  | 1, h => cases h; exact ⟨zc_f1, tyX1_ok, nmX1, rfl, rfl⟩
  | 2, h => cases h; exact ⟨zc_f2, tyX2_ok, nmX2, rfl, rfl⟩
  | 3, h => cases h; exact ⟨zc_f3, tyX3_ok, nmX3, rfl, rfl⟩
  | 4, h => cases h; exact ⟨zc_f4, tyX4_ok, nmX4, rfl, rfl⟩
  | 5, h => cases h; exact ⟨zc_f5, tyX5_ok, nmX5, rfl, rfl⟩
  | 6, h => cases h; exact ⟨zc_f6, tyX6_ok, nmX6, rfl, rfl⟩
  | 7, h => cases h; exact ⟨zc_f7, tyX7_ok, nmX7, rfl, rfl⟩
  | 8, h => cases h; exact ⟨zc_f8, tyX8_ok, nmX8, rfl, rfl⟩
  | 9, h => cases h; exact ⟨zc_f9, tyX9_ok, nmX9, rfl, rfl⟩
  | 10, h => cases h; exact ⟨zc_f10, tyX10_ok, nmX10, rfl, rfl⟩
  | 11, h => cases h; exact ⟨zc_f11, tyX11_ok, nmX11, rfl, rfl⟩
  | 12, h => cases h; exact ⟨zc_f12, tyX12_ok, nmX12, rfl, rfl⟩
  | _ + 13, h => simp [vwCl] at h
end
section
theorem za_alla {cc : ByteArray} {a b : List (Nat × Instr)} (h1 : a.all (za_dok cc) = true) (h2 : b.all (za_dok cc) = true) : (a ++ b).all (za_dok cc) = true := by rw [List.all_append, h1, h2]; rfl
set_option maxRecDepth 100000 in
theorem zd_Le : za_iL = za_iL0 ++ (za_iL1 ++ (za_iL2 ++ (za_iL3 ++ (za_iL4 ++ (za_iL5 ++ (za_iL6 ++ (za_iL7 ++ (za_iL8 ++ (za_iL9 ++ (za_iL10)))))))))) := rfl
theorem zd_L : za_iL.all (za_dok cL_law) = true := by rw [zd_Le]; exact za_alla zd_L0 (za_alla zd_L1 (za_alla zd_L2 (za_alla zd_L3 (za_alla zd_L4 (za_alla zd_L5 (za_alla zd_L6 (za_alla zd_L7 (za_alla zd_L8 (za_alla zd_L9 (zd_L10))))))))))
def za_word (Y : za_MI) : Cond := match za_hh Y with
  | [] => .code Y.1 Y.2.1 (za_nL Y) (za_rt Y)
  | hh => .codeWith Y.1 Y.2.1 (za_nL Y) (za_rt Y) hh
def za_mok (Y : za_MI) : Bool := plainFor Y.1 && decide (za_ow (za_cl Y) = Y.1.cls) && Nat.ble (za_nL Y) 40 && decide (Y.1.cls ≠ "java/lang/invoke/MethodHandle") && decide (Y.1.cls ≠ "java/lang/invoke/VarHandle")
theorem zm_s0 : za_ML0.all za_mok = true := by decide +kernel
set_option maxRecDepth 20000 in
theorem zm_w0 : ∀ w ∈ za_ML0.flatMap (fun Y => [za_word Y, .initialized Y.1.cls]), w ∈ za_wd := za_mem [139, 108, 147, 109, 152, 109, 156, 109, 160, 108, 163, 110, 166, 110, 275, 111, 329, 112, 335, 113, 365, 114, 404, 115, 448, 116, 461, 117, 484, 118, 529, 119, 552, 120, 625, 108, 629, 108, 633, 108, 637, 108, 641, 111, 645, 108, 649, 115, 653, 115, 657, 115, 662, 111, 666, 111, 670, 115, 674, 115, 678, 109, 682, 115, 686, 109, 690, 109, 695, 115, 699, 117, 704, 117, 708, 109, 712, 117, 716, 109] rfl (by decide +kernel)
theorem zm_d0 : ∀ Y ∈ za_ML0, (za_is Y).all (za_dok Y.2.1) = true := List.forall_mem_cons.mpr ⟨zd_0, List.forall_mem_cons.mpr ⟨zd_1, List.forall_mem_cons.mpr ⟨zd_2, List.forall_mem_cons.mpr ⟨zd_3, List.forall_mem_cons.mpr ⟨zd_4, List.forall_mem_cons.mpr ⟨zd_5, List.forall_mem_cons.mpr ⟨zd_6, List.forall_mem_cons.mpr ⟨zd_7, List.forall_mem_cons.mpr ⟨zd_8, List.forall_mem_cons.mpr ⟨zd_9, List.forall_mem_cons.mpr ⟨zd_10, List.forall_mem_cons.mpr ⟨zd_11, List.forall_mem_cons.mpr ⟨zd_12, List.forall_mem_cons.mpr ⟨zd_13, List.forall_mem_cons.mpr ⟨zd_14, List.forall_mem_cons.mpr ⟨zd_15, List.forall_mem_cons.mpr ⟨zd_16, List.forall_mem_cons.mpr ⟨zd_17, List.forall_mem_cons.mpr ⟨zd_18, List.forall_mem_cons.mpr ⟨zd_19, List.forall_mem_cons.mpr ⟨zd_20, List.forall_mem_cons.mpr ⟨zd_21, List.forall_mem_cons.mpr ⟨zd_22, List.forall_mem_cons.mpr ⟨zd_23, List.forall_mem_cons.mpr ⟨zd_24, List.forall_mem_cons.mpr ⟨zd_25, List.forall_mem_cons.mpr ⟨zd_26, List.forall_mem_cons.mpr ⟨zd_27, List.forall_mem_cons.mpr ⟨zd_28, List.forall_mem_cons.mpr ⟨zd_29, List.forall_mem_cons.mpr ⟨zd_30, List.forall_mem_cons.mpr ⟨zd_31, List.forall_mem_cons.mpr ⟨zd_32, List.forall_mem_cons.mpr ⟨zd_33, List.forall_mem_cons.mpr ⟨zd_34, List.forall_mem_cons.mpr ⟨zd_35, List.forall_mem_cons.mpr ⟨zd_36, List.forall_mem_cons.mpr ⟨zd_37, List.forall_mem_cons.mpr ⟨zd_38, List.forall_mem_cons.mpr ⟨zd_39, fun _ h => absurd h List.not_mem_nil⟩⟩⟩⟩⟩⟩⟩⟩⟩⟩⟩⟩⟩⟩⟩⟩⟩⟩⟩⟩⟩⟩⟩⟩⟩⟩⟩⟩⟩⟩⟩⟩⟩⟩⟩⟩⟩⟩⟩⟩
theorem zm_s1 : za_ML1.all za_mok = true := by decide +kernel
set_option maxRecDepth 20000 in
theorem zm_w1 : ∀ w ∈ za_ML1.flatMap (fun Y => [za_word Y, .initialized Y.1.cls]), w ∈ za_wd := za_mem [722, 117, 726, 117, 730, 117, 734, 117, 737, 117, 742, 108, 746, 111, 753, 108, 756, 107, 761, 108, 831, 112, 836, 111, 840, 114, 844, 113, 847, 126, 851, 113, 854, 113, 858, 113, 910, 113, 914, 113, 919, 113, 923, 112, 927, 112, 931, 112, 936, 112, 940, 112, 944, 112, 948, 131, 955, 112, 959, 112, 963, 112, 968, 112, 972, 109, 976, 112, 980, 113, 984, 109, 988, 112, 992, 111, 996, 111, 1000, 112] rfl (by decide +kernel)
theorem zm_d1 : ∀ Y ∈ za_ML1, (za_is Y).all (za_dok Y.2.1) = true := List.forall_mem_cons.mpr ⟨zd_40, List.forall_mem_cons.mpr ⟨zd_41, List.forall_mem_cons.mpr ⟨zd_42, List.forall_mem_cons.mpr ⟨zd_43, List.forall_mem_cons.mpr ⟨zd_44, List.forall_mem_cons.mpr ⟨zd_45, List.forall_mem_cons.mpr ⟨zd_46, List.forall_mem_cons.mpr ⟨zd_47, List.forall_mem_cons.mpr ⟨zd_48, List.forall_mem_cons.mpr ⟨zd_49, List.forall_mem_cons.mpr ⟨zd_50, List.forall_mem_cons.mpr ⟨zd_51, List.forall_mem_cons.mpr ⟨zd_52, List.forall_mem_cons.mpr ⟨zd_53, List.forall_mem_cons.mpr ⟨zd_54, List.forall_mem_cons.mpr ⟨zd_55, List.forall_mem_cons.mpr ⟨zd_56, List.forall_mem_cons.mpr ⟨zd_57, List.forall_mem_cons.mpr ⟨zd_58, List.forall_mem_cons.mpr ⟨zd_59, List.forall_mem_cons.mpr ⟨zd_60, List.forall_mem_cons.mpr ⟨zd_61, List.forall_mem_cons.mpr ⟨zd_62, List.forall_mem_cons.mpr ⟨zd_63, List.forall_mem_cons.mpr ⟨zd_64, List.forall_mem_cons.mpr ⟨zd_65, List.forall_mem_cons.mpr ⟨zd_66, List.forall_mem_cons.mpr ⟨zd_67, List.forall_mem_cons.mpr ⟨zd_68, List.forall_mem_cons.mpr ⟨zd_69, List.forall_mem_cons.mpr ⟨zd_70, List.forall_mem_cons.mpr ⟨zd_71, List.forall_mem_cons.mpr ⟨zd_72, List.forall_mem_cons.mpr ⟨zd_73, List.forall_mem_cons.mpr ⟨zd_74, List.forall_mem_cons.mpr ⟨zd_75, List.forall_mem_cons.mpr ⟨zd_76, List.forall_mem_cons.mpr ⟨zd_77, List.forall_mem_cons.mpr ⟨zd_78, List.forall_mem_cons.mpr ⟨zd_79, fun _ h => absurd h List.not_mem_nil⟩⟩⟩⟩⟩⟩⟩⟩⟩⟩⟩⟩⟩⟩⟩⟩⟩⟩⟩⟩⟩⟩⟩⟩⟩⟩⟩⟩⟩⟩⟩⟩⟩⟩⟩⟩⟩⟩⟩⟩
theorem zm_s2 : za_ML2.all za_mok = true := by decide +kernel
set_option maxRecDepth 20000 in
theorem zm_w2 : ∀ w ∈ za_ML2.flatMap (fun Y => [za_word Y, .initialized Y.1.cls]), w ∈ za_wd := za_mem [1004, 112, 1008, 112, 1012, 112, 1016, 112, 1020, 112, 1024, 114, 1028, 113, 1032, 114, 1036, 114, 1040, 114, 1044, 113, 1049, 114, 1053, 114, 1057, 114, 1061, 114, 1066, 114, 1070, 114, 1075, 112, 1080, 108, 1084, 118, 1087, 107, 1092, 108, 1113, 107, 1117, 108, 1120, 108, 1125, 109, 1130, 107, 1134, 108, 1138, 108, 1142, 107, 1146, 108, 1152, 107, 1156, 108, 1160, 111, 1164, 107, 1168, 108, 1172, 111, 1176, 134, 1182, 107, 1186, 108] rfl (by decide +kernel)
theorem zm_d2 : ∀ Y ∈ za_ML2, (za_is Y).all (za_dok Y.2.1) = true := List.forall_mem_cons.mpr ⟨zd_80, List.forall_mem_cons.mpr ⟨zd_81, List.forall_mem_cons.mpr ⟨zd_82, List.forall_mem_cons.mpr ⟨zd_83, List.forall_mem_cons.mpr ⟨zd_84, List.forall_mem_cons.mpr ⟨zd_85, List.forall_mem_cons.mpr ⟨zd_86, List.forall_mem_cons.mpr ⟨zd_87, List.forall_mem_cons.mpr ⟨zd_88, List.forall_mem_cons.mpr ⟨zd_89, List.forall_mem_cons.mpr ⟨zd_90, List.forall_mem_cons.mpr ⟨zd_91, List.forall_mem_cons.mpr ⟨zd_92, List.forall_mem_cons.mpr ⟨zd_93, List.forall_mem_cons.mpr ⟨zd_94, List.forall_mem_cons.mpr ⟨zd_95, List.forall_mem_cons.mpr ⟨zd_96, List.forall_mem_cons.mpr ⟨zd_97, List.forall_mem_cons.mpr ⟨zd_98, List.forall_mem_cons.mpr ⟨zd_99, List.forall_mem_cons.mpr ⟨zd_100, List.forall_mem_cons.mpr ⟨zd_101, List.forall_mem_cons.mpr ⟨zd_102, List.forall_mem_cons.mpr ⟨zd_103, List.forall_mem_cons.mpr ⟨zd_104, List.forall_mem_cons.mpr ⟨zd_105, List.forall_mem_cons.mpr ⟨zd_106, List.forall_mem_cons.mpr ⟨zd_107, List.forall_mem_cons.mpr ⟨zd_108, List.forall_mem_cons.mpr ⟨zd_109, List.forall_mem_cons.mpr ⟨zd_110, List.forall_mem_cons.mpr ⟨zd_111, List.forall_mem_cons.mpr ⟨zd_112, List.forall_mem_cons.mpr ⟨zd_113, List.forall_mem_cons.mpr ⟨zd_114, List.forall_mem_cons.mpr ⟨zd_115, List.forall_mem_cons.mpr ⟨zd_116, List.forall_mem_cons.mpr ⟨zd_117, List.forall_mem_cons.mpr ⟨zd_118, List.forall_mem_cons.mpr ⟨zd_119, fun _ h => absurd h List.not_mem_nil⟩⟩⟩⟩⟩⟩⟩⟩⟩⟩⟩⟩⟩⟩⟩⟩⟩⟩⟩⟩⟩⟩⟩⟩⟩⟩⟩⟩⟩⟩⟩⟩⟩⟩⟩⟩⟩⟩⟩⟩
theorem zm_s3 : za_ML3.all za_mok = true := by decide +kernel
set_option maxRecDepth 20000 in
theorem zm_w3 : ∀ w ∈ za_ML3.flatMap (fun Y => [za_word Y, .initialized Y.1.cls]), w ∈ za_wd := za_mem [1190, 107, 1194, 108, 1199, 107, 1203, 108, 1208, 116, 1213, 111, 1217, 116, 1221, 116, 1225, 109, 1229, 109, 1233, 109, 1239, 116, 1242, 107, 1246, 108, 1250, 108, 1254, 107, 1258, 108, 1262, 107, 1266, 108, 1270, 118, 1276, 118, 1280, 118, 1285, 118, 1289, 109, 1293, 126, 1297, 126, 1302, 118, 1305, 134, 1310, 118, 1314, 118, 1319, 107, 1323, 108, 1327, 107, 1331, 108, 1336, 118, 1339, 107, 1343, 108, 1348, 107, 1352, 108, 1356, 119] rfl (by decide +kernel)
theorem zm_d3 : ∀ Y ∈ za_ML3, (za_is Y).all (za_dok Y.2.1) = true := List.forall_mem_cons.mpr ⟨zd_120, List.forall_mem_cons.mpr ⟨zd_121, List.forall_mem_cons.mpr ⟨zd_122, List.forall_mem_cons.mpr ⟨zd_123, List.forall_mem_cons.mpr ⟨zd_124, List.forall_mem_cons.mpr ⟨zd_125, List.forall_mem_cons.mpr ⟨zd_126, List.forall_mem_cons.mpr ⟨zd_127, List.forall_mem_cons.mpr ⟨zd_128, List.forall_mem_cons.mpr ⟨zd_129, List.forall_mem_cons.mpr ⟨zd_130, List.forall_mem_cons.mpr ⟨zd_131, List.forall_mem_cons.mpr ⟨zd_132, List.forall_mem_cons.mpr ⟨zd_133, List.forall_mem_cons.mpr ⟨zd_134, List.forall_mem_cons.mpr ⟨zd_135, List.forall_mem_cons.mpr ⟨zd_136, List.forall_mem_cons.mpr ⟨zd_137, List.forall_mem_cons.mpr ⟨zd_138, List.forall_mem_cons.mpr ⟨zd_139, List.forall_mem_cons.mpr ⟨zd_140, List.forall_mem_cons.mpr ⟨zd_141, List.forall_mem_cons.mpr ⟨zd_142, List.forall_mem_cons.mpr ⟨zd_143, List.forall_mem_cons.mpr ⟨zd_144, List.forall_mem_cons.mpr ⟨zd_145, List.forall_mem_cons.mpr ⟨zd_146, List.forall_mem_cons.mpr ⟨zd_147, List.forall_mem_cons.mpr ⟨zd_148, List.forall_mem_cons.mpr ⟨zd_149, List.forall_mem_cons.mpr ⟨zd_150, List.forall_mem_cons.mpr ⟨zd_151, List.forall_mem_cons.mpr ⟨zd_152, List.forall_mem_cons.mpr ⟨zd_153, List.forall_mem_cons.mpr ⟨zd_154, List.forall_mem_cons.mpr ⟨zd_155, List.forall_mem_cons.mpr ⟨zd_156, List.forall_mem_cons.mpr ⟨zd_157, List.forall_mem_cons.mpr ⟨zd_158, List.forall_mem_cons.mpr ⟨zd_159, fun _ h => absurd h List.not_mem_nil⟩⟩⟩⟩⟩⟩⟩⟩⟩⟩⟩⟩⟩⟩⟩⟩⟩⟩⟩⟩⟩⟩⟩⟩⟩⟩⟩⟩⟩⟩⟩⟩⟩⟩⟩⟩⟩⟩⟩⟩
theorem zm_s4 : za_ML4.all za_mok = true := by decide +kernel
set_option maxRecDepth 20000 in
theorem zm_w4 : ∀ w ∈ za_ML4.flatMap (fun Y => [za_word Y, .initialized Y.1.cls]), w ∈ za_wd := za_mem [1360, 119, 1365, 109, 1368, 107, 1372, 108, 1377, 120, 1380, 120, 1388, 121, 1650, 121, 1654, 121, 1658, 121, 1662, 121, 1666, 121, 1670, 121, 1673, 121, 1676, 121, 1680, 121, 1684, 121, 1688, 121, 1691, 121, 1694, 121, 1699, 121, 1703, 121, 1707, 121, 1711, 121, 1715, 121, 1718, 121, 1722, 121, 1726, 121, 1730, 121, 1734, 121, 1738, 121, 1742, 121, 1746, 121, 1750, 121, 1754, 121, 1758, 121, 1762, 121, 1766, 121, 1770, 121, 1774, 121] rfl (by decide +kernel)
theorem zm_d4 : ∀ Y ∈ za_ML4, (za_is Y).all (za_dok Y.2.1) = true := List.forall_mem_cons.mpr ⟨zd_160, List.forall_mem_cons.mpr ⟨zd_161, List.forall_mem_cons.mpr ⟨zd_162, List.forall_mem_cons.mpr ⟨zd_163, List.forall_mem_cons.mpr ⟨zd_164, List.forall_mem_cons.mpr ⟨zd_165, List.forall_mem_cons.mpr ⟨zd_166, List.forall_mem_cons.mpr ⟨zd_167, List.forall_mem_cons.mpr ⟨zd_168, List.forall_mem_cons.mpr ⟨zd_169, List.forall_mem_cons.mpr ⟨zd_170, List.forall_mem_cons.mpr ⟨zd_171, List.forall_mem_cons.mpr ⟨zd_172, List.forall_mem_cons.mpr ⟨zd_173, List.forall_mem_cons.mpr ⟨zd_174, List.forall_mem_cons.mpr ⟨zd_175, List.forall_mem_cons.mpr ⟨zd_176, List.forall_mem_cons.mpr ⟨zd_177, List.forall_mem_cons.mpr ⟨zd_178, List.forall_mem_cons.mpr ⟨zd_179, List.forall_mem_cons.mpr ⟨zd_180, List.forall_mem_cons.mpr ⟨zd_181, List.forall_mem_cons.mpr ⟨zd_182, List.forall_mem_cons.mpr ⟨zd_183, List.forall_mem_cons.mpr ⟨zd_184, List.forall_mem_cons.mpr ⟨zd_185, List.forall_mem_cons.mpr ⟨zd_186, List.forall_mem_cons.mpr ⟨zd_187, List.forall_mem_cons.mpr ⟨zd_188, List.forall_mem_cons.mpr ⟨zd_189, List.forall_mem_cons.mpr ⟨zd_190, List.forall_mem_cons.mpr ⟨zd_191, List.forall_mem_cons.mpr ⟨zd_192, List.forall_mem_cons.mpr ⟨zd_193, List.forall_mem_cons.mpr ⟨zd_194, List.forall_mem_cons.mpr ⟨zd_195, List.forall_mem_cons.mpr ⟨zd_196, List.forall_mem_cons.mpr ⟨zd_197, List.forall_mem_cons.mpr ⟨zd_198, List.forall_mem_cons.mpr ⟨zd_199, fun _ h => absurd h List.not_mem_nil⟩⟩⟩⟩⟩⟩⟩⟩⟩⟩⟩⟩⟩⟩⟩⟩⟩⟩⟩⟩⟩⟩⟩⟩⟩⟩⟩⟩⟩⟩⟩⟩⟩⟩⟩⟩⟩⟩⟩⟩
theorem zm_s5 : za_ML5.all za_mok = true := by decide +kernel
set_option maxRecDepth 20000 in
theorem zm_w5 : ∀ w ∈ za_ML5.flatMap (fun Y => [za_word Y, .initialized Y.1.cls]), w ∈ za_wd := za_mem [1777, 121, 1780, 121, 1784, 121, 1788, 121, 1792, 121, 1796, 121, 1800, 121, 1804, 121, 1808, 121, 1812, 121, 1816, 121, 1820, 121, 1824, 121, 1828, 121, 1832, 121, 1836, 121, 1840, 121, 1844, 121, 1848, 121, 1852, 121, 1856, 121, 1860, 121, 1864, 121, 1868, 121, 1872, 121, 1876, 121, 1880, 121, 1884, 121, 1888, 121, 1892, 121, 1896, 121, 1900, 121, 1904, 121, 1908, 121, 1912, 121, 1915, 121, 1919, 121, 1923, 121, 1927, 121, 1931, 121] rfl (by decide +kernel)
theorem zm_d5 : ∀ Y ∈ za_ML5, (za_is Y).all (za_dok Y.2.1) = true := List.forall_mem_cons.mpr ⟨zd_200, List.forall_mem_cons.mpr ⟨zd_201, List.forall_mem_cons.mpr ⟨zd_202, List.forall_mem_cons.mpr ⟨zd_203, List.forall_mem_cons.mpr ⟨zd_204, List.forall_mem_cons.mpr ⟨zd_205, List.forall_mem_cons.mpr ⟨zd_206, List.forall_mem_cons.mpr ⟨zd_207, List.forall_mem_cons.mpr ⟨zd_208, List.forall_mem_cons.mpr ⟨zd_209, List.forall_mem_cons.mpr ⟨zd_210, List.forall_mem_cons.mpr ⟨zd_211, List.forall_mem_cons.mpr ⟨zd_212, List.forall_mem_cons.mpr ⟨zd_213, List.forall_mem_cons.mpr ⟨zd_214, List.forall_mem_cons.mpr ⟨zd_215, List.forall_mem_cons.mpr ⟨zd_216, List.forall_mem_cons.mpr ⟨zd_217, List.forall_mem_cons.mpr ⟨zd_218, List.forall_mem_cons.mpr ⟨zd_219, List.forall_mem_cons.mpr ⟨zd_220, List.forall_mem_cons.mpr ⟨zd_221, List.forall_mem_cons.mpr ⟨zd_222, List.forall_mem_cons.mpr ⟨zd_223, List.forall_mem_cons.mpr ⟨zd_224, List.forall_mem_cons.mpr ⟨zd_225, List.forall_mem_cons.mpr ⟨zd_226, List.forall_mem_cons.mpr ⟨zd_227, List.forall_mem_cons.mpr ⟨zd_228, List.forall_mem_cons.mpr ⟨zd_229, List.forall_mem_cons.mpr ⟨zd_230, List.forall_mem_cons.mpr ⟨zd_231, List.forall_mem_cons.mpr ⟨zd_232, List.forall_mem_cons.mpr ⟨zd_233, List.forall_mem_cons.mpr ⟨zd_234, List.forall_mem_cons.mpr ⟨zd_235, List.forall_mem_cons.mpr ⟨zd_236, List.forall_mem_cons.mpr ⟨zd_237, List.forall_mem_cons.mpr ⟨zd_238, List.forall_mem_cons.mpr ⟨zd_239, fun _ h => absurd h List.not_mem_nil⟩⟩⟩⟩⟩⟩⟩⟩⟩⟩⟩⟩⟩⟩⟩⟩⟩⟩⟩⟩⟩⟩⟩⟩⟩⟩⟩⟩⟩⟩⟩⟩⟩⟩⟩⟩⟩⟩⟩⟩
theorem zm_s6 : za_ML6.all za_mok = true := by decide +kernel
set_option maxRecDepth 20000 in
theorem zm_w6 : ∀ w ∈ za_ML6.flatMap (fun Y => [za_word Y, .initialized Y.1.cls]), w ∈ za_wd := za_mem [1935, 121, 1938, 121, 1942, 121, 1946, 121, 1950, 121, 1954, 121, 1958, 121, 1962, 121, 1966, 121, 1970, 121, 1974, 121] rfl (by decide +kernel)
theorem zm_d6 : ∀ Y ∈ za_ML6, (za_is Y).all (za_dok Y.2.1) = true := List.forall_mem_cons.mpr ⟨zd_240, List.forall_mem_cons.mpr ⟨zd_241, List.forall_mem_cons.mpr ⟨zd_242, List.forall_mem_cons.mpr ⟨zd_243, List.forall_mem_cons.mpr ⟨zd_244, List.forall_mem_cons.mpr ⟨zd_245, List.forall_mem_cons.mpr ⟨zd_246, List.forall_mem_cons.mpr ⟨zd_247, List.forall_mem_cons.mpr ⟨zd_248, List.forall_mem_cons.mpr ⟨zd_249, List.forall_mem_cons.mpr ⟨zd_250, fun _ h => absurd h List.not_mem_nil⟩⟩⟩⟩⟩⟩⟩⟩⟩⟩⟩
theorem zm_all {j : Nat} {Y : za_MI} (h : za_MT j = some Y) : Y ∈ za_ML := List.mem_of_getElem? h
theorem zm_s : ∀ Y ∈ za_ML, za_mok Y = true := List.forall_mem_append.mpr ⟨(List.all_eq_true.mp zm_s0), List.forall_mem_append.mpr ⟨(List.all_eq_true.mp zm_s1), List.forall_mem_append.mpr ⟨(List.all_eq_true.mp zm_s2), List.forall_mem_append.mpr ⟨(List.all_eq_true.mp zm_s3), List.forall_mem_append.mpr ⟨(List.all_eq_true.mp zm_s4), List.forall_mem_append.mpr ⟨(List.all_eq_true.mp zm_s5), (List.all_eq_true.mp zm_s6)⟩⟩⟩⟩⟩⟩
theorem zm_w : ∀ Y ∈ za_ML, ∀ w ∈ [za_word Y, Cond.initialized Y.1.cls], w ∈ za_wd := List.forall_mem_append.mpr ⟨(fun Y hY w hw => zm_w0 w (List.mem_flatMap.mpr ⟨Y, hY, hw⟩)), List.forall_mem_append.mpr ⟨(fun Y hY w hw => zm_w1 w (List.mem_flatMap.mpr ⟨Y, hY, hw⟩)), List.forall_mem_append.mpr ⟨(fun Y hY w hw => zm_w2 w (List.mem_flatMap.mpr ⟨Y, hY, hw⟩)), List.forall_mem_append.mpr ⟨(fun Y hY w hw => zm_w3 w (List.mem_flatMap.mpr ⟨Y, hY, hw⟩)), List.forall_mem_append.mpr ⟨(fun Y hY w hw => zm_w4 w (List.mem_flatMap.mpr ⟨Y, hY, hw⟩)), List.forall_mem_append.mpr ⟨(fun Y hY w hw => zm_w5 w (List.mem_flatMap.mpr ⟨Y, hY, hw⟩)), (fun Y hY w hw => zm_w6 w (List.mem_flatMap.mpr ⟨Y, hY, hw⟩))⟩⟩⟩⟩⟩⟩
theorem zm_d : ∀ Y ∈ za_ML, (za_is Y).all (za_dok Y.2.1) = true := List.forall_mem_append.mpr ⟨zm_d0, List.forall_mem_append.mpr ⟨zm_d1, List.forall_mem_append.mpr ⟨zm_d2, List.forall_mem_append.mpr ⟨zm_d3, List.forall_mem_append.mpr ⟨zm_d4, List.forall_mem_append.mpr ⟨zm_d5, zm_d6⟩⟩⟩⟩⟩⟩
end
section
/-! ===== one instruction over values known in part; a method's run; a call ===== -/
abbrev za_N : Type := Option (List za_S × List za_X)
/-- heap, ranges, cells, slots -/
abbrev za_T : Type := List za_O × za_R × Nat × Nat
abbrev za_LV : Type := List (Nat × za_V)
def za_go (lv : za_LV) (t : za_T) (pc : Nat) (st : List za_V) : za_N := some ([(pc, lv, st, t)], [])
def za_load (k i : Nat) (sel : za_V → Bool) (pc : Nat) (lv : za_LV) (st : List za_V) (t : za_T) : za_N := match za_get lv i with
  | some v => bif sel v then za_go lv t (pc + k) (v :: st) else none
  | none => none
def za_isI (v : za_V) : Bool := match v with
  | .inl _ => true
  | _ => false
def za_isL (v : za_V) : Bool := match v with
  | .inr (.inl _) => true
  | _ => false
def za_isR (v : za_V) : Bool := match v with
  | .inr (.inr (some _)) => true
  | _ => false
def za_stor1 (k i nL : Nat) (sel : za_V → Bool) (pc : Nat) (lv : za_LV) (st : List za_V) (t : za_T) : za_N := match st with
  | v :: rest => bif Nat.blt i nL then bif sel v then za_go (za_st1 lv i v) t (pc + k) rest else none else none
  | _ => none
def za_stor2 (k i nL : Nat) (pc : Nat) (lv : za_LV) (st : List za_V) (t : za_T) : za_N := match st with
  | .inr (.inl o) :: rest => bif Nat.blt (i + 1) nL then za_go (za_st2 lv i (.inr (.inl o))) t (pc + k) rest else none
  | _ => none
def za_iinc (i nL : Nat) (d : Int) (pc : Nat) (lv : za_LV) (st : List za_V) (t : za_T) : za_N := match za_get lv i with
  | some (.inl v) => bif Nat.blt i nL then bif za_in d d then za_go (za_st1 lv i (.inl (za_add t.2.1 v (za_n d)))) t (pc + 3) st else none else none
  | _ => none
def za_cst (k : Int) (n : Nat) (pc : Nat) (lv : za_LV) (st : List za_V) (t : za_T) : za_N := bif za_ile (-128) k then bif za_ile k 127 then za_go lv t (pc + n) (.inl (za_n k) :: st) else none else none
def za_binI (f : za_R → za_I → za_I → za_I) (pc : Nat) (lv : za_LV) (st : List za_V) (t : za_T) : za_N := match st with
  | .inl b :: .inl a :: rest => za_go lv t (pc + 1) (.inl (f t.2.1 a b) :: rest)
  | _ => none
def za_divI (f : Int32 → Int32 → Int32) (pc : Nat) (lv : za_LV) (st : List za_V) (t : za_T) : za_N := match st with
  | .inl b :: .inl a :: rest => match za_k t.2.1 b with
    | some d => bif za_ieq d 0 then none else za_go lv t (pc + 1) (.inl (za_b2 f t.2.1 a b) :: rest)
    | none => none
  | _ => none
def za_unI (f : Int32 → Int32) (pc : Nat) (lv : za_LV) (st : List za_V) (t : za_T) : za_N := match st with
  | .inl a :: rest => za_go lv t (pc + 1) (.inl (za_u1 f t.2.1 a) :: rest)
  | _ => none
def za_binL (f : Int64 → Int64 → Int64) (pc : Nat) (lv : za_LV) (st : List za_V) (t : za_T) : za_N := match st with
  | .inr (.inl b) :: .inr (.inl a) :: rest => za_go lv t (pc + 1) (.inr (.inl (za_l2 f a b)) :: rest)
  | _ => none
def za_shL (f : Int64 → Int32 → Int64) (z : Bool) (pc : Nat) (lv : za_LV) (st : List za_V) (t : za_T) : za_N := match st with
  | .inl b :: .inr (.inl a) :: rest => za_go lv t (pc + 1) (.inr (.inl (za_ls f z t.2.1 a b)) :: rest)
  | _ => none
def za_i2l (pc : Nat) (lv : za_LV) (st : List za_V) (t : za_T) : za_N := match st with
  | .inl a :: rest => za_go lv t (pc + 1) (.inr (.inl ((za_k t.2.1 a).map (fun c => (Int32.ofInt c).toInt64))) :: rest)
  | _ => none
def za_l2iv (o : Option Int64) : za_I := match o with
  | some c => za_c c.toInt32
  | none => za_top
def za_l2i (pc : Nat) (lv : za_LV) (st : List za_V) (t : za_T) : za_N := match st with
  | .inr (.inl a) :: rest => za_go lv t (pc + 1) (.inl (za_l2iv a) :: rest)
  | _ => none
def za_cmpv (a b : Option Int64) : za_I := match a, b with
  | some c, some d => za_c (lg_cmp c d)
  | _, _ => za_top
def za_lcmp (pc : Nat) (lv : za_LV) (st : List za_V) (t : za_T) : za_N := match st with
  | .inr (.inl b) :: .inr (.inl a) :: rest => za_go lv t (pc + 1) (.inl (za_cmpv a b) :: rest)
  | _ => none
def za_dup (pc : Nat) (lv : za_LV) (st : List za_V) (t : za_T) : za_N := match st with
  | v :: rest => bif Nat.beq (za_cat v) 1 then za_go lv t (pc + 1) (v :: v :: rest) else none
  | _ => none
def za_pop (pc : Nat) (lv : za_LV) (st : List za_V) (t : za_T) : za_N := match st with
  | v :: rest => bif Nat.beq (za_cat v) 1 then za_go lv t (pc + 1) rest else none
  | _ => none
def za_dup2 (pc : Nat) (lv : za_LV) (st : List za_V) (t : za_T) : za_N := match st with
  | v :: w :: rest => bif Nat.beq (za_cat v) 1 then bif Nat.beq (za_cat w) 1 then za_go lv t (pc + 1) (v :: w :: v :: w :: rest) else none else none
  | _ => none
/-- where a branch leads -/
def za_tg (pc : Nat) (off : Int) : Option Nat := match (pc : Int) + off with
  | .ofNat n => some n
  | .negSucc _ => none
def za_one (lv : za_LV) (t : za_T) (pc : Nat) (st : List za_V) (o : Option za_R) : List za_S := match o with
  | some ρ => [(pc, lv, st, t.1, ρ, t.2.2)]
  | none => []
def za_two (off : Int) (yes no : Option za_R) (pc : Nat) (lv : za_LV) (st : List za_V) (t : za_T) : za_N := match za_tg pc off with
  | some g => some (za_one lv t g st yes ++ za_one lv t (pc + 3) st no, [])
  | none => none
def za_if1 (off : Int) (y no : za_R → za_I → za_I → Option za_R) (pc : Nat) (lv : za_LV) (st : List za_V) (t : za_T) : za_N := match st with
  | .inl a :: rest => za_two off (y t.2.1 a (za_n 0)) (no t.2.1 a (za_n 0)) pc lv rest t
  | _ => none
def za_if2 (off : Int) (y no : za_R → za_I → za_I → Option za_R) (pc : Nat) (lv : za_LV) (st : List za_V) (t : za_T) : za_N := match st with
  | .inl b :: .inl a :: rest => za_two off (y t.2.1 a b) (no t.2.1 a b) pc lv rest t
  | _ => none
def za_goto (off : Int) (pc : Nat) (lv : za_LV) (st : List za_V) (t : za_T) : za_N := match za_tg pc off with
  | some g => za_go lv t g st
  | none => none
/-- the branches of a table: v, v + 1, .. by its offsets -/
def za_tab (pc : Nat) (lv : za_LV) (st : List za_V) (t : za_T) (a : za_I) (r1 r2 : Int) : Int → List Int → Option (List za_S)
  | _, [] => some []
  | v, off :: offs => match za_tab pc lv st t a r1 r2 (v + 1) offs with
    | none => none
    | some l => bif za_ile r1 v then bif za_ile v r2 then match za_tg pc off with
      | some g => some ((g, lv, st, t.1, za_cut t.2.1 a v v, t.2.2) :: l)
      | none => none
      else some l else some l
def za_tsw (dflt lo hi : Int) (offs : Array Int) (pc : Nat) (lv : za_LV) (st : List za_V) (t : za_T) : za_N := match st with
  | .inl a :: rest => match za_rg t.2.1 a with
    | (r1, r2) => match za_tg pc dflt, za_tab pc lv rest t a r1 r2 lo offs.toList with
      | some g, some l => bif za_ieq (lo + offs.toList.length) (hi + 1) then some ((bif za_ile lo r1 then [] else [(g, lv, rest, t.1, za_cut t.2.1 a r1 (lo - 1), t.2.2)]) ++ ((bif za_ile r2 hi then [] else [(g, lv, rest, t.1, za_cut t.2.1 a (hi + 1) r2, t.2.2)]) ++ l), []) else none
      | _, _ => none
  | _ => none
def za_lsw (dflt : Int) (ps : Array (Int × Int)) (pc : Nat) (lv : za_LV) (st : List za_V) (t : za_T) : za_N := match st with
  | .inl a :: rest => match za_k t.2.1 a with
    | some c => match za_tg pc (Op.lookupswitch.offset ps.toList dflt c) with
      | some g => bif (ps.toList.zip (ps.toList.drop 1)).all (fun (a, next) => a.1 < next.1) then za_go lv t g rest else none
      | none => none
    | none => none
  | _ => none
/-! the heap -/
def za_fit (ρ : za_R) (ty : FieldType) (v : za_V) : Bool := match ty, v with
  | .int, .inl _ => true
  | .boolean, .inl i => match za_rg ρ i with
    | (a, b) => bif za_ile 0 a then za_ile b 1 else false
  | .long, .inr (.inl _) => true
  | .object _, .inr (.inr _) => true
  | .array _, .inr (.inr _) => true
  | _, _ => false
def za_getf (r : Option za_row) (pc : Nat) (lv : za_LV) (st : List za_V) (t : za_T) : za_N := match r, st with
  | some (0, ci, k, _), .inr (.inr (some (q + 1))) :: rest => match t.1[q]? with
    | some (.inl (cj, fs)) => match fs[k]? with
      | some v => bif Nat.beq cj ci then za_go lv t (pc + 3) (v :: rest) else none
      | none => none
    | _ => none
  | _, _ => none
/-- is it a final field? (the value of a field's entry: 1 for a final one) -/
def za_putf (r : Option za_row) (own : Nat) (ini : Bool) (pc : Nat) (lv : za_LV) (st : List za_V) (t : za_T) : za_N := match r, st with
  | some (0, ci, k, fin), v :: .inr (.inr (some (q + 1))) :: rest => match t.1[q]? with
    | some (.inl (cj, fs)) => bif Nat.beq cj ci then bif Nat.blt k fs.length then bif za_fit t.2.1 (za_tyX ci k) v then
        bif za_ieq fin 0 then za_go lv (t.1.set q (.inl (ci, fs.set k v)), t.2) (pc + 3) rest
        else bif ini then bif Nat.beq ci own then za_go lv (t.1.set q (.inl (ci, fs.set k v)), t.2) (pc + 3) rest else none else none
      else none else none else none
    | _ => none
  | _, _ => none
def za_ild (bt : Bool) (L : Nat) (pc : Nat) (lv : za_LV) (st : List za_V) (t : za_T) : za_N := match st with
  | .inl i :: .inr (.inr (some 0)) :: rest => match za_k t.2.1 i with
    | some (.ofNat c) => bif bt then none else bif Nat.blt c L then za_go lv t (pc + 1) (.inl (c + 1, 0, 0) :: rest) else none
    | _ => none
  | .inl i :: .inr (.inr (some (q + 1))) :: rest => match t.1[q]? with
    | some (.inr (.inl (ty, m, d, ups))) => bif Bool.xor bt (Nat.beq ty 0) then match za_rg t.2.1 i with
      | (.ofNat a, .ofNat b) => bif Nat.ble a b then bif Nat.blt b m then za_go lv t (pc + 1) (.inl (za_rd t.2.1 d ups a (b - a)) :: rest) else none else none
      | _ => none
      else none
    | _ => none
  | _ => none
def za_nar (ρ : za_R) (ty : Nat) (v : za_I) : za_I := match ty with
  | 0 => v
  | 1 => za_u1 (vp_nar .byte) ρ v
  | _ => za_u1 (vp_nar .boolean) ρ v
def za_ist (bt : Bool) (pc : Nat) (lv : za_LV) (st : List za_V) (t : za_T) : za_N := match st with
  | .inl v :: .inl i :: .inr (.inr (some (q + 1))) :: rest => match t.1[q]?, za_k t.2.1 i with
    | some (.inr (.inl (ty, m, d, ups))), some (.ofNat c) => bif Bool.xor bt (Nat.beq ty 0) then bif Nat.blt c m then za_go lv (t.1.set q (.inr (.inl (ty, m, d, za_wr d ups c (za_nar t.2.1 ty v)))), t.2) (pc + 1) rest else none else none
    | _, _ => none
  | _ => none
def za_lld (pc : Nat) (lv : za_LV) (st : List za_V) (t : za_T) : za_N := match st with
  | .inl i :: .inr (.inr (some (q + 1))) :: rest => match t.1[q]?, za_k t.2.1 i with
    | some (.inr (.inr (m, d, ups))), some (.ofNat c) => bif Nat.blt c m then za_go lv t (pc + 1) (.inr (.inl (za_at d ups c)) :: rest) else none
    | _, _ => none
  | _ => none
def za_lst (pc : Nat) (lv : za_LV) (st : List za_V) (t : za_T) : za_N := match st with
  | .inr (.inl v) :: .inl i :: .inr (.inr (some (q + 1))) :: rest => match t.1[q]?, za_k t.2.1 i with
    | some (.inr (.inr (m, d, ups))), some (.ofNat c) => bif Nat.blt c m then za_go lv (t.1.set q (.inr (.inr (m, d, za_wr d ups c v))), t.2) (pc + 1) rest else none
    | _, _ => none
  | _ => none
def za_alen (L : Nat) (pc : Nat) (lv : za_LV) (st : List za_V) (t : za_T) : za_N := match st with
  | .inr (.inr (some 0)) :: rest => bif Nat.blt L 100000 then za_go lv t (pc + 1) (.inl (za_n L) :: rest) else none
  | .inr (.inr (some (q + 1))) :: rest => match t.1[q]? with
    | some (.inr (.inl (_, m, _, _))) => bif Nat.blt m 100000 then za_go lv t (pc + 1) (.inl (za_n m) :: rest) else none
    | some (.inr (.inr (m, _, _))) => bif Nat.blt m 100000 then za_go lv t (pc + 1) (.inl (za_n m) :: rest) else none
    | _ => none
  | _ => none
def za_df (ty : FieldType) : za_V := match ty with
  | .int => .inl (0, 0, 0)
  | .boolean => .inl (0, 0, 0)
  | .long => .inr (.inl (some 0))
  | _ => .inr (.inr none)
/-- the fields of a new object -/
def za_fs (ci : Nat) : Nat → List za_V
  | 0 => []
  | k + 1 => za_fs ci k ++ [za_df (za_tyX ci k)]
def za_newo (mc ms : Nat) (r : Option za_row) (pc : Nat) (lv : za_LV) (st : List za_V) (t : za_T) : za_N := match r with
  | some (5, ci, _, _) => bif Nat.blt t.2.2.1 mc then bif Nat.ble (t.2.2.2 + za_nX ci) ms then za_go lv (t.1 ++ [.inl (ci, za_fs ci (za_nX ci))], t.2.1, t.2.2.1 + 1, t.2.2.2 + za_nX ci) (pc + 3) (.inr (.inr (some (t.1.length + 1))) :: st) else none else none
  | _ => none
def za_newa (mc ms : Nat) (ty : ArrayType) (pc : Nat) (lv : za_LV) (st : List za_V) (t : za_T) : za_N := match st with
  | .inl i :: rest => match za_k t.2.1 i with
    | some (.ofNat c) => bif Nat.ble c 100000 then bif Nat.blt t.2.2.1 mc then bif Nat.ble (t.2.2.2 + c) ms then match ty with
      | .int => za_go lv (t.1 ++ [.inr (.inl (0, c, (0, 0, 0), []))], t.2.1, t.2.2.1 + 1, t.2.2.2 + c) (pc + 2) (.inr (.inr (some (t.1.length + 1))) :: rest)
      | .byte => za_go lv (t.1 ++ [.inr (.inl (1, c, (0, 0, 0), []))], t.2.1, t.2.2.1 + 1, t.2.2.2 + c) (pc + 2) (.inr (.inr (some (t.1.length + 1))) :: rest)
      | .boolean => za_go lv (t.1 ++ [.inr (.inl (2, c, (0, 0, 0), []))], t.2.1, t.2.2.1 + 1, t.2.2.2 + c) (pc + 2) (.inr (.inr (some (t.1.length + 1))) :: rest)
      | .long => za_go lv (t.1 ++ [.inr (.inr (c, some 0, []))], t.2.1, t.2.2.1 + 1, t.2.2.2 + c) (pc + 2) (.inr (.inr (some (t.1.length + 1))) :: rest)
      | _ => none
      else none else none else none
    | _ => none
  | _ => none
/-! ends -/
def za_iret (mc ms : Nat) (rt : Option FieldType) (st : List za_V) (t : za_T) : za_N := match rt, st with
  | some .int, [.inl a] => bif Nat.ble t.2.2.1 mc then bif Nat.ble t.2.2.2 ms then some ([], [(.inl (some (.inl a)), t.1, t.2.1)]) else none else none
  | some .boolean, [.inl a] => bif Nat.ble t.2.2.1 mc then bif Nat.ble t.2.2.2 ms then bif za_fit t.2.1 .boolean (.inl a) then some ([], [(.inl (some (.inl a)), t.1, t.2.1)]) else none else none else none
  | _, _ => none
def za_lret (mc ms : Nat) (rt : Option FieldType) (st : List za_V) (t : za_T) : za_N := match rt, st with
  | some .long, [.inr (.inl a)] => bif Nat.ble t.2.2.1 mc then bif Nat.ble t.2.2.2 ms then some ([], [(.inl (some (.inr (.inl a))), t.1, t.2.1)]) else none else none
  | _, _ => none
def za_vret (mc ms : Nat) (rt : Option FieldType) (st : List za_V) (t : za_T) : za_N := match rt, st with
  | none, [] => bif Nat.ble t.2.2.1 mc then bif Nat.ble t.2.2.2 ms then some ([], [(.inl none, t.1, t.2.1)]) else none else none
  | _, _ => none
def za_wt : List za_V → Nat
  | [] => 0
  | v :: l => za_cat v + za_wt l
/-- throw new E(text): new, dup, ldc, invokespecial, athrow -/
def za_thr (mc ms : Nat) (tab : List (Nat × Instr)) (cp : Nat → Option za_row) (ex : Nat) (pc : Nat) (st : List za_V) (t : za_T) : za_N := match za_fe tab (pc + 3), za_fe tab (pc + 4) with
  | some .dup, some (.ldc is) => match za_fe tab (pc + 6), za_fe tab (pc + 9) with
    | some (.invokespecial ic), some .athrow => match cp is, cp ic with
      | some (10, _, _, _), some (15, ex', _, _) => bif Nat.beq ex' ex then bif Nat.ble (za_wt st) 8 then bif Nat.blt t.2.2.1 mc then bif Nat.ble (t.2.2.2 + 6) ms then some ([], [(.inr ex, t.1, t.2.1)]) else none else none else none else none
      | _, _ => none
    | _, _ => none
  | some .dup, some (.ldc_w is) => match za_fe tab (pc + 7), za_fe tab (pc + 10) with
    | some (.invokespecial ic), some .athrow => match cp is, cp ic with
      | some (10, _, _, _), some (15, ex', _, _) => bif Nat.beq ex' ex then bif Nat.ble (za_wt st) 8 then bif Nat.blt t.2.2.1 mc then bif Nat.ble (t.2.2.2 + 6) ms then some ([], [(.inr ex, t.1, t.2.1)]) else none else none else none else none
      | _, _ => none
    | _, _ => none
  | _, _ => none
/-! calls -/
/-- the row of a table that takes the exception: 'none' an error, 'some none' it leaves -/
def za_hnd (cp : Nat → Option za_row) (pc ex : Nat) : List (Nat × Nat × Nat × Nat) → Option (Option Nat)
  | [] => some none
  | (a, b, hp, ct) :: l => bif Nat.ble a pc then bif Nat.blt pc b then match cp ct with
    | some (6, ex', _, _) => bif Nat.beq ct 0 then none else bif Nat.beq ex' ex then some (some hp) else match za_hnd cp pc ex l with
      | some (some hp') => some (some hp')
      | _ => none
    | _ => none
    else za_hnd cp pc ex l else za_hnd cp pc ex l
def za_aft (M : za_MI) (cp : Nat → Option za_row) (pc : Nat) (lv : za_LV) (rest : List za_V) (cs sl : Nat) (x : za_X) : za_N := match x with
  | (.inl (some v), h, ρ) => some ([(pc + 3, lv, v :: rest, h, ρ, cs, sl)], [])
  | (.inl none, h, ρ) => some ([(pc + 3, lv, rest, h, ρ, cs, sl)], [])
  | (.inr ex, h, ρ) => match za_hnd cp pc ex (za_hh M) with
    | none => none
    | some none => some ([], [(.inr ex, h, ρ)])
    | some (some hp) => match za_fe (za_is M) hp with
      | some (.astore_n k) => bif Nat.blt k.val (za_nL M) then some ([(hp + 1, lv.filter (fun q => !(q.1 == k.val) && !(q.1 + 1 == k.val && za_cat q.2 == 2)), [], h, ρ, cs, sl)], []) else none
      | some (.astore k) => bif Nat.blt k (za_nL M) then some ([(hp + 2, lv.filter (fun q => !(q.1 == k) && !(q.1 + 1 == k && za_cat q.2 == 2)), [], h, ρ, cs, sl)], []) else none
      | _ => none
def za_cat2 (f : za_X → za_N) : List za_X → za_N
  | [] => some ([], [])
  | x :: l => match f x, za_cat2 f l with
    | some a, some b => some (a.1 ++ b.1, a.2 ++ b.2)
    | _, _ => none
abbrev za_CF : Type := Nat → List za_V → List za_O → za_R → Option (List za_X)
/-- the call of method j with so many values of the stack -/
def za_nox (xs : List za_X) : Bool := match xs with
  | [] => true
  | (.inl _, _) :: l => za_nox l
  | (.inr _, _) :: _ => false
def za_inv (nx : Bool) (M : za_MI) (cp : Nat → Option za_row) (Y : za_MI) (call : za_CF) (j k : Nat) (pc : Nat) (lv : za_LV) (st : List za_V) (t : za_T) : za_N :=
  bif Nat.ble k st.length then bif Nat.ble (za_wt (st.drop k)) 8 then bif Nat.ble (t.2.2.1 + za_mc Y) (za_mc M) then bif Nat.ble (t.2.2.2 + za_ms Y) (za_ms M) then match call j (st.take k).reverse t.1 t.2.1 with
    | none => none
    | some xs => bif Bool.or (Bool.not nx) (za_nox xs) then za_cat2 (za_aft M cp pc lv (st.drop k) (t.2.2.1 + za_mc Y) (t.2.2.2 + za_ms Y)) xs else none
    else none else none else none else none
/-- the receiver is an object of this kind -/
def za_isRk (st : List za_V) (k : Nat) (h : List za_O) (own : Nat) : Bool := match st[k]? with
  | some (.inr (.inr (some (q + 1)))) => match h[q]? with
    | some (.inl (ci, _)) => Nat.beq ci own
    | _ => false
  | _ => false
def za_isRf (st : List za_V) (k : Nat) : Bool := match st[k]? with
  | some (.inr (.inr (some (_ + 1)))) => true
  | _ => false
/-- the copy of n numbers -/
def za_cpy {α : Type} [DecidableEq α] (d : α) (ups : List (Nat × α)) (d' : α) (ups' : List (Nat × α)) (sp dp : Nat) : Nat → List (Nat × α)
  | 0 => ups'
  | n + 1 => za_wr d' (za_cpy d ups d' ups' sp dp n) (dp + n) (za_at d ups (sp + n))
def za_acp (pc : Nat) (lv : za_LV) (st : List za_V) (t : za_T) : za_N := match st with
  | .inl cn :: .inl dp :: .inr (.inr (some (q1 + 1))) :: .inl sp :: .inr (.inr (some (q0 + 1))) :: rest => match t.1[q0]?, t.1[q1]?, za_k t.2.1 cn, za_k t.2.1 dp, za_k t.2.1 sp with
    | some (.inr (.inl (0, n0, d0, u0))), some (.inr (.inl (0, n1, d1, u1))), some (.ofNat c), some (.ofNat d), some (.ofNat s) => bif Nat.ble (s + c) n0 then bif Nat.ble (d + c) n1 then bif Nat.ble (za_wt rest) 8 then
        za_go lv (t.1.set q1 (.inr (.inl (0, n1, d1, za_cpy d0 u0 d1 u1 s d c))), t.2) (pc + 3) rest else none else none else none
    | _, _, _, _, _ => none
  | _ => none
def za_virt (M : za_MI) (cp : Nat → Option za_row) (MT : Nat → Option za_MI) (call : za_CF) (r : Option za_row) (pc : Nat) (lv : za_LV) (st : List za_V) (t : za_T) : za_N := match r with
  | some (1, j, k, _) => match MT j with
    | some Y => bif za_isRk st k t.1 (za_cl Y) then za_inv false M cp Y call j (k + 1) pc lv st t else none
    | none => none
  | some (11, j, k, _) => match MT j with
    | some Y => bif za_isRk st k t.1 (za_cl Y) then za_inv true M cp Y call j (k + 1) pc lv st t else none
    | none => none
  | _ => none
def za_stat (M : za_MI) (cp : Nat → Option za_row) (MT : Nat → Option za_MI) (call : za_CF) (r : Option za_row) (pc : Nat) (lv : za_LV) (st : List za_V) (t : za_T) : za_N := match r with
  | some (2, j, k, _) => match MT j with
    | some Y => za_inv false M cp Y call j k pc lv st t
    | none => none
  | some (12, j, k, _) => match MT j with
    | some Y => za_inv true M cp Y call j k pc lv st t
    | none => none
  | some (14, _, _, _) => za_acp pc lv st t
  | _ => none
def za_spec (M : za_MI) (cp : Nat → Option za_row) (MT : Nat → Option za_MI) (call : za_CF) (r : Option za_row) (pc : Nat) (lv : za_LV) (st : List za_V) (t : za_T) : za_N := match r with
  | some (3, j, k, _) => match MT j with
    | some Y => bif za_isRf st k then za_inv true M cp Y call j (k + 1) pc lv st t else none
    | none => none
  | some (13, j, k, _) => match MT j with
    | some Y => bif za_isRf st k then za_inv true M cp Y call j (k + 1) pc lv st t else none
    | none => none
  | some (4, _, _, _) => match st with
    | .inr (.inr (some (_ + 1))) :: rest => bif Nat.ble (za_wt rest) 8 then za_go lv t (pc + 3) rest else none
    | _ => none
  | _ => none
def za_new (M : za_MI) (cp : Nat → Option za_row) (r : Option za_row) (pc : Nat) (lv : za_LV) (st : List za_V) (t : za_T) : za_N := match r with
  | some (6, ex, _, _) => match za_hh M with
    | [] => za_thr (za_mc M) (za_ms M) (za_is M) cp ex pc st t
    | _ => none
  | r => za_newo (za_mc M) (za_ms M) r pc lv st t
def za_ldc (k : Nat) (r : Option za_row) (pc : Nat) (lv : za_LV) (st : List za_V) (t : za_T) : za_N := match r with
  | some (7, _, _, v) => za_go lv t (pc + k) (.inl (za_c (Int32.ofInt v)) :: st)
  | _ => none
def za_ldc2 (r : Option za_row) (pc : Nat) (lv : za_LV) (st : List za_V) (t : za_T) : za_N := match r with
  | some (8, _, _, v) => za_go lv t (pc + 3) (.inr (.inl (some (Int64.ofInt v))) :: st)
  | _ => none
def za_shr0 (x : Int64) (y : Int32) : Int64 := x >>> (y.toInt64 &&& 63)
def za_ushr0 (x : Int64) (y : Int32) : Int64 := (x.toUInt64 >>> (y.toInt64.toUInt64 &&& Int64.toUInt64 63)).toInt64
def za_shl0 (x : Int64) (y : Int32) : Int64 := x <<< (y.toInt64 &&& 63)
def za_ini (M : za_MI) : Bool := decide (M.1.name = "<init>")
def za_ins (L : Nat) (M : za_MI) (cp : Nat → Option za_row) (MT : Nat → Option za_MI) (call : za_CF) (i : Instr) (pc : Nat) (lv : za_LV) (st : List za_V) (t : za_T) : za_N := match i with
  | .iconst k => za_cst k 1 pc lv st t
  | .bipush k => za_cst k 2 pc lv st t
  | .sipush k => za_go lv t (pc + 3) (.inl (za_c (Int16.ofInt k).toInt32) :: st)
  | .lconst k => za_go lv t (pc + 1) (.inr (.inl (some (Int64.ofNat k))) :: st)
  | .ldc k => za_ldc 2 (cp k) pc lv st t
  | .ldc_w k => za_ldc 3 (cp k) pc lv st t
  | .ldc2_w k => za_ldc2 (cp k) pc lv st t
  | .iload k => za_load 2 k za_isI pc lv st t
  | .iload_n k => za_load 1 k za_isI pc lv st t
  | .lload k => za_load 2 k za_isL pc lv st t
  | .lload_n k => za_load 1 k za_isL pc lv st t
  | .aload k => za_load 2 k za_isR pc lv st t
  | .aload_n k => za_load 1 k za_isR pc lv st t
  | .istore k => za_stor1 2 k (za_nL M) za_isI pc lv st t
  | .istore_n k => za_stor1 1 k (za_nL M) za_isI pc lv st t
  | .astore k => za_stor1 2 k (za_nL M) za_isR pc lv st t
  | .astore_n k => za_stor1 1 k (za_nL M) za_isR pc lv st t
  | .lstore k => za_stor2 2 k (za_nL M) pc lv st t
  | .lstore_n k => za_stor2 1 k (za_nL M) pc lv st t
  | .iinc k d => za_iinc k (za_nL M) d pc lv st t
  | .iadd => za_binI za_add pc lv st t
  | .isub => za_binI za_sub pc lv st t
  | .imul => za_binI (za_b2 (· * ·)) pc lv st t
  | .iand => za_binI za_and pc lv st t
  | .ior => za_binI (za_b2 (· ||| ·)) pc lv st t
  | .ixor => za_binI (za_b2 (· ^^^ ·)) pc lv st t
  | .ishl => za_binI (za_b2 (fun x y => x <<< (y &&& 31))) pc lv st t
  | .ishr => za_binI (za_b2 (fun x y => x >>> (y &&& 31))) pc lv st t
  | .iushr => za_binI (za_b2 (fun x y => (x.toUInt32 >>> (y.toUInt32 &&& Int32.toUInt32 31)).toInt32)) pc lv st t
  | .idiv => za_divI (· / ·) pc lv st t
  | .irem => za_divI (fun x y => x - x / y * y) pc lv st t
  | .i2b => za_unI (fun x => x.toInt8.toInt32) pc lv st t
  | .ladd => za_binL (· + ·) pc lv st t
  | .lsub => za_binL (· - ·) pc lv st t
  | .lmul => za_binL (· * ·) pc lv st t
  | .land => za_binL (· &&& ·) pc lv st t
  | .lor => za_binL (· ||| ·) pc lv st t
  | .lxor => za_binL (· ^^^ ·) pc lv st t
  | .lshl => za_shL za_shl0 false pc lv st t
  | .lshr => za_shL za_shr0 true pc lv st t
  | .lushr => za_shL za_ushr0 true pc lv st t
  | .i2l => za_i2l pc lv st t
  | .l2i => za_l2i pc lv st t
  | .lcmp => za_lcmp pc lv st t
  | .dup => za_dup pc lv st t
  | .pop => za_pop pc lv st t
  | .dup2 => za_dup2 pc lv st t
  | .ifCond .eq o => za_if1 o za_eq za_ne pc lv st t
  | .ifCond .ne o => za_if1 o za_ne za_eq pc lv st t
  | .ifCond .lt o => za_if1 o za_lt (fun ρ a b => za_le ρ b a) pc lv st t
  | .ifCond .ge o => za_if1 o (fun ρ a b => za_le ρ b a) za_lt pc lv st t
  | .ifCond .gt o => za_if1 o (fun ρ a b => za_lt ρ b a) za_le pc lv st t
  | .ifCond .le o => za_if1 o za_le (fun ρ a b => za_lt ρ b a) pc lv st t
  | .if_icmp .eq o => za_if2 o za_eq za_ne pc lv st t
  | .if_icmp .ne o => za_if2 o za_ne za_eq pc lv st t
  | .if_icmp .lt o => za_if2 o za_lt (fun ρ a b => za_le ρ b a) pc lv st t
  | .if_icmp .ge o => za_if2 o (fun ρ a b => za_le ρ b a) za_lt pc lv st t
  | .if_icmp .gt o => za_if2 o (fun ρ a b => za_lt ρ b a) za_le pc lv st t
  | .if_icmp .le o => za_if2 o za_le (fun ρ a b => za_lt ρ b a) pc lv st t
  | .goto o => za_goto o pc lv st t
  | .tableswitch d lo hi os => za_tsw d lo hi os pc lv st t
  | .lookupswitch d ps => za_lsw d ps pc lv st t
  | .getfield k => za_getf (cp k) pc lv st t
  | .putfield k => za_putf (cp k) (za_cl M) (za_ini M) pc lv st t
  | .iaload => za_ild false L pc lv st t
  | .baload => za_ild true L pc lv st t
  | .iastore => za_ist false pc lv st t
  | .bastore => za_ist true pc lv st t
  | .laload => za_lld pc lv st t
  | .lastore => za_lst pc lv st t
  | .arraylength => za_alen L pc lv st t
  | .new k => za_new M cp (cp k) pc lv st t
  | .newarray ty => za_newa (za_mc M) (za_ms M) ty pc lv st t
  | .ireturn => za_iret (za_mc M) (za_ms M) (za_rt M) st t
  | .lreturn => za_lret (za_mc M) (za_ms M) (za_rt M) st t
  | .return_ => za_vret (za_mc M) (za_ms M) (za_rt M) st t
  | .invokevirtual k => za_virt M cp MT call (cp k) pc lv st t
  | .invokestatic k => za_stat M cp MT call (cp k) pc lv st t
  | .invokespecial k => za_spec M cp MT call (cp k) pc lv st t
  | _ => none
def za_step (L : Nat) (M : za_MI) (cp : Nat → Option za_row) (MT : Nat → Option za_MI) (call : za_CF) (S : za_S) : za_N := match S with
  | (pc, lv, st, t) => match za_fe (za_is M) pc with
    | some i => za_ins L M cp MT call i pc lv st t
    | none => none
def za_run (step : za_S → za_N) : Nat → List za_S → List za_X → Option (List za_X)
  | 0, _, _ => none
  | _ + 1, [], acc => some acc
  | n + 1, S :: wk, acc => match step S with
    | none => none
    | some (ss, xs) => za_run step n (ss ++ wk) (xs ++ acc)
def za_args : Nat → List za_V → List (Nat × za_V)
  | _, [] => []
  | i, v :: vs => (i, v) :: za_args (if za_cat v = 2 then i + 2 else i + 1) vs
def za_call (L fuel : Nat) (CP : Nat → Nat → Option za_row) (MT : Nat → Option za_MI) : Nat → za_CF
  | 0, _, _, _, _ => none
  | d + 1, j, as, h, ρ => match MT j with
    | none => none
    | some M => bif Nat.ble (za_wt as) (za_nL M) then za_run (za_step L M (CP (za_cl M)) MT (za_call L fuel CP MT d)) fuel [(0, za_args 0 as, [], h, ρ, 0, 0)] [] else none
end
section
/-! ===== what a state known in part stands for; each instruction is sound ===== -/
theorem za_bif {α : Type} {b : Bool} {x : Option α} {r : α} (h : (bif b then x else none) = some r) : b = true ∧ x = some r := by
  cases b
  · cases h
  · exact ⟨rfl, h⟩
theorem za_bifn {α : Type} {b : Bool} {x : Option α} {r : α} (h : (bif b then none else x) = some r) : b = false ∧ x = some r := by
  cases b
  · exact ⟨rfl, h⟩
  · cases h
theorem za_blt {a b : Nat} (h : Nat.blt a b = true) : a < b := Nat.le_of_ble_eq_true h
theorem za_ble {a b : Nat} (h : Nat.ble a b = true) : a ≤ b := Nat.le_of_ble_eq_true h
theorem za_beq {a b : Nat} (h : Nat.beq a b = true) : a = b := Nat.eq_of_beq_eq_true h
theorem za_F2_cons {α β : Type} {P : α → β → Prop} {a : α} {l : List α} {m : List β} (h : za_F2 P (a :: l) m) : ∃ b m', m = b :: m' ∧ P a b ∧ za_F2 P l m' := by
  cases m with
  | nil => exact h.elim
  | cons b m' => exact ⟨b, m', rfl, h.1, h.2⟩
theorem za_F2_nil {α β : Type} {P : α → β → Prop} {m : List β} (h : za_F2 P [] m) : m = [] := by
  cases m with
  | nil => rfl
  | cons b m' => exact h.elim
/-- the script's numbers, its address, the tables' numbers, the classes of arrays (int, byte, boolean, long), the heap at the start -/
abbrev za_E : Type := (Nat → Int32) × Nat × va_G × (ClassId × ClassId × ClassId × ClassId) × Heap
abbrev za_σ (E : za_E) : Nat → Int32 := E.1
abbrev za_b (E : za_E) : Nat := E.2.1
abbrev za_D (E : za_E) : va_G := E.2.2.1
abbrev za_H0 (E : za_E) : Heap := E.2.2.2.2
abbrev za_A (E : za_E) : Nat → Prop := fun q => (za_H0 E).size ≤ q
abbrev za_tys (E : za_E) : List (ClassId × FieldType) := [(E.2.2.2.1.1, .int), (E.2.2.2.1.2.1, .byte), (E.2.2.2.1.2.2.1, .boolean), (E.2.2.2.1.2.2.2, .long)]
def za_tc (E : za_E) (t : Nat) : ClassId := match t with
  | 0 => E.2.2.2.1.1
  | 1 => E.2.2.2.1.2.1
  | _ => E.2.2.2.1.2.2.1
def za_gO (E : za_E) (ads : List Nat) (o : za_O) (x : va_E) : Prop := match o, x with
  | .inl (ci, fs), .inr (cj, vs) => ci = cj ∧ za_F2 (za_gV (za_σ E) ads) fs vs
  | .inr (.inl (t, n, d, ups)), .inl (cA, n', .inl f) => n' = n ∧ t < 3 ∧ cA = za_tc E t ∧ ∀ i, i < n → za_gI (za_σ E) (za_at d ups i) (f i)
  | .inr (.inr (n, d, ups)), .inl (cA, n', .inr (.inl f)) => n' = n ∧ cA = E.2.2.2.1.2.2.2 ∧ ∀ i, i < n → za_gL (za_at d ups i) (f i)
  | _, _ => False
def za_Wd (E : za_E) (ads : List Nat) (h : List za_O) (H : Heap) : Prop := ∃ ws : va_W, ads = za_b E :: ws.map (·.1) ∧ za_F2 (fun o (q : Nat × va_E) => za_gO E ads o q.2) h ws ∧ va_P (za_D E) vwCl ws H ∧ va_D (za_A E) ws
def za_Mt (E : za_E) (nL : Nat) (s : State) (ads0 ads : List Nat) (S : za_S) (H : Heap) (locs : List Loc) (ls : Array Slot) (stk : List Value) : Prop :=
  ads0 <+: ads ∧ za_ok (za_σ E) S.2.2.2.2.1 ∧ za_F2 (za_gV (za_σ E) ads) S.2.2.1 stk ∧ (∃ lc, lv_has ls nL lc ∧ za_F2 (za_gP (za_σ E) ads) S.2.1 lc) ∧ za_Wd E ads S.2.2.2.1 H ∧ va_S (za_A E) s.heap H locs
def za_G (p : Program) (l : Launch) (e : Env) (R : Room) (s : State) (m : MethodId) (args : Array Value) (below : List Frame) (meth : Method) (c : Code) (Q : State → Prop) (E : za_E) (nL : Nat) (ads0 : List Nat) (S : za_S) : Prop :=
  ∀ (ads : List Nat) (H : Heap) (locs : List Loc) (ls : Array Slot) (stk : List Value), za_Mt E nL s ads0 ads S H locs ls stk → W p l e R s m args below meth c H locs S.2.2.2.2.2.1 S.2.2.2.2.2.2 Q (F0 m S.1 ls stk)
/-- more objects: what was known stays so -/
theorem za_gV_mono {σ : Nat → Int32} {ads ads' : List Nat} (h : ads <+: ads') {v : za_V} {w : Value} (hv : za_gV σ ads v w) : za_gV σ ads' v w := by
  match v, hv with
  | .inl i, hv => exact hv
  | .inr (.inl o), hv => exact hv
  | .inr (.inr none), hv => exact hv
  | .inr (.inr (some k)), ⟨a, h1, h2⟩ =>
    obtain ⟨r, rfl⟩ := h
    exact ⟨a, h1, by rw [List.getElem?_append_left (List.getElem?_eq_some_iff.mp h2).1]; exact h2⟩
theorem za_gP_mono {σ : Nat → Int32} {ads ads' : List Nat} (h : ads <+: ads') {v : Nat × za_V} {w : Nat × Value} (hv : za_gP σ ads v w) : za_gP σ ads' v w := ⟨hv.1, za_gV_mono h hv.2⟩
section ZS
variable {p : Program} {l : Launch} {e : Env} {R : Room} {s : State} {m : MethodId} {args : Array Value} {below : List Frame} {meth : Method} {c : Code} {Q : State → Prop} {E : za_E} {nL : Nat} {ads0 : List Nat} {cc : ByteArray} {pc : Nat}
theorem zs_go {lv : za_LV} {t : za_T} {k : Nat} {st : List za_V} {Z : List za_S × List za_X} (h : za_go lv t k st = some Z) (hk : ∀ S ∈ Z.1, za_G p l e R s m args below meth c Q E nL ads0 S) : za_G p l e R s m args below meth c Q E nL ads0 (k, lv, st, t) := by
  unfold za_go at h
  cases h
  exact hk _ List.mem_cons_self
theorem zs_push {lv : za_LV} {t : za_T} {k : Nat} {st : List za_V} {v : za_V} {Z : List za_S × List za_X} (w : Value) (hv : ∀ ads, za_gV (za_σ E) ads v w)
    (rule : ∀ {H : Heap} {locs : List Loc} {cells slots : Nat} {ls : Array Slot} {rest : List Value}, W p l e R s m args below meth c H locs cells slots Q (F0 m (pc + k) ls (w :: rest)) → W p l e R s m args below meth c H locs cells slots Q (F0 m pc ls rest))
    (h : za_go lv t (pc + k) (v :: st) = some Z) (hk : ∀ S ∈ Z.1, za_G p l e R s m args below meth c Q E nL ads0 S) : za_G p l e R s m args below meth c Q E nL ads0 (pc, lv, st, t) := by
  intro ads H locs ls stk M
  obtain ⟨h1, h2, h3, h4, h5, h6⟩ := M
  exact rule (zs_go h hk ads H locs ls (w :: stk) ⟨h1, h2, ⟨hv ads, h3⟩, h4, h5, h6⟩)
theorem zs_loadI {lv : za_LV} {t : za_T} {k i : Nat} {st : List za_V} {Z : List za_S × List za_X}
    (rule : ∀ {H : Heap} {locs : List Loc} {cells slots : Nat} {ls : Array Slot} {rest : List Value} {x : Int32}, ls[i]? = some (.val (.int x)) → W p l e R s m args below meth c H locs cells slots Q (F0 m (pc + k) ls (.int x :: rest)) → W p l e R s m args below meth c H locs cells slots Q (F0 m pc ls rest))
    (h : za_load k i za_isI pc lv st t = some Z) (hk : ∀ S ∈ Z.1, za_G p l e R s m args below meth c Q E nL ads0 S) : za_G p l e R s m args below meth c Q E nL ads0 (pc, lv, st, t) := by
  intro ads H locs ls stk M
  obtain ⟨h1, h2, h3, ⟨lc, h4, h4'⟩, h5, h6⟩ := M
  unfold za_load at h
  split at h
  · rename_i v hv
    obtain ⟨hs, h⟩ := za_bif h
    obtain ⟨w, w1, w2⟩ := za_get_ok h4' hv
    match v, hs, w2 with
    | .inl y, _, w2 =>
      obtain ⟨x, rfl, hx⟩ := id w2
      exact rule (h4.2.2 _ w1) (zs_go h hk ads H locs ls (_ :: stk) ⟨h1, h2, ⟨w2, h3⟩, ⟨lc, h4, h4'⟩, h5, h6⟩)
    | .inr (.inl _), hs, _ => cases hs
    | .inr (.inr _), hs, _ => cases hs
  · cases h
theorem zs_loadL {lv : za_LV} {t : za_T} {k i : Nat} {st : List za_V} {Z : List za_S × List za_X}
    (rule : ∀ {H : Heap} {locs : List Loc} {cells slots : Nat} {ls : Array Slot} {rest : List Value} {x : Int64}, ls[i]? = some (.val (.long x)) → W p l e R s m args below meth c H locs cells slots Q (F0 m (pc + k) ls (.long x :: rest)) → W p l e R s m args below meth c H locs cells slots Q (F0 m pc ls rest))
    (h : za_load k i za_isL pc lv st t = some Z) (hk : ∀ S ∈ Z.1, za_G p l e R s m args below meth c Q E nL ads0 S) : za_G p l e R s m args below meth c Q E nL ads0 (pc, lv, st, t) := by
  intro ads H locs ls stk M
  obtain ⟨h1, h2, h3, ⟨lc, h4, h4'⟩, h5, h6⟩ := M
  unfold za_load at h
  split at h
  · rename_i v hv
    obtain ⟨hs, h⟩ := za_bif h
    obtain ⟨w, w1, w2⟩ := za_get_ok h4' hv
    match v, hs, w2 with
    | .inr (.inl y), _, w2 =>
      obtain ⟨x, rfl, hx⟩ := id w2
      exact rule (h4.2.2 _ w1) (zs_go h hk ads H locs ls (_ :: stk) ⟨h1, h2, ⟨w2, h3⟩, ⟨lc, h4, h4'⟩, h5, h6⟩)
    | .inl _, hs, _ => cases hs
    | .inr (.inr _), hs, _ => cases hs
  · cases h
theorem zs_loadA {lv : za_LV} {t : za_T} {k i : Nat} {st : List za_V} {Z : List za_S × List za_X}
    (rule : ∀ {H : Heap} {locs : List Loc} {cells slots : Nat} {ls : Array Slot} {rest : List Value} {x : Nat}, ls[i]? = some (.val (.ref x)) → W p l e R s m args below meth c H locs cells slots Q (F0 m (pc + k) ls (.ref x :: rest)) → W p l e R s m args below meth c H locs cells slots Q (F0 m pc ls rest))
    (h : za_load k i za_isR pc lv st t = some Z) (hk : ∀ S ∈ Z.1, za_G p l e R s m args below meth c Q E nL ads0 S) : za_G p l e R s m args below meth c Q E nL ads0 (pc, lv, st, t) := by
  intro ads H locs ls stk M
  obtain ⟨h1, h2, h3, ⟨lc, h4, h4'⟩, h5, h6⟩ := M
  unfold za_load at h
  split at h
  · rename_i v hv
    obtain ⟨hs, h⟩ := za_bif h
    obtain ⟨w, w1, w2⟩ := za_get_ok h4' hv
    match v, hs, w2 with
    | .inr (.inr (some y)), _, w2 =>
      obtain ⟨x, rfl, hx⟩ := id w2
      exact rule (h4.2.2 _ w1) (zs_go h hk ads H locs ls (_ :: stk) ⟨h1, h2, ⟨w2, h3⟩, ⟨lc, h4, h4'⟩, h5, h6⟩)
    | .inl _, hs, _ => cases hs
    | .inr (.inl _), hs, _ => cases hs
    | .inr (.inr none), hs, _ => cases hs
  · cases h
theorem zs_storI {lv : za_LV} {t : za_T} {k i : Nat} {st : List za_V} {Z : List za_S × List za_X}
    (rule : ∀ {H : Heap} {locs : List Loc} {cells slots : Nat} {ls : Array Slot} {rest : List Value} {x : Int32} {lc : List (Nat × Value)}, lv_has ls nL lc → i < nL → (∀ ls' : Array Slot, lv_has ls' nL ((i, Value.int x) :: lc.filter (fun q => !(q.1 == i) && !(q.1 + 1 == i && q.2.category == 2))) → W p l e R s m args below meth c H locs cells slots Q (F0 m (pc + k) ls' rest)) → W p l e R s m args below meth c H locs cells slots Q (F0 m pc ls (.int x :: rest)))
    (h : za_stor1 k i nL za_isI pc lv st t = some Z) (hk : ∀ S ∈ Z.1, za_G p l e R s m args below meth c Q E nL ads0 S) : za_G p l e R s m args below meth c Q E nL ads0 (pc, lv, st, t) := by
  intro ads H locs ls stk M
  obtain ⟨h1, h2, h3, ⟨lc, h4, h4'⟩, h5, h6⟩ := M
  unfold za_stor1 at h
  split at h
  · rename_i v rest
    obtain ⟨hi, h⟩ := za_bif h
    obtain ⟨hs, h⟩ := za_bif h
    obtain ⟨w, stk1, rfl, w2, q1⟩ := za_F2_cons h3
    match v, hs, w2, h with
    | .inl y, _, w2, h =>
      obtain ⟨x, rfl, hx⟩ := id w2
      exact rule h4 (za_blt hi) (fun ls' h4 => zs_go h hk ads H locs ls' stk1 ⟨h1, h2, q1, ⟨_, h4, za_st1_ok h4' w2⟩, h5, h6⟩)
    | .inr (.inl _), hs, _, _ => cases hs
    | .inr (.inr _), hs, _, _ => cases hs
  · cases h
theorem zs_storA {lv : za_LV} {t : za_T} {k i : Nat} {st : List za_V} {Z : List za_S × List za_X}
    (rule : ∀ {H : Heap} {locs : List Loc} {cells slots : Nat} {ls : Array Slot} {rest : List Value} {x : Nat} {lc : List (Nat × Value)}, lv_has ls nL lc → i < nL → (∀ ls' : Array Slot, lv_has ls' nL ((i, Value.ref x) :: lc.filter (fun q => !(q.1 == i) && !(q.1 + 1 == i && q.2.category == 2))) → W p l e R s m args below meth c H locs cells slots Q (F0 m (pc + k) ls' rest)) → W p l e R s m args below meth c H locs cells slots Q (F0 m pc ls (.ref x :: rest)))
    (h : za_stor1 k i nL za_isR pc lv st t = some Z) (hk : ∀ S ∈ Z.1, za_G p l e R s m args below meth c Q E nL ads0 S) : za_G p l e R s m args below meth c Q E nL ads0 (pc, lv, st, t) := by
  intro ads H locs ls stk M
  obtain ⟨h1, h2, h3, ⟨lc, h4, h4'⟩, h5, h6⟩ := M
  unfold za_stor1 at h
  split at h
  · rename_i v rest
    obtain ⟨hi, h⟩ := za_bif h
    obtain ⟨hs, h⟩ := za_bif h
    obtain ⟨w, stk1, rfl, w2, q1⟩ := za_F2_cons h3
    match v, hs, w2, h with
    | .inr (.inr (some y)), _, w2, h =>
      obtain ⟨x, rfl, hx⟩ := id w2
      exact rule h4 (za_blt hi) (fun ls' h4 => zs_go h hk ads H locs ls' stk1 ⟨h1, h2, q1, ⟨_, h4, za_st1_ok h4' w2⟩, h5, h6⟩)
    | .inl _, hs, _, _ => cases hs
    | .inr (.inl _), hs, _, _ => cases hs
    | .inr (.inr none), hs, _, _ => cases hs
  · cases h
theorem zs_storL {lv : za_LV} {t : za_T} {k i : Nat} {st : List za_V} {Z : List za_S × List za_X}
    (rule : ∀ {H : Heap} {locs : List Loc} {cells slots : Nat} {ls : Array Slot} {rest : List Value} {x : Int64} {lc : List (Nat × Value)}, lv_has ls nL lc → i + 1 < nL → (∀ ls' : Array Slot, lv_has ls' nL ((i, Value.long x) :: lc.filter (fun q => !(q.1 == i) && (!(q.1 == i + 1) && !(q.1 + 1 == i && q.2.category == 2)))) → W p l e R s m args below meth c H locs cells slots Q (F0 m (pc + k) ls' rest)) → W p l e R s m args below meth c H locs cells slots Q (F0 m pc ls (.long x :: rest)))
    (h : za_stor2 k i nL pc lv st t = some Z) (hk : ∀ S ∈ Z.1, za_G p l e R s m args below meth c Q E nL ads0 S) : za_G p l e R s m args below meth c Q E nL ads0 (pc, lv, st, t) := by
  intro ads H locs ls stk M
  obtain ⟨h1, h2, h3, ⟨lc, h4, h4'⟩, h5, h6⟩ := M
  unfold za_stor2 at h
  split at h
  · rename_i o rest
    obtain ⟨hi, h⟩ := za_bif h
    obtain ⟨w, stk1, rfl, w2, q1⟩ := za_F2_cons h3
    obtain ⟨x, rfl, hx⟩ := id w2
    exact rule h4 (za_blt hi) (fun ls' h4 => zs_go h hk ads H locs ls' stk1 ⟨h1, h2, q1, ⟨_, h4, za_st2_ok h4' w2⟩, h5, h6⟩)
  · cases h
theorem za_ofInt {d : Int} (h : za_in d d = true) : (Int32.ofInt d).toInt = d := by
  have h1 := za_in_t h
  rw [Int32.toInt_ofInt]
  exact za_bmod h1.1 h1.2
theorem zs_iinc {lv : za_LV} {t : za_T} {i : Nat} {d : Int} {st : List za_V} {Z : List za_S × List za_X}
    (rule : ∀ {H : Heap} {locs : List Loc} {cells slots : Nat} {ls : Array Slot} {rest : List Value} {x : Int32} {k : Nat} {lc : List (Nat × Value)}, lv_has ls nL lc → lc[k]? = some (i, .int x) → i < nL → (∀ ls' : Array Slot, lv_has ls' nL ((i, Value.int (x + Int32.ofInt d)) :: lc.filter (fun q => !(q.1 == i) && !(q.1 + 1 == i && q.2.category == 2))) → W p l e R s m args below meth c H locs cells slots Q (F0 m (pc + 3) ls' rest)) → W p l e R s m args below meth c H locs cells slots Q (F0 m pc ls rest))
    (h : za_iinc i nL d pc lv st t = some Z) (hk : ∀ S ∈ Z.1, za_G p l e R s m args below meth c Q E nL ads0 S) : za_G p l e R s m args below meth c Q E nL ads0 (pc, lv, st, t) := by
  intro ads H locs ls stk M
  obtain ⟨h1, h2, h3, ⟨lc, h4, h4'⟩, h5, h6⟩ := M
  unfold za_iinc at h
  split at h
  · rename_i v hv
    obtain ⟨hi, h⟩ := za_bif h
    obtain ⟨hd, h⟩ := za_bif h
    obtain ⟨w, w1, w2⟩ := za_get_ok h4' hv
    obtain ⟨x, rfl, hx⟩ := id w2
    obtain ⟨k, hk'⟩ := List.getElem?_of_mem w1
    have w3 : za_gV (za_σ E) ads (.inl (za_add t.2.1 v (za_n d))) (.int (x + Int32.ofInt d)) := ⟨_, rfl, za_add_ok h2 hx (za_n_ok _ (za_ofInt hd))⟩
    exact rule h4 hk' (za_blt hi) (fun ls' h4 => zs_go h hk ads H locs ls' stk ⟨h1, h2, h3, ⟨_, h4, za_st1_ok h4' w3⟩, h5, h6⟩)
  · cases h
theorem zs_binI {lv : za_LV} {t : za_T} {st : List za_V} {Z : List za_S × List za_X} {f : za_R → za_I → za_I → za_I} (g : Int32 → Int32 → Int32) (hf : ∀ {σ : Nat → Int32} {ρ : za_R} {a b : za_I} {x y : Int32}, za_ok σ ρ → za_gI σ a x → za_gI σ b y → za_gI σ (f ρ a b) (g x y))
    (rule : ∀ {H : Heap} {locs : List Loc} {cells slots : Nat} {ls : Array Slot} {rest : List Value} {x y : Int32}, W p l e R s m args below meth c H locs cells slots Q (F0 m (pc + 1) ls (.int (g x y) :: rest)) → W p l e R s m args below meth c H locs cells slots Q (F0 m pc ls (.int y :: .int x :: rest)))
    (h : za_binI f pc lv st t = some Z) (hk : ∀ S ∈ Z.1, za_G p l e R s m args below meth c Q E nL ads0 S) : za_G p l e R s m args below meth c Q E nL ads0 (pc, lv, st, t) := by
  intro ads H locs ls stk M
  obtain ⟨h1, h2, h3, h4, h5, h6⟩ := M
  unfold za_binI at h
  split at h
  · rename_i b a rest
    obtain ⟨_, stk1, rfl, ⟨y, rfl, hy⟩, q1⟩ := za_F2_cons h3
    obtain ⟨_, stk2, rfl, ⟨x, rfl, hx⟩, q2⟩ := za_F2_cons q1
    exact rule (zs_go h hk ads H locs ls (_ :: stk2) ⟨h1, h2, ⟨⟨_, rfl, hf h2 hx hy⟩, q2⟩, h4, h5, h6⟩)
  · cases h
theorem zs_divI {lv : za_LV} {t : za_T} {st : List za_V} {Z : List za_S × List za_X} (g : Int32 → Int32 → Int32)
    (rule : ∀ {H : Heap} {locs : List Loc} {cells slots : Nat} {ls : Array Slot} {rest : List Value} {x y : Int32}, ¬ y = 0 → W p l e R s m args below meth c H locs cells slots Q (F0 m (pc + 1) ls (.int (g x y) :: rest)) → W p l e R s m args below meth c H locs cells slots Q (F0 m pc ls (.int y :: .int x :: rest)))
    (h : za_divI g pc lv st t = some Z) (hk : ∀ S ∈ Z.1, za_G p l e R s m args below meth c Q E nL ads0 S) : za_G p l e R s m args below meth c Q E nL ads0 (pc, lv, st, t) := by
  intro ads H locs ls stk M
  obtain ⟨h1, h2, h3, h4, h5, h6⟩ := M
  unfold za_divI at h
  split at h
  · rename_i b a rest
    split at h
    · rename_i d hd
      obtain ⟨hz, h⟩ := za_bifn h
      obtain ⟨_, stk1, rfl, ⟨y, rfl, hy⟩, q1⟩ := za_F2_cons h3
      obtain ⟨_, stk2, rfl, ⟨x, rfl, hx⟩, q2⟩ := za_F2_cons q1
      have hne : ¬ y = 0 := by
        intro e
        have := za_k_ok h2 hy hd
        rw [e] at this
        exact za_ieq_f hz this.symm
      exact rule hne (zs_go h hk ads H locs ls (_ :: stk2) ⟨h1, h2, ⟨⟨_, rfl, za_b2_ok g h2 hx hy⟩, q2⟩, h4, h5, h6⟩)
    · cases h
  · cases h
theorem zs_unI {lv : za_LV} {t : za_T} {st : List za_V} {Z : List za_S × List za_X} (g : Int32 → Int32)
    (rule : ∀ {H : Heap} {locs : List Loc} {cells slots : Nat} {ls : Array Slot} {rest : List Value} {x : Int32}, W p l e R s m args below meth c H locs cells slots Q (F0 m (pc + 1) ls (.int (g x) :: rest)) → W p l e R s m args below meth c H locs cells slots Q (F0 m pc ls (.int x :: rest)))
    (h : za_unI g pc lv st t = some Z) (hk : ∀ S ∈ Z.1, za_G p l e R s m args below meth c Q E nL ads0 S) : za_G p l e R s m args below meth c Q E nL ads0 (pc, lv, st, t) := by
  intro ads H locs ls stk M
  obtain ⟨h1, h2, h3, h4, h5, h6⟩ := M
  unfold za_unI at h
  split at h
  · rename_i a rest
    obtain ⟨_, stk1, rfl, ⟨x, rfl, hx⟩, q1⟩ := za_F2_cons h3
    exact rule (zs_go h hk ads H locs ls (_ :: stk1) ⟨h1, h2, ⟨⟨_, rfl, za_u1_ok g h2 hx⟩, q1⟩, h4, h5, h6⟩)
  · cases h
theorem zs_binL {lv : za_LV} {t : za_T} {st : List za_V} {Z : List za_S × List za_X} (g : Int64 → Int64 → Int64)
    (rule : ∀ {H : Heap} {locs : List Loc} {cells slots : Nat} {ls : Array Slot} {rest : List Value} {x y : Int64}, W p l e R s m args below meth c H locs cells slots Q (F0 m (pc + 1) ls (.long (g x y) :: rest)) → W p l e R s m args below meth c H locs cells slots Q (F0 m pc ls (.long y :: .long x :: rest)))
    (h : za_binL g pc lv st t = some Z) (hk : ∀ S ∈ Z.1, za_G p l e R s m args below meth c Q E nL ads0 S) : za_G p l e R s m args below meth c Q E nL ads0 (pc, lv, st, t) := by
  intro ads H locs ls stk M
  obtain ⟨h1, h2, h3, h4, h5, h6⟩ := M
  unfold za_binL at h
  split at h
  · rename_i b a rest
    obtain ⟨_, stk1, rfl, ⟨y, rfl, hy⟩, q1⟩ := za_F2_cons h3
    obtain ⟨_, stk2, rfl, ⟨x, rfl, hx⟩, q2⟩ := za_F2_cons q1
    exact rule (zs_go h hk ads H locs ls (_ :: stk2) ⟨h1, h2, ⟨⟨_, rfl, za_l2_ok g hx hy⟩, q2⟩, h4, h5, h6⟩)
  · cases h
theorem zs_shL {lv : za_LV} {t : za_T} {st : List za_V} {Z : List za_S × List za_X} (g : Int64 → Int32 → Int64) {z : Bool} (hz : z = true → ∀ y, g 0 y = 0)
    (rule : ∀ {H : Heap} {locs : List Loc} {cells slots : Nat} {ls : Array Slot} {rest : List Value} {x : Int64} {y : Int32}, W p l e R s m args below meth c H locs cells slots Q (F0 m (pc + 1) ls (.long (g x y) :: rest)) → W p l e R s m args below meth c H locs cells slots Q (F0 m pc ls (.int y :: .long x :: rest)))
    (h : za_shL g z pc lv st t = some Z) (hk : ∀ S ∈ Z.1, za_G p l e R s m args below meth c Q E nL ads0 S) : za_G p l e R s m args below meth c Q E nL ads0 (pc, lv, st, t) := by
  intro ads H locs ls stk M
  obtain ⟨h1, h2, h3, h4, h5, h6⟩ := M
  unfold za_shL at h
  split at h
  · rename_i b a rest
    obtain ⟨_, stk1, rfl, ⟨y, rfl, hy⟩, q1⟩ := za_F2_cons h3
    obtain ⟨_, stk2, rfl, ⟨x, rfl, hx⟩, q2⟩ := za_F2_cons q1
    exact rule (zs_go h hk ads H locs ls (_ :: stk2) ⟨h1, h2, ⟨⟨_, rfl, za_ls_ok g hz h2 hx hy⟩, q2⟩, h4, h5, h6⟩)
  · cases h
theorem zs_i2l {lv : za_LV} {t : za_T} {st : List za_V} {Z : List za_S × List za_X}
    (rule : ∀ {H : Heap} {locs : List Loc} {cells slots : Nat} {ls : Array Slot} {rest : List Value} {x : Int32}, W p l e R s m args below meth c H locs cells slots Q (F0 m (pc + 1) ls (.long x.toInt64 :: rest)) → W p l e R s m args below meth c H locs cells slots Q (F0 m pc ls (.int x :: rest)))
    (h : za_i2l pc lv st t = some Z) (hk : ∀ S ∈ Z.1, za_G p l e R s m args below meth c Q E nL ads0 S) : za_G p l e R s m args below meth c Q E nL ads0 (pc, lv, st, t) := by
  intro ads H locs ls stk M
  obtain ⟨h1, h2, h3, h4, h5, h6⟩ := M
  unfold za_i2l at h
  split at h
  · rename_i a rest
    obtain ⟨_, stk1, rfl, ⟨x, rfl, hx⟩, q1⟩ := za_F2_cons h3
    refine rule (zs_go h hk ads H locs ls (_ :: stk1) ⟨h1, h2, ⟨⟨_, rfl, fun d hd => ?_⟩, q1⟩, h4, h5, h6⟩)
    obtain ⟨c9, e1, e2⟩ := Option.map_eq_some_iff.mp hd
    rw [za_k_of h2 hx e1]
    exact e2
  · cases h
theorem zs_l2i {lv : za_LV} {t : za_T} {st : List za_V} {Z : List za_S × List za_X}
    (rule : ∀ {H : Heap} {locs : List Loc} {cells slots : Nat} {ls : Array Slot} {rest : List Value} {x : Int64}, W p l e R s m args below meth c H locs cells slots Q (F0 m (pc + 1) ls (.int x.toInt32 :: rest)) → W p l e R s m args below meth c H locs cells slots Q (F0 m pc ls (.long x :: rest)))
    (h : za_l2i pc lv st t = some Z) (hk : ∀ S ∈ Z.1, za_G p l e R s m args below meth c Q E nL ads0 S) : za_G p l e R s m args below meth c Q E nL ads0 (pc, lv, st, t) := by
  intro ads H locs ls stk M
  obtain ⟨h1, h2, h3, h4, h5, h6⟩ := M
  unfold za_l2i at h
  split at h
  · rename_i a rest
    obtain ⟨_, stk1, rfl, ⟨x, rfl, hx⟩, q1⟩ := za_F2_cons h3
    refine rule (zs_go h hk ads H locs ls (_ :: stk1) ⟨h1, h2, ⟨⟨_, rfl, ?_⟩, q1⟩, h4, h5, h6⟩)
    cases a with
    | none => exact za_top_ok _ _
    | some d => rw [hx d rfl]; exact za_c_ok _ _
  · cases h
theorem zs_lcmp {lv : za_LV} {t : za_T} {st : List za_V} {Z : List za_S × List za_X}
    (rule : ∀ {H : Heap} {locs : List Loc} {cells slots : Nat} {ls : Array Slot} {rest : List Value} {x y : Int64}, W p l e R s m args below meth c H locs cells slots Q (F0 m (pc + 1) ls (.int (lg_cmp x y) :: rest)) → W p l e R s m args below meth c H locs cells slots Q (F0 m pc ls (.long y :: .long x :: rest)))
    (h : za_lcmp pc lv st t = some Z) (hk : ∀ S ∈ Z.1, za_G p l e R s m args below meth c Q E nL ads0 S) : za_G p l e R s m args below meth c Q E nL ads0 (pc, lv, st, t) := by
  intro ads H locs ls stk M
  obtain ⟨h1, h2, h3, h4, h5, h6⟩ := M
  unfold za_lcmp at h
  split at h
  · rename_i b a rest
    obtain ⟨_, stk1, rfl, ⟨y, rfl, hy⟩, q1⟩ := za_F2_cons h3
    obtain ⟨_, stk2, rfl, ⟨x, rfl, hx⟩, q2⟩ := za_F2_cons q1
    refine rule (zs_go h hk ads H locs ls (_ :: stk2) ⟨h1, h2, ⟨⟨_, rfl, ?_⟩, q2⟩, h4, h5, h6⟩)
    cases a with
    | none => exact za_top_ok _ _
    | some d =>
      cases b with
      | none => exact za_top_ok _ _
      | some d' => rw [hx d rfl, hy d' rfl]; exact za_c_ok _ _
  · cases h
theorem zs_dup {lv : za_LV} {t : za_T} {st : List za_V} {Z : List za_S × List za_X}
    (rule : ∀ {H : Heap} {locs : List Loc} {cells slots : Nat} {ls : Array Slot} {rest : List Value} {w : Value}, w.category = 1 → W p l e R s m args below meth c H locs cells slots Q (F0 m (pc + 1) ls (w :: w :: rest)) → W p l e R s m args below meth c H locs cells slots Q (F0 m pc ls (w :: rest)))
    (h : za_dup pc lv st t = some Z) (hk : ∀ S ∈ Z.1, za_G p l e R s m args below meth c Q E nL ads0 S) : za_G p l e R s m args below meth c Q E nL ads0 (pc, lv, st, t) := by
  intro ads H locs ls stk M
  obtain ⟨h1, h2, h3, h4, h5, h6⟩ := M
  unfold za_dup at h
  split at h
  · rename_i v rest
    obtain ⟨hc, h⟩ := za_bif h
    obtain ⟨w, stk1, rfl, w2, q1⟩ := za_F2_cons h3
    exact rule ((za_cat_ok w2).trans (za_beq hc)) (zs_go h hk ads H locs ls (w :: w :: stk1) ⟨h1, h2, ⟨w2, w2, q1⟩, h4, h5, h6⟩)
  · cases h
theorem zs_pop {lv : za_LV} {t : za_T} {st : List za_V} {Z : List za_S × List za_X}
    (rule : ∀ {H : Heap} {locs : List Loc} {cells slots : Nat} {ls : Array Slot} {rest : List Value} {w : Value}, w.category = 1 → W p l e R s m args below meth c H locs cells slots Q (F0 m (pc + 1) ls rest) → W p l e R s m args below meth c H locs cells slots Q (F0 m pc ls (w :: rest)))
    (h : za_pop pc lv st t = some Z) (hk : ∀ S ∈ Z.1, za_G p l e R s m args below meth c Q E nL ads0 S) : za_G p l e R s m args below meth c Q E nL ads0 (pc, lv, st, t) := by
  intro ads H locs ls stk M
  obtain ⟨h1, h2, h3, h4, h5, h6⟩ := M
  unfold za_pop at h
  split at h
  · rename_i v rest
    obtain ⟨hc, h⟩ := za_bif h
    obtain ⟨w, stk1, rfl, w2, q1⟩ := za_F2_cons h3
    exact rule ((za_cat_ok w2).trans (za_beq hc)) (zs_go h hk ads H locs ls stk1 ⟨h1, h2, q1, h4, h5, h6⟩)
  · cases h
theorem zs_dup2 {lv : za_LV} {t : za_T} {st : List za_V} {Z : List za_S × List za_X}
    (rule : ∀ {H : Heap} {locs : List Loc} {cells slots : Nat} {ls : Array Slot} {rest : List Value} {w v : Value}, w.category = 1 → v.category = 1 → W p l e R s m args below meth c H locs cells slots Q (F0 m (pc + 1) ls (w :: v :: w :: v :: rest)) → W p l e R s m args below meth c H locs cells slots Q (F0 m pc ls (w :: v :: rest)))
    (h : za_dup2 pc lv st t = some Z) (hk : ∀ S ∈ Z.1, za_G p l e R s m args below meth c Q E nL ads0 S) : za_G p l e R s m args below meth c Q E nL ads0 (pc, lv, st, t) := by
  intro ads H locs ls stk M
  obtain ⟨h1, h2, h3, h4, h5, h6⟩ := M
  unfold za_dup2 at h
  split at h
  · rename_i v w rest
    obtain ⟨hc, h⟩ := za_bif h
    obtain ⟨hc', h⟩ := za_bif h
    obtain ⟨x, stk1, rfl, w2, q1⟩ := za_F2_cons h3
    obtain ⟨y, stk2, rfl, w3, q2⟩ := za_F2_cons q1
    exact rule ((za_cat_ok w2).trans (za_beq hc)) ((za_cat_ok w3).trans (za_beq hc')) (zs_go h hk ads H locs ls (x :: y :: x :: y :: stk2) ⟨h1, h2, ⟨w2, w3, w2, w3, q2⟩, h4, h5, h6⟩)
  · cases h
theorem za_tg_ok {off : Int} {g : Nat} (h : za_tg pc off = some g) : (pc : Int) + off = (g : Int) := by
  unfold za_tg at h
  split at h
  · rename_i n hn
    cases h
    exact hn
  · cases h
theorem zs_cst {lv : za_LV} {t : za_T} {k : Int} {n : Nat} {st : List za_V} {Z : List za_S × List za_X}
    (rule : ∀ {v : Int32} {H : Heap} {locs : List Loc} {cells slots : Nat} {ls : Array Slot} {rest : List Value}, -128 ≤ k → k ≤ 127 → v = Int32.ofInt k → W p l e R s m args below meth c H locs cells slots Q (F0 m (pc + n) ls (.int v :: rest)) → W p l e R s m args below meth c H locs cells slots Q (F0 m pc ls rest))
    (h : za_cst k n pc lv st t = some Z) (hk : ∀ S ∈ Z.1, za_G p l e R s m args below meth c Q E nL ads0 S) : za_G p l e R s m args below meth c Q E nL ads0 (pc, lv, st, t) := by
  unfold za_cst at h
  obtain ⟨g1, h⟩ := za_bif h
  obtain ⟨g2, h⟩ := za_bif h
  have g1 := za_ile_t g1
  have g2 := za_ile_t g2
  exact zs_push (v := .inl (za_n k)) (.int (Int32.ofInt k)) (fun ads => ⟨_, rfl, za_n_ok _ (by rw [Int32.toInt_ofInt]; exact za_bmod (by omega) (by omega))⟩) (fun k => rule g1 g2 rfl k) h hk
theorem zs_goto {lv : za_LV} {t : za_T} {off : Int} {st : List za_V} {Z : List za_S × List za_X}
    (rule : ∀ {g : Nat} {H : Heap} {locs : List Loc} {cells slots : Nat} {ls : Array Slot} {rest : List Value}, (pc : Int) + off = (g : Int) → W p l e R s m args below meth c H locs cells slots Q (F0 m g ls rest) → W p l e R s m args below meth c H locs cells slots Q (F0 m pc ls rest))
    (h : za_goto off pc lv st t = some Z) (hk : ∀ S ∈ Z.1, za_G p l e R s m args below meth c Q E nL ads0 S) : za_G p l e R s m args below meth c Q E nL ads0 (pc, lv, st, t) := by
  intro ads H locs ls stk M
  unfold za_goto at h
  split at h
  · rename_i g hg
    exact rule (za_tg_ok hg) (zs_go h hk ads H locs ls stk M)
  · cases h
theorem zs_one {lv : za_LV} {t : za_T} {g : Nat} {st : List za_V} {o : Option za_R} (hk : ∀ S ∈ za_one lv t g st o, za_G p l e R s m args below meth c Q E nL ads0 S) {ρ : za_R} (ho : o = some ρ) (hρ : za_ok (za_σ E) ρ) {ads : List Nat} {H : Heap} {locs : List Loc} {ls : Array Slot} {stk : List Value} (M : za_Mt E nL s ads0 ads (g, lv, st, t) H locs ls stk) : W p l e R s m args below meth c H locs t.2.2.1 t.2.2.2 Q (F0 m g ls stk) := by
  subst ho
  exact hk (g, lv, st, t.1, ρ, t.2.2) List.mem_cons_self ads H locs ls stk ⟨M.1, hρ, M.2.2⟩
theorem zs_two {lv : za_LV} {t : za_T} {off : Int} {yes no : Option za_R} {st : List za_V} {Z : List za_S × List za_X} (h : za_two off yes no pc lv st t = some Z) (hk : ∀ S ∈ Z.1, za_G p l e R s m args below meth c Q E nL ads0 S) :
    ∃ g : Nat, (pc : Int) + off = (g : Int) ∧ (∀ S ∈ za_one lv t g st yes, za_G p l e R s m args below meth c Q E nL ads0 S) ∧ ∀ S ∈ za_one lv t (pc + 3) st no, za_G p l e R s m args below meth c Q E nL ads0 S := by
  unfold za_two at h
  split at h
  · rename_i g hg
    cases h
    exact ⟨g, za_tg_ok hg, fun S hS => hk S (List.mem_append_left _ hS), fun S hS => hk S (List.mem_append_right _ hS)⟩
  · cases h
theorem zs_if1 {lv : za_LV} {t : za_T} {off : Int} {y no : za_R → za_I → za_I → Option za_R} (P : Int32 → Int32 → Prop) (hy : ∀ {σ : Nat → Int32} {ρ : za_R} {a b : za_I} {x z : Int32}, za_ok σ ρ → za_gI σ a x → za_gI σ b z → P x z → ∃ ρ', y ρ a b = some ρ' ∧ za_ok σ ρ') (hn : ∀ {σ : Nat → Int32} {ρ : za_R} {a b : za_I} {x z : Int32}, za_ok σ ρ → za_gI σ a x → za_gI σ b z → ¬ P x z → ∃ ρ', no ρ a b = some ρ' ∧ za_ok σ ρ') {st : List za_V} {Z : List za_S × List za_X}
    (rule : ∀ {g : Nat} {H : Heap} {locs : List Loc} {cells slots : Nat} {ls : Array Slot} {rest : List Value} {x : Int32}, (pc : Int) + off = (g : Int) → (P x 0 → W p l e R s m args below meth c H locs cells slots Q (F0 m g ls rest)) → (¬ P x 0 → W p l e R s m args below meth c H locs cells slots Q (F0 m (pc + 3) ls rest)) → W p l e R s m args below meth c H locs cells slots Q (F0 m pc ls (.int x :: rest)))
    (h : za_if1 off y no pc lv st t = some Z) (hk : ∀ S ∈ Z.1, za_G p l e R s m args below meth c Q E nL ads0 S) : za_G p l e R s m args below meth c Q E nL ads0 (pc, lv, st, t) := by
  intro ads H locs ls stk M
  obtain ⟨h1, h2, h3, h4, h5, h6⟩ := M
  unfold za_if1 at h
  split at h
  · rename_i a rest
    obtain ⟨g, hg, k1, k2⟩ := zs_two h hk
    obtain ⟨_, stk1, rfl, ⟨x, rfl, hx⟩, q1⟩ := za_F2_cons h3
    refine rule hg (fun hP => ?_) (fun hP => ?_)
    · obtain ⟨ρ', e1, e2⟩ := hy h2 hx (za_n_ok _ (x := 0) (k := 0) (by decide)) hP
      exact zs_one k1 e1 e2 ⟨h1, h2, q1, h4, h5, h6⟩
    · obtain ⟨ρ', e1, e2⟩ := hn h2 hx (za_n_ok _ (x := 0) (k := 0) (by decide)) hP
      exact zs_one k2 e1 e2 ⟨h1, h2, q1, h4, h5, h6⟩
  · cases h
theorem zs_if2 {lv : za_LV} {t : za_T} {off : Int} {y no : za_R → za_I → za_I → Option za_R} (P : Int32 → Int32 → Prop) (hy : ∀ {σ : Nat → Int32} {ρ : za_R} {a b : za_I} {x z : Int32}, za_ok σ ρ → za_gI σ a x → za_gI σ b z → P x z → ∃ ρ', y ρ a b = some ρ' ∧ za_ok σ ρ') (hn : ∀ {σ : Nat → Int32} {ρ : za_R} {a b : za_I} {x z : Int32}, za_ok σ ρ → za_gI σ a x → za_gI σ b z → ¬ P x z → ∃ ρ', no ρ a b = some ρ' ∧ za_ok σ ρ') {st : List za_V} {Z : List za_S × List za_X}
    (rule : ∀ {g : Nat} {H : Heap} {locs : List Loc} {cells slots : Nat} {ls : Array Slot} {rest : List Value} {x z : Int32}, (pc : Int) + off = (g : Int) → (P x z → W p l e R s m args below meth c H locs cells slots Q (F0 m g ls rest)) → (¬ P x z → W p l e R s m args below meth c H locs cells slots Q (F0 m (pc + 3) ls rest)) → W p l e R s m args below meth c H locs cells slots Q (F0 m pc ls (.int z :: .int x :: rest)))
    (h : za_if2 off y no pc lv st t = some Z) (hk : ∀ S ∈ Z.1, za_G p l e R s m args below meth c Q E nL ads0 S) : za_G p l e R s m args below meth c Q E nL ads0 (pc, lv, st, t) := by
  intro ads H locs ls stk M
  obtain ⟨h1, h2, h3, h4, h5, h6⟩ := M
  unfold za_if2 at h
  split at h
  · rename_i b a rest
    obtain ⟨g, hg, k1, k2⟩ := zs_two h hk
    obtain ⟨_, stk1, rfl, ⟨z, rfl, hz⟩, q1⟩ := za_F2_cons h3
    obtain ⟨_, stk2, rfl, ⟨x, rfl, hx⟩, q2⟩ := za_F2_cons q1
    refine rule hg (fun hP => ?_) (fun hP => ?_)
    · obtain ⟨ρ', e1, e2⟩ := hy h2 hx hz hP
      exact zs_one k1 e1 e2 ⟨h1, h2, q2, h4, h5, h6⟩
    · obtain ⟨ρ', e1, e2⟩ := hn h2 hx hz hP
      exact zs_one k2 e1 e2 ⟨h1, h2, q2, h4, h5, h6⟩
  · cases h

end ZS
end
section
section ZH
variable {p : Program} {l : Launch} {e : Env} {R : Room} {s : State} {m : MethodId} {args : Array Value} {below : List Frame} {meth : Method} {c : Code} {Q : State → Prop} {E : za_E} {nL : Nat} {ads0 : List Nat} {cc : ByteArray} {pc : Nat}
theorem za_tab_ok {lv : za_LV} {st : List za_V} {t : za_T} {a : za_I} {r1 r2 : Int} : ∀ {offs : List Int} {v : Int} {l9 : List za_S}, za_tab pc lv st t a r1 r2 v offs = some l9 → ∀ {k : Nat} {off : Int}, offs[k]? = some off → r1 ≤ v + k → v + k ≤ r2 → ∃ g : Nat, (pc : Int) + off = (g : Int) ∧ (g, lv, st, t.1, za_cut t.2.1 a (v + k) (v + k), t.2.2) ∈ l9
  | [], v, l9, h, k, off, hk, h1, h2 => by simp at hk
  | o :: offs, v, l9, h, k, off, hk, h1, h2 => by
    unfold za_tab at h
    split at h
    · cases h
    · rename_i l8 hl
      cases k with
      | zero =>
        simp only [List.getElem?_cons_zero, Option.some.injEq] at hk
        subst hk
        have e1 : za_ile r1 v = true := za_ile_i.mpr (by omega)
        have e2 : za_ile v r2 = true := za_ile_i.mpr (by omega)
        simp only [e1, e2, cond_true] at h
        split at h
        · rename_i g hg
          cases h
          refine ⟨g, za_tg_ok hg, ?_⟩
          have e3 : v + ((0 : Nat) : Int) = v := by omega
          rw [e3]
          exact List.mem_cons_self
        · cases h
      | succ k =>
        simp only [List.getElem?_cons_succ] at hk
        obtain ⟨g, hg, hm⟩ := za_tab_ok hl hk (by omega) (by omega)
        have e3 : v + 1 + (k : Int) = v + ((k + 1 : Nat) : Int) := by omega
        rw [e3] at hm
        refine ⟨g, hg, ?_⟩
        cases e1 : za_ile r1 v with
        | false =>
          simp only [e1, cond_false, Option.some.injEq] at h
          subst h
          exact hm
        | true =>
          cases e2 : za_ile v r2 with
          | false =>
            simp only [e1, e2, cond_true, cond_false, Option.some.injEq] at h
            subst h
            exact hm
          | true =>
            simp only [e1, e2, cond_true] at h
            split at h
            · cases h
              exact List.mem_cons_of_mem _ hm
            · cases h
theorem zs_tsw {lv : za_LV} {t : za_T} {dflt lo hi : Int} {offs : Array Int} {st : List za_V} {Z : List za_S × List za_X}
    (ruleIn : ∀ {g : Nat} {off : Int} {H : Heap} {locs : List Loc} {cells slots : Nat} {ls : Array Slot} {rest : List Value} {x : Int32}, ¬ x.toInt < lo → ¬ hi < x.toInt → offs[(x.toInt - lo).toNat]? = some off → (pc : Int) + off = (g : Int) → W p l e R s m args below meth c H locs cells slots Q (F0 m g ls rest) → W p l e R s m args below meth c H locs cells slots Q (F0 m pc ls (.int x :: rest)))
    (ruleOut : ∀ {g : Nat} {H : Heap} {locs : List Loc} {cells slots : Nat} {ls : Array Slot} {rest : List Value} {x : Int32}, x.toInt < lo ∨ hi < x.toInt → (pc : Int) + dflt = (g : Int) → W p l e R s m args below meth c H locs cells slots Q (F0 m g ls rest) → W p l e R s m args below meth c H locs cells slots Q (F0 m pc ls (.int x :: rest)))
    (h : za_tsw dflt lo hi offs pc lv st t = some Z) (hk : ∀ S ∈ Z.1, za_G p l e R s m args below meth c Q E nL ads0 S) : za_G p l e R s m args below meth c Q E nL ads0 (pc, lv, st, t) := by
  intro ads H locs ls stk M
  obtain ⟨h1, h2, h3, h4, h5, h6⟩ := M
  unfold za_tsw at h
  split at h
  · rename_i a rest
    obtain ⟨_, stk1, rfl, ⟨x, rfl, hx⟩, q1⟩ := za_F2_cons h3
    have hr := za_rg_ok h2 hx
    dsimp only at h2
    generalize hq : za_rg t.2.1 a = q at h
    have hr : q.1 ≤ x.toInt ∧ x.toInt ≤ q.2 := by rw [← hq]; exact hr
    obtain ⟨r1, r2⟩ := q
    dsimp only at h hr
    split at h
    · rename_i g l9 hg hl
      obtain ⟨hsz, h⟩ := za_bif h
      have hsz := za_ieq_t hsz
      cases h
      by_cases c1 : x.toInt < lo
      · have e1 : za_ile lo r1 = false := by
          cases hz : za_ile lo r1 with
          | false => rfl
          | true => have := za_ile_t hz; omega
        refine ruleOut (Or.inl c1) (za_tg_ok hg) (hk (g, lv, rest, t.1, za_cut t.2.1 a r1 (lo - 1), t.2.2) ?_ ads H locs ls stk1 ⟨h1, za_cut_ok h2 hx (by omega) (by omega), q1, h4, h5, h6⟩)
        simp [e1]
      · by_cases c2 : hi < x.toInt
        · have e1 : za_ile r2 hi = false := by
            cases hz : za_ile r2 hi with
            | false => rfl
            | true => have := za_ile_t hz; omega
          refine ruleOut (Or.inr c2) (za_tg_ok hg) (hk (g, lv, rest, t.1, za_cut t.2.1 a (hi + 1) r2, t.2.2) ?_ ads H locs ls stk1 ⟨h1, za_cut_ok h2 hx (by omega) (by omega), q1, h4, h5, h6⟩)
          simp [e1]
        · have hlt : (x.toInt - lo).toNat < offs.toList.length := by omega
          have ho : offs.toList[(x.toInt - lo).toNat]? = some offs.toList[(x.toInt - lo).toNat] := List.getElem?_eq_getElem hlt
          have e4 : lo + (((x.toInt - lo).toNat : Nat) : Int) = x.toInt := by omega
          obtain ⟨g', hg', hm⟩ := za_tab_ok hl ho (by omega) (by omega)
          rw [e4] at hm
          exact ruleIn c1 c2 (by rw [← Array.getElem?_toList]; exact ho) hg' (hk _ (List.mem_append_right _ (List.mem_append_right _ hm)) ads H locs ls stk1 ⟨h1, za_cut_ok h2 hx (by omega) (by omega), q1, h4, h5, h6⟩)
    · cases h
  · cases h
theorem zs_lsw {lv : za_LV} {t : za_T} {dflt : Int} {ps : Array (Int × Int)} {st : List za_V} {Z : List za_S × List za_X}
    (rule : ∀ {g : Nat} {off : Int} {H : Heap} {locs : List Loc} {cells slots : Nat} {ls : Array Slot} {rest : List Value} {x : Int32}, (ps.toList.zip (ps.toList.drop 1)).all (fun (a, next) => a.1 < next.1) = true → Op.lookupswitch.offset ps.toList dflt x.toInt = off → (pc : Int) + off = (g : Int) → W p l e R s m args below meth c H locs cells slots Q (F0 m g ls rest) → W p l e R s m args below meth c H locs cells slots Q (F0 m pc ls (.int x :: rest)))
    (h : za_lsw dflt ps pc lv st t = some Z) (hk : ∀ S ∈ Z.1, za_G p l e R s m args below meth c Q E nL ads0 S) : za_G p l e R s m args below meth c Q E nL ads0 (pc, lv, st, t) := by
  intro ads H locs ls stk M
  obtain ⟨h1, h2, h3, h4, h5, h6⟩ := M
  unfold za_lsw at h
  split at h
  · rename_i a rest
    split at h
    · rename_i d hd
      split at h
      · rename_i g hg
        obtain ⟨ha, h⟩ := za_bif h
        obtain ⟨_, stk1, rfl, ⟨x, rfl, hx⟩, q1⟩ := za_F2_cons h3
        exact rule ha rfl (by rw [za_k_ok h2 hx hd]; exact za_tg_ok hg) (zs_go h hk ads H locs ls stk1 ⟨h1, h2, q1, h4, h5, h6⟩)
      · cases h
    · cases h
  · cases h
/-- the object that a reference names -/
theorem za_obj {ads : List Nat} {h : List za_O} {H : Heap} (hw : za_Wd E ads h H) {q : Nat} {a : Nat} (ha : ads[q + 1]? = some a) {o : za_O} (ho : h[q]? = some o) :
    ∃ (ws : va_W) (x : va_E), ads = za_b E :: ws.map (·.1) ∧ za_F2 (fun o (q : Nat × va_E) => za_gO E ads o q.2) h ws ∧ va_P (za_D E) vwCl ws H ∧ va_D (za_A E) ws ∧ ws[q]? = some (a, x) ∧ za_gO E ads o x := by
  obtain ⟨ws, e1, e2, e3, e4⟩ := hw
  obtain ⟨z, z1, z2⟩ := za_F2_get e2 ho
  refine ⟨ws, z.2, e1, e2, e3, e4, ?_, z2⟩
  have e5 : (ws.map (·.1))[q]? = some a := by
    rw [e1, List.getElem?_cons_succ] at ha
    exact ha
  rw [List.getElem?_map, z1] at e5
  have e6 : z.1 = a := Option.some.inj e5
  rw [← e6]
  exact z1
theorem za_gO_o {ads : List Nat} {ci : Nat} {fs : List za_V} {x : va_E} (h : za_gO E ads (.inl (ci, fs)) x) : ∃ vs, x = .inr (ci, vs) ∧ za_F2 (za_gV (za_σ E) ads) fs vs := by
  match x, h with
  | .inr (cj, vs), h => exact ⟨vs, by rw [h.1], h.2⟩
theorem za_gO_i {ads : List Nat} {t n : Nat} {d : za_I} {ups : List (Nat × za_I)} {x : va_E} (h : za_gO E ads (.inr (.inl (t, n, d, ups))) x) : ∃ f : Nat → Int32, x = .inl (za_tc E t, n, .inl f) ∧ t < 3 ∧ ∀ i, i < n → za_gI (za_σ E) (za_at d ups i) (f i) := by
  match x, h with
  | .inl (cA, n', .inl f), h => exact ⟨f, by rw [h.1, h.2.2.1], h.2.1, h.2.2.2⟩
theorem za_gO_l {ads : List Nat} {n : Nat} {d : Option Int64} {ups : List (Nat × Option Int64)} {x : va_E} (h : za_gO E ads (.inr (.inr (n, d, ups))) x) : ∃ f : Nat → Int64, x = .inl (E.2.2.2.1.2.2.2, n, .inr (.inl f)) ∧ ∀ i, i < n → za_gL (za_at d ups i) (f i) := by
  match x, h with
  | .inl (cA, n', .inr (.inl f)), h => exact ⟨f, by rw [h.1, h.2.1], h.2.2⟩
theorem za_set {ads : List Nat} {h : List za_O} {H1 : Heap} {ws : va_W} {q a : Nat} {x y : va_E} {o : za_O} (e1 : ads = za_b E :: ws.map (·.1)) (e2 : za_F2 (fun o (q : Nat × va_E) => za_gO E ads o q.2) h ws) (hx : ws[q]? = some (a, x)) (hy : za_gO E ads o y) (e3 : va_P (za_D E) vwCl (ws.set q (a, y)) H1) (e4 : va_D (za_A E) (ws.set q (a, y))) : za_Wd E ads (h.set q o) H1 := by
  refine ⟨ws.set q (a, y), ?_, za_F2_set e2 q hy, e3, e4⟩
  rw [List.map_set]
  have e5 : (ws.map (·.1))[q]? = some a := by rw [List.getElem?_map, hx]; rfl
  rw [e1]
  congr 1
  apply List.ext_getElem?
  intro i
  by_cases hi : q = i
  · subst hi
    rw [List.getElem?_set_self (by simpa using (List.getElem?_eq_some_iff.mp hx).1)]
    exact e5
  · rw [List.getElem?_set_ne hi]
theorem zs_getf {lv : za_LV} {t : za_T} {st : List za_V} {Z : List za_S × List za_X} {r : Option za_row}
    (rule : ∀ {ci k : Nat} {z : Int}, r = some (0, ci, k, z) → ∀ {H : Heap} {locs : List Loc} {cells slots : Nat} {ls : Array Slot} {rest : List Value} {ws : va_W} {q a : Nat} {vs : List Value} {v : Value}, va_P (za_D E) vwCl ws H → ws[q]? = some (a, .inr (ci, vs)) → vs[k]? = some v → W p l e R s m args below meth c H locs cells slots Q (F0 m (pc + 3) ls (v :: rest)) → W p l e R s m args below meth c H locs cells slots Q (F0 m pc ls (.ref a :: rest)))
    (h : za_getf r pc lv st t = some Z) (hk : ∀ S ∈ Z.1, za_G p l e R s m args below meth c Q E nL ads0 S) : za_G p l e R s m args below meth c Q E nL ads0 (pc, lv, st, t) := by
  intro ads H locs ls stk M
  obtain ⟨h1, h2, h3, h4, h5, h6⟩ := M
  unfold za_getf at h
  split at h
  · rename_i ci k z q rest
    split at h
    · rename_i cj fs ho
      split at h
      · rename_i v hv
        obtain ⟨hc, hg⟩ := za_bif h
        have hc := za_beq hc
        subst hc
        obtain ⟨_, stk1, rfl, ⟨a, rfl, ha⟩, q1⟩ := za_F2_cons h3
        obtain ⟨ws, x, e1, e2, e3, e4, e5, e6⟩ := za_obj h5 ha ho
        obtain ⟨vs, rfl, e7⟩ := za_gO_o e6
        obtain ⟨w, w1, w2⟩ := za_F2_get e7 hv
        exact rule rfl e3 e5 w1 (zs_go hg hk ads H locs ls (w :: stk1) ⟨h1, h2, ⟨w2, q1⟩, h4, h5, h6⟩)
      · cases h
    · cases h
  · cases h
theorem za_fit_ok {ads : List Nat} {ρ : za_R} {ty : FieldType} {v : za_V} {w : Value} (hρ : za_ok (za_σ E) ρ) (hv : za_gV (za_σ E) ads v w) (h : za_fit ρ ty v = true) : narrow ty w = w ∧ fits ty w = true := by
  unfold za_fit at h
  split at h
  · obtain ⟨x, rfl, hx⟩ := hv
    exact ⟨rfl, rfl⟩
  · rename_i i
    obtain ⟨x, rfl, hx⟩ := hv
    have hr := za_rg_ok hρ hx
    generalize za_rg ρ i = q at h hr
    obtain ⟨a, b⟩ := q
    dsimp only at h hr
    have h9 : za_ile 0 a = true ∧ za_ile b 1 = true := by
      cases hz : za_ile 0 a with
      | false => rw [hz] at h; cases h
      | true => rw [hz] at h; exact ⟨rfl, h⟩
    have h8 := za_ile_t h9.1
    have h7 := za_ile_t h9.2
    have h6 : x = 0 ∨ x = 1 := by
      rcases (show x.toInt = 0 ∨ x.toInt = 1 by omega) with z | z
      · exact Or.inl (Int32.toInt_inj.mp (by rw [z]; decide))
      · exact Or.inr (Int32.toInt_inj.mp (by rw [z]; decide))
    rcases h6 with rfl | rfl
    · exact ⟨by decide, by decide⟩
    · exact ⟨by decide, by decide⟩
  · obtain ⟨x, rfl, hx⟩ := hv
    exact ⟨rfl, rfl⟩
  · rename_i n o
    cases o with
    | none => rw [show w = .null from hv]; exact ⟨rfl, rfl⟩
    | some k => obtain ⟨x, rfl, hx⟩ := hv; exact ⟨rfl, rfl⟩
  · rename_i n o
    cases o with
    | none => rw [show w = .null from hv]; exact ⟨rfl, rfl⟩
    | some k => obtain ⟨x, rfl, hx⟩ := hv; exact ⟨rfl, rfl⟩
  · cases h
theorem zs_putf {lv : za_LV} {t : za_T} {st : List za_V} {Z : List za_S × List za_X} {r : Option za_row} {own : Nat} {ini : Bool}
    (rule : ∀ {ci k : Nat} {z : Int}, r = some (0, ci, k, z) → (z = 0 ∨ (ini = true ∧ ci = own)) → ∀ {H : Heap} {locs : List Loc} {cells slots : Nat} {ls : Array Slot} {rest : List Value} {ws : va_W} {q a : Nat} {vs : List Value} {v : Value}, va_P (za_D E) vwCl ws H → va_D (za_A E) ws → va_S (za_A E) s.heap H locs → ws[q]? = some (a, .inr (ci, vs)) → k < vs.length → narrow (za_tyX ci k) v = v → fits (za_tyX ci k) v = true →
      (∀ (H1 : Heap) (locs1 : List Loc), va_P (za_D E) vwCl (ws.set q (a, .inr (ci, vs.set k v))) H1 → va_D (za_A E) (ws.set q (a, .inr (ci, vs.set k v))) → va_S (za_A E) s.heap H1 locs1 → W p l e R s m args below meth c H1 locs1 cells slots Q (F0 m (pc + 3) ls rest)) → W p l e R s m args below meth c H locs cells slots Q (F0 m pc ls (v :: .ref a :: rest)))
    (h : za_putf r own ini pc lv st t = some Z) (hk : ∀ S ∈ Z.1, za_G p l e R s m args below meth c Q E nL ads0 S) : za_G p l e R s m args below meth c Q E nL ads0 (pc, lv, st, t) := by
  intro ads H locs ls stk M
  obtain ⟨h1, h2, h3, h4, h5, h6⟩ := M
  unfold za_putf at h
  split at h
  · rename_i ci k z v q rest
    split at h
    · rename_i cj fs ho
      obtain ⟨hc, h⟩ := za_bif h
      obtain ⟨hl, h⟩ := za_bif h
      obtain ⟨hf, h⟩ := za_bif h
      have hc := za_beq hc
      subst hc
      have key : (z = 0 ∨ (ini = true ∧ cj = own)) ∧ za_go lv (t.1.set q (.inl (cj, fs.set k v)), t.2) (pc + 3) rest = some Z := by
        cases hz : za_ieq z 0 with
        | true =>
          rw [hz] at h
          exact ⟨Or.inl (za_ieq_t hz), h⟩
        | false =>
          rw [hz] at h
          obtain ⟨g1, h⟩ := za_bif h
          obtain ⟨g2, h⟩ := za_bif h
          exact ⟨Or.inr ⟨g1, za_beq g2⟩, h⟩
      obtain ⟨kz, h⟩ := key
      obtain ⟨w, stk1, rfl, w2, q1⟩ := za_F2_cons h3
      obtain ⟨_, stk2, rfl, ⟨a, rfl, ha⟩, q2⟩ := za_F2_cons q1
      obtain ⟨ws, x, e1, e2, e3, e4, e5, e6⟩ := za_obj h5 ha ho
      obtain ⟨vs, rfl, e7⟩ := za_gO_o e6
      obtain ⟨f1, f2⟩ := za_fit_ok h2 w2 hf
      refine rule rfl kz e3 e4 h6 e5 (by rw [← za_F2_len e7]; exact za_blt hl) f1 f2 (fun H1 locs1 g1 g2 g3 => ?_)
      exact zs_go h hk ads H1 locs1 ls stk2 ⟨h1, h2, q2, h4, za_set e1 e2 e5 (o := .inl (cj, fs.set k v)) (show za_gO E ads (.inl (cj, fs.set k v)) (.inr (cj, vs.set k w)) from ⟨rfl, za_F2_set e7 k w2⟩) g1 g2, g3⟩
    · cases h
  · cases h
theorem za_clamp {x : Int32} {c9 : Nat} (h : x.toInt = Int.ofNat c9) : x.toNatClampNeg = c9 ∧ ¬ x < 0 := by
  constructor
  · show x.toInt.toNat = c9
    rw [h]; rfl
  · rw [Int32.lt_iff_toInt_lt, h]
    show ¬ (Int.ofNat c9 < (0 : Int32).toInt)
    rw [show (0 : Int32).toInt = 0 by decide]
    have : (0 : Int) ≤ Int.ofNat c9 := Int.natCast_nonneg _
    omega
theorem za_vin {x : Int32} {c9 n : Nat} (h : x.toInt = Int.ofNat c9) (hn : c9 < n) : vp_in x n := by
  intro z
  obtain ⟨e1, e2⟩ := za_clamp h
  rcases z with z | z
  · exact e2 z
  · rw [e1] at z; omega
theorem za_tys_tc {t : Nat} (h : t < 3) : (za_tys E)[t]? = some (za_tc E t, match t with | 0 => .int | 1 => .byte | _ => .boolean) := by
  match t, h with
  | 0, _ => rfl
  | 1, _ => rfl
  | 2, _ => rfl
  | _ + 3, h => omega
theorem zs_ild {lv : za_LV} {t : za_T} {st : List za_V} {Z : List za_S × List za_X} {bt : Bool} {L : Nat}
    (ruleS : bt = false → ∀ {H : Heap} {locs : List Loc} {cells slots : Nat} {ls : Array Slot} {rest : List Value} {i : Int32}, va_S (za_A E) s.heap H locs → vp_in i L → W p l e R s m args below meth c H locs cells slots Q (F0 m (pc + 1) ls (.int (za_σ E i.toNatClampNeg) :: rest)) → W p l e R s m args below meth c H locs cells slots Q (F0 m pc ls (.int i :: .ref (za_b E) :: rest)))
    (rule : ∀ {tt : Nat}, tt < 3 → (bt = false ↔ tt = 0) → ∀ {H : Heap} {locs : List Loc} {cells slots : Nat} {ls : Array Slot} {rest : List Value} {ws : va_W} {q a n : Nat} {f : Nat → Int32} {i : Int32}, va_P (za_D E) vwCl ws H → ws[q]? = some (a, .inl (za_tc E tt, n, .inl f)) → vp_in i n → W p l e R s m args below meth c H locs cells slots Q (F0 m (pc + 1) ls (.int (f i.toNatClampNeg) :: rest)) → W p l e R s m args below meth c H locs cells slots Q (F0 m pc ls (.int i :: .ref a :: rest)))
    (h : za_ild bt L pc lv st t = some Z) (hk : ∀ S ∈ Z.1, za_G p l e R s m args below meth c Q E nL ads0 S) : za_G p l e R s m args below meth c Q E nL ads0 (pc, lv, st, t) := by
  intro ads H locs ls stk M
  obtain ⟨h1, h2, h3, h4, h5, h6⟩ := M
  unfold za_ild at h
  split at h
  · rename_i i rest
    split at h
    · rename_i c9 hc
      obtain ⟨hb, h⟩ := za_bifn h
      obtain ⟨hl, h⟩ := za_bif h
      obtain ⟨_, stk1, rfl, ⟨x, rfl, hx⟩, q1⟩ := za_F2_cons h3
      obtain ⟨_, stk2, rfl, ⟨a, rfl, ha⟩, q2⟩ := za_F2_cons q1
      have hxc := za_k_ok h2 hx hc
      have hab : a = za_b E := by
        obtain ⟨ws, e1, -⟩ := h5
        rw [e1] at ha
        exact (Option.some.inj ha).symm
      subst hab
      refine ruleS hb h6 (za_vin hxc (za_blt hl)) (zs_go h hk ads H locs ls (_ :: stk2) ⟨h1, h2, ⟨⟨_, rfl, ?_⟩, q2⟩, h4, h5, h6⟩)
      show za_σ E x.toNatClampNeg = za_σ E c9
      rw [(za_clamp hxc).1]
    · cases h
  · rename_i i q rest
    split at h
    · rename_i ty n d ups ho
      obtain ⟨hb, h⟩ := za_bif h
      split at h
      · rename_i a9 b9 hrg
        obtain ⟨hab, h⟩ := za_bif h
        obtain ⟨hbm, h⟩ := za_bif h
        obtain ⟨_, stk3, rfl, ⟨x, rfl, hx⟩, q3⟩ := za_F2_cons h3
        obtain ⟨_, stk4, rfl, ⟨a, rfl, ha⟩, q4⟩ := za_F2_cons q3
        have hr := za_rg_ok h2 hx
        rw [show za_rg (pc, lv, Sum.inl i :: Sum.inr (Sum.inr (some (q + 1))) :: rest, t).2.2.2.2.1 i = (Int.ofNat a9, Int.ofNat b9) from hrg] at hr
        have hr1 : (a9 : Int) ≤ x.toInt := hr.1
        have hr2 : x.toInt ≤ (b9 : Int) := hr.2
        have hxc : x.toInt = Int.ofNat x.toInt.toNat := by
          show x.toInt = ((x.toInt.toNat : Nat) : Int)
          omega
        have hbm := za_blt hbm
        obtain ⟨ws, y, e1, e2, e3, e4, e5, e6⟩ := za_obj h5 ha ho
        obtain ⟨f, rfl, ht, e7⟩ := za_gO_i e6
        refine rule ht ?_ e3 e5 (za_vin hxc (by omega)) (zs_go h hk ads H locs ls (_ :: stk4) ⟨h1, h2, ⟨⟨_, rfl, ?_⟩, q4⟩, h4, h5, h6⟩)
        · cases bt with
          | false =>
            simp only [Bool.false_xor] at hb
            exact ⟨fun _ => za_beq hb, fun _ => rfl⟩
          | true =>
            simp only [Bool.true_xor, Bool.not_eq_true'] at hb
            exact ⟨fun z => (by cases z), fun z => (by rw [z] at hb; cases hb)⟩
        · rw [(za_clamp hxc).1]
          have hab := za_ble hab
          exact za_rd_ok h2 e7 a9 (b9 - a9) _ (by omega) (by omega) (by omega)
      · cases h
    · cases h
  · cases h
theorem za_wr_ok {σ : Nat → Int32} {d : za_I} {ups : List (Nat × za_I)} {f : Nat → Int32} {n k : Nat} {v : za_I} {x : Int32} (h : ∀ i, i < n → za_gI σ (za_at d ups i) (f i)) (hv : za_gI σ v x) : ∀ i, i < n → za_gI σ (za_at d (za_wr d ups k v) i) (upd f k x i) := by
  intro i hi
  by_cases e9 : i = k
  · subst e9
    rw [za_wr_self]
    simpa [upd] using hv
  · rw [za_wr_ne _ _ _ e9]
    simpa [upd, e9] using h i hi
theorem za_nar_ok {σ : Nat → Int32} {ρ : za_R} {ty : Nat} {v : za_I} {x : Int32} (hρ : za_ok σ ρ) (hv : za_gI σ v x) : za_gI σ (za_nar ρ ty v) (match ty with | 0 => x | 1 => vp_nar .byte x | _ => vp_nar .boolean x) := by
  match ty with
  | 0 => exact hv
  | 1 => exact za_u1_ok _ hρ hv
  | _ + 2 => exact za_u1_ok _ hρ hv
theorem zs_ist {lv : za_LV} {t : za_T} {st : List za_V} {Z : List za_S × List za_X} {bt : Bool}
    (rule : ∀ {tt : Nat}, tt < 3 → (bt = false ↔ tt = 0) → ∀ {H : Heap} {locs : List Loc} {cells slots : Nat} {ls : Array Slot} {rest : List Value} {ws : va_W} {q a n : Nat} {f : Nat → Int32} {i x : Int32}, va_P (za_D E) vwCl ws H → va_D (za_A E) ws → va_S (za_A E) s.heap H locs → ws[q]? = some (a, .inl (za_tc E tt, n, .inl f)) → vp_in i n →
      (∀ (H1 : Heap) (locs1 : List Loc), va_P (za_D E) vwCl (ws.set q (a, .inl (za_tc E tt, n, .inl (upd f i.toNatClampNeg (match tt with | 0 => x | 1 => vp_nar .byte x | _ => vp_nar .boolean x))))) H1 → va_D (za_A E) (ws.set q (a, .inl (za_tc E tt, n, .inl (upd f i.toNatClampNeg (match tt with | 0 => x | 1 => vp_nar .byte x | _ => vp_nar .boolean x))))) → va_S (za_A E) s.heap H1 locs1 → W p l e R s m args below meth c H1 locs1 cells slots Q (F0 m (pc + 1) ls rest)) → W p l e R s m args below meth c H locs cells slots Q (F0 m pc ls (.int x :: .int i :: .ref a :: rest)))
    (h : za_ist bt pc lv st t = some Z) (hk : ∀ S ∈ Z.1, za_G p l e R s m args below meth c Q E nL ads0 S) : za_G p l e R s m args below meth c Q E nL ads0 (pc, lv, st, t) := by
  intro ads H locs ls stk M
  obtain ⟨h1, h2, h3, h4, h5, h6⟩ := M
  unfold za_ist at h
  split at h
  · rename_i v i q rest
    split at h
    · rename_i ty n d ups c9 ho hc
      obtain ⟨hb, h⟩ := za_bif h
      obtain ⟨hl, h⟩ := za_bif h
      obtain ⟨_, stk1, rfl, ⟨y, rfl, hy⟩, q1⟩ := za_F2_cons h3
      obtain ⟨_, stk2, rfl, ⟨x, rfl, hx⟩, q2⟩ := za_F2_cons q1
      obtain ⟨_, stk3, rfl, ⟨a, rfl, ha⟩, q3⟩ := za_F2_cons q2
      have hxc := za_k_ok h2 hx hc
      obtain ⟨ws, z, e1, e2, e3, e4, e5, e6⟩ := za_obj h5 ha ho
      obtain ⟨f, rfl, ht, e7⟩ := za_gO_i e6
      refine rule (x := y) ht ?_ e3 e4 h6 e5 (za_vin hxc (za_blt hl)) (fun H1 locs1 g1 g2 g3 => ?_)
      · cases bt with
        | false =>
          simp only [Bool.false_xor] at hb
          exact ⟨fun _ => za_beq hb, fun _ => rfl⟩
        | true =>
          simp only [Bool.true_xor, Bool.not_eq_true'] at hb
          exact ⟨fun z => (by cases z), fun z => (by rw [z] at hb; cases hb)⟩
      · refine zs_go h hk ads H1 locs1 ls stk3 ⟨h1, h2, q3, h4, za_set e1 e2 e5 (o := .inr (.inl (ty, n, d, za_wr d ups c9 (za_nar t.2.1 ty v)))) ?_ g1 g2, g3⟩
        refine ⟨rfl, ht, rfl, ?_⟩
        rw [(za_clamp hxc).1]
        exact za_wr_ok e7 (za_nar_ok h2 hy)
    · cases h
  · cases h
theorem zs_lld {lv : za_LV} {t : za_T} {st : List za_V} {Z : List za_S × List za_X}
    (rule : ∀ {H : Heap} {locs : List Loc} {cells slots : Nat} {ls : Array Slot} {rest : List Value} {ws : va_W} {q a n : Nat} {f : Nat → Int64} {i : Int32}, va_P (za_D E) vwCl ws H → ws[q]? = some (a, .inl (E.2.2.2.1.2.2.2, n, .inr (.inl f))) → vp_in i n → W p l e R s m args below meth c H locs cells slots Q (F0 m (pc + 1) ls (.long (f i.toNatClampNeg) :: rest)) → W p l e R s m args below meth c H locs cells slots Q (F0 m pc ls (.int i :: .ref a :: rest)))
    (h : za_lld pc lv st t = some Z) (hk : ∀ S ∈ Z.1, za_G p l e R s m args below meth c Q E nL ads0 S) : za_G p l e R s m args below meth c Q E nL ads0 (pc, lv, st, t) := by
  intro ads H locs ls stk M
  obtain ⟨h1, h2, h3, h4, h5, h6⟩ := M
  unfold za_lld at h
  split at h
  · rename_i i q rest
    split at h
    · rename_i n d ups c9 ho hc
      obtain ⟨hl, h⟩ := za_bif h
      obtain ⟨_, stk1, rfl, ⟨x, rfl, hx⟩, q1⟩ := za_F2_cons h3
      obtain ⟨_, stk2, rfl, ⟨a, rfl, ha⟩, q2⟩ := za_F2_cons q1
      have hxc := za_k_ok h2 hx hc
      obtain ⟨ws, z, e1, e2, e3, e4, e5, e6⟩ := za_obj h5 ha ho
      obtain ⟨f, rfl, e7⟩ := za_gO_l e6
      refine rule e3 e5 (za_vin hxc (za_blt hl)) (zs_go h hk ads H locs ls (_ :: stk2) ⟨h1, h2, ⟨⟨_, rfl, ?_⟩, q2⟩, h4, h5, h6⟩)
      rw [(za_clamp hxc).1]
      exact e7 c9 (za_blt hl)
    · cases h
  · cases h
theorem zs_lst {lv : za_LV} {t : za_T} {st : List za_V} {Z : List za_S × List za_X}
    (rule : ∀ {H : Heap} {locs : List Loc} {cells slots : Nat} {ls : Array Slot} {rest : List Value} {ws : va_W} {q a n : Nat} {f : Nat → Int64} {i : Int32} {x : Int64}, va_P (za_D E) vwCl ws H → va_D (za_A E) ws → va_S (za_A E) s.heap H locs → ws[q]? = some (a, .inl (E.2.2.2.1.2.2.2, n, .inr (.inl f))) → vp_in i n →
      (∀ (H1 : Heap) (locs1 : List Loc), va_P (za_D E) vwCl (ws.set q (a, .inl (E.2.2.2.1.2.2.2, n, .inr (.inl (vp_updL f i.toNatClampNeg x))))) H1 → va_D (za_A E) (ws.set q (a, .inl (E.2.2.2.1.2.2.2, n, .inr (.inl (vp_updL f i.toNatClampNeg x))))) → va_S (za_A E) s.heap H1 locs1 → W p l e R s m args below meth c H1 locs1 cells slots Q (F0 m (pc + 1) ls rest)) → W p l e R s m args below meth c H locs cells slots Q (F0 m pc ls (.long x :: .int i :: .ref a :: rest)))
    (h : za_lst pc lv st t = some Z) (hk : ∀ S ∈ Z.1, za_G p l e R s m args below meth c Q E nL ads0 S) : za_G p l e R s m args below meth c Q E nL ads0 (pc, lv, st, t) := by
  intro ads H locs ls stk M
  obtain ⟨h1, h2, h3, h4, h5, h6⟩ := M
  unfold za_lst at h
  split at h
  · rename_i v i q rest
    split at h
    · rename_i n d ups c9 ho hc
      obtain ⟨hl, h⟩ := za_bif h
      obtain ⟨_, stk1, rfl, ⟨y, rfl, hy⟩, q1⟩ := za_F2_cons h3
      obtain ⟨_, stk2, rfl, ⟨x, rfl, hx⟩, q2⟩ := za_F2_cons q1
      obtain ⟨_, stk3, rfl, ⟨a, rfl, ha⟩, q3⟩ := za_F2_cons q2
      have hxc := za_k_ok h2 hx hc
      obtain ⟨ws, z, e1, e2, e3, e4, e5, e6⟩ := za_obj h5 ha ho
      obtain ⟨f, rfl, e7⟩ := za_gO_l e6
      refine rule (x := y) e3 e4 h6 e5 (za_vin hxc (za_blt hl)) (fun H1 locs1 g1 g2 g3 => ?_)
      refine zs_go h hk ads H1 locs1 ls stk3 ⟨h1, h2, q3, h4, za_set e1 e2 e5 (o := .inr (.inr (n, d, za_wr d ups c9 v))) ?_ g1 g2, g3⟩
      refine ⟨rfl, rfl, ?_⟩
      rw [(za_clamp hxc).1]
      intro j hj
      by_cases e9 : j = c9
      · subst e9
        rw [za_wr_self]
        simpa [vp_updL] using hy
      · rw [za_wr_ne _ _ _ e9]
        simpa [vp_updL, e9] using e7 j hj
    · cases h
  · cases h
theorem za_n_len {n : Nat} (h : n < 100000) : (Int32.ofNat n).toInt = (n : Int) := by
  rw [Int32.toInt_ofNat']
  exact za_bmod (by omega) (by omega)
theorem zs_alen {lv : za_LV} {t : za_T} {st : List za_V} {Z : List za_S × List za_X} {L : Nat}
    (ruleS : ∀ {H : Heap} {locs : List Loc} {cells slots : Nat} {ls : Array Slot} {rest : List Value}, va_S (za_A E) s.heap H locs → W p l e R s m args below meth c H locs cells slots Q (F0 m (pc + 1) ls (.int (Int32.ofNat L) :: rest)) → W p l e R s m args below meth c H locs cells slots Q (F0 m pc ls (.ref (za_b E) :: rest)))
    (rule : ∀ {k : Nat} {ty : FieldType} {cA : ClassId} {H : Heap} {locs : List Loc} {cells slots : Nat} {ls : Array Slot} {rest : List Value} {ws : va_W} {q a : Nat} {x : vp_A}, (za_tys E)[k]? = some (cA, ty) → va_P (za_D E) vwCl ws H → ws[q]? = some (a, .inl (cA, x)) → W p l e R s m args below meth c H locs cells slots Q (F0 m (pc + 1) ls (.int (Int32.ofNat x.1) :: rest)) → W p l e R s m args below meth c H locs cells slots Q (F0 m pc ls (.ref a :: rest)))
    (h : za_alen L pc lv st t = some Z) (hk : ∀ S ∈ Z.1, za_G p l e R s m args below meth c Q E nL ads0 S) : za_G p l e R s m args below meth c Q E nL ads0 (pc, lv, st, t) := by
  intro ads H locs ls stk M
  obtain ⟨h1, h2, h3, h4, h5, h6⟩ := M
  unfold za_alen at h
  split at h
  · rename_i rest
    obtain ⟨hl, h⟩ := za_bif h
    obtain ⟨_, stk1, rfl, ⟨a, rfl, ha⟩, q1⟩ := za_F2_cons h3
    have hab : a = za_b E := by
      obtain ⟨ws, e1, -⟩ := h5
      rw [e1] at ha
      exact (Option.some.inj ha).symm
    subst hab
    exact ruleS h6 (zs_go h hk ads H locs ls (_ :: stk1) ⟨h1, h2, ⟨⟨_, rfl, za_n_ok _ (za_n_len (za_blt hl))⟩, q1⟩, h4, h5, h6⟩)
  · rename_i q rest
    obtain ⟨_, stk2, rfl, ⟨a, rfl, ha⟩, q2⟩ := za_F2_cons h3
    split at h
    · rename_i ty n d ups ho
      obtain ⟨hl, h⟩ := za_bif h
      obtain ⟨ws, z, e1, e2, e3, e4, e5, e6⟩ := za_obj h5 ha ho
      obtain ⟨f, rfl, ht, e7⟩ := za_gO_i e6
      exact rule (za_tys_tc ht) e3 e5 (zs_go h hk ads H locs ls (_ :: stk2) ⟨h1, h2, ⟨⟨_, rfl, za_n_ok _ (za_n_len (za_blt hl))⟩, q2⟩, h4, h5, h6⟩)
    · rename_i n d ups ho
      obtain ⟨hl, h⟩ := za_bif h
      obtain ⟨ws, z, e1, e2, e3, e4, e5, e6⟩ := za_obj h5 ha ho
      obtain ⟨f, rfl, e7⟩ := za_gO_l e6
      exact rule (k := 3) rfl e3 e5 (zs_go h hk ads H locs ls (_ :: stk2) ⟨h1, h2, ⟨⟨_, rfl, za_n_ok _ (za_n_len (za_blt hl))⟩, q2⟩, h4, h5, h6⟩)
    · cases h
  · cases h
end ZH
end
section
/-! ===== nest mates' words; which entries throw ===== -/
def za_nneed (own : String) (k : Nat) (r : za_row) : List Cond := match r.1 with
  | 11 => za_wY r.2.1 (fun y => [.methodLinkNest own k y RX11])
  | 12 => za_wY r.2.1 (fun y => [.methodLinkNest own k y RX11])
  | 13 => za_wY r.2.1 (fun y => [.methodLinkNest own k y RX11])
  | _ => []
def za_isN (w : Cond) : Bool := match w with
  | .methodLinkNest _ _ _ _ => true
  | .castable _ _ => true
  | .declares _ => true
  | _ => false
def za_nw : List Cond := lw_tbl.filter za_isN
theorem za_memN {ws : List Cond} (ps : List Nat) (h : ws = ps.filterMap (fun i => lw_tbl[i]?)) (hg : ws.all za_isN = true) : ∀ w ∈ ws, w ∈ za_nw := by
  intro w hw
  have h1 := List.all_eq_true.mp hg w hw
  rw [h] at hw
  obtain ⟨i, -, hi⟩ := List.mem_filterMap.mp hw
  exact List.mem_filter.mpr ⟨List.mem_of_getElem? hi, h1⟩
def za_sk : List Nat := [112, 176, 187, 212, 268, 286, 308, 313, 345, 363, 365, 367]
def za_xok (c : Nat) (q : Nat × za_row) : Bool := match q.2.1 with
  | 15 => Nat.beq c 11 && ((Nat.beq q.1 114 && Nat.beq q.2.2.1 1) || (Nat.beq q.1 178 && Nat.beq q.2.2.1 0))
  | 10 => !(Nat.beq c 11) || za_sk.contains q.1
  | _ => true
theorem zc_n0 : ∀ w ∈ za_cp0.flatMap (fun q => za_nneed RX0 q.1 q.2), w ∈ za_nw := za_memN [] (by decide +kernel) (by decide +kernel)
theorem zc_x0 : za_cp0.all (za_xok 0) = true := by decide +kernel
theorem zc_n1 : ∀ w ∈ za_cp1.flatMap (fun q => za_nneed RX1 q.1 q.2), w ∈ za_nw := za_memN [] (by decide +kernel) (by decide +kernel)
theorem zc_x1 : za_cp1.all (za_xok 1) = true := by decide +kernel
theorem zc_n2 : ∀ w ∈ za_cp2.flatMap (fun q => za_nneed RX2 q.1 q.2), w ∈ za_nw := za_memN [] (by decide +kernel) (by decide +kernel)
theorem zc_x2 : za_cp2.all (za_xok 2) = true := by decide +kernel
theorem zc_n3 : ∀ w ∈ za_cp3.flatMap (fun q => za_nneed RX3 q.1 q.2), w ∈ za_nw := za_memN [1209] (by decide +kernel) (by decide +kernel)
theorem zc_x3 : za_cp3.all (za_xok 3) = true := by decide +kernel
theorem zc_n4 : ∀ w ∈ za_cp4.flatMap (fun q => za_nneed RX4 q.1 q.2), w ∈ za_nw := za_memN [] (by decide +kernel) (by decide +kernel)
theorem zc_x4 : za_cp4.all (za_xok 4) = true := by decide +kernel
theorem zc_n5 : ∀ w ∈ za_cp5.flatMap (fun q => za_nneed RX5 q.1 q.2), w ∈ za_nw := za_memN [464] (by decide +kernel) (by decide +kernel)
theorem zc_x5 : za_cp5.all (za_xok 5) = true := by decide +kernel
theorem zc_n6 : ∀ w ∈ za_cp6.flatMap (fun q => za_nneed RX6 q.1 q.2), w ∈ za_nw := za_memN [] (by decide +kernel) (by decide +kernel)
theorem zc_x6 : za_cp6.all (za_xok 6) = true := by decide +kernel
theorem zc_n7 : ∀ w ∈ za_cp7.flatMap (fun q => za_nneed RX7 q.1 q.2), w ∈ za_nw := za_memN [832, 964, 945, 1021] (by decide +kernel) (by decide +kernel)
theorem zc_x7 : za_cp7.all (za_xok 7) = true := by decide +kernel
theorem zc_n8 : ∀ w ∈ za_cp8.flatMap (fun q => za_nneed RX8 q.1 q.2), w ∈ za_nw := za_memN [658] (by decide +kernel) (by decide +kernel)
theorem zc_x8 : za_cp8.all (za_xok 8) = true := by decide +kernel
theorem zc_n9 : ∀ w ∈ za_cp9.flatMap (fun q => za_nneed RX9 q.1 q.2), w ∈ za_nw := za_memN [] (by decide +kernel) (by decide +kernel)
theorem zc_x9 : za_cp9.all (za_xok 9) = true := by decide +kernel
theorem zc_n10 : ∀ w ∈ za_cp10.flatMap (fun q => za_nneed RX10 q.1 q.2), w ∈ za_nw := za_memN [158] (by decide +kernel) (by decide +kernel)
theorem zc_x10 : za_cp10.all (za_xok 10) = true := by decide +kernel
theorem zc_n11 : ∀ w ∈ za_cp11.flatMap (fun q => za_nneed RX11 q.1 q.2), w ∈ za_nw := za_memN [273, 402, 446, 459, 482, 527, 550] (by decide +kernel) (by decide +kernel)
theorem zc_x11 : za_cp11.all (za_xok 11) = true := by decide +kernel
theorem zc_n12 : ∀ w ∈ za_cp12.flatMap (fun q => za_nneed RX12 q.1 q.2), w ∈ za_nw := za_memN [] (by decide +kernel) (by decide +kernel)
theorem zc_x12 : za_cp12.all (za_xok 12) = true := by decide +kernel
theorem zc_n13 : ∀ w ∈ za_cp13.flatMap (fun q => za_nneed RL q.1 q.2), w ∈ za_nw := za_memN [] (by decide +kernel) (by decide +kernel)
theorem zc_x13 : za_cp13.all (za_xok 13) = true := by decide +kernel
theorem zc_n14 : ∀ w ∈ za_cp14.flatMap (fun q => za_nneed RJ6 q.1 q.2), w ∈ za_nw := za_memN [] (by decide +kernel) (by decide +kernel)
theorem zc_x14 : za_cp14.all (za_xok 14) = true := by decide +kernel
theorem zc_n15 : ∀ w ∈ za_cp15.flatMap (fun q => za_nneed RJ13 q.1 q.2), w ∈ za_nw := za_memN [] (by decide +kernel) (by decide +kernel)
theorem zc_x15 : za_cp15.all (za_xok 15) = true := by decide +kernel
theorem zc_n16 : ∀ w ∈ za_cp16.flatMap (fun q => za_nneed RJ9 q.1 q.2), w ∈ za_nw := za_memN [] (by decide +kernel) (by decide +kernel)
theorem zc_x16 : za_cp16.all (za_xok 16) = true := by decide +kernel
theorem zc_n17 : ∀ w ∈ za_cp17.flatMap (fun q => za_nneed RJ7 q.1 q.2), w ∈ za_nw := za_memN [] (by decide +kernel) (by decide +kernel)
theorem zc_x17 : za_cp17.all (za_xok 17) = true := by decide +kernel
theorem zc_n : ∀ (c : Nat), ∀ w ∈ (za_cpl c).flatMap (fun q => za_nneed (za_ow c) q.1 q.2), w ∈ za_nw := by
  intro c
  match c with
  | 0 => exact zc_n0
  | 1 => exact zc_n1
  | 2 => exact zc_n2
  | 3 => exact zc_n3
  | 4 => exact zc_n4
  | 5 => exact zc_n5
  | 6 => exact zc_n6
  | 7 => exact zc_n7
  | 8 => exact zc_n8
  | 9 => exact zc_n9
  | 10 => exact zc_n10
  | 11 => exact zc_n11
  | 12 => exact zc_n12
  | 13 => exact zc_n13
  | 14 => exact zc_n14
  | 15 => exact zc_n15
  | 16 => exact zc_n16
  | 17 => exact zc_n17
  | _ + 18 => intro w hw; simp [za_cpl] at hw
theorem zc_x : ∀ (c : Nat), (za_cpl c).all (za_xok c) = true := by
  intro c
  match c with
  | 0 => exact zc_x0
  | 1 => exact zc_x1
  | 2 => exact zc_x2
  | 3 => exact zc_x3
  | 4 => exact zc_x4
  | 5 => exact zc_x5
  | 6 => exact zc_x6
  | 7 => exact zc_x7
  | 8 => exact zc_x8
  | 9 => exact zc_x9
  | 10 => exact zc_x10
  | 11 => exact zc_x11
  | 12 => exact zc_x12
  | 13 => exact zc_x13
  | 14 => exact zc_x14
  | 15 => exact zc_x15
  | 16 => exact zc_x16
  | 17 => exact zc_x17
  | _ + 18 => rfl
theorem zc_nest {c k : Nat} {r : za_row} (h : za_CP c k = some r) : ∀ w ∈ za_nneed (za_ow c) k r, w ∈ za_nw := fun w hw => zc_n c w (List.mem_flatMap.mpr ⟨_, za_lk_mem h, hw⟩)
theorem zc_xr {c k : Nat} {r : za_row} (h : za_CP c k = some r) : za_xok c (k, r) = true := List.all_eq_true.mp (zc_x c) _ (za_lk_mem h)
abbrev za_nm : List String := ["java/lang/RuntimeException", "java/lang/Exception"]
def za_icx (ex : Nat) : Nat := match ex with
  | 0 => 178
  | _ => 114
def za_tix (ex : Nat) : Nat := match ex with
  | 0 => 13
  | _ => 7
def za_tby (ex : Nat) : ByteArray := match ex with
  | 0 => prog_32_method_4_code
  | _ => Bundle.six
theorem zx_d0 : ∀ ex, ex < 2 → decode (za_tby ex) 0 = .ok (.aload_n 0, 1)
  | 0, _ => by decide +kernel
  | 1, _ => by decide +kernel
  | _ + 2, h => absurd h (by omega)
theorem zx_d1 : ∀ ex, ex < 2 → decode (za_tby ex) 1 = .ok (.aload_n 1, 1)
  | 0, _ => by decide +kernel
  | 1, _ => by decide +kernel
  | _ + 2, h => absurd h (by omega)
theorem zx_d2 : ∀ ex, ex < 2 → decode (za_tby ex) 2 = .ok (.invokespecial (za_tix ex), 3)
  | 0, _ => by decide +kernel
  | 1, _ => by decide +kernel
  | _ + 2, h => absurd h (by omega)
theorem zx_d5 : ∀ ex, ex < 2 → decode (za_tby ex) 5 = .ok (.return_, 1)
  | 0, _ => by decide +kernel
  | 1, _ => by decide +kernel
  | _ + 2, h => absurd h (by omega)
def za_atX (ex : Nat) : List Cond := (Bundle.ownAtomsX RX11 (za_icx ex) (za_exn ex) (za_tix ex) (za_tby ex) za_nm).filter vx_no
theorem zx_at0 : ∀ w ∈ (za_atX 0).filter goodWord, w ∈ lw_tbl := by decide +kernel
theorem zx_at1 : ∀ w ∈ (za_atX 1).filter goodWord, w ∈ lw_tbl := by decide +kernel
theorem zx_no0 : ∀ w ∈ (za_atX 0).filter (fun w => !goodWord w), w ∈ za_nw := by decide +kernel
theorem zx_no1 : ∀ w ∈ (za_atX 1).filter (fun w => !goodWord w), w ∈ za_nw := by decide +kernel
theorem zx_ot0 : ∀ w ∈ za_atX 0, vx_ot w = true := by decide +kernel
theorem zx_ot1 : ∀ w ∈ za_atX 1, vx_ot w = true := by decide +kernel
theorem zx_at : ∀ ex, ex < 2 → ∀ w ∈ (za_atX ex).filter goodWord, w ∈ lw_tbl
  | 0, _ => zx_at0
  | 1, _ => zx_at1
  | _ + 2, h => absurd h (by omega)
theorem zx_no : ∀ ex, ex < 2 → ∀ w ∈ (za_atX ex).filter (fun w => !goodWord w), w ∈ za_nw
  | 0, _ => zx_no0
  | 1, _ => zx_no1
  | _ + 2, h => absurd h (by omega)
theorem zx_ot : ∀ ex, ex < 2 → ∀ w ∈ za_atX ex, vx_ot w = true
  | 0, _ => zx_ot0
  | 1, _ => zx_ot1
  | _ + 2, h => absurd h (by omega)
theorem zn_on : ∀ {w : Cond}, za_isN w = true → w.onTables = true := by
  intro w h
  cases w <;> first | rfl | cases h
theorem zn_warm {w : Cond} {s U : State} (hi : za_isN w = true) (hW : s.WarmedH U.vm) (h : va_Nw w s) : va_Nw w U := by
  cases w <;> first | exact h.warmM hW | exact h.warmC hW | exact h.warmD hW | cases hi
theorem zx_fit : ∀ ex, ex < 2 → Bundle.fit (za_exn ex) = true := by decide +kernel
theorem zx_fitn : ∀ n ∈ za_nm, Bundle.fit n = true := by decide +kernel
theorem zx_arI : Cond.arrayClass .int ∈ za_wd := List.mem_filter.mpr ⟨List.mem_of_getElem? (i := 270) rfl, rfl⟩
theorem zx_arB : Cond.arrayClass .byte ∈ za_wd := List.mem_filter.mpr ⟨List.mem_of_getElem? (i := 268) rfl, rfl⟩
set_option maxRecDepth 20000 in
theorem zx_arZ : Cond.arrayClass .boolean ∈ za_wd := List.mem_filter.mpr ⟨List.mem_of_getElem? (i := 1646) rfl, rfl⟩
theorem zx_arJ : Cond.arrayClass .long ∈ za_wd := List.mem_filter.mpr ⟨List.mem_of_getElem? (i := 269) rfl, rfl⟩
end
section
/-! ===== throw new E(text), where E's own constructor has its own link ===== -/
set_option maxHeartbeats 1000000 in
theorem zt_ctor {p : Program} {l : Launch} {e : Env} {R : Room} {s : State} {m₀ : MethodId} {args : Array Value} {below : List Frame} {meth : Method} {c : Code} {W : State} {locs : List Loc} {cells slots : Nat}
    (X : Stand p l e R s m₀ args below meth c W locs cells slots) (hexec : p.tables.exec = Jvm.exec) (htr : e.platform.stackTraces = false) {own cls : String} {names : List String} {ic ix : Nat} {rx : ByteArray}
    (x0 : decode rx 0 = .ok (.aload_n 0, 1)) (x1 : decode rx 1 = .ok (.aload_n 1, 1)) (x2 : decode rx 2 = .ok (.invokespecial ix, 3)) (x5 : decode rx 5 = .ok (.return_, 1))
    (hown : s.vm.findClass own = some m₀.cls) (hcls : Bundle.fit cls = true) (hnames : ∀ n ∈ names, Bundle.fit n = true)
    (h : ∀ a ∈ Bundle.ownAtomsX own ic cls ix rx names, a.before args s = true)
    (hlocs : ∀ x ∈ locs, ∀ cell, s.heap[x.base]? = some cell → cell.vm.isStatics = false)
    {a : Addr} {cX : ClassId} {kX : Class} (hfoundX : s.vm.findClass cls = some cX) (hkX : s.vm.classes[cX]? = some kX) (hcell : W.heap[a]? = some (freshCell cX kX)) (hnew : s.heap.size ≤ a)
    {msg : Value} (hmsg : msg.isRef = true)
    {g : JFrame} (hg : g.method = m₀) (hsize : g.locals.size = c.maxLocals) (hlocked : g.locked = none) (hentered : g.entered = []) {rest : List Value} (hstack : g.stack = msg :: .ref a :: .ref a :: rest)
    (hd6 : decode c.code g.pc = .ok (.invokespecial ic, 3)) (hd9 : decode c.code (g.pc + 3) = .ok (.athrow, 1)) (hout : ∀ x ∈ c.exceptionTable.toList, covers x (g.pc + 3) = false)
    (hRframes : names.length + 3 < R.frames) (hRlocals : 2 * g.monitorRoom + ((Value.ref a :: rest).map fun v => v.category).sum + (13 * (names.length + 1) + 42) ≤ R.locals) (hlocks : meth.locks = false) :
    ∃ U : State, Steps p.tables e below (W.setTop g) U ∧ U.status = .running ∧ Ended U below (.threw a) ∧ s.WarmedH U.vm ∧ s.sameButNew ({ U with vm := s.vm } : State) locs cells slots ∧
      ∃ ce, U.heap[a]? = some ce ∧ s.vm.findClass cls = some ce.cls ∧ ce.vm = .none := by
  have hmem : ∀ x : Cond, x ∈ Bundle.chainSAtomsX cls ix rx names → x ∈ Bundle.ownAtomsX own ic cls ix rx names := fun x hx => by simp [Bundle.ownAtomsX, hx]
  have hpl : e.platform.magicAccessors = ({} : Platform).magicAccessors := by rw [X.admits.platform]
  obtain ⟨T, Z0, L, -, Y⟩ := ThrowableC.of_atoms (args := args) (by rw [X.admits.platform]) (by rw [X.admits.platform]) hpl (fun x hx => h x (by simp [Bundle.ownAtomsX, hx]))
  obtain ⟨Z, M, LZ, LM, hnZ⟩ := Init0T.ofS_atoms (args := args) hpl L Y (fun x hx => h x (by simp [Bundle.ownAtomsX, hx]))
  obtain ⟨P1, Ps, hlen, L1, hL, hP1m, hlink1, hlink⟩ := Bundle.chainSX (args := args) hpl hnZ x0 x1 x2 x5 names cls hcls hnames (fun x hx => h x (hmem x hx))
  have hfound : s.vm.findClass cls = some P1.m.cls := findClass_of_methodNamed hP1m
  cases Option.some.inj (hfoundX.symm.trans hfound)
  obtain ⟨c1, kX', hc1, hk, hord, -, -, hn6⟩ := Cond.instantiable_spec (show (Cond.instantiable cls 6).holds args s none s [] = true from h _ (by simp [Bundle.ownAtomsX]))
  cases Option.some.inj (hc1.symm.trans hfound)
  cases Option.some.inj (hkX.symm.trans hk)
  have hsel : ∀ {t : MethodName} {f : MethodId}, s.methodNamed? t = some f → Cond.selects cls t t ∈ Bundle.ownAtomsX own ic cls ix rx names → s.methodFound? t.cls t.name t.desc = some f → selectMethod e.platform s.vm P1.m.cls f = .method f := by
    intro t f hf hin hff
    obtain ⟨c2, r2, m2, q1, q2, q3, q4, -⟩ := Cond.selects_spec (show (Cond.selects cls t t).holds args s none s [] = true from h _ hin)
    cases Option.some.inj (q1.symm.trans hfound)
    cases Option.some.inj (q2.symm.trans hff)
    cases Option.some.inj (q3.symm.trans hf)
    rw [Launch.admits_selectMethod X.admits]; exact q4
  have hsel0 : selectMethod e.platform s.vm P1.m.cls T.fill0 = .method T.fill0 := hsel Y.fill0 (by simp [Bundle.ownAtomsX]) (State.methodFound?_of_named Y.fill0 (by decide))
  have hselF : selectMethod e.platform s.vm P1.m.cls T.fill = .method T.fill := hsel Y.fill (by simp [Bundle.ownAtomsX]) (State.methodFound?_of_named Y.fill (by decide))
  obtain ⟨cellS0, hcS0, hiss⟩ := Y.statics
  obtain ⟨u0, hu0⟩ := Cond.staticRefV Y.unassigned L.unassignedStatic L.statics hcS0 hiss (h (.isRef (.static Bundle.tN "UNASSIGNED_STACK" Bundle.steD)) (by simp [Bundle.ownAtomsX]))
  obtain ⟨sen, hsen⟩ := Cond.staticRefV Y.sentinel L.sentinelStatic L.statics hcS0 hiss (h (.isRef (.static Bundle.tN "SUPPRESSED_SENTINEL" Bundle.listD)) (by simp [Bundle.ownAtomsX]))
  obtain ⟨ci198, i198, fB, hk198, hg198, ha198, hsB, -, hnB, htB, hffB⟩ := Cond.ownField (t := .object "java/lang/Object") Y.found L.cls (by decide +kernel) (h (.fieldLink Bundle.tN 198 Bundle.tN "backtrace" "Ljava/lang/Object;") (by simp [Bundle.ownAtomsX])) (h (.lays Bundle.tN Bundle.tN "backtrace" "Ljava/lang/Object;") (by simp [Bundle.ownAtomsX])) e.platform hpl
  obtain ⟨cellS, hcS', heS, -, hkeep⟩ := X.same.2.2.2.2.2 T.aS cellS0 hcS0
  have hcellS : W.heap[T.aS]? = some cellS := hcS'
  have hout' : ∀ i, (⟨T.aS, i⟩ : Loc) ∉ locs := fun i hmem => by
    have := hlocs _ hmem cellS0 hcS0
    rw [hiss] at this; cases this
  have hknownS : cellS.vm ≠ .unknown := by
    rw [heS]; intro hu
    rw [show cellS0.vm = .unknown from hu] at hiss
    cases hiss
  have hneS : T.aS ≠ a := Nat.ne_of_lt (Nat.lt_of_lt_of_le (Array.getElem?_eq_some_iff.mp hcS0).1 hnew)
  obtain ⟨iM, hffM⟩ := Y.msg
  obtain ⟨tyC, dC, hdC, hdnC⟩ := Cond.laysAt hfound hk Y.cause (h (.lays cls Bundle.tN "cause" "Ljava/lang/Throwable;") (by simp [Bundle.ownAtomsX]))
  obtain ⟨tyS, dS, hdS, hdnS⟩ := Cond.laysAt hfound hk Y.stack (h (.lays cls Bundle.tN "stackTrace" Bundle.steD) (by simp [Bundle.ownAtomsX]))
  obtain ⟨tyP, dP, hdP, hdnP⟩ := Cond.laysAt hfound hk Y.supp (h (.lays cls Bundle.tN "suppressedExceptions" Bundle.listD) (by simp [Bundle.ownAtomsX]))
  obtain ⟨tyM, dM, hdM, hdnM⟩ := Cond.laysAt hfound hk hffM (h (.lays cls Bundle.tN "detailMessage" "Ljava/lang/String;") (by simp [Bundle.ownAtomsX]))
  obtain ⟨tyB, dB, hdB, hdnB⟩ := Cond.laysAt hfound hk hffB (h (.lays cls Bundle.tN "backtrace" "Ljava/lang/Object;") (by simp [Bundle.ownAtomsX]))
  have bC := Cond.laysApart hdB hdC hdnB hdnC (by rw [hnB, Y.causeName]; decide)
  have bS := Cond.laysApart hdB hdS hdnB hdnS (by rw [hnB, Y.stackName]; decide)
  have bP := Cond.laysApart hdB hdP hdnB hdnP (by rw [hnB, Y.suppName]; decide)
  have hskip : SkipFacts T e.platform s (fun u => u) u0 ((preparedCellV T.toThrowableT (freshCell P1.m.cls kX) a u0 sen).withEntry W.cur) :=
    ⟨{ ci198 := ci198, i198 := i198, fBack := fB }, ⟨hk198, hg198, ha198, hsB⟩, by
      have := fresh_default (c := P1.m.cls) tyB
      rw [htB] at this
      simpa [preparedCellV, Cell.setSlot, Cell.withEntry, Array.getElem?_setIfInBounds, bC, bS, bP, bC.symm, bS.symm, bP.symm, defaultValue] using this, fun _ _ => rfl⟩
  obtain ⟨tm, methC, cdC, kC, vm₁, hnC, -, -, -, -, -, -, -, hW₁, st1⟩ := Steps.initColdS (tb := p.tables) (e := e) (below := below) (s := s) (U := W) X.here hexec X.warmed hpl hown (t := Bundle.initS cls) rfl rfl (Bundle.fit_spec hcls).2
    (h (.methodLink own ic (Bundle.initS cls)) (by simp [Bundle.ownAtomsX])) (h (.instanceMethod (Bundle.initS cls)) (hmem _ (by cases names <;> simp [Bundle.chainSAtomsX, Bundle.passSAtoms]))) (bytes := rx) (maxL := 2) (h (.code (Bundle.initS cls) rx 2 none) (hmem _ (by cases names <;> simp [Bundle.chainSAtomsX, Bundle.passSAtoms])))
    (f := g) hg (a := a) (msg := msg) (rest := .ref a :: rest) hstack hd6
  cases Option.some.inj (hnC.symm.trans hP1m)
  have X₁ := X.noted hW₁
  obtain ⟨vm₂, X₂, st2⟩ := X₁.ctorMessageOffV hexec (g := { g with stack := .ref a :: rest }) hg hsize T L Z LZ M LM (P1 :: Ps)
    (fun P hP => by rcases List.mem_cons.mp hP with rfl | hP; exact L1; exact hL P hP) ⟨hlink1, hlink⟩ (u0 := u0) (sen := sen) (self := a) hmsg (cell := freshCell P1.m.cls kX) (cellS := cellS)
    hcell (fun _ => by simp) (by simp) rfl rfl hsel0 hselF hcellS hneS hknownS (by rw [hkeep _ (hout' _)]; exact hu0) (by rw [hkeep _ (hout' _)]; exact hsen)
    (Takes.of_laid hk hord tyC (by rw [Y.causeType]; rfl)) (Takes.of_laid hk hord tyS (by rw [Y.stackType]; exact fits_refV_array _ u0)) (Takes.of_laid hk hord tyP (by rw [Y.suppType]; exact fits_refV_object _ sen))
    (Takes.of_laid hk hord tyM (by rw [Y.msgType]; exact fits_refV_object _ ⟨msg, hmsg⟩)) Y.objLocals hskip htr [] hd6
    (by simp only [List.length_cons, hlen]; omega) (by simp only [List.length_cons, hlen]; exact hRlocals)
  obtain ⟨hwalk, hrun, hended, hWU, hsame⟩ := X₂.athrowLeaves hexec (g := { g with stack := .ref a :: rest, pc := g.pc + 3 }) hg hlocked hentered hout (a := a) (rest := rest) rfl hd9
  have hlt : a < ((W.setVm vm₁).setVm vm₂).heap.size := (Array.getElem?_eq_some_iff.mp hcell).1
  have hU := heapAt_setCell_self (s := (W.setVm vm₁).setVm vm₂) (plainBareV T.toThrowableT (freshCell P1.m.cls kX) a u0 sen msg) hlt
  refine ⟨_, st1 _ (fun acts => ?_), hrun, hended, hWU, hsame.weaken (fun y hy hlt' => ?_) (Nat.le_refl _) (Nat.le_refl _), _, hU, hfound, rfl⟩
  · rw [doInvoke_state]
    exact st2 _ hwalk
  · rcases List.mem_append.mp hy with h1 | h1
    · exact h1
    · exfalso
      have hb : y.base = a := by
        simp only [List.mem_cons, List.not_mem_nil, or_false] at h1
        rcases h1 with rfl | rfl | rfl | rfl | rfl <;> rfl
      rw [hb] at hlt'
      exact Nat.not_lt.mpr hnew hlt'
set_option maxHeartbeats 1000000 in
/-- new; dup; ldc or ldc_w; invokespecial; athrow -/
theorem zt_throw {p : Program} {l : Launch} {e : Env} {R : Room} {s : State} {m : MethodId} {args : Array Value} {below : List Frame} {meth : Method} {c : Code} {H : Heap} {locs : List Loc} {cells slots : Nat} {free : Addr → Prop} {ls : Array Slot} {rest : List Value} {Qc : Array Value → State → Outcome → State → Prop} {XC : String → State → State → Prop}
    {cc : ByteArray} {pc pq : Nat} (hexec : p.tables.exec = Jvm.exec) (hb : c.code = cc) (hl : l.stackTraces = false) {own cls text : String} {names : List String} {ik is ic mc ms sa ix : Nat} {rx : ByteArray} {A : Nat → Prop}
    (x0 : decode rx 0 = .ok (.aload_n 0, 1)) (x1 : decode rx 1 = .ok (.aload_n 1, 1)) (x2 : decode rx 2 = .ok (.invokespecial ix, 3)) (x5 : decode rx 5 = .ok (.return_, 1))
    (hown : s.vm.findClass own = some m.cls) (hcls : Bundle.fit cls = true) (hnames : ∀ n ∈ names, Bundle.fit n = true)
    (hk : (Cond.classLink own ik cls).before args s = true) (hini : (Cond.initialized cls).before args s = true) (hstr : vk_R own is text sa s) (hat : ∀ w ∈ (Bundle.ownAtomsX own ic cls ix rx names).filter vx_no, w.before args s = true)
    (hgood : ∀ w ∈ Cond.classLink own ik cls :: Cond.initialized cls :: (Bundle.ownAtomsX own ic cls ix rx names).filter vx_no, vx_ot w = true)
    (hU : vx_Zq Bundle.tN "UNASSIGNED_STACK" Bundle.steD A s s.heap) (hN : vx_Zq Bundle.tN "SUPPRESSED_SENTINEL" Bundle.listD A s s.heap) (hS : va_S A s.heap H locs) (hsize : ls.size = c.maxLocals)
    (d0 : decode cc pc = .ok (.new ik, 3)) (d3 : decode cc (pc + 3) = .ok (.dup, 1)) (d4 : (decode cc (pc + 4) = .ok (.ldc is, 2) ∧ pq = pc + 6) ∨ (decode cc (pc + 4) = .ok (.ldc_w is, 3) ∧ pq = pc + 7)) (d6 : decode cc pq = .ok (.invokespecial ic, 3)) (d9 : decode cc (pq + 3) = .ok (.athrow, 1))
    (hout : ∀ x ∈ c.exceptionTable.toList, covers x (pq + 3) = false)
    (hRframes : names.length + 3 < R.frames) (hRlocals : (rest.map fun v => v.category).sum + (13 * (names.length + 1) + 43) ≤ R.locals) (hRcells : cells + 1 ≤ R.cells) (hRslots : slots + 6 ≤ R.slots) (hlocks : meth.locks = false)
    (hx : ∀ t : State, s.vm.Alike t.vm → H.size ≤ t.heap.size → (∀ q : Nat, q < H.size → t.heap[q]? = H[q]?) → XC cls s t)
    (hf : ∀ z ∈ locs, free z.base) (hc : cells + 1 ≤ mc) (hs : slots + 6 ≤ ms) :
    W p l e R s m args below meth c H locs cells slots (vx_MQ below Qc XC args s mc ms free) (F0 m pc ls rest) := by
  intro T hT X
  have htr : e.platform.stackTraces = false := (show e.platform.stackTraces = l.stackTraces by rw [X.admits.platform]).trans hl
  have Y := vx_rebase X (R' := { frames := R.frames, locals := R.locals, cells := 1, slots := 6 }) (Nat.le_refl _) (Nat.le_refl _) hRcells hRslots
  obtain ⟨s', hA⟩ : ∃ z, z = (T.setVm s.vm).setFrames (.invoking m args :: below) := ⟨_, rfl⟩
  rw [← hA] at Y
  have hvm : s'.vm = s.vm := by rw [hA]; rfl
  have hhp : s'.heap = H := by rw [hA]; exact hT
  have hW0 : s.WarmedH s'.vm := by rw [hvm]; exact State.WarmedH.refl s
  have hU' : vx_Zq Bundle.tN "UNASSIGNED_STACK" Bundle.steD A s' s'.heap := by rw [hhp]; exact vx_Zq.moved hW0.alike (hU.kept hS.2.1)
  have hN' : vx_Zq Bundle.tN "SUPPRESSED_SENTINEL" Bundle.listD A s' s'.heap := by rw [hhp]; exact vx_Zq.moved hW0.alike (hN.kept hS.2.1)
  have h : ∀ w ∈ Bundle.ownAtomsX own ic cls ix rx names, w.before args s' = true := vx_own (fun w hw => vx_ot_at hW0 hvm.symm (hgood w (List.mem_cons_of_mem _ (List.mem_cons_of_mem _ hw))) (hat w hw)) (vx_isRefq hU'.1) (vx_isRefq hN'.1) hU'.2.word hN'.2.word
  have hown' : s'.vm.findClass own = some m.cls := by rw [hvm]; exact hown
  obtain ⟨vm₁, cX, kX, hfX, hkX, -, -, X₁, st1⟩ := Y.newCold hexec (own := own) (C := cls) (index := ik) (n := 6) hown' (vx_ot_at hW0 hvm.symm (hgood _ List.mem_cons_self) hk) (h _ (by simp [Bundle.ownAtomsX])) (vx_ot_at hW0 hvm.symm (hgood _ (List.mem_cons_of_mem _ List.mem_cons_self)) hini)
    (g := F0 m pc ls rest) rfl (by rw [hb]; exact d0) (Nat.le_refl _) (Nat.le_refl _)
  generalize hT1 : (T.setVm vm₁).pushCell { cls := cX, slots := kX.instanceTypes.map defaultValue, vm := .none } = T1 at X₁ st1
  have hcat : (Value.ref T.heap.size).category = 1 := rfl
  have hcellA : T1.heap[T.heap.size]? = some (freshCell cX kX) := by rw [← hT1]; exact State.heap_pushCell_size _ _
  have d3' : decode c.code (pc + 3) = .ok (.dup, 1) := by rw [hb]; exact d3
  have hstr' : vk_R own is text sa s' := vk_R.warm hW0 hstr
  obtain ⟨U, hsteps, hrun, hend, hW, hsame, ce, hce, hcl9, hvm9⟩ := zt_ctor X₁ hexec htr x0 x1 x2 x5 hown' hcls hnames h (fun x hx => nomatch hx) hfX hkX hcellA (by rw [hhp, hT]; exact Nat.le_refl _) (msg := .ref sa) rfl
    (g := { method := m, pc := pq, locals := ls, stack := .ref sa :: .ref T.heap.size :: .ref T.heap.size :: rest, locked := none }) rfl hsize rfl rfl (rest := rest) rfl
    (by rw [hb]; exact d6) (by rw [hb]; exact d9) hout hRframes (by simp only [List.map_cons, List.sum_cons, hcat]; omega) hlocks
  obtain ⟨f1, f2⟩ := vx_frame hsame
  rw [hhp] at f1 f2
  have hWs : s.WarmedH U.vm := State.WarmedH.trans hW0 hW
  have hcl : s.vm.findClass cls = some ce.cls := by rw [← hvm]; exact hcl9
  have hall : s.sameButNew ({ U with vm := s.vm } : State) locs mc ms := by
    subst hA
    obtain ⟨e1, e2⟩ := hsame
    rw [State.setFrames_setFrames] at e1
    have h2 : (T.setVm s.vm).sameButNew ({ U with vm := s.vm } : State) [] (0 + 1) (0 + 6) := ⟨e1, e2⟩
    have h3 := X.same.trans h2
    rw [List.append_nil] at h3
    exact h3.mono hc hs
  refine ⟨U, ?_, .threw T.heap.size, hrun, hend, Or.inr ⟨T.heap.size, rfl, cls, ce, locs, hx U hWs.alike f1 (fun q hq => f2 q hq (fun z hz => nomatch hz)), hce, hvm9, hcl, hWs, hall, hf⟩⟩
  refine st1 _ ?_
  show Steps p.tables e below (T1.setTop { method := m, pc := pc + 3, locals := ls, stack := .ref T.heap.size :: rest, locked := none }) _
  jvm_step X₁.here [X₁.here.top, hexec, d3', Value.category]
  rcases d4 with ⟨d4, rfl⟩ | ⟨d4, rfl⟩
  · exact X₁.ldcString hexec (own := own) (text := text) (index := is) (a := sa) hown' hstr'.1 hstr'.2
      (g := { method := m, pc := pc + 4, locals := ls, stack := .ref T.heap.size :: .ref T.heap.size :: rest, locked := none }) rfl (by rw [hb]; exact d4) _ hsteps
  · exact X₁.ldcStringW hexec (own := own) (text := text) (index := is) (a := sa) hown' hstr'.1 hstr'.2
      (g := { method := m, pc := pc + 4, locals := ls, stack := .ref T.heap.size :: .ref T.heap.size :: rest, locked := none }) rfl (by rw [hb]; exact d4) _ hsteps
end
section
section ZN
variable {p : Program} {l : Launch} {e : Env} {R : Room} {s : State} {m : MethodId} {args : Array Value} {below : List Frame} {meth : Method} {c : Code} {Q : State → Prop} {E : za_E} {nL : Nat} {ads0 : List Nat} {cc : ByteArray} {pc : Nat}
theorem za_gO_mono {ads ads' : List Nat} (h : ads <+: ads') {o : za_O} {x : va_E} (hg : za_gO E ads o x) : za_gO E ads' o x := by
  match o, x, hg with
  | .inl (ci, fs), .inr (cj, vs), hg => exact ⟨hg.1, za_F2_mono (fun _ _ => za_gV_mono h) hg.2⟩
  | .inr (.inl (t, n, d, ups)), .inl (cA, n', .inl f), hg => exact hg
  | .inr (.inr (n, d, ups)), .inl (cA, n', .inr (.inl f)), hg => exact hg
/-- one object more -/
theorem za_add1 {ads : List Nat} {h : List za_O} {H1 : Heap} {ws : va_W} {q : Nat} {x : va_E} {o : za_O} (e1 : ads = za_b E :: ws.map (·.1)) (e2 : za_F2 (fun o (q : Nat × va_E) => za_gO E ads o q.2) h ws) (e3 : va_P (za_D E) vwCl (ws ++ [(q, x)]) H1) (e4 : va_D (za_A E) (ws ++ [(q, x)])) (ho : za_gO E (ads ++ [q]) o x) :
    za_Wd E (ads ++ [q]) (h ++ [o]) H1 ∧ (ads ++ [q])[h.length + 1]? = some q := by
  have hl : h.length = ws.length := za_F2_len e2
  refine ⟨⟨ws ++ [(q, x)], by rw [e1]; simp, za_F2_app (za_F2_mono (fun _ _ => za_gO_mono (List.prefix_append _ _)) e2) ⟨ho, trivial⟩, e3, e4⟩, ?_⟩
  rw [e1, hl]
  simp
theorem za_lv_mono {ads ads' : List Nat} (h : ads <+: ads') {lv : za_LV} {ls : Array Slot} (hl : ∃ lc, lv_has ls nL lc ∧ za_F2 (za_gP (za_σ E) ads) lv lc) : ∃ lc, lv_has ls nL lc ∧ za_F2 (za_gP (za_σ E) ads') lv lc := by
  obtain ⟨lc, h1, h2⟩ := hl
  exact ⟨lc, h1, za_F2_mono (fun _ _ => za_gP_mono h) h2⟩
def za_gty (ty : FieldType) : Bool := match ty with
  | .int | .boolean | .long | .object _ | .array _ => true
  | _ => false
theorem za_df_ok {ads : List Nat} {σ : Nat → Int32} {ty : FieldType} (h : za_gty ty = true) : za_gV σ ads (za_df ty) (defaultValue ty) := by
  match ty, h with
  | .int, _ => exact ⟨0, rfl, by constructor <;> decide⟩
  | .boolean, _ => exact ⟨0, rfl, by constructor <;> decide⟩
  | .long, _ => exact ⟨0, rfl, fun c hc => by cases hc; rfl⟩
  | .object _, _ => rfl
  | .array _, _ => rfl
def za_dfs (ci : Nat) : Nat → List Value
  | 0 => []
  | k + 1 => za_dfs ci k ++ [defaultValue (za_tyX ci k)]
theorem za_dfs_len (ci : Nat) : ∀ n, (za_dfs ci n).length = n
  | 0 => rfl
  | n + 1 => by
    show (za_dfs ci n ++ [defaultValue (za_tyX ci n)]).length = n + 1
    rw [List.length_append, za_dfs_len ci n]; rfl
theorem za_dfs_at (ci : Nat) : ∀ n j, j < n → (za_dfs ci n)[j]? = some (defaultValue (za_tyX ci j))
  | 0, j, h => by omega
  | n + 1, j, h => by
    show (za_dfs ci n ++ [defaultValue (za_tyX ci n)])[j]? = _
    by_cases e9 : j < n
    · rw [List.getElem?_append_left (by rw [za_dfs_len]; exact e9)]
      exact za_dfs_at ci n j e9
    · have e8 : j = n := by omega
      subst e8
      rw [List.getElem?_append_right (by rw [za_dfs_len]; exact Nat.le_refl _), za_dfs_len, Nat.sub_self]
      rfl
theorem za_fs_ok {ads : List Nat} {σ : Nat → Int32} (ci : Nat) : ∀ n, (∀ k, k < n → za_gty (za_tyX ci k) = true) → za_F2 (za_gV σ ads) (za_fs ci n) (za_dfs ci n)
  | 0, _ => trivial
  | n + 1, h => za_F2_app (za_fs_ok ci n (fun k hk => h k (by omega))) ⟨za_df_ok (h n (by omega)), trivial⟩
theorem zc_gty : ∀ ci, ci < 13 → ∀ k, k < za_nX ci → za_gty (za_tyX ci k) = true := by decide +kernel
theorem zs_newo {lv : za_LV} {t : za_T} {st : List za_V} {Z : List za_S × List za_X} {r : Option za_row} {mc ms : Nat}
    (rule : ∀ {ci k : Nat} {z : Int}, r = some (5, ci, k, z) → ci < 13 ∧ ∀ {H : Heap} {locs : List Loc} {cells slots : Nat} {ls : Array Slot} {rest : List Value} {ws : va_W}, va_P (za_D E) vwCl ws H → va_D (za_A E) ws → va_S (za_A E) s.heap H locs → cells + 1 ≤ mc → slots + za_nX ci ≤ ms →
      (∀ (q : Nat) (H1 : Heap), va_P (za_D E) vwCl (ws ++ [(q, .inr (ci, za_dfs ci (za_nX ci)))]) H1 → va_D (za_A E) (ws ++ [(q, .inr (ci, za_dfs ci (za_nX ci)))]) → va_S (za_A E) s.heap H1 locs → W p l e R s m args below meth c H1 locs (cells + 1) (slots + za_nX ci) Q (F0 m (pc + 3) ls (.ref q :: rest))) → W p l e R s m args below meth c H locs cells slots Q (F0 m pc ls rest))
    (h : za_newo mc ms r pc lv st t = some Z) (hk : ∀ S ∈ Z.1, za_G p l e R s m args below meth c Q E nL ads0 S) : za_G p l e R s m args below meth c Q E nL ads0 (pc, lv, st, t) := by
  intro ads H locs ls stk M
  obtain ⟨h1, h2, h3, h4, h5, h6⟩ := M
  unfold za_newo at h
  split at h
  · rename_i ci k z
    obtain ⟨hm, h⟩ := za_bif h
    obtain ⟨hs, h⟩ := za_bif h
    obtain ⟨hci, rule⟩ := rule rfl
    obtain ⟨ws, e1, e2, e3, e4⟩ := h5
    refine rule e3 e4 h6 (za_blt hm) (za_ble hs) (fun q H1 g1 g2 g3 => ?_)
    have hp : ads <+: ads ++ [q] := List.prefix_append _ _
    obtain ⟨w1, w2⟩ := za_add1 (o := .inl (ci, za_fs ci (za_nX ci))) e1 e2 g1 g2 ⟨rfl, za_fs_ok ci _ (zc_gty ci hci)⟩
    exact zs_go h hk (ads ++ [q]) H1 locs ls (.ref q :: stk) ⟨h1.trans hp, h2, ⟨⟨q, rfl, w2⟩, za_F2_mono (fun _ _ => za_gV_mono hp) h3⟩, za_lv_mono hp h4, w1, g3⟩
  · cases h
theorem zs_newa {lv : za_LV} {t : za_T} {st : List za_V} {Z : List za_S × List za_X} {ty : ArrayType} {mc ms : Nat}
    (rule : ∀ {ft : FieldType} {k : Nat} {cA : ClassId} (a0 : vp_A), newarray.typeOf ty = ft → (za_tys E)[k]? = some (cA, ft) → (∀ cB : ClassId, vp_cell cB a0 = arrV cB a0.1 (fun _ => defaultValue ft)) → ∀ {H : Heap} {locs : List Loc} {cells slots : Nat} {ls : Array Slot} {rest : List Value} {ws : va_W} {n : Int32}, va_P (za_D E) vwCl ws H → va_D (za_A E) ws → va_S (za_A E) s.heap H locs → ¬ n < 0 → n.toNatClampNeg = a0.1 → a0.1 ≤ 100000 → cells + 1 ≤ mc → slots + a0.1 ≤ ms →
      (∀ (q : Nat) (H1 : Heap), va_P (za_D E) vwCl (ws ++ [(q, .inl (cA, a0))]) H1 → va_D (za_A E) (ws ++ [(q, .inl (cA, a0))]) → va_S (za_A E) s.heap H1 locs → W p l e R s m args below meth c H1 locs (cells + 1) (slots + a0.1) Q (F0 m (pc + 2) ls (.ref q :: rest))) → W p l e R s m args below meth c H locs cells slots Q (F0 m pc ls (.int n :: rest)))
    (h : za_newa mc ms ty pc lv st t = some Z) (hk : ∀ S ∈ Z.1, za_G p l e R s m args below meth c Q E nL ads0 S) : za_G p l e R s m args below meth c Q E nL ads0 (pc, lv, st, t) := by
  intro ads H locs ls stk M
  obtain ⟨h1, h2, h3, h4, h5, h6⟩ := M
  unfold za_newa at h
  split at h
  · rename_i i rest
    split at h
    · rename_i c9 hc
      obtain ⟨hz, h⟩ := za_bif h
      obtain ⟨hm, h⟩ := za_bif h
      obtain ⟨hs, h⟩ := za_bif h
      obtain ⟨_, stk1, rfl, ⟨x, rfl, hx⟩, q1⟩ := za_F2_cons h3
      obtain ⟨f1, f2⟩ := za_clamp (za_k_ok h2 hx hc)
      obtain ⟨ws, e1, e2, e3, e4⟩ := h5
      cases ty with
      | int =>
        refine rule (k := 0) (c9, .inl (fun _ => 0)) rfl rfl (fun _ => rfl) e3 e4 h6 f2 f1 (za_ble hz) (za_blt hm) (za_ble hs) (fun q H1 g1 g2 g3 => ?_)
        have hp : ads <+: ads ++ [q] := List.prefix_append _ _
        obtain ⟨w1, w2⟩ := za_add1 (o := .inr (.inl (0, c9, (0, 0, 0), []))) e1 e2 g1 g2 ⟨rfl, by decide, rfl, fun j hj => (show (0:Int) ≤ (0:Int32).toInt ∧ (0:Int32).toInt ≤ (0:Int) by decide)⟩
        exact zs_go h hk (ads ++ [q]) H1 locs ls (.ref q :: stk1) ⟨h1.trans hp, h2, ⟨⟨q, rfl, w2⟩, za_F2_mono (fun _ _ => za_gV_mono hp) q1⟩, za_lv_mono hp h4, w1, g3⟩
      | byte =>
        refine rule (k := 1) (c9, .inl (fun _ => 0)) rfl rfl (fun _ => rfl) e3 e4 h6 f2 f1 (za_ble hz) (za_blt hm) (za_ble hs) (fun q H1 g1 g2 g3 => ?_)
        have hp : ads <+: ads ++ [q] := List.prefix_append _ _
        obtain ⟨w1, w2⟩ := za_add1 (o := .inr (.inl (1, c9, (0, 0, 0), []))) e1 e2 g1 g2 ⟨rfl, by decide, rfl, fun j hj => (show (0:Int) ≤ (0:Int32).toInt ∧ (0:Int32).toInt ≤ (0:Int) by decide)⟩
        exact zs_go h hk (ads ++ [q]) H1 locs ls (.ref q :: stk1) ⟨h1.trans hp, h2, ⟨⟨q, rfl, w2⟩, za_F2_mono (fun _ _ => za_gV_mono hp) q1⟩, za_lv_mono hp h4, w1, g3⟩
      | boolean =>
        refine rule (k := 2) (c9, .inl (fun _ => 0)) rfl rfl (fun _ => rfl) e3 e4 h6 f2 f1 (za_ble hz) (za_blt hm) (za_ble hs) (fun q H1 g1 g2 g3 => ?_)
        have hp : ads <+: ads ++ [q] := List.prefix_append _ _
        obtain ⟨w1, w2⟩ := za_add1 (o := .inr (.inl (2, c9, (0, 0, 0), []))) e1 e2 g1 g2 ⟨rfl, by decide, rfl, fun j hj => (show (0:Int) ≤ (0:Int32).toInt ∧ (0:Int32).toInt ≤ (0:Int) by decide)⟩
        exact zs_go h hk (ads ++ [q]) H1 locs ls (.ref q :: stk1) ⟨h1.trans hp, h2, ⟨⟨q, rfl, w2⟩, za_F2_mono (fun _ _ => za_gV_mono hp) q1⟩, za_lv_mono hp h4, w1, g3⟩
      | long =>
        refine rule (k := 3) (c9, .inr (.inl (fun _ => 0))) rfl rfl (fun _ => rfl) e3 e4 h6 f2 f1 (za_ble hz) (za_blt hm) (za_ble hs) (fun q H1 g1 g2 g3 => ?_)
        have hp : ads <+: ads ++ [q] := List.prefix_append _ _
        obtain ⟨w1, w2⟩ := za_add1 (o := .inr (.inr (c9, some 0, []))) e1 e2 g1 g2 ⟨rfl, rfl, fun j hj d hd => by cases hd; rfl⟩
        exact zs_go h hk (ads ++ [q]) H1 locs ls (.ref q :: stk1) ⟨h1.trans hp, h2, ⟨⟨q, rfl, w2⟩, za_F2_mono (fun _ _ => za_gV_mono hp) q1⟩, za_lv_mono hp h4, w1, g3⟩
      | _ => cases h
    · cases h
  · cases h
theorem za_cpy_at {d d' : za_I} {u u' : List (Nat × za_I)} {sp dp : Nat} : ∀ (n i : Nat), za_at d' (za_cpy d u d' u' sp dp n) i = if dp ≤ i ∧ i < dp + n then za_at d u (sp + (i - dp)) else za_at d' u' i
  | 0, i => by rw [if_neg (by omega)]; rfl
  | n + 1, i => by
    show za_at d' (za_wr d' (za_cpy d u d' u' sp dp n) (dp + n) (za_at d u (sp + n))) i = _
    by_cases e9 : i = dp + n
    · subst e9
      rw [za_wr_self, if_pos (by omega)]
      congr 1
      omega
    · rw [za_wr_ne _ _ _ e9, za_cpy_at n i]
      by_cases e8 : dp ≤ i ∧ i < dp + n
      · rw [if_pos e8, if_pos (by omega)]
      · rw [if_neg e8, if_neg (by omega)]
theorem za_wt_ok {ads : List Nat} {σ : Nat → Int32} : ∀ {l : List za_V} {m : List Value}, za_F2 (za_gV σ ads) l m → (m.map fun v => v.category).sum = za_wt l
  | [], [], _ => rfl
  | v :: l, w :: m, h => by
    rw [List.map_cons, List.sum_cons, za_cat_ok h.1, za_wt_ok h.2]
    rfl
  | [], _ :: _, hp => hp.elim
  | _ :: _, [], hp => hp.elim
theorem zs_acp {lv : za_LV} {t : za_T} {st : List za_V} {Z : List za_S × List za_X}
    (rule : ∀ {H : Heap} {locs : List Loc} {cells slots : Nat} {ls : Array Slot} {rest : List Value} {ws : va_W} {q0 q1 a0 a n0 n1 : Nat} {f g : Nat → Int32} {sp dp n : Int32}, ls.size = nL → va_P (za_D E) vwCl ws H → va_D (za_A E) ws → va_S (za_A E) s.heap H locs → ws[q0]? = some (a0, .inl (za_tc E 0, n0, .inl f)) → ws[q1]? = some (a, .inl (za_tc E 0, n1, .inl g)) → ¬ sp < 0 → ¬ dp < 0 → ¬ n < 0 → sp.toNatClampNeg + n.toNatClampNeg ≤ n0 → dp.toNatClampNeg + n.toNatClampNeg ≤ n1 → (rest.map fun v => v.category).sum ≤ 8 →
      (∀ (H1 : Heap) (locs1 : List Loc), va_P (za_D E) vwCl (ws.set q1 (a, .inl (za_tc E 0, n1, .inl (va_cpy f g sp.toNatClampNeg dp.toNatClampNeg n.toNatClampNeg)))) H1 → va_D (za_A E) (ws.set q1 (a, .inl (za_tc E 0, n1, .inl (va_cpy f g sp.toNatClampNeg dp.toNatClampNeg n.toNatClampNeg)))) → va_S (za_A E) s.heap H1 locs1 → W p l e R s m args below meth c H1 locs1 cells slots Q (F0 m (pc + 3) ls rest)) → W p l e R s m args below meth c H locs cells slots Q (F0 m pc ls (.int n :: .int dp :: .ref a :: .int sp :: .ref a0 :: rest)))
    (h : za_acp pc lv st t = some Z) (hk : ∀ S ∈ Z.1, za_G p l e R s m args below meth c Q E nL ads0 S) : za_G p l e R s m args below meth c Q E nL ads0 (pc, lv, st, t) := by
  intro ads H locs ls stk M
  obtain ⟨h1, h2, h3, h4, h5, h6⟩ := M
  unfold za_acp at h
  split at h
  · rename_i cn dp r1 sp r0 rest
    split at h
    · rename_i n0 d0 u0 n1 d1 u1 c9 d9 s9 o0 o1 k1 k2 k3
      obtain ⟨b1, h⟩ := za_bif h
      obtain ⟨b2, h⟩ := za_bif h
      obtain ⟨b3, h⟩ := za_bif h
      obtain ⟨_, stk1, rfl, ⟨xn, rfl, hxn⟩, q1⟩ := za_F2_cons h3
      obtain ⟨_, stk2, rfl, ⟨xd, rfl, hxd⟩, q2⟩ := za_F2_cons q1
      obtain ⟨_, stk3, rfl, ⟨a, rfl, ha⟩, q3⟩ := za_F2_cons q2
      obtain ⟨_, stk4, rfl, ⟨xs, rfl, hxs⟩, q4⟩ := za_F2_cons q3
      obtain ⟨_, stk5, rfl, ⟨a0, rfl, ha0⟩, q5⟩ := za_F2_cons q4
      obtain ⟨cn1, cn2⟩ := za_clamp (za_k_ok h2 hxn k1)
      obtain ⟨cd1, cd2⟩ := za_clamp (za_k_ok h2 hxd k2)
      obtain ⟨cs1, cs2⟩ := za_clamp (za_k_ok h2 hxs k3)
      obtain ⟨ws, x0, e1, e2, e3, e4, e5, e6⟩ := za_obj h5 ha0 o0
      obtain ⟨f, rfl, ht, e7⟩ := za_gO_i e6
      obtain ⟨z, z1, z2⟩ := za_F2_get e2 o1
      obtain ⟨g, z3, _, e8⟩ := za_gO_i z2
      have z4 : ws[r1]? = some (a, .inl (za_tc E 0, n1, .inl g)) := by
        rw [e1, List.getElem?_cons_succ, List.getElem?_map, z1] at ha
        have e9 : z.1 = a := Option.some.inj ha
        rw [z1, ← e9, ← z3]
      refine rule h4.choose_spec.1.1 e3 e4 h6 e5 z4 cs2 cd2 cn2 (by rw [cs1, cn1]; exact za_ble b1) (by rw [cd1, cn1]; exact za_ble b2) (by rw [za_wt_ok q5]; exact za_ble b3) (fun H1 locs1 g1 g2 g3 => ?_)
      refine zs_go h hk ads H1 locs1 ls stk5 ⟨h1, h2, q5, h4, za_set e1 e2 z4 (o := .inr (.inl (0, n1, d1, za_cpy d0 u0 d1 u1 s9 d9 c9))) ?_ g1 g2, g3⟩
      refine ⟨rfl, by decide, rfl, fun j hj => ?_⟩
      rw [za_cpy_at, cs1, cd1, cn1]
      have b1 := za_ble b1
      unfold va_cpy
      by_cases e9 : d9 ≤ j ∧ j < d9 + c9
      · rw [if_pos e9, if_pos e9]
        exact e7 _ (by omega)
      · rw [if_neg e9, if_neg e9]
        exact e8 j hj
    · cases h
  · cases h
end ZN
end
section
/-! ===== an exception that a method of the law catches: its table searched, its class linked on the way ===== -/
section ZX
variable {p : Program} {l : Launch} {e : Env} {R : Room} {s : State} {m : MethodId} {args : Array Value} {below : List Frame} {meth : Method} {c : Code} {Q : State → Prop} {locs : List Loc} {cells slots : Nat}
theorem zh_row {Q9 : Handler → Pre} {E9 : CtlPost} {d9 : Bool} {acts : List Action} {S : State} {f : JFrame} {a : Addr} {x : ExceptionTableEntry} {t : List ExceptionTableEntry} {k : ClassId} {cell : Cell} (hx : covers x f.pc = true) (h0 : x.catchType ≠ 0)
    (hl : S.vm.ClassLinks e.platform f.method.cls x.catchType k) (hcell : S.heap[a]? = some cell) (hobj : ∀ z, cell.vm ≠ .statics z) (hk : ∃ z, S.vm.classes[cell.cls]? = some z) (hc : ∃ z, S.vm.classes[k]? = some z) :
    wp (findHandler.go f a (x :: t)) Q9 E9 e d9 acts S ↔ if S.vm.assignable cell.cls k = true then Q9 (.found x.handlerPc) d9 acts (S.setVm (S.vm.noted f.method.cls x.catchType (.cls k))) else wp (findHandler.go f a t) Q9 E9 e d9 acts (S.setVm (S.vm.noted f.method.cls x.catchType (.cls k))) := by
  simp only [covers] at hx
  obtain ⟨ha, ht⟩ := (resolveClass_links e.toSetting hl).op (op := VmOp.resolveClass f.method.cls x.catchType) rfl
  have hal : S.vm.Alike (S.vm.noted f.method.cls x.catchType (.cls k)) := (Vm.Alike.refl S.vm).noted _ _ _
  obtain ⟨k1, hk1⟩ := hk
  obtain ⟨k2, hk2⟩ := hc
  obtain ⟨k1', hk1', -⟩ := hal.2.2 _ _ hk1
  obtain ⟨k2', hk2', -⟩ := hal.2.2 _ _ hk2
  cases hb : S.vm.assignable cell.cls k with
  | true =>
    have hb' : (S.vm.noted f.method.cls x.catchType (.cls k)).assignable cell.cls k = true := by rw [hal.assignable]; exact hb
    simp [findHandler.go, hx, h0, ha, ht, hcell, hobj, hk1', hk2', hb', VmOp.dirties, VmOp.acts]
  | false =>
    have hb' : (S.vm.noted f.method.cls x.catchType (.cls k)).assignable cell.cls k = false := by rw [hal.assignable]; exact hb
    simp [findHandler.go, hx, h0, ha, ht, hcell, hobj, hk1', hk2', hb', VmOp.dirties, VmOp.acts]
/-- the words of the catching method's class: each catch type links to its exception; which exception is of which class -/
def zh_ok (s : State) (args : Array Value) (own : String) (cp : Nat → Option za_row) : Prop :=
  (∀ (ct ex a : Nat) (z : Int), cp ct = some (6, ex, a, z) → ex < 2 ∧ (Cond.classLink own ct (za_exn ex)).before args s = true) ∧ (∀ ex, ex < 2 → ∀ k, s.vm.findClass (za_exn ex) = some k → s.vm.assignable k k = true) ∧ ∀ ex ex', ex < 2 → ex' < 2 → ex' ≠ ex → va_Nc (za_exn ex) (za_exn ex') s
theorem zh_go {own : String} {cp : Nat → Option za_row} {f : JFrame} {a : Addr} {cell : Cell} {ex : Nat} (hpl : e.platform.magicAccessors = ({} : Platform).magicAccessors) (hown : s.vm.findClass own = some f.method.cls) (hk : zh_ok s args own cp) (hex : ex < 2) (hcl : s.vm.findClass (za_exn ex) = some cell.cls) (hobj : ∀ z, cell.vm ≠ .statics z) :
    ∀ (hh : List (Nat × Nat × Nat × Nat)) (hp : Nat) (S : State), za_hnd cp f.pc ex hh = some (some hp) → s.WarmedH S.vm → S.heap[a]? = some cell →
      ∃ vm', s.WarmedH vm' ∧ ∀ (Q9 : Handler → Pre) (E9 : CtlPost) (d9 : Bool) (acts : List Action), wp (findHandler.go f a (tableOf hh)) Q9 E9 e d9 acts S ↔ Q9 (.found hp) d9 acts (S.setVm vm')
  | [], hp, S, h, _, _ => by cases h
  | (a1, b1, h1, ct) :: hh, hp, S, h, hW, hcell => by
    have htab : tableOf ((a1, b1, h1, ct) :: hh) = ⟨a1, b1, h1, ct⟩ :: tableOf hh := rfl
    unfold za_hnd at h
    by_cases hcov : a1 ≤ f.pc ∧ f.pc < b1
    · have e1 : Nat.ble a1 f.pc = true := Nat.ble_eq.mpr hcov.1
      have e2 : Nat.blt f.pc b1 = true := Nat.ble_eq.mpr hcov.2
      simp only [e1, e2, cond_true] at h
      have hx : covers ⟨a1, b1, h1, ct⟩ f.pc = true := by simp [covers, hcov.1, hcov.2]
      split at h
      · rename_i ex' _ _ hct
        obtain ⟨h0, h⟩ := za_bifn h
        have h0 : ct ≠ 0 := fun z => by rw [z] at h0; cases h0
        obtain ⟨hex', hlink⟩ := hk.1 _ _ _ _ hct
        obtain ⟨k2, hk2, hlk⟩ := Cond.classLink_spec hown hlink e.platform hpl
        obtain ⟨dk, _, _, kt, hd, _, _, _, _, hkt, _, hopen⟩ := hlk.here
        obtain ⟨kt', hkt', -⟩ := hW.alike.2.2 _ _ hkt
        obtain ⟨k0, hk0, -⟩ := Vm.findClass_spec hcl
        obtain ⟨k0', hk0', -⟩ := hW.alike.2.2 _ _ hk0
        have hW' : s.WarmedH (S.vm.noted f.method.cls ct (.cls k2)) := hW.noted hd hopen (State.rightAt_cls hlk)
        cases hb : Nat.beq ex' ex with
        | true =>
          have hee := za_beq hb
          subst hee
          simp only [hb, cond_true, Option.some.injEq] at h
          subst h
          have hsame : k2 = cell.cls := Option.some.inj (hk2.symm.trans hcl)
          subst hsame
          refine ⟨_, hW', fun Q9 E9 d9 acts => ?_⟩
          rw [htab, zh_row (x := ⟨a1, b1, h1, ct⟩) hx h0 (hW.classLinks hlk) hcell hobj ⟨k0', hk0'⟩ ⟨kt', hkt'⟩, if_pos (by rw [hW.alike.assignable]; exact hk.2.1 _ hex _ hcl)]
        | false =>
          simp only [hb, cond_false] at h
          have hne : ex' ≠ ex := fun z => by rw [z] at hb; simp at hb
          split at h
          · rename_i hp' hrec
            simp only [Option.some.injEq] at h
            subst h
            obtain ⟨c8, t8, n1, n2, n3⟩ := hk.2.2 ex ex' hex hex' hne
            have e3 : c8 = cell.cls := Option.some.inj (n1.symm.trans hcl)
            have e4 : t8 = k2 := Option.some.inj (n2.symm.trans hk2)
            subst e3; subst e4
            obtain ⟨vm', w1, w2⟩ := zh_go hpl hown hk hex hcl hobj hh hp' (S.setVm (S.vm.noted f.method.cls ct (.cls t8))) hrec hW' hcell
            refine ⟨vm', w1, fun Q9 E9 d9 acts => ?_⟩
            rw [htab, zh_row (x := ⟨a1, b1, h1, ct⟩) hx h0 (hW.classLinks hlk) hcell hobj ⟨k0', hk0'⟩ ⟨kt', hkt'⟩, if_neg (by rw [hW.alike.assignable, n3]; decide)]
            exact w2 Q9 E9 d9 acts
          · cases h
      · cases h
    · have hx : covers ⟨a1, b1, h1, ct⟩ f.pc = false := by
        simp only [covers, Bool.and_eq_false_iff, decide_eq_false_iff_not]
        by_cases z : a1 ≤ f.pc
        · exact Or.inr (fun w => hcov ⟨z, w⟩)
        · exact Or.inl z
      have h : za_hnd cp f.pc ex hh = some (some hp) := by
        cases e1 : Nat.ble a1 f.pc with
        | false => simp only [e1, cond_false] at h; exact h
        | true =>
          cases e2 : Nat.blt f.pc b1 with
          | false => simp only [e1, e2, cond_true, cond_false] at h; exact h
          | true => exact absurd ⟨za_ble e1, za_blt e2⟩ hcov
      obtain ⟨vm', w1, w2⟩ := zh_go hpl hown hk hex hcl hobj hh hp S h hW hcell
      refine ⟨vm', w1, fun Q9 E9 d9 acts => ?_⟩
      rw [htab, _root_.Jvm.W.findHandler_go_skip hx]
      exact w2 Q9 E9 d9 acts
theorem zh_catch {own : String} {cp : Nat → Option za_row} {hh : List (Nat × Nat × Nat × Nat)} {ex hp q pc : Nat} {H : Heap} {ce : Cell} {ls : Array Slot} {rest : List Value} (hown : s.vm.findClass own = some m.cls) (htab : c.exceptionTable.toList = tableOf hh) (hk : zh_ok s args own cp) (hex : ex < 2) (hhnd : za_hnd cp pc ex hh = some (some hp))
    (hcell : H[q]? = some ce) (hv : ce.vm = .none) (hcl : s.vm.findClass (za_exn ex) = some ce.cls) (kk : W p l e R s m args below meth c H locs cells slots Q (F0 m hp ls [.ref q])) : vx_W p l e R s m args below meth c H locs cells slots Q (F0 m pc ls rest) q := by
  intro T hT X
  have hpl : e.platform.magicAccessors = ({} : Platform).magicAccessors := by rw [X.admits.platform]
  have hobj : ∀ z, ce.vm ≠ .statics z := fun z h => by rw [hv] at h; cases h
  obtain ⟨vm', hW', hfind⟩ := zh_go (e := e) (f := F0 m pc ls rest) (a := q) hpl hown hk hex hcl hobj hh hp ((T.setTop (F0 m pc ls rest)).pushFrame (.throwing q)) hhnd X.warmed (by show T.heap[q]? = some ce; rw [hT]; exact hcell)
  have hf : ∀ (Q9 : Handler → Pre) (E9 : CtlPost) (d9 : Bool) (acts : List Action), wp (findHandler (F0 m pc ls rest) q) Q9 E9 e d9 acts ((T.setTop (F0 m pc ls rest)).pushFrame (.throwing q)) ↔ Q9 (.found hp) d9 acts (((T.setTop (F0 m pc ls rest)).pushFrame (.throwing q)).setVm vm') := by
    intro Q9 E9 d9 acts
    rw [_root_.Jvm.W.findHandler_eq (f := F0 m pc ls rest) (s := (T.setTop (F0 m pc ls rest)).pushFrame (.throwing q)) (meth := meth) (code := c) X.method' X.code, htab]
    exact hfind Q9 E9 d9 acts
  have hstep : ∀ r : List Frame, (stepThrowing e ((T.setTop (F0 m pc ls rest)).pushFrame (.throwing q)) q (.java (F0 m pc ls rest) :: r)).1 = (((T.setTop (F0 m pc ls rest)).pushFrame (.throwing q)).setVm vm').setFrames (.java (F0 m hp ls [.ref q]) :: r) := by
    intro r
    simp only [stepThrowing, searchFrame, vmDo]
    generalize hr : Sem.go _ e false [] _ = res
    obtain ⟨as, rfl, ha⟩ := Sem.eq_ok_of hr (a := Handler.found hp) (s' := ((T.setTop (F0 m pc ls rest)).pushFrame (.throwing q)).setVm vm') (acts' := []) (by simp [hf _ _ _ _])
    rfl
  obtain ⟨t2, a1, b1⟩ := kk (T.setVm vm') hT (X.noted hW')
  refine ⟨t2, ?_, b1⟩
  have hA : At T (F0 m pc ls rest).method c below := X.here
  obtain ⟨hgo, hw⟩ := hA.throwing q
  refine Steps.head hgo hw ?_
  rw [stepThread_throwing (frames_entered hA.top _), hstep]
  obtain ⟨g₀, hg⟩ := Option.isSome_iff_exists.mp hA.top
  obtain ⟨r, hr⟩ := State.topJava?_eq_some.mp hg
  have hr' : (T.setVm vm').frames = .java g₀ :: r := hr
  rw [State.setTop_of_frames _ hr'] at a1
  have h9 : ∀ (u : State) (F G : List Frame), ((u.setFrames F).setVm vm').setFrames G = (u.setVm vm').setFrames G := by
    intro u F G
    show ((u.setVm vm').setFrames F).setFrames G = _
    rw [State.setFrames_setFrames]
  rw [hr, List.tail_cons, State.pushFrame, h9, State.setTop_of_frames _ hr, h9]
  exact a1
end ZX
end
section
/-! ===== a method's contract out of its run: returns, throws, calls ===== -/
def za_Bl (E : za_E) (H : Heap) : Prop := (za_H0 E).size ≤ H.size ∧ ∀ q : Nat, q < (za_H0 E).size → H[q]? = (za_H0 E)[q]?
def za_gW (σ : Nat → Int32) (ads : List Nat) (v : Option za_V) (w : Option Value) : Prop := match v, w with
  | none, none => True
  | some v, some w => za_gV σ ads v w
  | _, _ => False
def za_Qc (E : za_E) (ads0 : List Nat) (outs : List za_X) : Array Value → State → Outcome → State → Prop := fun _ _ o t => ∃ (v : Option za_V) (h : List za_O) (ρ : za_R) (ads : List Nat) (w : Option Value), ((.inl v, h, ρ) : za_X) ∈ outs ∧ o = .returned w ∧ za_gW (za_σ E) ads v w ∧ ads0 <+: ads ∧ za_ok (za_σ E) ρ ∧ za_Wd E ads h t.heap ∧ za_Bl E t.heap
def za_XC (E : za_E) (ads0 : List Nat) (outs : List za_X) : String → State → State → Prop := fun nm _ t => ∃ (ex : Nat) (h : List za_O) (ρ : za_R) (ads : List Nat), ((.inr ex, h, ρ) : za_X) ∈ outs ∧ ex < 2 ∧ nm = za_exn ex ∧ ads0 <+: ads ∧ za_ok (za_σ E) ρ ∧ za_Wd E ads h t.heap ∧ za_Bl E t.heap
def za_Pc (E : za_E) (s0 : State) (ads : List Nat) (as : List za_V) (h : List za_O) (ρ : za_R) : Array Value → State → Prop := fun a U => ∃ vs : List Value, a = vs.toArray ∧ za_F2 (za_gV (za_σ E) ads) as vs ∧ za_ok (za_σ E) ρ ∧ za_Wd E ads h U.heap ∧ s0.WarmedH U.vm ∧ za_Bl E U.heap
theorem za_Pc_blind {E : za_E} {s0 : State} {ads : List Nat} {as : List za_V} {h : List za_O} {ρ : za_R} : FrameBlind (za_Pc E s0 ads as h ρ) := fun _ _ _ _ q => q
/-- a method's room at a depth -/
def za_rm (d : Nat) (Y : za_MI) : Room := { frames := d + 8, cells := za_mc Y, slots := za_ms Y, locals := 64 * d + 200 }
section ZR
variable {p : Program} {l : Launch} {e : Env} {R : Room} {s : State} {m : MethodId} {args : Array Value} {below : List Frame} {meth : Method} {c : Code} {E : za_E} {nL : Nat} {ads0 : List Nat} {cc : ByteArray} {pc : Nat}
theorem za_Bl_S {H : Heap} {locs : List Loc} (h0 : za_Bl E s.heap) (hS : va_S (za_A E) s.heap H locs) : za_Bl E H :=
  ⟨Nat.le_trans h0.1 hS.1, fun q hq => (hS.2.1 q (Nat.lt_of_lt_of_le hq h0.1) (Nat.not_le.mpr hq)).trans (h0.2 q hq)⟩
theorem zs_iret {lv : za_LV} {t : za_T} {st : List za_V} {Z : List za_S × List za_X} {mc ms : Nat} {rt : Option FieldType} {outs : List za_X} (hx : p.tables.exec = Jvm.exec) (hb : c.code = cc) (hr : meth.sig.returnType = rt) (hlocks : meth.locks = false) (h0 : za_Bl E s.heap) (hdg : decode cc pc = .ok (.ireturn, 1))
    (h : za_iret mc ms rt st t = some Z) (ho : ∀ x ∈ Z.2, x ∈ outs) : za_G p l e R s m args below meth c (vx_MQ below (za_Qc E ads0 outs) (za_XC E ads0 outs) args s mc ms (za_A E)) E nL ads0 (pc, lv, st, t) := by
  intro ads H locs ls stk M
  obtain ⟨h1, h2, h3, h4, h5, h6⟩ := M
  unfold za_iret at h
  split at h
  · rename_i a
    obtain ⟨g1, h⟩ := za_bif h
    obtain ⟨g2, h⟩ := za_bif h
    obtain ⟨w, stk1, rfl, w2, q1⟩ := za_F2_cons h3
    have e1 := za_F2_nil q1
    subst e1
    obtain ⟨x, rfl, hx9⟩ := id w2
    cases h
    exact W.widen (za_ble g1) (za_ble g2) (vx_ret (W.iret hx hb hr (fun t9 ht _ => ⟨_, _, _, ads, _, ho _ List.mem_cons_self, rfl, w2, h1, h2, by rw [ht]; exact h5, by rw [ht]; exact za_Bl_S h0 h6⟩) (fun q hq => h6.2.2 q hq) hdg hlocks))
  · rename_i a
    obtain ⟨g1, h⟩ := za_bif h
    obtain ⟨g2, h⟩ := za_bif h
    obtain ⟨g3, h⟩ := za_bif h
    obtain ⟨w, stk1, rfl, w2, q1⟩ := za_F2_cons h3
    have e1 := za_F2_nil q1
    subst e1
    obtain ⟨x, rfl, hx9⟩ := id w2
    have hn := (za_fit_ok h2 w2 g3).1
    cases h
    exact W.widen (za_ble g1) (za_ble g2) (vx_ret (W.zret hx hb hr hn (fun t9 ht _ => ⟨_, _, _, ads, _, ho _ List.mem_cons_self, rfl, w2, h1, h2, by rw [ht]; exact h5, by rw [ht]; exact za_Bl_S h0 h6⟩) (fun q hq => h6.2.2 q hq) hdg hlocks))
  · cases h
theorem zs_lret {lv : za_LV} {t : za_T} {st : List za_V} {Z : List za_S × List za_X} {mc ms : Nat} {rt : Option FieldType} {outs : List za_X} (hx : p.tables.exec = Jvm.exec) (hb : c.code = cc) (hr : meth.sig.returnType = rt) (hlocks : meth.locks = false) (h0 : za_Bl E s.heap) (hdg : decode cc pc = .ok (.lreturn, 1))
    (h : za_lret mc ms rt st t = some Z) (ho : ∀ x ∈ Z.2, x ∈ outs) : za_G p l e R s m args below meth c (vx_MQ below (za_Qc E ads0 outs) (za_XC E ads0 outs) args s mc ms (za_A E)) E nL ads0 (pc, lv, st, t) := by
  intro ads H locs ls stk M
  obtain ⟨h1, h2, h3, h4, h5, h6⟩ := M
  unfold za_lret at h
  split at h
  · rename_i a
    obtain ⟨g1, h⟩ := za_bif h
    obtain ⟨g2, h⟩ := za_bif h
    obtain ⟨w, stk1, rfl, w2, q1⟩ := za_F2_cons h3
    have e1 := za_F2_nil q1
    subst e1
    obtain ⟨x, rfl, hx9⟩ := id w2
    cases h
    exact W.widen (za_ble g1) (za_ble g2) (vx_ret (W.lret hx hb hr (fun t9 ht _ => ⟨_, _, _, ads, _, ho _ List.mem_cons_self, rfl, w2, h1, h2, by rw [ht]; exact h5, by rw [ht]; exact za_Bl_S h0 h6⟩) (fun q hq => h6.2.2 q hq) hdg hlocks))
  · cases h
theorem zs_vret {lv : za_LV} {t : za_T} {st : List za_V} {Z : List za_S × List za_X} {mc ms : Nat} {rt : Option FieldType} {outs : List za_X} (hx : p.tables.exec = Jvm.exec) (hb : c.code = cc) (hr : meth.sig.returnType = rt) (hlocks : meth.locks = false) (h0 : za_Bl E s.heap) (hdg : decode cc pc = .ok (.return_, 1))
    (h : za_vret mc ms rt st t = some Z) (ho : ∀ x ∈ Z.2, x ∈ outs) : za_G p l e R s m args below meth c (vx_MQ below (za_Qc E ads0 outs) (za_XC E ads0 outs) args s mc ms (za_A E)) E nL ads0 (pc, lv, st, t) := by
  intro ads H locs ls stk M
  obtain ⟨h1, h2, h3, h4, h5, h6⟩ := M
  unfold za_vret at h
  split at h
  · obtain ⟨g1, h⟩ := za_bif h
    obtain ⟨g2, h⟩ := za_bif h
    have e1 := za_F2_nil h3
    subst e1
    cases h
    exact W.widen (za_ble g1) (za_ble g2) (vx_ret (W.vret hx hb hr (fun t9 ht _ => ⟨none, _, _, ads, none, ho _ List.mem_cons_self, rfl, trivial, h1, h2, by rw [ht]; exact h5, by rw [ht]; exact za_Bl_S h0 h6⟩) (fun q hq => h6.2.2 q hq) hdg hlocks))
  · cases h
/-! behind a call -/
theorem za_cat2_mem {f : za_X → za_N} : ∀ {xs : List za_X} {Z : List za_S × List za_X}, za_cat2 f xs = some Z → ∀ {x : za_X}, x ∈ xs → ∃ z, f x = some z ∧ (∀ S ∈ z.1, S ∈ Z.1) ∧ ∀ y ∈ z.2, y ∈ Z.2
  | [], _, _, _, hx => absurd hx List.not_mem_nil
  | y :: xs, Z, h, x, hx => by
    unfold za_cat2 at h
    split at h
    · rename_i a b ha hb
      cases h
      rcases List.mem_cons.mp hx with rfl | hx
      · exact ⟨a, ha, fun S hS => List.mem_append_left _ hS, fun S hS => List.mem_append_left _ hS⟩
      · obtain ⟨z, z1, z2, z3⟩ := za_cat2_mem hb hx
        exact ⟨z, z1, fun S hS => List.mem_append_right _ (z2 S hS), fun S hS => List.mem_append_right _ (z3 S hS)⟩
    · cases h
theorem za_hnd_out {cp : Nat → Option za_row} {ex : Nat} : ∀ {hh : List (Nat × Nat × Nat × Nat)}, za_hnd cp pc ex hh = some none → ∀ x ∈ tableOf hh, covers x pc = false
  | [], _, x, hx => absurd hx List.not_mem_nil
  | (a1, b1, h1, ct) :: hh, h, x, hx => by
    have htab : tableOf ((a1, b1, h1, ct) :: hh) = ⟨a1, b1, h1, ct⟩ :: tableOf hh := rfl
    rw [htab] at hx
    unfold za_hnd at h
    by_cases hcov : a1 ≤ pc ∧ pc < b1
    · have e1 : Nat.ble a1 pc = true := Nat.ble_eq.mpr hcov.1
      have e2 : Nat.blt pc b1 = true := Nat.ble_eq.mpr hcov.2
      simp only [e1, e2, cond_true] at h
      split at h
      · obtain ⟨h0, h⟩ := za_bifn h
        cases hb : Nat.beq _ ex with
        | true => rw [hb] at h; cases h
        | false =>
          rw [hb] at h
          simp only [cond_false] at h
          split at h
          · cases h
          · cases h
      · cases h
    · have h : za_hnd cp pc ex hh = some none := by
        cases e1 : Nat.ble a1 pc with
        | false => simp only [e1, cond_false] at h; exact h
        | true =>
          cases e2 : Nat.blt pc b1 with
          | false => simp only [e1, e2, cond_true, cond_false] at h; exact h
          | true => exact absurd ⟨za_ble e1, za_blt e2⟩ hcov
      rcases List.mem_cons.mp hx with rfl | hx
      · simp only [covers, Bool.and_eq_false_iff, decide_eq_false_iff_not]
        by_cases z : a1 ≤ pc
        · exact Or.inr (fun w => hcov ⟨z, w⟩)
        · exact Or.inl z
      · exact za_hnd_out h x hx
theorem za_gW_st {σ : Nat → Int32} {ads : List Nat} {v : Option za_V} {w : Option Value} {rest : List za_V} {rst : List Value} (h : za_gW σ ads v w) (hr : za_F2 (za_gV σ ads) rest rst) : za_F2 (za_gV σ ads) (v.toList ++ rest) (w.toList ++ rst) := by
  match v, w, h with
  | none, none, _ => exact hr
  | some v, some w, h => exact ⟨h, hr⟩
theorem zs_aft {M : za_MI} {own : String} {lv : za_LV} {rest : List za_V} {Z : List za_S × List za_X} {xs outs : List za_X} {cp : Nat → Option za_row} {a9 : Array Value} {mcY msY cells slots : Nat} {ads : List Nat} {H : Heap} {locs : List Loc} {ls : Array Slot} {stk rst : List Value}
    (hx : p.tables.exec = Jvm.exec) (hb : c.code = M.2.1) (hown : s.vm.findClass own = some m.cls) (hlocks : meth.locks = false) (h0 : za_Bl E s.heap) (htab : c.exceptionTable.toList = tableOf (za_hh M)) (hzk : zh_ok s args own cp) (hdec : (za_is M).all (za_dok M.2.1) = true) (hcs : cells + mcY ≤ za_mc M) (hsl : slots + msY ≤ za_ms M)
    (hr : vx_Run p l e R s m args below meth c H locs cells slots mcY msY (F0 m pc ls stk) rst (za_Qc E ads xs a9) (za_XC E ads xs) (za_A E))
    (hcat : za_cat2 (za_aft M cp pc lv rest (cells + mcY) (slots + msY)) xs = some Z)
    (hk : ∀ S ∈ Z.1, za_G p l e R s m args below meth c (vx_MQ below (za_Qc E ads0 outs) (za_XC E ads0 outs) args s (za_mc M) (za_ms M) (za_A E)) E (za_nL M) ads0 S) (ho : ∀ x ∈ Z.2, x ∈ outs)
    (h1 : ads0 <+: ads) (h3 : za_F2 (za_gV (za_σ E) ads) rest rst) (h4 : ∃ lc, lv_has ls (za_nL M) lc ∧ za_F2 (za_gP (za_σ E) ads) lv lc) (h6 : va_S (za_A E) s.heap H locs) :
    W p l e R s m args below meth c H locs cells slots (vx_MQ below (za_Qc E ads0 outs) (za_XC E ads0 outs) args s (za_mc M) (za_ms M) (za_A E)) (F0 m pc ls stk) := by
  intro T hT X
  rcases hr T hT X with ⟨v, st₀, t9, T', L9, g0, X', hL, e1, e2, hq, st⟩ | ⟨q, st₀, t9, T', L9, nm, ce, g0, X', hL, e1, e2, hx9, hce, hcv, hcl, st⟩
  · obtain ⟨v9, h9, ρ9, ads9, w9, m1, m2, m3, m4, m5, m6, m7⟩ := hq
    cases m2
    have hS : va_S (za_A E) s.heap T'.heap (locs ++ L9) := by
      refine ⟨X'.same.2.1, fun q hq1 hq2 => ?_, fun z hz => ?_⟩
      · have hq3 : q < (za_H0 E).size := Nat.not_le.mp hq2
        rw [e1, m7.2 q hq3, h0.2 q hq3]
      · rcases List.mem_append.mp hz with z1 | z1
        · exact h6.2.2 z z1
        · exact hL z z1
    obtain ⟨z, z1, z2, -⟩ := za_cat2_mem hcat m1
    have hG : za_G p l e R s m args below meth c (vx_MQ below (za_Qc E ads0 outs) (za_XC E ads0 outs) args s (za_mc M) (za_ms M) (za_A E)) E (za_nL M) ads0 (pc + 3, lv, v9.toList ++ rest, h9, ρ9, cells + mcY, slots + msY) := by
      cases v9 with
      | none => cases z1; exact hk _ (z2 _ List.mem_cons_self)
      | some v9 => cases z1; exact hk _ (z2 _ List.mem_cons_self)
    obtain ⟨t2, a1, b1⟩ := hG ads9 T'.heap (locs ++ L9) ls (v.toList ++ rst) ⟨h1.trans m4, m5, za_gW_st m3 (za_F2_mono (fun _ _ => za_gV_mono m4) h3), za_lv_mono m4 h4, by rw [e1]; exact m6, hS⟩ T' rfl X'
    exact ⟨t2, st t2 a1, b1⟩
  · obtain ⟨ex, h9, ρ9, ads9, m1, mex, m2, m4, m5, m6, m7⟩ := hx9
    subst m2
    have hS : va_S (za_A E) s.heap T'.heap (locs ++ L9) := by
      refine ⟨X'.same.2.1, fun q hq1 hq2 => ?_, fun z hz => ?_⟩
      · have hq3 : q < (za_H0 E).size := Nat.not_le.mp hq2
        rw [e1, m7.2 q hq3, h0.2 q hq3]
      · rcases List.mem_append.mp hz with z1 | z1
        · exact h6.2.2 z z1
        · exact hL z z1
    obtain ⟨z, z1, z2, z3⟩ := za_cat2_mem hcat m1
    have z1 : (match za_hnd cp pc ex (za_hh M) with
      | none => none
      | some none => some ([], [(.inr ex, h9, ρ9)])
      | some (some hp) => match za_fe (za_is M) hp with
        | some (.astore_n k) => bif Nat.blt k.val (za_nL M) then some ([(hp + 1, lv.filter (fun q => !(q.1 == k.val) && !(q.1 + 1 == k.val && za_cat q.2 == 2)), [], h9, ρ9, cells + mcY, slots + msY)], []) else none
        | some (.astore k) => bif Nat.blt k (za_nL M) then some ([(hp + 2, lv.filter (fun q => !(q.1 == k) && !(q.1 + 1 == k && za_cat q.2 == 2)), [], h9, ρ9, cells + mcY, slots + msY)], []) else none
        | _ => none : za_N) = some z := z1
    have hce9 : T'.heap[q]? = some ce := by rw [e1]; exact hce
    split at z1
    · cases z1
    · rename_i hhnd
      cases z1
      have hV : vx_W p l e R s m args below meth c T'.heap (locs ++ L9) (cells + mcY) (slots + msY) (vx_MQ below (za_Qc E ads0 outs) (za_XC E ads0 outs) args s (za_mc M) (za_ms M) (za_A E)) (F0 m pc ls rst) q :=
        vx_out (fun x hx => za_hnd_out hhnd x (by rw [← htab]; exact hx)) hlocks hce9 hcv hcl (fun t8 ht _ => ⟨ex, h9, ρ9, ads9, ho _ (z3 _ List.mem_cons_self), mex, rfl, h1.trans m4, m5, by rw [ht, e1]; exact m6, by rw [ht, e1]; exact m7⟩) (fun z hz => hS.2.2 z hz) hcs hsl
      obtain ⟨t2, a1, b1⟩ := hV T' rfl X'
      exact ⟨t2, st.trans a1, b1⟩
    · rename_i hp hhnd
      have h4 := za_lv_mono m4 h4
      obtain ⟨lc, l1, l2⟩ := h4
      have hV : vx_W p l e R s m args below meth c T'.heap (locs ++ L9) (cells + mcY) (slots + msY) (vx_MQ below (za_Qc E ads0 outs) (za_XC E ads0 outs) args s (za_mc M) (za_ms M) (za_A E)) (F0 m pc ls rst) q := by
        refine zh_catch hown htab hzk mex hhnd hce9 hcv hcl ?_
        split at z1
        · rename_i k hfe
          obtain ⟨g1, z1⟩ := za_bif z1
          cases z1
          refine lv_astore_n hx hb (za_fe_1 hdec hfe rfl) rfl l1 (za_blt g1) rfl (fun ls' h4 => ?_)
          exact hk _ (z2 _ List.mem_cons_self) ads9 T'.heap (locs ++ L9) ls' [] ⟨h1.trans m4, m5, trivial, ⟨_, ⟨h4.1, h4.2.1, fun z hz => h4.2.2 z (List.mem_cons_of_mem _ hz)⟩, za_F2_filter (fun a b hab => by rw [hab.1, za_cat_ok hab.2]) l2⟩, by rw [e1]; exact m6, hS⟩
        · rename_i k hfe
          obtain ⟨g1, z1⟩ := za_bif z1
          cases z1
          refine lv_astore hx hb (za_fe_1 hdec hfe rfl) l1 (za_blt g1) rfl (fun ls' h4 => ?_)
          exact hk _ (z2 _ List.mem_cons_self) ads9 T'.heap (locs ++ L9) ls' [] ⟨h1.trans m4, m5, trivial, ⟨_, ⟨h4.1, h4.2.1, fun z hz => h4.2.2 z (List.mem_cons_of_mem _ hz)⟩, za_F2_filter (fun a b hab => by rw [hab.1, za_cat_ok hab.2]) l2⟩, by rw [e1]; exact m6, hS⟩
        · cases z1
      obtain ⟨t2, a1, b1⟩ := hV T' rfl X'
      exact ⟨t2, st.trans a1, b1⟩
theorem zr_of {H : Heap} {locs : List Loc} {cells slots mc ms : Nat} {g : JFrame} {rest : List Value} {Qa : State → Outcome → State → Prop} {XC : String → State → State → Prop} {free : Addr → Prop} (h : va_Run p l e R s m args below meth c H locs cells slots mc ms g rest Qa free) : vx_Run p l e R s m args below meth c H locs cells slots mc ms g rest Qa XC free := fun T hT X => Or.inl (h T hT X)
theorem za_nox_ok : ∀ {xs : List za_X}, za_nox xs = true → ∀ {ex : Nat} {h : List za_O} {ρ : za_R}, ((.inr ex, h, ρ) : za_X) ∉ xs
  | [], _, _, _, _ => List.not_mem_nil
  | (.inl v, y) :: xs, hn, ex, h, ρ => fun hm => by
    rcases List.mem_cons.mp hm with z | z
    · cases z
    · exact za_nox_ok (xs := xs) hn z
  | (.inr v, y) :: xs, hn, ex, h, ρ => by cases hn
theorem zo_met {y : MethodName} {ws : List Cond} {rm : Room} {Pc : Array Value → State → Prop} {xs : List za_X} {ads : List Nat} {mc ms : Nat} {free : Addr → Prop} (h : vx_Met l y ws rm Pc (za_Qc E ads xs) (za_XC E ads xs) mc ms free) (hn : za_nox xs = true) : Met l y ws rm Pc (za_Qc E ads xs) mc ms free := by
  intro p e h1 h2 h3 s m args below h4 h5 h6 h7
  obtain ⟨n, o, k1, k2, k3, k4⟩ := h p e h1 h2 h3 s m args below h4 h5 h6 h7
  refine ⟨n, o, k1, k2, k3, ?_⟩
  rcases k4 with k4 | ⟨q, -, E9, ce, L9, ⟨ex, h9, ρ9, ads9, m1, -⟩, -⟩
  · exact k4
  · exact absurd m1 (za_nox_ok hn)
end ZR
end
section
/-! ===== all instructions; a method's contract by its run; the depth ===== -/
/-- what holds at the law's start -/
def za_K0 (l : Launch) (E : za_E) (L : Nat) (s0 : State) : Prop :=
  l.stackTraces = false ∧ za_H0 E = s0.heap ∧ (∀ w ∈ za_wd, w.before #[] s0 = true) ∧ (∀ w ∈ za_nw, va_Nw w s0) ∧ va_K (za_D E) vwCl (za_tys E) s0 ∧ va_X (za_b E) L (za_σ E) s0 s0.heap ∧ za_b E < s0.heap.size ∧
  vx_Zq Bundle.tN "UNASSIGNED_STACK" Bundle.steD (za_A E) s0 s0.heap ∧ vx_Zq Bundle.tN "SUPPRESSED_SENTINEL" Bundle.listD (za_A E) s0 s0.heap ∧ (∀ ex, ex < 2 → va_Nw (.castable (za_exn ex) (za_exn ex)) s0) ∧ (∀ ex ex', ex < 2 → ex' < 2 → ex' ≠ ex → va_Nc (za_exn ex) (za_exn ex') s0) ∧ ∀ k ∈ za_sk, ∃ (tx : String) (sa : Nat), vk_R RX11 k tx sa s0
/-- what holds at a method's start -/
def za_Cx (p : Program) (l : Launch) (R : Room) (s : State) (m : MethodId) (args : Array Value) (meth : Method) (c : Code) (E : za_E) (L : Nat) (s0 : State) (d : Nat) (M : za_MI) : Prop :=
  p.tables.exec = Jvm.exec ∧ c.code = M.2.1 ∧ c.maxLocals = za_nL M ∧ meth.sig.returnType = za_rt M ∧ meth.locks = false ∧ meth.name = M.1.name ∧ s.vm.findClass (za_ow (za_cl M)) = some m.cls ∧ c.exceptionTable.toList = tableOf (za_hh M) ∧ za_K0 l E L s0 ∧ s0.WarmedH s.vm ∧ za_Bl E s.heap ∧ (za_is M).all (za_dok M.2.1) = true ∧ d + 9 ≤ R.frames ∧ 64 * d + 259 ≤ R.locals ∧ R.cells = za_mc M ∧ R.slots = za_ms M
/-- the callees' contracts -/
def za_IH (l : Launch) (E : za_E) (s0 : State) (d : Nat) (call : za_CF) : Prop := ∀ (j : Nat) (Y : za_MI) (as : List za_V) (h : List za_O) (ρ : za_R) (xs : List za_X) (ads : List Nat), za_MT j = some Y → call j as h ρ = some xs → vx_Met l Y.1 [za_word Y] (za_rm d Y) (za_Pc E s0 ads as h ρ) (za_Qc E ads xs) (za_XC E ads xs) (za_mc Y) (za_ms Y) (za_A E)
section ZM
variable {p : Program} {l : Launch} {e : Env} {R : Room} {s s0 : State} {m : MethodId} {args : Array Value} {below : List Frame} {meth : Method} {c : Code} {E : za_E} {ads0 : List Nat} {pc L d : Nat} {M : za_MI} {call : za_CF} {outs : List za_X} {lv : za_LV} {st : List za_V} {t : za_T} {Z : List za_S × List za_X}
theorem zk_w (K : za_K0 l E L s0) (hW : s0.WarmedH s.vm) {a9 : Array Value} : ∀ w ∈ za_wd, w.before a9 s = true := fun w hw => word_at hW (good_of_word (List.mem_filter.mp hw).2) (K.2.2.1 w hw)
theorem zk_zh (K : za_K0 l E L s0) (hW : s0.WarmedH s.vm) (cl9 : Nat) {a9 : Array Value} : zh_ok s a9 (za_ow cl9) (za_CP cl9) := by
  refine ⟨fun ct ex a z h => ?_, fun ex hex k hk => ?_, fun ex ex' h1 h2 h3 => (K.2.2.2.2.2.2.2.2.2.2.1 ex ex' h1 h2 h3).moved hW.alike⟩
  · obtain ⟨h1, h2⟩ := zc_row h
    exact ⟨za_blt h2, zk_w K hW _ (h1 _ List.mem_cons_self)⟩
  · obtain ⟨k1, k2, e1, e2, e3⟩ := Cond.castable_spec (va_Nw.use (A := #[]) rfl ((K.2.2.2.2.2.2.2.2.2.1 ex hex).warmC hW))
    have h1 : k1 = k := Option.some.inj (e1.symm.trans hk)
    have h2 : k2 = k := Option.some.inj (e2.symm.trans hk)
    subst h1; subst h2
    exact e3
theorem zk_K (K : za_K0 l E L s0) (hW : s0.WarmedH s.vm) : va_K (za_D E) vwCl (za_tys E) s := va_K.moved hW.alike K.2.2.2.2.1
theorem zb_0 {ci k : Nat} {z : Int} (h : za_side (0, ci, k, z) = true) : ∃ q, vwCl[ci]? = some q ∧ Nat.blt k q.2.2 = true ∧ (if z = 0 then false else true) = (q.2.1 k).2.2.2 ∧ (q.2.1 k).1 = q.1 := by
  change (match vwCl[ci]? with | some q => (Nat.blt k q.2.2 && decide ((if z = 0 then false else true) = (q.2.1 k).2.2.2) && decide ((q.2.1 k).1 = q.1)) | none => false) = true at h
  cases hq : vwCl[ci]? with
  | none => rw [hq] at h; cases h
  | some q =>
    rw [hq] at h
    simp only [Bool.and_eq_true, decide_eq_true_eq] at h
    exact ⟨q, rfl, h.1.1, h.1.2, h.2⟩
theorem zb_5 {ci k : Nat} {z : Int} (h : za_side (5, ci, k, z) = true) : ∃ q, vwCl[ci]? = some q := by
  change (match vwCl[ci]? with | some _ => true | none => false) = true at h
  cases hq : vwCl[ci]? with
  | none => rw [hq] at h; cases h
  | some q => exact ⟨q, rfl⟩
theorem zc_nX {ci : Nat} {q : vw_C} (h : vwCl[ci]? = some q) : q = (za_ow ci, q.2.1, za_nX ci) := by
  obtain ⟨-, -, -, h1, h2⟩ := zc_cls h
  rw [← h1, ← h2]
theorem zg_getf {k : Nat} (X : za_Cx p l R s m args meth c E L s0 d M) (hdg : decode M.2.1 pc = .ok (.getfield k, 3)) (h : za_getf (za_CP (za_cl M) k) pc lv st t = some Z) (hk : ∀ S ∈ Z.1, za_G p l e R s m args below meth c (vx_MQ below (za_Qc E ads0 outs) (za_XC E ads0 outs) args s (za_mc M) (za_ms M) (za_A E)) E (za_nL M) ads0 S) : za_G p l e R s m args below meth c (vx_MQ below (za_Qc E ads0 outs) (za_XC E ads0 outs) args s (za_mc M) (za_ms M) (za_A E)) E (za_nL M) ads0 (pc, lv, st, t) := by
  obtain ⟨hx, hb, hml, hr, hlocks, hnm, hown, htab, K, hW, h0, hdec, hRf, hRl, hRc, hRs⟩ := X
  refine zs_getf (fun {ci} {k9} {z} hrow => ?_) h hk
  intro H locs cells slots ls rest ws q a vs v hP he hv kk
  obtain ⟨w1, w2⟩ := zc_row hrow
  obtain ⟨q9, hq9, g1, g2, g3⟩ := zb_0 w2
  obtain ⟨f1, f2, f3, f4, f5⟩ := zc_cls hq9
  have hl := w1 (Cond.fieldLink (za_ow (za_cl M)) k (q9.2.1 k9).1 (q9.2.1 k9).2.1 (q9.2.1 k9).2.2.1) (by simp [za_need, za_wC, hq9])
  exact va_get hx hb (zk_w K hW) f1 hown (zk_K K hW) hP q he hq9 k9 (za_blt g1) (zk_w K hW _ hl) (fun x hx => hx) hv hdg kk
theorem zg_putf {k : Nat} (X : za_Cx p l R s m args meth c E L s0 d M) (hdg : decode M.2.1 pc = .ok (.putfield k, 3)) (h : za_putf (za_CP (za_cl M) k) (za_cl M) (za_ini M) pc lv st t = some Z) (hk : ∀ S ∈ Z.1, za_G p l e R s m args below meth c (vx_MQ below (za_Qc E ads0 outs) (za_XC E ads0 outs) args s (za_mc M) (za_ms M) (za_A E)) E (za_nL M) ads0 S) : za_G p l e R s m args below meth c (vx_MQ below (za_Qc E ads0 outs) (za_XC E ads0 outs) args s (za_mc M) (za_ms M) (za_A E)) E (za_nL M) ads0 (pc, lv, st, t) := by
  obtain ⟨hx, hb, hml, hr, hlocks, hnm, hown, htab, K, hW, h0, hdec, hRf, hRl, hRc, hRs⟩ := X
  refine zs_putf (fun {ci} {k9} {z} hrow hz => ?_) h hk
  intro H locs cells slots ls rest ws q a vs v hP hD hS he hlen hn hf kk
  obtain ⟨w1, w2⟩ := zc_row hrow
  obtain ⟨q9, hq9, g1, g2, g3⟩ := zb_0 w2
  obtain ⟨f1, f2, f3, f4, f5⟩ := zc_cls hq9
  have hl := w1 (Cond.fieldLink (za_ow (za_cl M)) k (q9.2.1 k9).1 (q9.2.1 k9).2.1 (q9.2.1 k9).2.2.1) (by simp [za_need, za_wC, hq9])
  by_cases hz0 : z = 0
  · exact va_put hx hb (zk_w K hW) f1 (za_tyX ci) f2 f3 hown (zk_K K hW) hP hD hS q he hq9 k9 (za_blt g1) (zk_w K hW _ hl) (fun x hx => hx) (by rw [← g2, if_pos hz0]) (f2 k9 (za_blt g1)) hn hf hlen hdg kk
  · rcases hz with hz | ⟨hz1, hz2⟩
    · exact absurd hz hz0
    · have hin : meth.name = "<init>" := by rw [hnm]; exact of_decide_eq_true hz1
      exact va_putF hx hb (zk_w K hW) f1 (za_tyX ci) f2 f3 hown (zk_K K hW) hP hD hS q he hq9 k9 (za_blt g1) (zk_w K hW _ hl) (fun x hx => hx) (by rw [← g2, if_neg hz0]) hin (by rw [g3, f5, hz2]) (f2 k9 (za_blt g1)) hn hf hlen hdg kk
theorem zg_newo {k : Nat} (X : za_Cx p l R s m args meth c E L s0 d M) (hdg : decode M.2.1 pc = .ok (.new k, 3)) (h : za_newo (za_mc M) (za_ms M) (za_CP (za_cl M) k) pc lv st t = some Z) (hk : ∀ S ∈ Z.1, za_G p l e R s m args below meth c (vx_MQ below (za_Qc E ads0 outs) (za_XC E ads0 outs) args s (za_mc M) (za_ms M) (za_A E)) E (za_nL M) ads0 S) : za_G p l e R s m args below meth c (vx_MQ below (za_Qc E ads0 outs) (za_XC E ads0 outs) args s (za_mc M) (za_ms M) (za_A E)) E (za_nL M) ads0 (pc, lv, st, t) := by
  obtain ⟨hx, hb, hml, hr, hlocks, hnm, hown, htab, K, hW, h0, hdec, hRf, hRl, hRc, hRs⟩ := X
  refine zs_newo (fun {ci} {k9} {z} hrow => ?_) h hk
  obtain ⟨w1, w2⟩ := zc_row hrow
  obtain ⟨q9, hq9⟩ := zb_5 w2
  obtain ⟨f1, f2, f3, f4, f5⟩ := zc_cls hq9
  refine ⟨by have := (List.getElem?_eq_some_iff.mp hq9).1; simpa using this, ?_⟩
  intro H locs cells slots ls rest ws hP hD hS hc hs kk
  have hl1 := w1 (Cond.classLink (za_ow (za_cl M)) k q9.1) (by simp [za_need, za_wC, hq9])
  have hl2 := w1 (Cond.instantiable q9.1 q9.2.2) (by simp [za_need, za_wC, hq9])
  have hl3 := w1 (Cond.initialized q9.1) (by simp [za_need, za_wC, hq9])
  rw [← f4] at hs kk
  refine va_new (fs := za_dfs ci q9.2.2) hx hb (zk_w K hW) f1 (za_tyX ci) f2 hown (zk_w K hW _ hl1) (zk_w K hW _ hl2) (zk_w K hW _ hl3) (zk_K K hW) hP hD hS (fun q hq => Nat.le_trans h0.1 hq) hq9 (fun j hj => ?_) (by rw [hRc]; exact hc) (by rw [hRs]; exact hs) hdg kk
  show _ = (za_dfs ci q9.2.2).getD j .null
  rw [List.getD_eq_getElem?_getD, za_dfs_at ci _ j hj]
  rfl
theorem zg_newa {ty : ArrayType} (X : za_Cx p l R s m args meth c E L s0 d M) (hdg : decode M.2.1 pc = .ok (.newarray ty, 2)) (h : za_newa (za_mc M) (za_ms M) ty pc lv st t = some Z) (hk : ∀ S ∈ Z.1, za_G p l e R s m args below meth c (vx_MQ below (za_Qc E ads0 outs) (za_XC E ads0 outs) args s (za_mc M) (za_ms M) (za_A E)) E (za_nL M) ads0 S) : za_G p l e R s m args below meth c (vx_MQ below (za_Qc E ads0 outs) (za_XC E ads0 outs) args s (za_mc M) (za_ms M) (za_A E)) E (za_nL M) ads0 (pc, lv, st, t) := by
  obtain ⟨hx, hb, hml, hr, hlocks, hnm, hown, htab, K, hW, h0, hdec, hRf, hRl, hRc, hRs⟩ := X
  refine zs_newa (fun {ft} {k} {cA} a0 hty htk hcell => ?_) h hk
  intro H locs cells slots ls rest ws n hP hD hS hn hN hle hc hs kk
  have hK := zk_K K hW
  have harr : (Cond.arrayClass ft).before args s = true ∧ a0.1 * componentBytes ft ≤ 536870912 ∧ ∀ cB : ClassId, va_RA s cB ft → cB = cA := by
    have h9 := (hK.2 k (cA, ft) htk).2
    match k, htk with
    | 0, htk =>
      cases htk
      exact ⟨zk_w K hW _ zx_arI, Nat.le_trans (Nat.mul_le_mul_right _ hle) (by decide), fun cB hB => Option.some.inj (Eq.trans (Eq.symm hB) h9)⟩
    | 1, htk =>
      cases htk
      exact ⟨zk_w K hW _ zx_arB, Nat.le_trans (Nat.mul_le_mul_right _ hle) (by decide), fun cB hB => Option.some.inj (Eq.trans (Eq.symm hB) h9)⟩
    | 2, htk =>
      cases htk
      exact ⟨zk_w K hW _ zx_arZ, Nat.le_trans (Nat.mul_le_mul_right _ hle) (by decide), fun cB hB => Option.some.inj (Eq.trans (Eq.symm hB) h9)⟩
    | 3, htk =>
      cases htk
      exact ⟨zk_w K hW _ zx_arJ, Nat.le_trans (Nat.mul_le_mul_right _ hle) (by decide), fun cB hB => Option.some.inj (Eq.trans (Eq.symm hB) h9)⟩
    | _ + 4, htk => cases htk
  obtain ⟨ha1, ha2, ha3⟩ := harr
  refine va_newa (a0 := a0) hx hb (by rw [hty]; exact ha1) hty hK hP hD hS (fun q hq => Nat.le_trans h0.1 hq) hcell hn hN ha2 (by rw [hRc]; exact hc) (by rw [hRs]; exact hs) hdg (fun q cB H1 g1 g2 g3 g4 => ?_)
  have hB : va_RA s cB ft := (g1.2 4 (cB, ft) rfl).2
  have e9 := ha3 cB hB
  subst e9
  exact kk q H1 g2 g3 g4
theorem zg_ild {bt : Bool} {i : Instr} (hi : i = if bt then .baload else .iaload) (X : za_Cx p l R s m args meth c E L s0 d M) (hdg : decode M.2.1 pc = .ok (i, 1)) (h : za_ild bt L pc lv st t = some Z) (hk : ∀ S ∈ Z.1, za_G p l e R s m args below meth c (vx_MQ below (za_Qc E ads0 outs) (za_XC E ads0 outs) args s (za_mc M) (za_ms M) (za_A E)) E (za_nL M) ads0 S) : za_G p l e R s m args below meth c (vx_MQ below (za_Qc E ads0 outs) (za_XC E ads0 outs) args s (za_mc M) (za_ms M) (za_A E)) E (za_nL M) ads0 (pc, lv, st, t) := by
  obtain ⟨hx, hb, hml, hr, hlocks, hnm, hown, htab, K, hW, h0, hdec, hRf, hRl, hRc, hRs⟩ := X
  have hK := zk_K K hW
  refine zs_ild (fun hbt => ?_) (fun {tt} htt hiff => ?_) h hk
  · intro H locs cells slots ls rest j hS hin kk
    subst hbt
    subst hi
    have hX : va_X (za_b E) L (za_σ E) s s.heap := (K.2.2.2.2.2.1.moved hW.alike).kept (by rw [h0.2 _ (by rw [K.2.1]; exact K.2.2.2.2.2.2.1), K.2.1])
    have hlt : za_b E < (za_H0 E).size := by rw [K.2.1]; exact K.2.2.2.2.2.2.1
    exact va_sld hx hb hX (Nat.lt_of_lt_of_le hlt h0.1) (Nat.not_le.mpr hlt) hS hin hdg kk
  · intro H locs cells slots ls rest ws q a n f j hP he hin kk
    match tt, htt, hiff, he with
    | 0, _, hiff, he =>
      have hbt := hiff.mpr rfl
      subst hbt; subst hi
      exact va_iald hx hb hK hP q 0 he rfl hin hdg kk
    | 1, _, hiff, he =>
      have hbt : bt = true := by cases bt with | true => rfl | false => exact absurd (hiff.mp rfl) (by decide)
      subst hbt; subst hi
      exact va_bald hx hb hK hP q 1 he rfl hin hdg kk
    | 2, _, hiff, he =>
      have hbt : bt = true := by cases bt with | true => rfl | false => exact absurd (hiff.mp rfl) (by decide)
      subst hbt; subst hi
      exact va_zald hx hb hK hP q 2 he rfl hin hdg kk
    | _ + 3, htt, _, _ => omega
theorem zg_ist {bt : Bool} {i : Instr} (hi : i = if bt then .bastore else .iastore) (X : za_Cx p l R s m args meth c E L s0 d M) (hdg : decode M.2.1 pc = .ok (i, 1)) (h : za_ist bt pc lv st t = some Z) (hk : ∀ S ∈ Z.1, za_G p l e R s m args below meth c (vx_MQ below (za_Qc E ads0 outs) (za_XC E ads0 outs) args s (za_mc M) (za_ms M) (za_A E)) E (za_nL M) ads0 S) : za_G p l e R s m args below meth c (vx_MQ below (za_Qc E ads0 outs) (za_XC E ads0 outs) args s (za_mc M) (za_ms M) (za_A E)) E (za_nL M) ads0 (pc, lv, st, t) := by
  obtain ⟨hx, hb, hml, hr, hlocks, hnm, hown, htab, K, hW, h0, hdec, hRf, hRl, hRc, hRs⟩ := X
  have hK := zk_K K hW
  refine zs_ist (fun {tt} htt hiff => ?_) h hk
  intro H locs cells slots ls rest ws q a n f j x hP hD hS he hin kk
  match tt, htt, hiff, he, kk with
  | 0, _, hiff, he, kk =>
    have hbt := hiff.mpr rfl
    subst hbt; subst hi
    exact va_iast hx hb hK hP hD hS q 0 he rfl hin hdg kk
  | 1, _, hiff, he, kk =>
    have hbt : bt = true := by cases bt with | true => rfl | false => exact absurd (hiff.mp rfl) (by decide)
    subst hbt; subst hi
    exact va_bast hx hb hK hP hD hS q 1 he rfl hin hdg kk
  | 2, _, hiff, he, kk =>
    have hbt : bt = true := by cases bt with | true => rfl | false => exact absurd (hiff.mp rfl) (by decide)
    subst hbt; subst hi
    exact va_zast hx hb hK hP hD hS q 2 he rfl hin hdg kk
  | _ + 3, htt, _, _, _ => omega
theorem zg_alen (X : za_Cx p l R s m args meth c E L s0 d M) (hdg : decode M.2.1 pc = .ok (.arraylength, 1)) (h : za_alen L pc lv st t = some Z) (hk : ∀ S ∈ Z.1, za_G p l e R s m args below meth c (vx_MQ below (za_Qc E ads0 outs) (za_XC E ads0 outs) args s (za_mc M) (za_ms M) (za_A E)) E (za_nL M) ads0 S) : za_G p l e R s m args below meth c (vx_MQ below (za_Qc E ads0 outs) (za_XC E ads0 outs) args s (za_mc M) (za_ms M) (za_A E)) E (za_nL M) ads0 (pc, lv, st, t) := by
  obtain ⟨hx, hb, hml, hr, hlocks, hnm, hown, htab, K, hW, h0, hdec, hRf, hRl, hRc, hRs⟩ := X
  have hK := zk_K K hW
  refine zs_alen ?_ ?_ h hk
  · intro H locs cells slots ls rest hS kk
    have hX : va_X (za_b E) L (za_σ E) s s.heap := (K.2.2.2.2.2.1.moved hW.alike).kept (by rw [h0.2 _ (by rw [K.2.1]; exact K.2.2.2.2.2.2.1), K.2.1])
    have hlt : za_b E < (za_H0 E).size := by rw [K.2.1]; exact K.2.2.2.2.2.2.1
    exact va_slen hx hb hX (Nat.lt_of_lt_of_le hlt h0.1) (Nat.not_le.mpr hlt) hS hdg kk
  · intro k ty cA H locs cells slots ls rest ws q a x htk hP he kk
    exact va_alen hx hb hK hP q k he htk rfl hdg kk
theorem zg_acp {k : Nat} {j9 k9 : Nat} {z9 : Int} (X : za_Cx p l R s m args meth c E L s0 d M) (hrow : za_CP (za_cl M) k = some (14, j9, k9, z9)) (hdg : decode M.2.1 pc = .ok (.invokestatic k, 3)) (h : za_acp pc lv st t = some Z) (hk : ∀ S ∈ Z.1, za_G p l e R s m args below meth c (vx_MQ below (za_Qc E ads0 outs) (za_XC E ads0 outs) args s (za_mc M) (za_ms M) (za_A E)) E (za_nL M) ads0 S) : za_G p l e R s m args below meth c (vx_MQ below (za_Qc E ads0 outs) (za_XC E ads0 outs) args s (za_mc M) (za_ms M) (za_A E)) E (za_nL M) ads0 (pc, lv, st, t) := by
  obtain ⟨hx, hb, hml, hr, hlocks, hnm, hown, htab, K, hW, h0, hdec, hRf, hRl, hRc, hRs⟩ := X
  have hK := zk_K K hW
  refine zs_acp ?_ h hk
  intro H locs cells slots ls rest ws q0 q1 a0 a n0 n1 f g sp dp n hsz hP hD hS he0 he1 c1 c2 c3 c4 c5 c6 kk
  obtain ⟨w1, -⟩ := zc_row hrow
  have l1 := w1 (Cond.methodLink (za_ow (za_cl M)) k arraycopyName) (by simp [za_need])
  have l2 := w1 (Cond.native arraycopyName) (by simp [za_need])
  have l3 := w1 (Cond.static arraycopyName) (by simp [za_need])
  have l4 := w1 (Cond.initialized "java/lang/System") (by simp [za_need])
  have hnw : nativeFrameWords "java/lang/System" "arraycopy" 5 = 7 := by decide +kernel
  exact va_copyi (tys := za_tys E) hx hb (hml.trans hsz.symm) hown (zk_w K hW _ l1) (zk_w K hW _ l2) (zk_w K hW _ l3) (zk_w K hW _ l4) hK hP hD hS q0 q1 0 0 (ty := .int) he0 he1 rfl rfl rfl c1 c2 c3 c4 c5 (fun _ _ => rfl) (by omega) (by rw [hnw]; omega) hdg kk
/-- throw new E(text) -/
theorem zg_thr {ik : Nat} {ex j9 : Nat} {z9 : Int} (X : za_Cx p l R s m args meth c E L s0 d M) (hhe : za_hh M = []) (hrow : za_CP (za_cl M) ik = some (6, ex, j9, z9)) (hdg : decode M.2.1 pc = .ok (.new ik, 3)) (h : za_thr (za_mc M) (za_ms M) (za_is M) (za_CP (za_cl M)) ex pc st t = some Z) (ho : ∀ x ∈ Z.2, x ∈ outs) : za_G p l e R s m args below meth c (vx_MQ below (za_Qc E ads0 outs) (za_XC E ads0 outs) args s (za_mc M) (za_ms M) (za_A E)) E (za_nL M) ads0 (pc, lv, st, t) := by
  obtain ⟨hx, hb, hml, hr, hlocks, hnm, hown, htab, K, hW, h0, hdec, hRf, hRl, hRc, hRs⟩ := X
  intro ads H locs ls stk Mm
  obtain ⟨h1, h2, h3, h4, h5, h6⟩ := Mm
  obtain ⟨w1, w2⟩ := zc_row hrow
  have hex : ex < 2 := za_blt w2
  have l1 := zk_w K hW (a9 := args) _ (w1 _ List.mem_cons_self)
  have l2 := zk_w K hW (a9 := args) _ (w1 _ (List.mem_cons_of_mem _ List.mem_cons_self))
  have hH0 : s0.heap = za_H0 E := K.2.1.symm
  have hqk : ∀ a : Nat, a < s0.heap.size → ¬ za_A E a → s.heap[a]? = s0.heap[a]? := fun a ha _ => by rw [hH0] at ha ⊢; exact h0.2 a ha
  have hU : vx_Zq Bundle.tN "UNASSIGNED_STACK" Bundle.steD (za_A E) s s.heap := (K.2.2.2.2.2.2.2.1.kept hqk).moved hW.alike
  have hN : vx_Zq Bundle.tN "SUPPRESSED_SENTINEL" Bundle.listD (za_A E) s s.heap := (K.2.2.2.2.2.2.2.2.1.kept hqk).moved hW.alike
  have hat : ∀ w ∈ za_atX ex, w.before args s = true := by
    intro w hw
    by_cases g : goodWord w = true
    · exact zk_w K hW w (List.mem_filter.mpr ⟨zx_at ex hex w (List.mem_filter.mpr ⟨hw, g⟩), g⟩)
    · have hz := zx_no ex hex w (List.mem_filter.mpr ⟨hw, by simpa using g⟩)
      have hi := (List.mem_filter.mp hz).2
      exact va_Nw.use (zn_on hi) (zn_warm hi hW (K.2.2.2.1 w hz))
  have hgood : ∀ w ∈ Cond.classLink RX11 ik (za_exn ex) :: Cond.initialized (za_exn ex) :: za_atX ex, vx_ot w = true := by
    intro w hw
    rcases List.mem_cons.mp hw with rfl | hw
    · rfl
    · rcases List.mem_cons.mp hw with rfl | hw
      · rfl
      · exact zx_ot ex hex w hw
  have hout : ∀ (k : Nat), ∀ x ∈ c.exceptionTable.toList, covers x k = false := fun k x hx => by rw [htab, hhe] at hx; exact absurd hx List.not_mem_nil
  have hsz : ls.size = c.maxLocals := by
    obtain ⟨lc, l9, -⟩ := h4
    exact l9.1.trans hml.symm
  have hX9 : ∀ t9 : State, s.vm.Alike t9.vm → H.size ≤ t9.heap.size → (∀ q : Nat, q < H.size → t9.heap[q]? = H[q]?) → ((.inr ex, t.1, t.2.1) : za_X) ∈ outs → za_XC E ads0 outs (za_exn ex) s t9 := by
    intro t9 _ hs9 hq9 hmem
    refine ⟨ex, t.1, t.2.1, ads, hmem, hex, rfl, h1, h2, ?_, ?_⟩
    · obtain ⟨ws, e1, e2, e3, e4⟩ := h5
      exact ⟨ws, e1, e2, e3.kept (fun k q hk => hq9 q.1 (e3 k q hk).lt), e4⟩
    · have hB := za_Bl_S h0 h6
      exact ⟨Nat.le_trans hB.1 hs9, fun q hq => (hq9 q (Nat.lt_of_lt_of_le hq hB.1)).trans (hB.2 q hq)⟩
  unfold za_thr at h
  split at h
  · rename_i is f3 f4
    split at h
    · rename_i ic f6 f9
      split at h
      · rename_i r1 r2 r3 ex' r4 r5 c1 c2
        obtain ⟨g1, h⟩ := za_bif h
        obtain ⟨g2, h⟩ := za_bif h
        obtain ⟨g3, h⟩ := za_bif h
        obtain ⟨g4, h⟩ := za_bif h
        have g1 := za_beq g1
        subst g1
        cases h
        have x1 := zc_xr c2
        have x2 := zc_xr c1
        simp only [za_xok, Bool.and_eq_true, Bool.or_eq_true] at x1
        have hc11 : za_cl M = 11 := za_beq x1.1
        have hic : ic = za_icx ex' := by
          rcases x1.2 with z | z
          · rw [za_beq z.1, za_beq z.2]; rfl
          · rw [za_beq z.1, za_beq z.2]; rfl
        rw [hc11] at hown l1 x2
        have hsk : is ∈ za_sk := by
          simp only [za_xok] at x2
          simpa using x2
        obtain ⟨tx, sa, hstr⟩ := K.2.2.2.2.2.2.2.2.2.2.2 is hsk
        subst hic
        exact zt_throw (pq := pc + 6) hx hb K.1 (zx_d0 _ hex) (zx_d1 _ hex) (zx_d2 _ hex) (zx_d5 _ hex) hown (zx_fit _ hex) zx_fitn l1 l2 (vk_R.warm hW hstr) hat hgood hU hN h6 hsz hdg (za_fe_1 hdec f3 rfl) (Or.inl ⟨za_fe_1 hdec f4 rfl, rfl⟩) (za_fe_1 hdec f6 rfl) (za_fe_1 hdec f9 rfl) (hout _) (by show 2 + 3 < R.frames; omega) (by rw [za_wt_ok h3]; have := za_ble g2; show za_wt st + (13 * (2 + 1) + 43) ≤ R.locals; omega) (by rw [hRc]; exact za_blt g3) (by rw [hRs]; exact za_ble g4) hlocks (fun t9 a1 a2 a3 => hX9 t9 a1 a2 a3 (ho _ List.mem_cons_self)) (fun z hz => h6.2.2 z hz) (za_blt g3) (za_ble g4)
      · cases h
    · cases h
  · rename_i is f3 f4
    split at h
    · rename_i ic f6 f9
      split at h
      · rename_i r1 r2 r3 ex' r4 r5 c1 c2
        obtain ⟨g1, h⟩ := za_bif h
        obtain ⟨g2, h⟩ := za_bif h
        obtain ⟨g3, h⟩ := za_bif h
        obtain ⟨g4, h⟩ := za_bif h
        have g1 := za_beq g1
        subst g1
        cases h
        have x1 := zc_xr c2
        have x2 := zc_xr c1
        simp only [za_xok, Bool.and_eq_true, Bool.or_eq_true] at x1
        have hc11 : za_cl M = 11 := za_beq x1.1
        have hic : ic = za_icx ex' := by
          rcases x1.2 with z | z
          · rw [za_beq z.1, za_beq z.2]; rfl
          · rw [za_beq z.1, za_beq z.2]; rfl
        rw [hc11] at hown l1 x2
        have hsk : is ∈ za_sk := by
          simp only [za_xok] at x2
          simpa using x2
        obtain ⟨tx, sa, hstr⟩ := K.2.2.2.2.2.2.2.2.2.2.2 is hsk
        subst hic
        exact zt_throw (pq := pc + 7) hx hb K.1 (zx_d0 _ hex) (zx_d1 _ hex) (zx_d2 _ hex) (zx_d5 _ hex) hown (zx_fit _ hex) zx_fitn l1 l2 (vk_R.warm hW hstr) hat hgood hU hN h6 hsz hdg (za_fe_1 hdec f3 rfl) (Or.inr ⟨za_fe_1 hdec f4 rfl, rfl⟩) (za_fe_1 hdec f6 rfl) (za_fe_1 hdec f9 rfl) (hout _) (by show 2 + 3 < R.frames; omega) (by rw [za_wt_ok h3]; have := za_ble g2; show za_wt st + (13 * (2 + 1) + 43) ≤ R.locals; omega) (by rw [hRc]; exact za_blt g3) (by rw [hRs]; exact za_ble g4) hlocks (fun t9 a1 a2 a3 => hX9 t9 a1 a2 a3 (ho _ List.mem_cons_self)) (fun z hz => h6.2.2 z hz) (za_blt g3) (za_ble g4)
      · cases h
    · cases h
  · cases h
end ZM
end
section
/-! ===== calls ===== -/
section ZI
variable {p : Program} {l : Launch} {e : Env} {R : Room} {s s0 : State} {m : MethodId} {args : Array Value} {below : List Frame} {meth : Method} {c : Code} {E : za_E} {ads0 : List Nat} {pc L d : Nat} {M : za_MI} {call : za_CF} {outs : List za_X} {lv : za_LV} {st : List za_V} {t : za_T} {Z : List za_S × List za_X}
theorem zb_Y {j : Nat} {f : za_MI → Bool} {Y : za_MI} (h : za_sY j f = true) (hj : za_MT j = some Y) : f Y = true := by
  unfold za_sY at h
  rw [hj] at h
  exact h
theorem zj_ok {j : Nat} {Y : za_MI} (hj : za_MT j = some Y) : plainFor Y.1 = true ∧ za_ow (za_cl Y) = Y.1.cls ∧ za_nL Y ≤ 40 ∧ Y.1.cls ≠ "java/lang/invoke/MethodHandle" ∧ Y.1.cls ≠ "java/lang/invoke/VarHandle" := by
  have h := zm_s Y (zm_all hj)
  unfold za_mok at h
  simp only [Bool.and_eq_true, decide_eq_true_eq] at h
  exact ⟨h.1.1.1.1, h.1.1.1.2, za_ble h.1.1.2, h.1.2, h.2⟩
theorem zj_np {Y : za_MI} {n : Nat} (h : za_np Y n = true) : ∀ sig, parseMethodDescriptor Y.1.desc = some sig → n = sig.parameters.length := by
  intro sig hs
  unfold za_np at h
  have h := of_decide_eq_true h
  rw [hs] at h
  exact (Option.some.inj h).symm
theorem zj_ws (K : za_K0 l E L s0) (hW : s0.WarmedH s.vm) {j : Nat} {Y : za_MI} (hj : za_MT j = some Y) : ∀ w ∈ [za_word Y], ∀ (a' : Array Value) (U : State), s.WarmedH U.vm → w.before a' U = true := by
  intro w hw a' U hU
  cases List.mem_singleton.mp hw
  exact zk_w K (State.WarmedH.trans hW hU) _ (zm_w Y (zm_all hj) _ List.mem_cons_self)
theorem zj_ini (K : za_K0 l E L s0) (hW : s0.WarmedH s.vm) {j : Nat} {Y : za_MI} (hj : za_MT j = some Y) {a9 : Array Value} : (Cond.initialized Y.1.cls).before a9 s = true := zk_w K hW _ (zm_w Y (zm_all hj) _ (List.mem_cons_of_mem _ List.mem_cons_self))
theorem zj_code {Y : za_MI} (h : za_hh Y = []) : za_word Y = .code Y.1 Y.2.1 (za_nL Y) (za_rt Y) := by
  unfold za_word
  rw [h]
theorem zj_with {Y : za_MI} (h : za_hh Y ≠ []) : za_word Y = .codeWith Y.1 Y.2.1 (za_nL Y) (za_rt Y) (za_hh Y) := by
  unfold za_word
  split
  · rename_i h9; exact absurd h9 h
  · rfl
theorem zj_rm (X : za_Cx p l R s m args meth c E L s0 d M) {j : Nat} {Y : za_MI} (hj : za_MT j = some Y) : (za_rm d Y).cells = za_mc Y ∧ (za_rm d Y).slots = za_ms Y ∧ (za_rm d Y).frames + 1 ≤ R.frames ∧ 8 + (za_nL Y + 11) + (za_rm d Y).locals ≤ R.locals := by
  obtain ⟨hx, hb, hml, hr, hlocks, hnm, hown, htab, K, hW, h0, hdec, hRf, hRl, hRc, hRs⟩ := X
  have h9 := (zj_ok hj).2.2.1
  refine ⟨rfl, rfl, ?_, ?_⟩
  · show d + 8 + 1 ≤ R.frames
    omega
  · show 8 + (za_nL Y + 11) + (64 * d + 200) ≤ R.locals
    omega
theorem zj_CB (X : za_Cx p l R s m args meth c E L s0 d M) {j n k : Nat} {Y : za_MI} (hj : za_MT j = some Y) (hh : za_hh Y = []) (hn : za_np Y n = true) (hl : (Cond.methodLink (za_ow (za_cl M)) k Y.1).before args s = true) : CallB R s args (za_ow (za_cl M)) k Y.1 Y.2.1 (za_nL Y) (za_rt Y) [za_word Y] (za_rm d Y) (za_mc Y) (za_ms Y) n := by
  obtain ⟨r1, r2, r3, r4⟩ := zj_rm X hj
  obtain ⟨-, -, -, -, -, -, -, -, K, hW, -⟩ := X
  obtain ⟨-, -, -, o4, o5⟩ := zj_ok hj
  have hws := zj_ws K hW hj
  refine ⟨r1, r2, r3, r4, hws, ?_, ?_, zj_ini K hW hj, ⟨o4, o5⟩, zj_np hn, hl⟩
  · rw [zj_code hh]; exact List.mem_cons_self
  · rw [← zj_code hh]; exact hws _ List.mem_cons_self args s (State.WarmedH.refl s)
theorem zj_CN (X : za_Cx p l R s m args meth c E L s0 d M) {j n k : Nat} {Y : za_MI} (hj : za_MT j = some Y) (hh : za_hh Y = []) (hn : za_np Y n = true) (hl : (Cond.methodLinkNest (za_ow (za_cl M)) k Y.1 RX11).before args s = true) : va_CN R s args (za_ow (za_cl M)) k Y.1 RX11 Y.2.1 (za_nL Y) (za_rt Y) [za_word Y] (za_rm d Y) (za_mc Y) (za_ms Y) n := by
  obtain ⟨r1, r2, r3, r4⟩ := zj_rm X hj
  obtain ⟨-, -, -, -, -, -, -, -, K, hW, -⟩ := X
  obtain ⟨-, -, -, o4, o5⟩ := zj_ok hj
  have hws := zj_ws K hW hj
  refine ⟨⟨r1, r2, r3, r4, hws, ?_⟩, ?_, zj_ini K hW hj, ⟨o4, o5⟩, zj_np hn, hl⟩
  · rw [zj_code hh]; exact List.mem_cons_self
  · rw [← zj_code hh]; exact hws _ List.mem_cons_self args s (State.WarmedH.refl s)
theorem zj_CSW (X : za_Cx p l R s m args meth c E L s0 d M) {j n k : Nat} {Y : za_MI} (hj : za_MT j = some Y) (hh : za_hh Y ≠ []) (hn : za_np Y n = true) (hl : (Cond.methodLink (za_ow (za_cl M)) k Y.1).before args s = true) (hst : (Cond.static Y.1).before args s = true) : vx_CSW R s args (za_ow (za_cl M)) k Y.1 Y.2.1 (za_nL Y) (za_rt Y) (za_hh Y) [za_word Y] (za_rm d Y) (za_mc Y) (za_ms Y) n := by
  obtain ⟨r1, r2, r3, r4⟩ := zj_rm X hj
  obtain ⟨-, -, -, -, -, -, -, -, K, hW, -⟩ := X
  obtain ⟨-, -, -, o4, o5⟩ := zj_ok hj
  have hws := zj_ws K hW hj
  refine ⟨⟨r1, r2, r3, r4, hws, ?_⟩, ?_, zj_ini K hW hj, ⟨o4, o5⟩, zj_np hn, hl, hst⟩
  · rw [zj_with hh]; exact List.mem_cons_self
  · rw [← zj_with hh]; exact hws _ List.mem_cons_self args s (State.WarmedH.refl s)
theorem zj_fix (X : za_Cx p l R s m args meth c E L s0 d M) : CallFix p m c M.2.1 (za_nL M) s args [] (za_ow (za_cl M)) := by
  obtain ⟨hx, hb, hml, hr, hlocks, hnm, hown, htab, K, hW, h0, hdec, hRf, hRl, hRc, hRs⟩ := X
  exact ⟨hx, hb, hml, hown, fun w hw => absurd hw List.not_mem_nil⟩
theorem zs_inv {nx : Bool} {Y : za_MI} {j k : Nat} (X : za_Cx p l R s m args meth c E L s0 d M) (IH : za_IH l E s0 d call) (hj : za_MT j = some Y)
    (rule : ∀ {H : Heap} {locs : List Loc} {cells slots : Nat} {ls : Array Slot} {as : List za_V} {As rst : List Value} {xs : List za_X} {ads : List Nat}, as = (st.take k).reverse → cells + za_mc Y ≤ R.cells ∧ slots + za_ms Y ≤ R.slots → vx_Met l Y.1 [za_word Y] (za_rm d Y) (za_Pc E s0 ads as t.1 t.2.1) (za_Qc E ads xs) (za_XC E ads xs) (za_mc Y) (za_ms Y) (za_A E) → (nx = true → za_nox xs = true) → (∀ U : State, U.heap = H → s.WarmedH U.vm → za_Pc E s0 ads as t.1 t.2.1 As.toArray U) → za_F2 (za_gV (za_σ E) ads) as As → za_Wd E ads t.1 H → k ≤ st.length → ls.size = za_nL M → (rst.map fun v => v.category).sum ≤ 8 →
      vx_Run p l e R s m args below meth c H locs cells slots (za_mc Y) (za_ms Y) (F0 m pc ls (As.reverse ++ rst)) rst (za_Qc E ads xs As.toArray) (za_XC E ads xs) (za_A E))
    (h : za_inv nx M (za_CP (za_cl M)) Y call j k pc lv st t = some Z) (hk : ∀ S ∈ Z.1, za_G p l e R s m args below meth c (vx_MQ below (za_Qc E ads0 outs) (za_XC E ads0 outs) args s (za_mc M) (za_ms M) (za_A E)) E (za_nL M) ads0 S) (ho : ∀ x ∈ Z.2, x ∈ outs) : za_G p l e R s m args below meth c (vx_MQ below (za_Qc E ads0 outs) (za_XC E ads0 outs) args s (za_mc M) (za_ms M) (za_A E)) E (za_nL M) ads0 (pc, lv, st, t) := by
  obtain ⟨hx, hb, hml, hr, hlocks, hnm, hown, htab, K, hW, h0, hdec, hRf, hRl, hRc, hRs⟩ := X
  unfold za_inv at h
  obtain ⟨g1, h⟩ := za_bif h
  obtain ⟨g2, h⟩ := za_bif h
  obtain ⟨g3, h⟩ := za_bif h
  obtain ⟨g4, h⟩ := za_bif h
  split at h
  · cases h
  · rename_i xs hc
    obtain ⟨g5, h⟩ := za_bif h
    intro ads H locs ls stk Mm
    obtain ⟨h1, h2, h3, h4, h5, h6⟩ := Mm
    obtain ⟨As, rst, e9, s1, s2⟩ : ∃ As rst, stk = As.reverse ++ rst ∧ za_F2 (za_gV (za_σ E) ads) (st.take k).reverse As ∧ za_F2 (za_gV (za_σ E) ads) (st.drop k) rst :=
      ⟨(stk.take k).reverse, stk.drop k, by simp, za_F2_rev (za_F2_split k h3).1, (za_F2_split k h3).2⟩
    subst e9
    have hsz : ls.size = za_nL M := by
      obtain ⟨lc, l9, -⟩ := h4
      exact l9.1
    have hB := za_Bl_S h0 h6
    have hnx : nx = true → za_nox xs = true := by
      intro hn
      rw [hn] at g5
      exact g5
    have hrun := rule (H := H) (locs := locs) (cells := t.2.2.1) (slots := t.2.2.2) (ls := ls) (rst := rst) rfl ⟨by rw [hRc]; exact za_ble g3, by rw [hRs]; exact za_ble g4⟩ (IH j Y _ _ _ xs ads hj hc) hnx (fun U hU hWU => ⟨As, rfl, s1, h2, by rw [hU]; exact h5, State.WarmedH.trans hW hWU, by rw [hU]; exact hB⟩) s1 h5 (za_ble g1) hsz (by rw [za_wt_ok s2]; exact za_ble g2)
    exact zs_aft hx hb hown hlocks h0 htab (zk_zh K hW _) hdec (za_ble g3) (za_ble g4) hrun h hk ho h1 s2 h4 h6
theorem zl_rev {α : Type} {st : List α} {k : Nat} {v : α} (h : st[k]? = some v) : (st.take (k + 1)).reverse = v :: (st.take k).reverse := by
  rw [List.take_succ, h]
  simp
theorem zl_rf {k : Nat} (h : za_isRf st k = true) : ∃ q, st[k]? = some (.inr (.inr (some (q + 1)))) := by
  unfold za_isRf at h
  split at h
  · rename_i q hq; exact ⟨q, hq⟩
  · cases h
theorem zl_rk {k own : Nat} {hp : List za_O} (h : za_isRk st k hp own = true) : ∃ q fs, st[k]? = some (.inr (.inr (some (q + 1)))) ∧ hp[q]? = some (.inl (own, fs)) := by
  unfold za_isRk at h
  split at h
  · rename_i q hq
    split at h
    · rename_i ci fs h9
      have h := za_beq h
      subst h
      exact ⟨q, fs, hq, h9⟩
    · cases h
  · cases h
theorem zl_len {k n : Nat} {ads : List Nat} {As : List Value} (hA : za_F2 (za_gV (za_σ E) ads) (st.take k).reverse As) (hk : k ≤ st.length) : As.length = k := by
  rw [← za_F2_len hA]
  simp only [List.length_reverse, List.length_take]
  omega
theorem zg_virt {k : Nat} (X : za_Cx p l R s m args meth c E L s0 d M) (IH : za_IH l E s0 d call) (hdg : decode M.2.1 pc = .ok (.invokevirtual k, 3)) (h : za_virt M (za_CP (za_cl M)) za_MT call (za_CP (za_cl M) k) pc lv st t = some Z) (hk : ∀ S ∈ Z.1, za_G p l e R s m args below meth c (vx_MQ below (za_Qc E ads0 outs) (za_XC E ads0 outs) args s (za_mc M) (za_ms M) (za_A E)) E (za_nL M) ads0 S) (ho : ∀ x ∈ Z.2, x ∈ outs) : za_G p l e R s m args below meth c (vx_MQ below (za_Qc E ads0 outs) (za_XC E ads0 outs) args s (za_mc M) (za_ms M) (za_A E)) E (za_nL M) ads0 (pc, lv, st, t) := by
  have hfix := zj_fix X
  obtain ⟨-, -, -, -, -, -, -, -, K, hW, -⟩ := id X
  have hK := zk_K K hW
  have recv : ∀ {j n : Nat} {z : Int} {Y : za_MI}, za_isRk st n t.1 (za_cl Y) = true → (vwCl[za_cl Y]?).map (fun q => q.1) = some Y.1.cls → ∀ {ads : List Nat} {As : List Value} {H : Heap}, za_F2 (za_gV (za_σ E) ads) (st.take (n + 1)).reverse As → za_Wd E ads t.1 H → n + 1 ≤ st.length → ∃ b Bs, As = .ref b :: Bs ∧ Bs.length = n ∧ ∃ cellB : Cell, H[b]? = some cellB ∧ cellB.vm.isStatics = false ∧ s.vm.findClass Y.1.cls = some cellB.cls := by
    intro j n z Y hrk hcl ads As H hA hw hle
    obtain ⟨q, fs, e1, e2⟩ := zl_rk hrk
    rw [zl_rev e1] at hA
    obtain ⟨_, Bs, rfl, ⟨b, rfl, hb⟩, hB⟩ := za_F2_cons hA
    obtain ⟨ws, x, f1, f2, f3, f4, f5, f6⟩ := za_obj hw hb e2
    obtain ⟨vs, rfl, -⟩ := za_gO_o f6
    refine ⟨b, Bs, rfl, zl_len (n := n) hB (by omega), ?_⟩
    cases hq : vwCl[za_cl Y]? with
    | none => rw [hq] at hcl; cases hcl
    | some q9 =>
      rw [hq] at hcl
      have hcl : q9.1 = Y.1.cls := Option.some.inj hcl
      rw [← hcl]
      exact va_recv hK f3 hq f5
  unfold za_virt at h
  split at h
  · rename_i j n z hrow
    obtain ⟨w1, w2⟩ := zc_row hrow
    split at h
    · rename_i Y hj
      obtain ⟨hrk, h⟩ := za_bif h
      have hs := zb_Y (show za_sY j _ = true from w2) hj
      simp only [Bool.and_eq_true, decide_eq_true_eq] at hs
      obtain ⟨⟨s1, s2⟩, s3⟩ := hs
      have l1 := zk_w K hW (a9 := args) _ (w1 (Cond.methodLink (za_ow (za_cl M)) k Y.1) (by simp [za_need, za_wY, hj]))
      have l2 := zk_w K hW (a9 := args) _ (w1 (Cond.instanceMethod Y.1) (by simp [za_need, za_wY, hj]))
      have l3 := zk_w K hW (a9 := args) _ (w1 (Cond.selects Y.1.cls Y.1 Y.1) (by simp [za_need, za_wY, hj]))
      refine zs_inv X IH hj ?_ h hk ho
      intro H locs cells slots ls as As rst xs ads has hf hM hnx hPc hA hw hle hsz h8
      subst has
      obtain ⟨b, Bs, rfl, hlen, hcell⟩ := recv (j := j) (z := z) hrk s2 hA hw hle
      exact vx_runV hfix hM ⟨zj_CB X hj s3 s1 l1, l2, l3⟩ ⟨za_Pc_blind, hcell, hPc⟩ rfl hlen hsz (by show (Value.ref b :: Bs).reverse ++ rst = _; simp) (by show 2 * 0 + _ ≤ 8; omega) hdg hf
    · cases h
  · rename_i j n z hrow
    obtain ⟨w1, w2⟩ := zc_row hrow
    split at h
    · rename_i Y hj
      obtain ⟨hrk, h⟩ := za_bif h
      have hs := zb_Y (show za_sY j _ = true from w2) hj
      simp only [Bool.and_eq_true, decide_eq_true_eq] at hs
      obtain ⟨⟨s1, s2⟩, s3⟩ := hs
      have l1 := va_Nw.use (A := args) rfl (((K.2.2.2.1 _ (zc_nest hrow (Cond.methodLinkNest (za_ow (za_cl M)) k Y.1 RX11) (by simp [za_nneed, za_wY, hj])))).warmM hW)
      have l2 := zk_w K hW (a9 := args) _ (w1 (Cond.instanceMethod Y.1) (by simp [za_need, za_wY, hj]))
      have l3 := zk_w K hW (a9 := args) _ (w1 (Cond.selects Y.1.cls Y.1 Y.1) (by simp [za_need, za_wY, hj]))
      refine zs_inv X IH hj ?_ h hk ho
      intro H locs cells slots ls as As rst xs ads has hf hM hnx hPc hA hw hle hsz h8
      subst has
      obtain ⟨b, Bs, rfl, hlen, hcell⟩ := recv (j := j) (z := z) hrk s2 hA hw hle
      exact zr_of (va_runVN hfix (zo_met hM (hnx rfl)) ⟨zj_CN X hj s3 s1 l1, l2, l3⟩ ⟨za_Pc_blind, hcell, hPc⟩ rfl hlen hsz (by show (Value.ref b :: Bs).reverse ++ rst = _; simp) (by show 2 * 0 + _ ≤ 8; omega) hdg hf)
    · cases h
  · cases h
theorem zg_stat {k : Nat} (X : za_Cx p l R s m args meth c E L s0 d M) (IH : za_IH l E s0 d call) (hdg : decode M.2.1 pc = .ok (.invokestatic k, 3)) (h : za_stat M (za_CP (za_cl M)) za_MT call (za_CP (za_cl M) k) pc lv st t = some Z) (hk : ∀ S ∈ Z.1, za_G p l e R s m args below meth c (vx_MQ below (za_Qc E ads0 outs) (za_XC E ads0 outs) args s (za_mc M) (za_ms M) (za_A E)) E (za_nL M) ads0 S) (ho : ∀ x ∈ Z.2, x ∈ outs) : za_G p l e R s m args below meth c (vx_MQ below (za_Qc E ads0 outs) (za_XC E ads0 outs) args s (za_mc M) (za_ms M) (za_A E)) E (za_nL M) ads0 (pc, lv, st, t) := by
  have hfix := zj_fix X
  obtain ⟨-, -, -, -, -, -, -, -, K, hW, -⟩ := id X
  unfold za_stat at h
  split at h
  · rename_i j n z hrow
    obtain ⟨w1, w2⟩ := zc_row hrow
    split at h
    · rename_i Y hj
      have s1 := zb_Y (show za_sY j _ = true from w2) hj
      have l1 := zk_w K hW (a9 := args) _ (w1 (Cond.methodLink (za_ow (za_cl M)) k Y.1) (by simp [za_need, za_wY, hj]))
      have l2 := zk_w K hW (a9 := args) _ (w1 (Cond.static Y.1) (by simp [za_need, za_wY, hj]))
      refine zs_inv X IH hj ?_ h hk ho
      intro H locs cells slots ls as As rst xs ads has hf hM hnx hPc hA hw hle hsz h8
      subst has
      by_cases hh : za_hh Y = []
      · exact vx_runS hfix hM ⟨zj_CB X hj hh s1 l1, l2⟩ ⟨za_Pc_blind, hPc⟩ rfl (zl_len (n := n) hA hle) hsz rfl (by show 2 * 0 + _ ≤ 8; omega) hdg hf
      · exact vx_runSX hfix hM (zj_CSW X hj hh s1 l1 l2) ⟨za_Pc_blind, hPc⟩ rfl (zl_len (n := n) hA hle) hsz rfl (by show 2 * 0 + _ ≤ 8; omega) hdg hf
    · cases h
  · rename_i j n z hrow
    obtain ⟨w1, w2⟩ := zc_row hrow
    split at h
    · rename_i Y hj
      have hs := zb_Y (show za_sY j _ = true from w2) hj
      simp only [Bool.and_eq_true, decide_eq_true_eq] at hs
      obtain ⟨s1, s3⟩ := hs
      have l1 := va_Nw.use (A := args) rfl (((K.2.2.2.1 _ (zc_nest hrow (Cond.methodLinkNest (za_ow (za_cl M)) k Y.1 RX11) (by simp [za_nneed, za_wY, hj])))).warmM hW)
      have l2 := zk_w K hW (a9 := args) _ (w1 (Cond.static Y.1) (by simp [za_need, za_wY, hj]))
      refine zs_inv X IH hj ?_ h hk ho
      intro H locs cells slots ls as As rst xs ads has hf hM hnx hPc hA hw hle hsz h8
      subst has
      exact zr_of (va_runSN hfix (zo_met hM (hnx rfl)) ⟨zj_CN X hj s3 s1 l1, l2, trivial⟩ ⟨za_Pc_blind, hPc⟩ rfl (zl_len (n := n) hA hle) hsz rfl (by show 2 * 0 + _ ≤ 8; omega) hdg hf)
    · cases h
  · rename_i j n z hrow
    exact zg_acp X hrow hdg h hk
  · cases h
theorem zg_spec {k : Nat} (X : za_Cx p l R s m args meth c E L s0 d M) (IH : za_IH l E s0 d call) (hdg : decode M.2.1 pc = .ok (.invokespecial k, 3)) (h : za_spec M (za_CP (za_cl M)) za_MT call (za_CP (za_cl M) k) pc lv st t = some Z) (hk : ∀ S ∈ Z.1, za_G p l e R s m args below meth c (vx_MQ below (za_Qc E ads0 outs) (za_XC E ads0 outs) args s (za_mc M) (za_ms M) (za_A E)) E (za_nL M) ads0 S) (ho : ∀ x ∈ Z.2, x ∈ outs) : za_G p l e R s m args below meth c (vx_MQ below (za_Qc E ads0 outs) (za_XC E ads0 outs) args s (za_mc M) (za_ms M) (za_A E)) E (za_nL M) ads0 (pc, lv, st, t) := by
  have hfix := zj_fix X
  obtain ⟨hx, hb, hml, -, -, -, hown, -, K, hW, -, -, hRf, hRl, -⟩ := id X
  have recv : ∀ {n : Nat}, za_isRf st n = true → ∀ {ads : List Nat} {As : List Value}, za_F2 (za_gV (za_σ E) ads) (st.take (n + 1)).reverse As → n + 1 ≤ st.length → ∃ b Bs, As = .ref b :: Bs ∧ Bs.length = n := by
    intro n hrf ads As hA hle
    obtain ⟨q, e1⟩ := zl_rf hrf
    rw [zl_rev e1] at hA
    obtain ⟨_, Bs, rfl, ⟨b, rfl, hb⟩, hB⟩ := za_F2_cons hA
    exact ⟨b, Bs, rfl, zl_len (n := n) hB (by omega)⟩
  unfold za_spec at h
  split at h
  · rename_i j n z hrow
    obtain ⟨w1, w2⟩ := zc_row hrow
    split at h
    · rename_i Y hj
      obtain ⟨hrk, h⟩ := za_bif h
      have hs := zb_Y (show za_sY j _ = true from w2) hj
      simp only [Bool.and_eq_true, decide_eq_true_eq] at hs
      obtain ⟨⟨⟨s1, s2⟩, s3⟩, s4⟩ := hs
      have l1 := zk_w K hW (a9 := args) _ (w1 (Cond.methodLink (za_ow (za_cl M)) k Y.1) (by simp [za_need, za_wY, hj]))
      have l2 := zk_w K hW (a9 := args) _ (w1 (Cond.instanceMethod Y.1) (by simp [za_need, za_wY, hj]))
      refine zs_inv X IH hj ?_ h hk ho
      intro H locs cells slots ls as As rst xs ads has hf hM hnx hPc hA hw hle hsz h8
      subst has
      obtain ⟨b, Bs, rfl, hlen⟩ := recv hrk hA hle
      have hcb := zj_CB X hj s4 s1 l1
      rw [s3] at hcb
      exact zr_of (va_runI hfix (zo_met hM (hnx rfl)) ⟨hcb, s2, l2⟩ ⟨za_Pc_blind, hPc⟩ rfl hlen hsz (by show (Value.ref b :: Bs).reverse ++ rst = _; simp) (by show 2 * 0 + _ ≤ 8; omega) hdg hf)
    · cases h
  · rename_i j n z hrow
    obtain ⟨w1, w2⟩ := zc_row hrow
    split at h
    · rename_i Y hj
      obtain ⟨hrk, h⟩ := za_bif h
      have hs := zb_Y (show za_sY j _ = true from w2) hj
      simp only [Bool.and_eq_true, decide_eq_true_eq] at hs
      obtain ⟨⟨⟨s1, s2⟩, s3⟩, s4⟩ := hs
      have l1 := va_Nw.use (A := args) rfl (((K.2.2.2.1 _ (zc_nest hrow (Cond.methodLinkNest (za_ow (za_cl M)) k Y.1 RX11) (by simp [za_nneed, za_wY, hj])))).warmM hW)
      have l2 := zk_w K hW (a9 := args) _ (w1 (Cond.instanceMethod Y.1) (by simp [za_need, za_wY, hj]))
      refine zs_inv X IH hj ?_ h hk ho
      intro H locs cells slots ls as As rst xs ads has hf hM hnx hPc hA hw hle hsz h8
      subst has
      obtain ⟨b, Bs, rfl, hlen⟩ := recv hrk hA hle
      have hcb := zj_CN X hj s4 s1 l1
      rw [s3] at hcb
      exact zr_of (va_runIN hfix (zo_met hM (hnx rfl)) ⟨hcb, s2, l2⟩ ⟨za_Pc_blind, hPc⟩ rfl hlen hsz (by show (Value.ref b :: Bs).reverse ++ rst = _; simp) (by show 2 * 0 + _ ≤ 8; omega) hdg hf)
    · cases h
  · rename_i j n z hrow
    obtain ⟨w1, -⟩ := zc_row hrow
    split at h
    · rename_i q rest
      obtain ⟨g1, h⟩ := za_bif h
      intro ads H locs ls stk Mm
      obtain ⟨h1, h2, h3, h4, h5, h6⟩ := Mm
      obtain ⟨_, stk1, rfl, ⟨a, rfl, ha⟩, q1⟩ := za_F2_cons h3
      have l1 := zk_w K hW (a9 := args) _ (w1 (Cond.methodLink (za_ow (za_cl M)) k objectInit) (by simp [za_need]))
      have l2 := zk_w K hW (a9 := args) _ (w1 (Cond.instanceMethod objectInit) (by simp [za_need]))
      have l3 := zk_w K hW (a9 := args) _ (w1 (Cond.code objectInit ⟨#[0xb1]⟩ 1 none) (by simp [za_need]))
      have hsz : ls.size = c.maxLocals := by
        obtain ⟨lc, l9, -⟩ := h4
        exact l9.1.trans hml.symm
      have hw9 := za_wt_ok q1
      have g1 := za_ble g1
      exact W.objInit hx hb hown l1 l2 l3 (g := F0 m pc ls (.ref a :: stk1)) rfl hsz rfl hdg (by omega) (by show 2 * 0 + _ + 12 ≤ R.locals; omega) (zs_go h hk ads H locs ls stk1 ⟨h1, h2, q1, h4, h5, h6⟩)
    · cases h
  · cases h
end ZI
end
section
/-! ===== the exact interpreter: own values; the heap as a shape and three functions (place, slot) ===== -/
abbrev zp_V : Type := Int32 ⊕ (Int64 ⊕ Option Nat)
/-- an object of a kind; an array: 0 int, 1 byte, 2 boolean, 3 long; its length -/
abbrev zp_K : Type := Nat ⊕ (Nat × Nat)
abbrev zp_H : Type := List zp_K × (Nat → Nat → Int32) × (Nat → Nat → Int64) × (Nat → Nat → Option Nat)
/-- heap, cells, slots -/
abbrev zp_T : Type := zp_H × Nat × Nat
abbrev zp_LV : Type := List (Nat × zp_V)
abbrev zp_S : Type := Nat × zp_LV × List zp_V × zp_T
abbrev zp_X : Type := (Option zp_V ⊕ Nat) × zp_H
abbrev zp_N : Type := Option (zp_S ⊕ zp_X)
def zp_u {α : Type} (f : Nat → Nat → α) (p k : Nat) (v : α) : Nat → Nat → α := fun q i => if q = p ∧ i = k then v else f q i
theorem zp_u_self {α : Type} (f : Nat → Nat → α) (p k : Nat) (v : α) : zp_u f p k v p k = v := by simp [zp_u]
theorem zp_u_ne {α : Type} {f : Nat → Nat → α} {p k q i : Nat} {v : α} (h : ¬ (q = p ∧ i = k)) : zp_u f p k v q i = f q i := by simp [zp_u, h]
def zp_fv (H : zp_H) (p : Nat) (ty : FieldType) (k : Nat) : zp_V := match ty with
  | .long => .inr (.inl (H.2.2.1 p k))
  | .object _ => .inr (.inr (H.2.2.2 p k))
  | .array _ => .inr (.inr (H.2.2.2 p k))
  | _ => .inl (H.2.1 p k)
/-- what is kept of an int in an array of a type -/
def zp_nar (t : Nat) (x : Int32) : Int32 := match t with
  | 0 => x
  | 1 => vp_nar .byte x
  | _ => vp_nar .boolean x
def zp_gV (ads : List Nat) (v : zp_V) (w : Value) : Prop := match v with
  | .inl x => w = .int x
  | .inr (.inl x) => w = .long x
  | .inr (.inr none) => w = .null
  | .inr (.inr (some k)) => ∃ a, w = .ref a ∧ ads[k]? = some a
def zp_gP (ads : List Nat) (v : Nat × zp_V) (w : Nat × Value) : Prop := v.1 = w.1 ∧ zp_gV ads v.2 w.2
def zp_cat (v : zp_V) : Nat := match v with
  | .inr (.inl _) => 2
  | _ => 1
theorem zp_cat_ok {ads : List Nat} {v : zp_V} {w : Value} (h : zp_gV ads v w) : w.category = zp_cat v := by
  match v, h with
  | .inl x, h => rw [show w = .int x from h]; rfl
  | .inr (.inl x), h => rw [show w = .long x from h]; rfl
  | .inr (.inr none), h => rw [show w = .null from h]; rfl
  | .inr (.inr (some k)), ⟨a, h, _⟩ => rw [h]; rfl
theorem zp_gV_mono {ads ads' : List Nat} (h : ads <+: ads') {v : zp_V} {w : Value} (hv : zp_gV ads v w) : zp_gV ads' v w := by
  match v, hv with
  | .inl x, hv => exact hv
  | .inr (.inl x), hv => exact hv
  | .inr (.inr none), hv => exact hv
  | .inr (.inr (some k)), ⟨a, h1, h2⟩ =>
    obtain ⟨r, rfl⟩ := h
    exact ⟨a, h1, by rw [List.getElem?_append_left (List.getElem?_eq_some_iff.mp h2).1]; exact h2⟩
def zp_gO (E : za_E) (ads : List Nat) (H : zp_H) (p : Nat) (o : zp_K) (x : va_E) : Prop := match o, x with
  | .inl ci, .inr (cj, vs) => ci = cj ∧ vs.length = za_nX ci ∧ ∀ k w, vs[k]? = some w → zp_gV ads (zp_fv H p (za_tyX ci k) k) w
  | .inr (t, n), .inl (cA, n', .inl f) => n' = n ∧ t < 3 ∧ cA = za_tc E t ∧ ∀ i, i < n → f i = H.2.1 p i
  | .inr (t, n), .inl (cA, n', .inr (.inl f)) => n' = n ∧ t = 3 ∧ cA = E.2.2.2.1.2.2.2 ∧ ∀ i, i < n → f i = H.2.2.1 p i
  | _, _ => False
def zp_Wd (E : za_E) (ads : List Nat) (H : zp_H) (Hp : Heap) : Prop := ∃ ws : va_W, ads = za_b E :: ws.map (·.1) ∧ ws.length = H.1.length ∧ (∀ (p : Nat) (o : zp_K) (x : Nat × va_E), H.1[p]? = some o → ws[p]? = some x → zp_gO E ads H p o x.2) ∧ va_P (za_D E) vwCl ws Hp ∧ va_D (za_A E) ws
/-- an object's place: what stands there -/
theorem zp_obj {E : za_E} {ads : List Nat} {H : zp_H} {Hp : Heap} (hw : zp_Wd E ads H Hp) {p a : Nat} (ha : ads[p + 1]? = some a) {o : zp_K} (ho : H.1[p]? = some o) :
    ∃ (ws : va_W) (x : va_E), ads = za_b E :: ws.map (·.1) ∧ ws.length = H.1.length ∧ (∀ (p : Nat) (o : zp_K) (x : Nat × va_E), H.1[p]? = some o → ws[p]? = some x → zp_gO E ads H p o x.2) ∧ va_P (za_D E) vwCl ws Hp ∧ va_D (za_A E) ws ∧ ws[p]? = some (a, x) ∧ zp_gO E ads H p o x := by
  obtain ⟨ws, e1, e2, e3, e4, e5⟩ := hw
  rw [e1, List.getElem?_cons_succ, List.getElem?_map] at ha
  cases hx : ws[p]? with
  | none => rw [hx] at ha; cases ha
  | some q =>
    rw [hx] at ha
    have e9 : q.1 = a := Option.some.inj ha
    subst e9
    exact ⟨ws, q.2, e1, e2, e3, e4, e5, hx, e3 p o q ho hx⟩
/-! its steps -/
def zp_go (lv : zp_LV) (t : zp_T) (pc : Nat) (st : List zp_V) : zp_N := some (.inl (pc, lv, st, t))
def zp_get : zp_LV → Nat → Option zp_V
  | [], _ => none
  | q :: l, i => bif Nat.beq q.1 i then some q.2 else zp_get l i
def zp_st1 (lv : zp_LV) (i : Nat) (v : zp_V) : zp_LV := (i, v) :: lv.filter (fun q => !(q.1 == i) && !(q.1 + 1 == i && zp_cat q.2 == 2))
def zp_st2 (lv : zp_LV) (i : Nat) (v : zp_V) : zp_LV := (i, v) :: lv.filter (fun q => !(q.1 == i) && (!(q.1 == i + 1) && !(q.1 + 1 == i && zp_cat q.2 == 2)))
def zp_binI (g : Int32 → Int32 → Int32) (pc : Nat) (lv : zp_LV) (st : List zp_V) (t : zp_T) : zp_N := match st with
  | .inl y :: .inl x :: r => zp_go lv t (pc + 1) (.inl (g x y) :: r)
  | _ => none
def zp_divI (g : Int32 → Int32 → Int32) (pc : Nat) (lv : zp_LV) (st : List zp_V) (t : zp_T) : zp_N := match st with
  | .inl y :: .inl x :: r => if y = 0 then none else zp_go lv t (pc + 1) (.inl (g x y) :: r)
  | _ => none
def zp_binL (g : Int64 → Int64 → Int64) (pc : Nat) (lv : zp_LV) (st : List zp_V) (t : zp_T) : zp_N := match st with
  | .inr (.inl y) :: .inr (.inl x) :: r => zp_go lv t (pc + 1) (.inr (.inl (g x y)) :: r)
  | _ => none
def zp_shL (g : Int64 → Int32 → Int64) (pc : Nat) (lv : zp_LV) (st : List zp_V) (t : zp_T) : zp_N := match st with
  | .inl y :: .inr (.inl x) :: r => zp_go lv t (pc + 1) (.inr (.inl (g x y)) :: r)
  | _ => none
def zp_to (o : Int) (pc : Nat) : Option Nat := match (pc : Int) + o with
  | .ofNat g => some g
  | _ => none
def zp_if (b : Bool) (o : Int) (pc : Nat) (lv : zp_LV) (st : List zp_V) (t : zp_T) : zp_N := if b then (match zp_to o pc with
  | some g => zp_go lv t g st
  | none => none) else zp_go lv t (pc + 3) st
def zp_getf (r : Option za_row) (pc : Nat) (lv : zp_LV) (st : List zp_V) (t : zp_T) : zp_N := match r, st with
  | some (0, ci, k, _), .inr (.inr (some (q + 1))) :: rest => match t.1.1[q]? with
    | some (.inl cj) => bif Nat.beq cj ci then zp_go lv t (pc + 3) (zp_fv t.1 q (za_tyX ci k) k :: rest) else none
    | _ => none
  | _, _ => none
def zp_ald (L : Nat) (σ : Nat → Int32) (b : Bool) (pc : Nat) (lv : zp_LV) (st : List zp_V) (t : zp_T) : zp_N := match st with
  | .inl i :: .inr (.inr (some 0)) :: rest => if b = false ∧ 0 ≤ i.toInt ∧ i.toInt < L then zp_go lv t (pc + 1) (.inl (σ i.toInt.toNat) :: rest) else none
  | .inl i :: .inr (.inr (some (q + 1))) :: rest => match t.1.1[q]? with
    | some (.inr (ty, n)) => if (b = false ↔ ty = 0) ∧ ty < 3 ∧ 0 ≤ i.toInt ∧ i.toInt < n then zp_go lv t (pc + 1) (.inl (t.1.2.1 q i.toInt.toNat) :: rest) else none
    | _ => none
  | _ => none
def zp_ast (b : Bool) (pc : Nat) (lv : zp_LV) (st : List zp_V) (t : zp_T) : zp_N := match st with
  | .inl x :: .inl i :: .inr (.inr (some (q + 1))) :: rest => match t.1.1[q]? with
    | some (.inr (ty, n)) => if (b = false ↔ ty = 0) ∧ ty < 3 ∧ 0 ≤ i.toInt ∧ i.toInt < n then zp_go lv ((t.1.1, zp_u t.1.2.1 q i.toInt.toNat (zp_nar ty x), t.1.2.2), t.2) (pc + 1) rest else none
    | _ => none
  | _ => none
def zp_lld (pc : Nat) (lv : zp_LV) (st : List zp_V) (t : zp_T) : zp_N := match st with
  | .inl i :: .inr (.inr (some (q + 1))) :: rest => match t.1.1[q]? with
    | some (.inr (3, n)) => if 0 ≤ i.toInt ∧ i.toInt < n then zp_go lv t (pc + 1) (.inr (.inl (t.1.2.2.1 q i.toInt.toNat)) :: rest) else none
    | _ => none
  | _ => none
def zp_lst (pc : Nat) (lv : zp_LV) (st : List zp_V) (t : zp_T) : zp_N := match st with
  | .inr (.inl x) :: .inl i :: .inr (.inr (some (q + 1))) :: rest => match t.1.1[q]? with
    | some (.inr (3, n)) => if 0 ≤ i.toInt ∧ i.toInt < n then zp_go lv ((t.1.1, t.1.2.1, zp_u t.1.2.2.1 q i.toInt.toNat x, t.1.2.2.2), t.2) (pc + 1) rest else none
    | _ => none
  | _ => none
def zp_alen (L : Nat) (pc : Nat) (lv : zp_LV) (st : List zp_V) (t : zp_T) : zp_N := match st with
  | .inr (.inr (some 0)) :: rest => zp_go lv t (pc + 1) (.inl (Int32.ofNat L) :: rest)
  | .inr (.inr (some (q + 1))) :: rest => match t.1.1[q]? with
    | some (.inr (_, n)) => zp_go lv t (pc + 1) (.inl (Int32.ofNat n) :: rest)
    | _ => none
  | _ => none
end
section
/-! ===== each step of the exact interpreter is sound ===== -/
def zp_Mt (E : za_E) (nL : Nat) (s : State) (ads0 ads : List Nat) (S : zp_S) (H : Heap) (locs : List Loc) (ls : Array Slot) (stk : List Value) : Prop :=
  ads0 <+: ads ∧ za_F2 (zp_gV ads) S.2.2.1 stk ∧ (∃ lc, lv_has ls nL lc ∧ za_F2 (zp_gP ads) S.2.1 lc) ∧ zp_Wd E ads S.2.2.2.1 H ∧ va_S (za_A E) s.heap H locs
def zp_G (p : Program) (l : Launch) (e : Env) (R : Room) (s : State) (m : MethodId) (args : Array Value) (below : List Frame) (meth : Method) (c : Code) (Q : State → Prop) (E : za_E) (nL : Nat) (ads0 : List Nat) (S : zp_S) : Prop :=
  ∀ (ads : List Nat) (H : Heap) (locs : List Loc) (ls : Array Slot) (stk : List Value), zp_Mt E nL s ads0 ads S H locs ls stk → W p l e R s m args below meth c H locs S.2.2.2.2.1 S.2.2.2.2.2 Q (F0 m S.1 ls stk)
section ZE
variable {p : Program} {l : Launch} {e : Env} {R : Room} {s : State} {m : MethodId} {args : Array Value} {below : List Frame} {meth : Method} {c : Code} {Q : State → Prop} {E : za_E} {nL : Nat} {ads0 : List Nat} {pc : Nat} {lv : zp_LV} {t : zp_T} {st : List zp_V} {S9 : zp_S}
theorem zx_go {k : Nat} (h : zp_go lv t k st = some (.inl S9)) (hk : zp_G p l e R s m args below meth c Q E nL ads0 S9) : zp_G p l e R s m args below meth c Q E nL ads0 (k, lv, st, t) := by
  unfold zp_go at h
  cases h
  exact hk
theorem zx_binI (g : Int32 → Int32 → Int32)
    (rule : ∀ {H : Heap} {locs : List Loc} {cells slots : Nat} {ls : Array Slot} {rest : List Value} {x y : Int32}, W p l e R s m args below meth c H locs cells slots Q (F0 m (pc + 1) ls (.int (g x y) :: rest)) → W p l e R s m args below meth c H locs cells slots Q (F0 m pc ls (.int y :: .int x :: rest)))
    (h : zp_binI g pc lv st t = some (.inl S9)) (hk : zp_G p l e R s m args below meth c Q E nL ads0 S9) : zp_G p l e R s m args below meth c Q E nL ads0 (pc, lv, st, t) := by
  intro ads H locs ls stk M
  obtain ⟨h1, h3, h4, h5, h6⟩ := M
  unfold zp_binI at h
  split at h
  · rename_i y x r
    obtain ⟨_, stk1, rfl, rfl, q1⟩ := za_F2_cons h3
    obtain ⟨_, stk2, rfl, rfl, q2⟩ := za_F2_cons q1
    exact rule (zx_go h hk ads H locs ls (_ :: stk2) ⟨h1, ⟨rfl, q2⟩, h4, h5, h6⟩)
  · cases h
theorem zx_divI (g : Int32 → Int32 → Int32)
    (rule : ∀ {H : Heap} {locs : List Loc} {cells slots : Nat} {ls : Array Slot} {rest : List Value} {x y : Int32}, ¬ y = 0 → W p l e R s m args below meth c H locs cells slots Q (F0 m (pc + 1) ls (.int (g x y) :: rest)) → W p l e R s m args below meth c H locs cells slots Q (F0 m pc ls (.int y :: .int x :: rest)))
    (h : zp_divI g pc lv st t = some (.inl S9)) (hk : zp_G p l e R s m args below meth c Q E nL ads0 S9) : zp_G p l e R s m args below meth c Q E nL ads0 (pc, lv, st, t) := by
  intro ads H locs ls stk M
  obtain ⟨h1, h3, h4, h5, h6⟩ := M
  unfold zp_divI at h
  split at h
  · rename_i y x r
    split at h
    · cases h
    · rename_i hy
      obtain ⟨_, stk1, rfl, rfl, q1⟩ := za_F2_cons h3
      obtain ⟨_, stk2, rfl, rfl, q2⟩ := za_F2_cons q1
      exact rule hy (zx_go h hk ads H locs ls (_ :: stk2) ⟨h1, ⟨rfl, q2⟩, h4, h5, h6⟩)
  · cases h
theorem zx_binL (g : Int64 → Int64 → Int64)
    (rule : ∀ {H : Heap} {locs : List Loc} {cells slots : Nat} {ls : Array Slot} {rest : List Value} {x y : Int64}, W p l e R s m args below meth c H locs cells slots Q (F0 m (pc + 1) ls (.long (g x y) :: rest)) → W p l e R s m args below meth c H locs cells slots Q (F0 m pc ls (.long y :: .long x :: rest)))
    (h : zp_binL g pc lv st t = some (.inl S9)) (hk : zp_G p l e R s m args below meth c Q E nL ads0 S9) : zp_G p l e R s m args below meth c Q E nL ads0 (pc, lv, st, t) := by
  intro ads H locs ls stk M
  obtain ⟨h1, h3, h4, h5, h6⟩ := M
  unfold zp_binL at h
  split at h
  · rename_i y x r
    obtain ⟨_, stk1, rfl, rfl, q1⟩ := za_F2_cons h3
    obtain ⟨_, stk2, rfl, rfl, q2⟩ := za_F2_cons q1
    exact rule (zx_go h hk ads H locs ls (_ :: stk2) ⟨h1, ⟨rfl, q2⟩, h4, h5, h6⟩)
  · cases h
theorem zx_shL (g : Int64 → Int32 → Int64)
    (rule : ∀ {H : Heap} {locs : List Loc} {cells slots : Nat} {ls : Array Slot} {rest : List Value} {x : Int64} {y : Int32}, W p l e R s m args below meth c H locs cells slots Q (F0 m (pc + 1) ls (.long (g x y) :: rest)) → W p l e R s m args below meth c H locs cells slots Q (F0 m pc ls (.int y :: .long x :: rest)))
    (h : zp_shL g pc lv st t = some (.inl S9)) (hk : zp_G p l e R s m args below meth c Q E nL ads0 S9) : zp_G p l e R s m args below meth c Q E nL ads0 (pc, lv, st, t) := by
  intro ads H locs ls stk M
  obtain ⟨h1, h3, h4, h5, h6⟩ := M
  unfold zp_shL at h
  split at h
  · rename_i y x r
    obtain ⟨_, stk1, rfl, rfl, q1⟩ := za_F2_cons h3
    obtain ⟨_, stk2, rfl, rfl, q2⟩ := za_F2_cons q1
    exact rule (zx_go h hk ads H locs ls (_ :: stk2) ⟨h1, ⟨rfl, q2⟩, h4, h5, h6⟩)
  · cases h
theorem zx_getf {r : Option za_row}
    (rule : ∀ {ci k : Nat} {z : Int}, r = some (0, ci, k, z) → k < za_nX ci ∧ ∀ {H : Heap} {locs : List Loc} {cells slots : Nat} {ls : Array Slot} {rest : List Value} {ws : va_W} {q a : Nat} {vs : List Value} {v : Value}, va_P (za_D E) vwCl ws H → ws[q]? = some (a, .inr (ci, vs)) → vs[k]? = some v → W p l e R s m args below meth c H locs cells slots Q (F0 m (pc + 3) ls (v :: rest)) → W p l e R s m args below meth c H locs cells slots Q (F0 m pc ls (.ref a :: rest)))
    (h : zp_getf r pc lv st t = some (.inl S9)) (hk : zp_G p l e R s m args below meth c Q E nL ads0 S9) : zp_G p l e R s m args below meth c Q E nL ads0 (pc, lv, st, t) := by
  intro ads H locs ls stk M
  obtain ⟨h1, h3, h4, h5, h6⟩ := M
  unfold zp_getf at h
  split at h
  · rename_i ci k z q rest
    split at h
    · rename_i cj ho
      obtain ⟨hc, hg⟩ := za_bif h
      have hc := za_beq hc
      subst hc
      obtain ⟨_, stk1, rfl, ⟨a, rfl, ha⟩, q1⟩ := za_F2_cons h3
      obtain ⟨ws, x, e1, e2, e3, e4, e5, e6, e7⟩ := zp_obj h5 ha ho
      match x, e6, e7 with
      | .inr (cj9, vs), e6, e7 =>
        obtain ⟨rfl, f2, f3⟩ := e7
        obtain ⟨hlt, hrule⟩ := rule rfl
        cases hv : vs[k]? with
        | none => exact absurd (List.getElem?_eq_none_iff.mp hv) (by omega)
        | some w => exact hrule e4 e6 hv (zx_go hg hk ads H locs ls (w :: stk1) ⟨h1, ⟨f3 k w hv, q1⟩, h4, h5, h6⟩)
    · cases h
  · cases h
end ZE
end
section
/-! ===== the exact heap: writes ===== -/
theorem zp_fv_c {H H' : zp_H} {p : Nat} (h1 : ∀ k, H'.2.1 p k = H.2.1 p k) (h2 : ∀ k, H'.2.2.1 p k = H.2.2.1 p k) (h3 : ∀ k, H'.2.2.2 p k = H.2.2.2 p k) (ty : FieldType) (k : Nat) : zp_fv H' p ty k = zp_fv H p ty k := by
  cases ty <;> simp [zp_fv, h1, h2, h3]
theorem zp_gO_c {E : za_E} {ads : List Nat} {H H' : zp_H} {p : Nat} {o : zp_K} {x : va_E} (h1 : ∀ k, H'.2.1 p k = H.2.1 p k) (h2 : ∀ k, H'.2.2.1 p k = H.2.2.1 p k) (h3 : ∀ k, H'.2.2.2 p k = H.2.2.2 p k) (h : zp_gO E ads H p o x) : zp_gO E ads H' p o x := by
  match o, x, h with
  | .inl ci, .inr (cj, vs), h => exact ⟨h.1, h.2.1, fun k w hw => by rw [zp_fv_c h1 h2 h3]; exact h.2.2 k w hw⟩
  | .inr (t, n), .inl (cA, n', .inl f), h => exact ⟨h.1, h.2.1, h.2.2.1, fun i hi => by rw [h1]; exact h.2.2.2 i hi⟩
  | .inr (t, n), .inl (cA, n', .inr (.inl f)), h => exact ⟨h.1, h.2.1, h.2.2.1, fun i hi => by rw [h2]; exact h.2.2.2 i hi⟩
theorem zp_ads {E : za_E} {ads : List Nat} {ws : va_W} {q a : Nat} {x y : va_E} (e1 : ads = za_b E :: ws.map (·.1)) (hx : ws[q]? = some (a, x)) : ads = za_b E :: (ws.set q (a, y)).map (·.1) := by
  rw [List.map_set, e1]
  congr 1
  apply List.ext_getElem?
  intro i
  have e5 : (ws.map (·.1))[q]? = some a := by rw [List.getElem?_map, hx]; rfl
  by_cases hi : q = i
  · subst hi
    rw [List.getElem?_set_self (by simpa using (List.getElem?_eq_some_iff.mp hx).1)]
    exact e5
  · rw [List.getElem?_set_ne hi]
/-- one place has changed -/
theorem zp_set {E : za_E} {ads : List Nat} {H H' : zp_H} {Hp : Heap} {ws : va_W} {q a : Nat} {x y : va_E} {o : zp_K} (e1 : ads = za_b E :: ws.map (·.1)) (e2 : ws.length = H.1.length) (e3 : ∀ (p : Nat) (o : zp_K) (x : Nat × va_E), H.1[p]? = some o → ws[p]? = some x → zp_gO E ads H p o x.2) (ho : H.1[q]? = some o) (hx : ws[q]? = some (a, x))
    (hs : H'.1 = H.1) (h1 : ∀ p, p ≠ q → ∀ k, H'.2.1 p k = H.2.1 p k) (h2 : ∀ p, p ≠ q → ∀ k, H'.2.2.1 p k = H.2.2.1 p k) (h3 : ∀ p, p ≠ q → ∀ k, H'.2.2.2 p k = H.2.2.2 p k)
    (g1 : va_P (za_D E) vwCl (ws.set q (a, y)) Hp) (g2 : va_D (za_A E) (ws.set q (a, y))) (hy : zp_gO E ads H' q o y) : zp_Wd E ads H' Hp := by
  refine ⟨ws.set q (a, y), zp_ads e1 hx, by rw [List.length_set, e2, hs], ?_, g1, g2⟩
  intro p o' x' hp hx'
  rw [hs] at hp
  by_cases hpq : q = p
  · subst hpq
    rw [List.getElem?_set_self (List.getElem?_eq_some_iff.mp hx).1] at hx'
    cases hx'
    cases Option.some.inj (hp.symm.trans ho)
    exact hy
  · rw [List.getElem?_set_ne hpq] at hx'
    exact zp_gO_c (h1 p (Ne.symm hpq)) (h2 p (Ne.symm hpq)) (h3 p (Ne.symm hpq)) (e3 p o' x' hp hx')
section ZF
variable {p : Program} {l : Launch} {e : Env} {R : Room} {s : State} {m : MethodId} {args : Array Value} {below : List Frame} {meth : Method} {c : Code} {Q : State → Prop} {E : za_E} {nL : Nat} {ads0 : List Nat} {pc : Nat} {lv : zp_LV} {t : zp_T} {st : List zp_V} {S9 : zp_S}
theorem zp_ix {i : Int32} {n : Nat} (h1 : 0 ≤ i.toInt) (h2 : i.toInt < n) : vp_in i n ∧ i.toNatClampNeg = i.toInt.toNat ∧ i.toInt.toNat < n := by
  have h3 : i.toInt = Int.ofNat i.toInt.toNat := by
    show i.toInt = ((i.toInt.toNat : Nat) : Int)
    omega
  have h4 : i.toInt.toNat < n := by omega
  exact ⟨za_vin h3 h4, (za_clamp h3).1, h4⟩
theorem zx_ast {b : Bool}
    (rule : ∀ {tt : Nat}, tt < 3 → (b = false ↔ tt = 0) → ∀ {H : Heap} {locs : List Loc} {cells slots : Nat} {ls : Array Slot} {rest : List Value} {ws : va_W} {q a n : Nat} {f : Nat → Int32} {i x : Int32}, va_P (za_D E) vwCl ws H → va_D (za_A E) ws → va_S (za_A E) s.heap H locs → ws[q]? = some (a, .inl (za_tc E tt, n, .inl f)) → vp_in i n →
      (∀ (H1 : Heap) (locs1 : List Loc), va_P (za_D E) vwCl (ws.set q (a, .inl (za_tc E tt, n, .inl (upd f i.toNatClampNeg (zp_nar tt x))))) H1 → va_D (za_A E) (ws.set q (a, .inl (za_tc E tt, n, .inl (upd f i.toNatClampNeg (zp_nar tt x))))) → va_S (za_A E) s.heap H1 locs1 → W p l e R s m args below meth c H1 locs1 cells slots Q (F0 m (pc + 1) ls rest)) → W p l e R s m args below meth c H locs cells slots Q (F0 m pc ls (.int x :: .int i :: .ref a :: rest)))
    (h : zp_ast b pc lv st t = some (.inl S9)) (hk : zp_G p l e R s m args below meth c Q E nL ads0 S9) : zp_G p l e R s m args below meth c Q E nL ads0 (pc, lv, st, t) := by
  intro ads H locs ls stk M
  obtain ⟨h1, h3, h4, h5, h6⟩ := M
  unfold zp_ast at h
  split at h
  · rename_i x i q rest
    split at h
    · rename_i ty n ho
      split at h
      · rename_i hc
        obtain ⟨c1, c2, c3, c4⟩ := hc
        obtain ⟨k1, k2, k3⟩ := zp_ix c3 c4
        obtain ⟨_, stk1, rfl, rfl, q1⟩ := za_F2_cons h3
        obtain ⟨_, stk2, rfl, rfl, q2⟩ := za_F2_cons q1
        obtain ⟨_, stk3, rfl, ⟨a, rfl, ha⟩, q3⟩ := za_F2_cons q2
        obtain ⟨ws, x9, e1, e2, e3, e4, e5, e6, e7⟩ := zp_obj h5 ha ho
        match x9, e6, e7 with
        | .inl (cA, n', .inl f), e6, e7 =>
          obtain ⟨rfl, -, rfl, f4⟩ := e7
          refine rule (x := x) c2 c1 e4 e5 h6 e6 k1 (fun H1 locs1 g1 g2 g3 => ?_)
          refine zx_go h hk ads H1 locs1 ls stk3 ⟨h1, q3, h4, ?_, g3⟩
          refine zp_set e1 e2 e3 ho e6 rfl ?_ (fun _ _ _ => rfl) (fun _ _ _ => rfl) g1 g2 ⟨rfl, c2, rfl, fun j hj => ?_⟩
          · intro p9 hp9 k9
            exact zp_u_ne (fun hh => hp9 hh.1)
          · show upd f i.toNatClampNeg (zp_nar ty x) j = zp_u t.1.2.1 q i.toInt.toNat (zp_nar ty x) q j
            rw [k2]
            unfold upd zp_u
            by_cases hj9 : j = i.toInt.toNat
            · rw [if_pos hj9, if_pos ⟨rfl, hj9⟩]
            · rw [if_neg hj9, if_neg (fun hh => hj9 hh.2)]
              exact f4 j hj
        | .inl (cA, n', .inr (.inl f)), e6, e7 => exact absurd e7.2.1 (by omega)
      · cases h
    · cases h
  · cases h
end ZF
end
section
/-! ===== locals, array reads, fields ===== -/
def zp_isI (v : zp_V) : Bool := match v with
  | .inl _ => true
  | _ => false
def zp_isL (v : zp_V) : Bool := match v with
  | .inr (.inl _) => true
  | _ => false
def zp_isR (v : zp_V) : Bool := match v with
  | .inr (.inr (some _)) => true
  | _ => false
def zp_load (k i : Nat) (f : zp_V → Bool) (pc : Nat) (lv : zp_LV) (st : List zp_V) (t : zp_T) : zp_N := match zp_get lv i with
  | some v => bif f v then zp_go lv t (pc + k) (v :: st) else none
  | none => none
def zp_stor1 (k i nL : Nat) (f : zp_V → Bool) (pc : Nat) (lv : zp_LV) (st : List zp_V) (t : zp_T) : zp_N := match st with
  | v :: r => bif f v then bif Nat.blt i nL then zp_go (zp_st1 lv i v) t (pc + k) r else none else none
  | _ => none
def zp_stor2 (k i nL : Nat) (pc : Nat) (lv : zp_LV) (st : List zp_V) (t : zp_T) : zp_N := match st with
  | .inr (.inl v) :: r => bif Nat.blt (i + 1) nL then zp_go (zp_st2 lv i (.inr (.inl v))) t (pc + k) r else none
  | _ => none
theorem zp_get_ok {ads : List Nat} {i : Nat} {v : zp_V} : ∀ {lv : zp_LV} {lc : List (Nat × Value)}, za_F2 (zp_gP ads) lv lc → zp_get lv i = some v → ∃ w, (i, w) ∈ lc ∧ zp_gV ads v w
  | [], [], _, h => by cases h
  | q :: l, r :: m, hp, h => by
    unfold zp_get at h
    cases hb : Nat.beq q.1 i with
    | true =>
      rw [hb] at h
      have e := za_beq hb
      cases h
      exact ⟨r.2, by rw [← e, hp.1.1]; exact List.mem_cons_self, hp.1.2⟩
    | false =>
      rw [hb] at h
      obtain ⟨w, h1, h2⟩ := zp_get_ok hp.2 h
      exact ⟨w, List.mem_cons_of_mem _ h1, h2⟩
  | [], _ :: _, hp, _ => hp.elim
  | _ :: _, [], hp, _ => hp.elim
theorem zp_st1_ok {ads : List Nat} {i : Nat} {v : zp_V} {w : Value} {lv : zp_LV} {lc : List (Nat × Value)} (h : za_F2 (zp_gP ads) lv lc) (hv : zp_gV ads v w) : za_F2 (zp_gP ads) (zp_st1 lv i v) ((i, w) :: lc.filter (fun q => !(q.1 == i) && !(q.1 + 1 == i && q.2.category == 2))) :=
  ⟨⟨rfl, hv⟩, za_F2_filter (fun a b hab => by rw [hab.1, zp_cat_ok hab.2]) h⟩
theorem zp_st2_ok {ads : List Nat} {i : Nat} {v : zp_V} {w : Value} {lv : zp_LV} {lc : List (Nat × Value)} (h : za_F2 (zp_gP ads) lv lc) (hv : zp_gV ads v w) : za_F2 (zp_gP ads) (zp_st2 lv i v) ((i, w) :: lc.filter (fun q => !(q.1 == i) && (!(q.1 == i + 1) && !(q.1 + 1 == i && q.2.category == 2)))) :=
  ⟨⟨rfl, hv⟩, za_F2_filter (fun a b hab => by rw [hab.1, zp_cat_ok hab.2]) h⟩
section ZL
variable {p : Program} {l : Launch} {e : Env} {R : Room} {s : State} {m : MethodId} {args : Array Value} {below : List Frame} {meth : Method} {c : Code} {Q : State → Prop} {E : za_E} {nL : Nat} {ads0 : List Nat} {pc : Nat} {lv : zp_LV} {t : zp_T} {st : List zp_V} {S9 : zp_S}
theorem zx_load {k i : Nat} {f : zp_V → Bool}
    (rule : ∀ {H : Heap} {locs : List Loc} {cells slots : Nat} {ls : Array Slot} {rest : List Value} {ads : List Nat} {v : zp_V} {w : Value}, f v = true → zp_gV ads v w → ls[i]? = some (.val w) → W p l e R s m args below meth c H locs cells slots Q (F0 m (pc + k) ls (w :: rest)) → W p l e R s m args below meth c H locs cells slots Q (F0 m pc ls rest))
    (h : zp_load k i f pc lv st t = some (.inl S9)) (hk : zp_G p l e R s m args below meth c Q E nL ads0 S9) : zp_G p l e R s m args below meth c Q E nL ads0 (pc, lv, st, t) := by
  intro ads H locs ls stk M
  obtain ⟨h1, h3, ⟨lc, l1, l2⟩, h5, h6⟩ := M
  unfold zp_load at h
  split at h
  · rename_i v hv
    obtain ⟨hf, h⟩ := za_bif h
    obtain ⟨w, w1, w2⟩ := zp_get_ok l2 hv
    exact rule hf w2 (l1.2.2 _ w1) (zx_go h hk ads H locs ls (w :: stk) ⟨h1, ⟨w2, h3⟩, ⟨lc, l1, l2⟩, h5, h6⟩)
  · cases h
theorem zx_stor1 {k i : Nat} {f : zp_V → Bool}
    (rule : ∀ {H : Heap} {locs : List Loc} {cells slots : Nat} {ls : Array Slot} {rest : List Value} {ads : List Nat} {v : zp_V} {w : Value} {lc : List (Nat × Value)}, f v = true → zp_gV ads v w → lv_has ls nL lc → i < nL → (∀ ls' : Array Slot, lv_has ls' nL ((i, w) :: lc.filter (fun q => !(q.1 == i) && !(q.1 + 1 == i && q.2.category == 2))) → W p l e R s m args below meth c H locs cells slots Q (F0 m (pc + k) ls' rest)) → W p l e R s m args below meth c H locs cells slots Q (F0 m pc ls (w :: rest)))
    (h : zp_stor1 k i nL f pc lv st t = some (.inl S9)) (hk : zp_G p l e R s m args below meth c Q E nL ads0 S9) : zp_G p l e R s m args below meth c Q E nL ads0 (pc, lv, st, t) := by
  intro ads H locs ls stk M
  obtain ⟨h1, h3, ⟨lc, l1, l2⟩, h5, h6⟩ := M
  unfold zp_stor1 at h
  split at h
  · rename_i v r
    obtain ⟨hf, h⟩ := za_bif h
    obtain ⟨hi, h⟩ := za_bif h
    obtain ⟨w, stk1, rfl, hw, q1⟩ := za_F2_cons h3
    exact rule hf hw l1 (za_blt hi) (fun ls' l1' => zx_go h hk ads H locs ls' stk1 ⟨h1, q1, ⟨_, l1', zp_st1_ok l2 hw⟩, h5, h6⟩)
  · cases h
theorem zx_stor2 {k i : Nat}
    (rule : ∀ {H : Heap} {locs : List Loc} {cells slots : Nat} {ls : Array Slot} {rest : List Value} {x : Int64} {lc : List (Nat × Value)}, lv_has ls nL lc → i + 1 < nL → (∀ ls' : Array Slot, lv_has ls' nL ((i, Value.long x) :: lc.filter (fun q => !(q.1 == i) && (!(q.1 == i + 1) && !(q.1 + 1 == i && q.2.category == 2)))) → W p l e R s m args below meth c H locs cells slots Q (F0 m (pc + k) ls' rest)) → W p l e R s m args below meth c H locs cells slots Q (F0 m pc ls (.long x :: rest)))
    (h : zp_stor2 k i nL pc lv st t = some (.inl S9)) (hk : zp_G p l e R s m args below meth c Q E nL ads0 S9) : zp_G p l e R s m args below meth c Q E nL ads0 (pc, lv, st, t) := by
  intro ads H locs ls stk M
  obtain ⟨h1, h3, ⟨lc, l1, l2⟩, h5, h6⟩ := M
  unfold zp_stor2 at h
  split at h
  · rename_i v r
    obtain ⟨hi, h⟩ := za_bif h
    obtain ⟨w, stk1, rfl, hw, q1⟩ := za_F2_cons h3
    have hw' : w = .long v := hw
    subst hw'
    exact rule l1 (za_blt hi) (fun ls' l1' => zx_go h hk ads H locs ls' stk1 ⟨h1, q1, ⟨_, l1', zp_st2_ok (w := .long v) l2 rfl⟩, h5, h6⟩)
  · cases h
theorem zx_ald {L : Nat} {b : Bool}
    (ruleS : b = false → ∀ {H : Heap} {locs : List Loc} {cells slots : Nat} {ls : Array Slot} {rest : List Value} {i : Int32}, va_S (za_A E) s.heap H locs → vp_in i L → W p l e R s m args below meth c H locs cells slots Q (F0 m (pc + 1) ls (.int (za_σ E i.toNatClampNeg) :: rest)) → W p l e R s m args below meth c H locs cells slots Q (F0 m pc ls (.int i :: .ref (za_b E) :: rest)))
    (rule : ∀ {tt : Nat}, tt < 3 → (b = false ↔ tt = 0) → ∀ {H : Heap} {locs : List Loc} {cells slots : Nat} {ls : Array Slot} {rest : List Value} {ws : va_W} {q a n : Nat} {f : Nat → Int32} {i : Int32}, va_P (za_D E) vwCl ws H → ws[q]? = some (a, .inl (za_tc E tt, n, .inl f)) → vp_in i n → W p l e R s m args below meth c H locs cells slots Q (F0 m (pc + 1) ls (.int (f i.toNatClampNeg) :: rest)) → W p l e R s m args below meth c H locs cells slots Q (F0 m pc ls (.int i :: .ref a :: rest)))
    (h : zp_ald L (za_σ E) b pc lv st t = some (.inl S9)) (hk : zp_G p l e R s m args below meth c Q E nL ads0 S9) : zp_G p l e R s m args below meth c Q E nL ads0 (pc, lv, st, t) := by
  intro ads H locs ls stk M
  obtain ⟨h1, h3, h4, h5, h6⟩ := M
  unfold zp_ald at h
  split at h
  · rename_i i rest
    split at h
    · rename_i hc
      obtain ⟨c1, c3, c4⟩ := hc
      obtain ⟨k1, k2, k3⟩ := zp_ix c3 c4
      obtain ⟨_, stk1, rfl, rfl, q1⟩ := za_F2_cons h3
      obtain ⟨_, stk2, rfl, ⟨a, rfl, ha⟩, q2⟩ := za_F2_cons q1
      have hab : a = za_b E := by
        obtain ⟨ws, e1, -⟩ := h5
        rw [e1] at ha
        exact (Option.some.inj ha).symm
      subst hab
      refine ruleS c1 h6 k1 (zx_go h hk ads H locs ls (_ :: stk2) ⟨h1, ⟨?_, q2⟩, h4, h5, h6⟩)
      rw [k2]
      rfl
    · cases h
  · rename_i i q rest
    split at h
    · rename_i ty n ho
      split at h
      · rename_i hc
        obtain ⟨c1, c2, c3, c4⟩ := hc
        obtain ⟨k1, k2, k3⟩ := zp_ix c3 c4
        obtain ⟨_, stk1, rfl, rfl, q1⟩ := za_F2_cons h3
        obtain ⟨_, stk2, rfl, ⟨a, rfl, ha⟩, q2⟩ := za_F2_cons q1
        obtain ⟨ws, x9, e1, e2, e3, e4, e5, e6, e7⟩ := zp_obj h5 ha ho
        match x9, e6, e7 with
        | .inl (cA, n', .inl f), e6, e7 =>
          obtain ⟨rfl, -, rfl, f4⟩ := e7
          refine rule c2 c1 e4 e6 k1 (zx_go h hk ads H locs ls (_ :: stk2) ⟨h1, ⟨?_, q2⟩, h4, h5, h6⟩)
          rw [k2, f4 _ k3]
          rfl
        | .inl (cA, n', .inr (.inl f)), e6, e7 => exact absurd e7.2.1 (by omega)
      · cases h
    · cases h
  · cases h
theorem zx_alen {L : Nat}
    (ruleS : ∀ {H : Heap} {locs : List Loc} {cells slots : Nat} {ls : Array Slot} {rest : List Value}, va_S (za_A E) s.heap H locs → W p l e R s m args below meth c H locs cells slots Q (F0 m (pc + 1) ls (.int (Int32.ofNat L) :: rest)) → W p l e R s m args below meth c H locs cells slots Q (F0 m pc ls (.ref (za_b E) :: rest)))
    (rule : ∀ {k : Nat} {ty : FieldType} {cA : ClassId} {H : Heap} {locs : List Loc} {cells slots : Nat} {ls : Array Slot} {rest : List Value} {ws : va_W} {q a : Nat} {x : vp_A}, (za_tys E)[k]? = some (cA, ty) → va_P (za_D E) vwCl ws H → ws[q]? = some (a, .inl (cA, x)) → W p l e R s m args below meth c H locs cells slots Q (F0 m (pc + 1) ls (.int (Int32.ofNat x.1) :: rest)) → W p l e R s m args below meth c H locs cells slots Q (F0 m pc ls (.ref a :: rest)))
    (h : zp_alen L pc lv st t = some (.inl S9)) (hk : zp_G p l e R s m args below meth c Q E nL ads0 S9) : zp_G p l e R s m args below meth c Q E nL ads0 (pc, lv, st, t) := by
  intro ads H locs ls stk M
  obtain ⟨h1, h3, h4, h5, h6⟩ := M
  unfold zp_alen at h
  split at h
  · rename_i rest
    obtain ⟨_, stk1, rfl, ⟨a, rfl, ha⟩, q1⟩ := za_F2_cons h3
    have hab : a = za_b E := by
      obtain ⟨ws, e1, -⟩ := h5
      rw [e1] at ha
      exact (Option.some.inj ha).symm
    subst hab
    exact ruleS h6 (zx_go h hk ads H locs ls (_ :: stk1) ⟨h1, ⟨rfl, q1⟩, h4, h5, h6⟩)
  · rename_i q rest
    split at h
    · rename_i ty n ho
      obtain ⟨_, stk1, rfl, ⟨a, rfl, ha⟩, q1⟩ := za_F2_cons h3
      obtain ⟨ws, x9, e1, e2, e3, e4, e5, e6, e7⟩ := zp_obj h5 ha ho
      match x9, e6, e7 with
      | .inl (cA, n', .inl f), e6, e7 =>
        obtain ⟨rfl, ht, rfl, f4⟩ := e7
        exact rule (za_tys_tc ht) e4 e6 (zx_go h hk ads H locs ls (_ :: stk1) ⟨h1, ⟨rfl, q1⟩, h4, h5, h6⟩)
      | .inl (cA, n', .inr (.inl f)), e6, e7 =>
        obtain ⟨rfl, ht, rfl, f4⟩ := e7
        exact rule (k := 3) rfl e4 e6 (zx_go h hk ads H locs ls (_ :: stk1) ⟨h1, ⟨rfl, q1⟩, h4, h5, h6⟩)
    · cases h
  · cases h
end ZL
end
section
/-! ===== longs in arrays, fields written, branches ===== -/
/-- is the value of this type? -/
def zp_fit (ty : FieldType) (v : zp_V) : Bool := match ty, v with
  | .int, .inl _ => true
  | .boolean, .inl x => decide (x = 0 ∨ x = 1)
  | .long, .inr (.inl _) => true
  | .object _, .inr (.inr _) => true
  | .array _, .inr (.inr _) => true
  | _, _ => false
def zp_wf (H : zp_H) (p k : Nat) (v : zp_V) : zp_H := match v with
  | .inl x => (H.1, zp_u H.2.1 p k x, H.2.2)
  | .inr (.inl x) => (H.1, H.2.1, zp_u H.2.2.1 p k x, H.2.2.2)
  | .inr (.inr x) => (H.1, H.2.1, H.2.2.1, zp_u H.2.2.2 p k x)
def zp_putf (r : Option za_row) (own : Nat) (ini : Bool) (pc : Nat) (lv : zp_LV) (st : List zp_V) (t : zp_T) : zp_N := match r, st with
  | some (0, ci, k, fin), v :: .inr (.inr (some (q + 1))) :: rest => match t.1.1[q]? with
    | some (.inl cj) => bif Nat.beq cj ci then bif Nat.blt k (za_nX ci) then bif zp_fit (za_tyX ci k) v then if fin = 0 ∨ (ini = true ∧ ci = own) then zp_go lv (zp_wf t.1 q k v, t.2) (pc + 3) rest else none else none else none else none
    | _ => none
  | _, _ => none
theorem zp_fit_ok {ads : List Nat} {ty : FieldType} {v : zp_V} {w : Value} (hf : zp_fit ty v = true) (hw : zp_gV ads v w) : narrow ty w = w ∧ fits ty w = true := by
  match ty, v, hf, hw with
  | .int, .inl x, _, hw => rw [show w = .int x from hw]; exact ⟨rfl, rfl⟩
  | .boolean, .inl x, hf, hw =>
    rw [show w = .int x from hw]
    have h9 : x = 0 ∨ x = 1 := of_decide_eq_true hf
    rcases h9 with rfl | rfl
    · exact ⟨rfl, rfl⟩
    · exact ⟨rfl, rfl⟩
  | .long, .inr (.inl x), _, hw => rw [show w = .long x from hw]; exact ⟨rfl, rfl⟩
  | .object C, .inr (.inr none), _, hw => rw [show w = .null from hw]; exact ⟨rfl, rfl⟩
  | .object C, .inr (.inr (some k)), _, ⟨a, h1, _⟩ => rw [h1]; exact ⟨rfl, rfl⟩
  | .array C, .inr (.inr none), _, hw => rw [show w = .null from hw]; exact ⟨rfl, rfl⟩
  | .array C, .inr (.inr (some k)), _, ⟨a, h1, _⟩ => rw [h1]; exact ⟨rfl, rfl⟩
theorem zp_wf_fv {H : zp_H} {p k : Nat} {ty : FieldType} {v : zp_V} (hf : zp_fit ty v = true) : zp_fv (zp_wf H p k v) p ty k = v := by
  match ty, v, hf with
  | .int, .inl x, _ => simp [zp_fv, zp_wf, zp_u]
  | .boolean, .inl x, _ => simp [zp_fv, zp_wf, zp_u]
  | .long, .inr (.inl x), _ => simp [zp_fv, zp_wf, zp_u]
  | .object C, .inr (.inr x), _ => simp [zp_fv, zp_wf, zp_u]
  | .array C, .inr (.inr x), _ => simp [zp_fv, zp_wf, zp_u]
theorem zp_wf_ne {H : zp_H} {p k q j : Nat} {ty : FieldType} {v : zp_V} (h : ¬ (q = p ∧ j = k)) : zp_fv (zp_wf H p k v) q ty j = zp_fv H q ty j := by
  match v with
  | .inl x => cases ty <;> simp [zp_fv, zp_wf, zp_u, h]
  | .inr (.inl x) => cases ty <;> simp [zp_fv, zp_wf, zp_u, h]
  | .inr (.inr x) => cases ty <;> simp [zp_fv, zp_wf, zp_u, h]
theorem zp_wf_s (H : zp_H) (p k : Nat) (v : zp_V) : (zp_wf H p k v).1 = H.1 := by
  match v with
  | .inl x => rfl
  | .inr (.inl x) => rfl
  | .inr (.inr x) => rfl
theorem zp_wf_1 {H : zp_H} {p k : Nat} {v : zp_V} {q : Nat} (h : q ≠ p) : (∀ j, (zp_wf H p k v).2.1 q j = H.2.1 q j) ∧ (∀ j, (zp_wf H p k v).2.2.1 q j = H.2.2.1 q j) ∧ ∀ j, (zp_wf H p k v).2.2.2 q j = H.2.2.2 q j := by
  match v with
  | .inl x => exact ⟨fun j => by simp [zp_wf, zp_u, h], fun j => rfl, fun j => rfl⟩
  | .inr (.inl x) => exact ⟨fun j => rfl, fun j => by simp [zp_wf, zp_u, h], fun j => rfl⟩
  | .inr (.inr x) => exact ⟨fun j => rfl, fun j => rfl, fun j => by simp [zp_wf, zp_u, h]⟩
section ZP
variable {p : Program} {l : Launch} {e : Env} {R : Room} {s : State} {m : MethodId} {args : Array Value} {below : List Frame} {meth : Method} {c : Code} {Q : State → Prop} {E : za_E} {nL : Nat} {ads0 : List Nat} {pc : Nat} {lv : zp_LV} {t : zp_T} {st : List zp_V} {S9 : zp_S}
theorem zx_putf {r : Option za_row} {own : Nat} {ini : Bool}
    (rule : ∀ {ci k : Nat} {z : Int}, r = some (0, ci, k, z) → (z = 0 ∨ (ini = true ∧ ci = own)) → ∀ {H : Heap} {locs : List Loc} {cells slots : Nat} {ls : Array Slot} {rest : List Value} {ws : va_W} {q a : Nat} {vs : List Value} {v : Value}, va_P (za_D E) vwCl ws H → va_D (za_A E) ws → va_S (za_A E) s.heap H locs → ws[q]? = some (a, .inr (ci, vs)) → k < vs.length → narrow (za_tyX ci k) v = v → fits (za_tyX ci k) v = true →
      (∀ (H1 : Heap) (locs1 : List Loc), va_P (za_D E) vwCl (ws.set q (a, .inr (ci, vs.set k v))) H1 → va_D (za_A E) (ws.set q (a, .inr (ci, vs.set k v))) → va_S (za_A E) s.heap H1 locs1 → W p l e R s m args below meth c H1 locs1 cells slots Q (F0 m (pc + 3) ls rest)) → W p l e R s m args below meth c H locs cells slots Q (F0 m pc ls (v :: .ref a :: rest)))
    (h : zp_putf r own ini pc lv st t = some (.inl S9)) (hk : zp_G p l e R s m args below meth c Q E nL ads0 S9) : zp_G p l e R s m args below meth c Q E nL ads0 (pc, lv, st, t) := by
  intro ads H locs ls stk M
  obtain ⟨h1, h3, h4, h5, h6⟩ := M
  unfold zp_putf at h
  split at h
  · rename_i ci k fin v q rest
    split at h
    · rename_i cj ho
      obtain ⟨hc, h8⟩ := za_bif h
      have hc := za_beq hc
      subst hc
      obtain ⟨hl, h8⟩ := za_bif h8
      obtain ⟨hf, h8⟩ := za_bif h8
      split at h8
      · rename_i hz
        obtain ⟨w, stk1, rfl, w2, q1⟩ := za_F2_cons h3
        obtain ⟨_, stk2, rfl, ⟨a, rfl, ha⟩, q2⟩ := za_F2_cons q1
        obtain ⟨ws, x9, e1, e2, e3, e4, e5, e6, e7⟩ := zp_obj h5 ha ho
        match x9, e6, e7 with
        | .inr (cj9, vs), e6, e7 =>
          obtain ⟨rfl, f2, f3⟩ := e7
          have hk9 : k < vs.length := by rw [f2]; exact za_blt hl
          obtain ⟨n1, n2⟩ := zp_fit_ok hf w2
          refine rule rfl hz e4 e5 h6 e6 hk9 n1 n2 (fun H1 locs1 g1 g2 g3 => ?_)
          refine zx_go h8 hk ads H1 locs1 ls stk2 ⟨h1, q2, h4, ?_, g3⟩
          refine zp_set e1 e2 e3 ho e6 (zp_wf_s _ _ _ _) (fun p9 hp9 => (zp_wf_1 hp9).1) (fun p9 hp9 => (zp_wf_1 hp9).2.1) (fun p9 hp9 => (zp_wf_1 hp9).2.2) g1 g2 ⟨rfl, by rw [List.length_set]; exact f2, fun j w' hw' => ?_⟩
          by_cases hj : k = j
          · subst hj
            rw [List.getElem?_set_self hk9] at hw'
            cases hw'
            rw [zp_wf_fv hf]
            exact w2
          · rw [List.getElem?_set_ne hj] at hw'
            rw [zp_wf_ne (fun hh => hj hh.2.symm)]
            exact f3 j w' hw'
      · cases h8
    · cases h
  · cases h
theorem zx_if1 {P : Int32 → Prop} {o : Int} {x : Int32} {rest : List zp_V}
    (rule : ∀ {g : Nat} {H : Heap} {locs : List Loc} {cells slots : Nat} {ls : Array Slot} {rest : List Value} {x : Int32}, (pc : Int) + o = (g : Int) → (P x → W p l e R s m args below meth c H locs cells slots Q (F0 m g ls rest)) → (¬ P x → W p l e R s m args below meth c H locs cells slots Q (F0 m (pc + 3) ls rest)) → W p l e R s m args below meth c H locs cells slots Q (F0 m pc ls (.int x :: rest)))
    {g : Nat} (hg : zp_to o pc = some g) (hy : P x → zp_G p l e R s m args below meth c Q E nL ads0 (g, lv, rest, t)) (hn : ¬ P x → zp_G p l e R s m args below meth c Q E nL ads0 (pc + 3, lv, rest, t)) : zp_G p l e R s m args below meth c Q E nL ads0 (pc, lv, .inl x :: rest, t) := by
  intro ads H locs ls stk M
  obtain ⟨h1, h3, h4, h5, h6⟩ := M
  obtain ⟨_, stk1, rfl, rfl, q1⟩ := za_F2_cons h3
  have hg' : (pc : Int) + o = (g : Int) := by
    unfold zp_to at hg
    split at hg
    · rename_i g9 h9
      cases hg
      exact h9
    · cases hg
  exact rule hg' (fun h => hy h ads H locs ls stk1 ⟨h1, q1, h4, h5, h6⟩) (fun h => hn h ads H locs ls stk1 ⟨h1, q1, h4, h5, h6⟩)
end ZP
end
section
/-! ===== stack alone; longs in arrays ===== -/
section ZT
variable {p : Program} {l : Launch} {e : Env} {R : Room} {s : State} {m : MethodId} {args : Array Value} {below : List Frame} {meth : Method} {c : Code} {Q : State → Prop} {E : za_E} {nL : Nat} {ads0 : List Nat} {pc : Nat} {lv : zp_LV} {t : zp_T} {st : List zp_V} {S9 : zp_S}
/-- an instruction of the stack alone -/
theorem zx_st {st' : List zp_V} {pc' : Nat}
    (rule : ∀ {H : Heap} {locs : List Loc} {cells slots : Nat} {ls : Array Slot} {ads : List Nat} {stk : List Value}, za_F2 (zp_gV ads) st stk → ∃ stk', za_F2 (zp_gV ads) st' stk' ∧ (W p l e R s m args below meth c H locs cells slots Q (F0 m pc' ls stk') → W p l e R s m args below meth c H locs cells slots Q (F0 m pc ls stk)))
    (hk : zp_G p l e R s m args below meth c Q E nL ads0 (pc', lv, st', t)) : zp_G p l e R s m args below meth c Q E nL ads0 (pc, lv, st, t) := by
  intro ads H locs ls stk M
  obtain ⟨h1, h3, h4, h5, h6⟩ := M
  obtain ⟨stk', g1, g2⟩ := rule (H := H) (locs := locs) (cells := t.2.1) (slots := t.2.2) (ls := ls) h3
  exact g2 (hk ads H locs ls stk' ⟨h1, g1, h4, h5, h6⟩)
theorem zx_push {v : zp_V} {w : Value} {k : Nat} (hv : ∀ ads, zp_gV ads v w)
    (rule : ∀ {H : Heap} {locs : List Loc} {cells slots : Nat} {ls : Array Slot} {rest : List Value}, W p l e R s m args below meth c H locs cells slots Q (F0 m (pc + k) ls (w :: rest)) → W p l e R s m args below meth c H locs cells slots Q (F0 m pc ls rest))
    (hk : zp_G p l e R s m args below meth c Q E nL ads0 (pc + k, lv, v :: st, t)) : zp_G p l e R s m args below meth c Q E nL ads0 (pc, lv, st, t) :=
  zx_st (st' := v :: st) (fun {H locs cells slots ls ads stk} h => ⟨w :: stk, ⟨hv ads, h⟩, rule⟩) hk
theorem zx_dup {v : zp_V} (hc : zp_cat v = 1)
    (rule : ∀ {H : Heap} {locs : List Loc} {cells slots : Nat} {ls : Array Slot} {rest : List Value} {w : Value}, w.category = 1 → W p l e R s m args below meth c H locs cells slots Q (F0 m (pc + 1) ls (w :: w :: rest)) → W p l e R s m args below meth c H locs cells slots Q (F0 m pc ls (w :: rest)))
    (hk : zp_G p l e R s m args below meth c Q E nL ads0 (pc + 1, lv, v :: v :: st, t)) : zp_G p l e R s m args below meth c Q E nL ads0 (pc, lv, v :: st, t) :=
  zx_st (fun {H locs cells slots ls ads stk} h => by
    obtain ⟨w, r, rfl, hw, q1⟩ := za_F2_cons h
    exact ⟨w :: w :: r, ⟨hw, hw, q1⟩, rule ((zp_cat_ok hw).trans hc)⟩) hk
theorem zx_pop {v : zp_V} (hc : zp_cat v = 1)
    (rule : ∀ {H : Heap} {locs : List Loc} {cells slots : Nat} {ls : Array Slot} {rest : List Value} {w : Value}, w.category = 1 → W p l e R s m args below meth c H locs cells slots Q (F0 m (pc + 1) ls rest) → W p l e R s m args below meth c H locs cells slots Q (F0 m pc ls (w :: rest)))
    (hk : zp_G p l e R s m args below meth c Q E nL ads0 (pc + 1, lv, st, t)) : zp_G p l e R s m args below meth c Q E nL ads0 (pc, lv, v :: st, t) :=
  zx_st (fun {H locs cells slots ls ads stk} h => by
    obtain ⟨w, r, rfl, hw, q1⟩ := za_F2_cons h
    exact ⟨r, q1, rule ((zp_cat_ok hw).trans hc)⟩) hk
theorem zx_dup2 {u v : zp_V} (hu : zp_cat u = 1) (hc : zp_cat v = 1)
    (rule : ∀ {H : Heap} {locs : List Loc} {cells slots : Nat} {ls : Array Slot} {rest : List Value} {w x : Value}, w.category = 1 → x.category = 1 → W p l e R s m args below meth c H locs cells slots Q (F0 m (pc + 1) ls (w :: x :: w :: x :: rest)) → W p l e R s m args below meth c H locs cells slots Q (F0 m pc ls (w :: x :: rest)))
    (hk : zp_G p l e R s m args below meth c Q E nL ads0 (pc + 1, lv, u :: v :: u :: v :: st, t)) : zp_G p l e R s m args below meth c Q E nL ads0 (pc, lv, u :: v :: st, t) :=
  zx_st (fun {H locs cells slots ls ads stk} h => by
    obtain ⟨w, r, rfl, hw, q1⟩ := za_F2_cons h
    obtain ⟨x, r2, rfl, hx, q2⟩ := za_F2_cons q1
    exact ⟨w :: x :: w :: x :: r2, ⟨hw, hx, hw, hx, q2⟩, rule ((zp_cat_ok hw).trans hu) ((zp_cat_ok hx).trans hc)⟩) hk
theorem zx_i2l {x : Int32}
    (rule : ∀ {H : Heap} {locs : List Loc} {cells slots : Nat} {ls : Array Slot} {rest : List Value} {x : Int32}, W p l e R s m args below meth c H locs cells slots Q (F0 m (pc + 1) ls (.long x.toInt64 :: rest)) → W p l e R s m args below meth c H locs cells slots Q (F0 m pc ls (.int x :: rest)))
    (hk : zp_G p l e R s m args below meth c Q E nL ads0 (pc + 1, lv, .inr (.inl x.toInt64) :: st, t)) : zp_G p l e R s m args below meth c Q E nL ads0 (pc, lv, .inl x :: st, t) :=
  zx_st (fun {H locs cells slots ls ads stk} h => by
    obtain ⟨_, r, rfl, rfl, q1⟩ := za_F2_cons h
    exact ⟨_ :: r, ⟨rfl, q1⟩, rule⟩) hk
theorem zx_l2i {x : Int64}
    (rule : ∀ {H : Heap} {locs : List Loc} {cells slots : Nat} {ls : Array Slot} {rest : List Value} {x : Int64}, W p l e R s m args below meth c H locs cells slots Q (F0 m (pc + 1) ls (.int x.toInt32 :: rest)) → W p l e R s m args below meth c H locs cells slots Q (F0 m pc ls (.long x :: rest)))
    (hk : zp_G p l e R s m args below meth c Q E nL ads0 (pc + 1, lv, .inl x.toInt32 :: st, t)) : zp_G p l e R s m args below meth c Q E nL ads0 (pc, lv, .inr (.inl x) :: st, t) :=
  zx_st (fun {H locs cells slots ls ads stk} h => by
    obtain ⟨_, r, rfl, rfl, q1⟩ := za_F2_cons h
    exact ⟨_ :: r, ⟨rfl, q1⟩, rule⟩) hk
theorem zx_if2 {P : Int32 → Int32 → Prop} {o : Int} {x y : Int32}
    (rule : ∀ {g : Nat} {H : Heap} {locs : List Loc} {cells slots : Nat} {ls : Array Slot} {rest : List Value} {x z : Int32}, (pc : Int) + o = (g : Int) → (P x z → W p l e R s m args below meth c H locs cells slots Q (F0 m g ls rest)) → (¬ P x z → W p l e R s m args below meth c H locs cells slots Q (F0 m (pc + 3) ls rest)) → W p l e R s m args below meth c H locs cells slots Q (F0 m pc ls (.int z :: .int x :: rest)))
    {g : Nat} (hg : (pc : Int) + o = (g : Int)) (hy : P x y → zp_G p l e R s m args below meth c Q E nL ads0 (g, lv, st, t)) (hn : ¬ P x y → zp_G p l e R s m args below meth c Q E nL ads0 (pc + 3, lv, st, t)) : zp_G p l e R s m args below meth c Q E nL ads0 (pc, lv, .inl y :: .inl x :: st, t) := by
  intro ads H locs ls stk M
  obtain ⟨h1, h3, h4, h5, h6⟩ := M
  obtain ⟨_, stk1, rfl, rfl, q1⟩ := za_F2_cons h3
  obtain ⟨_, stk2, rfl, rfl, q2⟩ := za_F2_cons q1
  exact rule hg (fun h => hy h ads H locs ls stk2 ⟨h1, q2, h4, h5, h6⟩) (fun h => hn h ads H locs ls stk2 ⟨h1, q2, h4, h5, h6⟩)
theorem zx_lld
    (rule : ∀ {H : Heap} {locs : List Loc} {cells slots : Nat} {ls : Array Slot} {rest : List Value} {ws : va_W} {q a n : Nat} {f : Nat → Int64} {i : Int32}, va_P (za_D E) vwCl ws H → ws[q]? = some (a, .inl (E.2.2.2.1.2.2.2, n, .inr (.inl f))) → vp_in i n → W p l e R s m args below meth c H locs cells slots Q (F0 m (pc + 1) ls (.long (f i.toNatClampNeg) :: rest)) → W p l e R s m args below meth c H locs cells slots Q (F0 m pc ls (.int i :: .ref a :: rest)))
    (h : zp_lld pc lv st t = some (.inl S9)) (hk : zp_G p l e R s m args below meth c Q E nL ads0 S9) : zp_G p l e R s m args below meth c Q E nL ads0 (pc, lv, st, t) := by
  intro ads H locs ls stk M
  obtain ⟨h1, h3, h4, h5, h6⟩ := M
  unfold zp_lld at h
  split at h
  · rename_i i q rest
    split at h
    · rename_i n ho
      split at h
      · rename_i hc
        obtain ⟨c3, c4⟩ := hc
        obtain ⟨k1, k2, k3⟩ := zp_ix c3 c4
        obtain ⟨_, stk1, rfl, rfl, q1⟩ := za_F2_cons h3
        obtain ⟨_, stk2, rfl, ⟨a, rfl, ha⟩, q2⟩ := za_F2_cons q1
        obtain ⟨ws, x9, e1, e2, e3, e4, e5, e6, e7⟩ := zp_obj h5 ha ho
        match x9, e6, e7 with
        | .inl (cA, n', .inr (.inl f)), e6, e7 =>
          obtain ⟨rfl, -, rfl, f4⟩ := e7
          refine rule e4 e6 k1 (zx_go h hk ads H locs ls (_ :: stk2) ⟨h1, ⟨?_, q2⟩, h4, h5, h6⟩)
          rw [k2, f4 _ k3]
          rfl
        | .inl (cA, n', .inl f), e6, e7 => exact absurd e7.2.1 (by omega)
      · cases h
    · cases h
  · cases h
theorem zx_lst
    (rule : ∀ {H : Heap} {locs : List Loc} {cells slots : Nat} {ls : Array Slot} {rest : List Value} {ws : va_W} {q a n : Nat} {f : Nat → Int64} {i : Int32} {x : Int64}, va_P (za_D E) vwCl ws H → va_D (za_A E) ws → va_S (za_A E) s.heap H locs → ws[q]? = some (a, .inl (E.2.2.2.1.2.2.2, n, .inr (.inl f))) → vp_in i n →
      (∀ (H1 : Heap) (locs1 : List Loc), va_P (za_D E) vwCl (ws.set q (a, .inl (E.2.2.2.1.2.2.2, n, .inr (.inl (vp_updL f i.toNatClampNeg x))))) H1 → va_D (za_A E) (ws.set q (a, .inl (E.2.2.2.1.2.2.2, n, .inr (.inl (vp_updL f i.toNatClampNeg x))))) → va_S (za_A E) s.heap H1 locs1 → W p l e R s m args below meth c H1 locs1 cells slots Q (F0 m (pc + 1) ls rest)) → W p l e R s m args below meth c H locs cells slots Q (F0 m pc ls (.long x :: .int i :: .ref a :: rest)))
    (h : zp_lst pc lv st t = some (.inl S9)) (hk : zp_G p l e R s m args below meth c Q E nL ads0 S9) : zp_G p l e R s m args below meth c Q E nL ads0 (pc, lv, st, t) := by
  intro ads H locs ls stk M
  obtain ⟨h1, h3, h4, h5, h6⟩ := M
  unfold zp_lst at h
  split at h
  · rename_i x i q rest
    split at h
    · rename_i n ho
      split at h
      · rename_i hc
        obtain ⟨c3, c4⟩ := hc
        obtain ⟨k1, k2, k3⟩ := zp_ix c3 c4
        obtain ⟨_, stk1, rfl, rfl, q1⟩ := za_F2_cons h3
        obtain ⟨_, stk2, rfl, rfl, q2⟩ := za_F2_cons q1
        obtain ⟨_, stk3, rfl, ⟨a, rfl, ha⟩, q3⟩ := za_F2_cons q2
        obtain ⟨ws, x9, e1, e2, e3, e4, e5, e6, e7⟩ := zp_obj h5 ha ho
        match x9, e6, e7 with
        | .inl (cA, n', .inr (.inl f)), e6, e7 =>
          obtain ⟨rfl, f5, rfl, f4⟩ := e7
          refine rule (x := x) e4 e5 h6 e6 k1 (fun H1 locs1 g1 g2 g3 => ?_)
          refine zx_go h hk ads H1 locs1 ls stk3 ⟨h1, q3, h4, ?_, g3⟩
          refine zp_set e1 e2 e3 ho e6 rfl (fun _ _ _ => rfl) ?_ (fun _ _ _ => rfl) g1 g2 ⟨rfl, f5, rfl, fun j hj => ?_⟩
          · intro p9 hp9 k9
            exact zp_u_ne (fun hh => hp9 hh.1)
          · show vp_updL f i.toNatClampNeg x j = zp_u t.1.2.2.1 q i.toInt.toNat x q j
            rw [k2]
            unfold vp_updL zp_u
            by_cases hj9 : j = i.toInt.toNat
            · rw [if_pos hj9, if_pos ⟨rfl, hj9⟩]
            · rw [if_neg hj9, if_neg (fun hh => hj9 hh.2)]
              exact f4 j hj
        | .inl (cA, n', .inl f), e6, e7 => exact absurd e7.2.1 (by omega)
      · cases h
    · cases h
  · cases h
end ZT
end
section
/-! ===== iinc, goto, switches, conversions ===== -/
section ZU
variable {p : Program} {l : Launch} {e : Env} {R : Room} {s : State} {m : MethodId} {args : Array Value} {below : List Frame} {meth : Method} {c : Code} {Q : State → Prop} {E : za_E} {nL : Nat} {ads0 : List Nat} {pc : Nat} {lv : zp_LV} {t : zp_T} {st : List zp_V}
theorem zx_goto {o : Int} {g : Nat}
    (rule : ∀ {g : Nat} {H : Heap} {locs : List Loc} {cells slots : Nat} {ls : Array Slot} {rest : List Value}, (pc : Int) + o = (g : Int) → W p l e R s m args below meth c H locs cells slots Q (F0 m g ls rest) → W p l e R s m args below meth c H locs cells slots Q (F0 m pc ls rest))
    (hg : (pc : Int) + o = (g : Int)) (hk : zp_G p l e R s m args below meth c Q E nL ads0 (g, lv, st, t)) : zp_G p l e R s m args below meth c Q E nL ads0 (pc, lv, st, t) :=
  zx_st (st' := st) (fun {H locs cells slots ls ads stk} h => ⟨stk, h, rule hg⟩) hk
theorem zx_unI {x : Int32} (g : Int32 → Int32)
    (rule : ∀ {H : Heap} {locs : List Loc} {cells slots : Nat} {ls : Array Slot} {rest : List Value} {x : Int32}, W p l e R s m args below meth c H locs cells slots Q (F0 m (pc + 1) ls (.int (g x) :: rest)) → W p l e R s m args below meth c H locs cells slots Q (F0 m pc ls (.int x :: rest)))
    (hk : zp_G p l e R s m args below meth c Q E nL ads0 (pc + 1, lv, .inl (g x) :: st, t)) : zp_G p l e R s m args below meth c Q E nL ads0 (pc, lv, .inl x :: st, t) :=
  zx_st (fun {H locs cells slots ls ads stk} h => by
    obtain ⟨_, r, rfl, rfl, q1⟩ := za_F2_cons h
    exact ⟨_ :: r, ⟨rfl, q1⟩, rule⟩) hk
theorem zx_lcmp {x y : Int64}
    (rule : ∀ {H : Heap} {locs : List Loc} {cells slots : Nat} {ls : Array Slot} {rest : List Value} {x y : Int64}, W p l e R s m args below meth c H locs cells slots Q (F0 m (pc + 1) ls (.int (lg_cmp x y) :: rest)) → W p l e R s m args below meth c H locs cells slots Q (F0 m pc ls (.long y :: .long x :: rest)))
    (hk : zp_G p l e R s m args below meth c Q E nL ads0 (pc + 1, lv, .inl (lg_cmp x y) :: st, t)) : zp_G p l e R s m args below meth c Q E nL ads0 (pc, lv, .inr (.inl y) :: .inr (.inl x) :: st, t) :=
  zx_st (fun {H locs cells slots ls ads stk} h => by
    obtain ⟨_, r, rfl, rfl, q1⟩ := za_F2_cons h
    obtain ⟨_, r2, rfl, rfl, q2⟩ := za_F2_cons q1
    exact ⟨_ :: r2, ⟨rfl, q2⟩, rule⟩) hk
theorem zx_tswIn {lo hi off : Int} {offs : Array Int} {x : Int32} {g : Nat}
    (rule : ∀ {g : Nat} {off : Int} {H : Heap} {locs : List Loc} {cells slots : Nat} {ls : Array Slot} {rest : List Value} {x : Int32}, ¬ x.toInt < lo → ¬ hi < x.toInt → offs[(x.toInt - lo).toNat]? = some off → (pc : Int) + off = (g : Int) → W p l e R s m args below meth c H locs cells slots Q (F0 m g ls rest) → W p l e R s m args below meth c H locs cells slots Q (F0 m pc ls (.int x :: rest)))
    (h1 : ¬ x.toInt < lo) (h2 : ¬ hi < x.toInt) (ho : offs[(x.toInt - lo).toNat]? = some off) (hg : (pc : Int) + off = (g : Int)) (hk : zp_G p l e R s m args below meth c Q E nL ads0 (g, lv, st, t)) : zp_G p l e R s m args below meth c Q E nL ads0 (pc, lv, .inl x :: st, t) :=
  zx_st (fun {H locs cells slots ls ads stk} h => by
    obtain ⟨_, r, rfl, rfl, q1⟩ := za_F2_cons h
    exact ⟨r, q1, rule h1 h2 ho hg⟩) hk
theorem zx_tswOut {lo hi dflt : Int} {x : Int32} {g : Nat}
    (rule : ∀ {g : Nat} {H : Heap} {locs : List Loc} {cells slots : Nat} {ls : Array Slot} {rest : List Value} {x : Int32}, x.toInt < lo ∨ hi < x.toInt → (pc : Int) + dflt = (g : Int) → W p l e R s m args below meth c H locs cells slots Q (F0 m g ls rest) → W p l e R s m args below meth c H locs cells slots Q (F0 m pc ls (.int x :: rest)))
    (h1 : x.toInt < lo ∨ hi < x.toInt) (hg : (pc : Int) + dflt = (g : Int)) (hk : zp_G p l e R s m args below meth c Q E nL ads0 (g, lv, st, t)) : zp_G p l e R s m args below meth c Q E nL ads0 (pc, lv, .inl x :: st, t) :=
  zx_st (fun {H locs cells slots ls ads stk} h => by
    obtain ⟨_, r, rfl, rfl, q1⟩ := za_F2_cons h
    exact ⟨r, q1, rule h1 hg⟩) hk
theorem zx_lsw {dflt off : Int} {ps : Array (Int × Int)} {x : Int32} {g : Nat}
    (rule : ∀ {g : Nat} {off : Int} {H : Heap} {locs : List Loc} {cells slots : Nat} {ls : Array Slot} {rest : List Value} {x : Int32}, Op.lookupswitch.offset ps.toList dflt x.toInt = off → (pc : Int) + off = (g : Int) → W p l e R s m args below meth c H locs cells slots Q (F0 m g ls rest) → W p l e R s m args below meth c H locs cells slots Q (F0 m pc ls (.int x :: rest)))
    (ho : Op.lookupswitch.offset ps.toList dflt x.toInt = off) (hg : (pc : Int) + off = (g : Int)) (hk : zp_G p l e R s m args below meth c Q E nL ads0 (g, lv, st, t)) : zp_G p l e R s m args below meth c Q E nL ads0 (pc, lv, .inl x :: st, t) :=
  zx_st (fun {H locs cells slots ls ads stk} h => by
    obtain ⟨_, r, rfl, rfl, q1⟩ := za_F2_cons h
    exact ⟨r, q1, rule ho hg⟩) hk
theorem zx_iinc {i : Nat} {d : Int} {x : Int32} (hv : zp_get lv i = some (.inl x)) (hi : i < nL)
    (rule : ∀ {H : Heap} {locs : List Loc} {cells slots : Nat} {ls : Array Slot} {rest : List Value} {x : Int32} {k : Nat} {lc : List (Nat × Value)}, lv_has ls nL lc → lc[k]? = some (i, .int x) → i < nL → (∀ ls' : Array Slot, lv_has ls' nL ((i, Value.int (x + Int32.ofInt d)) :: lc.filter (fun q => !(q.1 == i) && !(q.1 + 1 == i && q.2.category == 2))) → W p l e R s m args below meth c H locs cells slots Q (F0 m (pc + 3) ls' rest)) → W p l e R s m args below meth c H locs cells slots Q (F0 m pc ls rest))
    (hk : zp_G p l e R s m args below meth c Q E nL ads0 (pc + 3, zp_st1 lv i (.inl (x + Int32.ofInt d)), st, t)) : zp_G p l e R s m args below meth c Q E nL ads0 (pc, lv, st, t) := by
  intro ads H locs ls stk M
  obtain ⟨h1, h3, ⟨lc, l1, l2⟩, h5, h6⟩ := M
  obtain ⟨w, w1, w2⟩ := zp_get_ok l2 hv
  have hw : w = .int x := w2
  subst hw
  obtain ⟨k, hk9⟩ := List.getElem?_of_mem w1
  exact rule l1 hk9 hi (fun ls' l1' => hk ads H locs ls' stk ⟨h1, h3, ⟨_, l1', zp_st1_ok (w := .int (x + Int32.ofInt d)) l2 rfl⟩, h5, h6⟩)
end ZU
end
section
/-! ===== the exact interpreter: every instruction; a method's run; calls ===== -/
def zp_wt : List zp_V → Nat
  | [] => 0
  | v :: l => zp_cat v + zp_wt l
def zp_ua {α : Type} (f : Nat → Nat → α) (p : Nat) (g : Nat → α) : Nat → Nat → α := fun q i => if q = p then g i else f q i
def zp_iinc (i nL : Nat) (d : Int) (pc : Nat) (lv : zp_LV) (st : List zp_V) (t : zp_T) : zp_N := match zp_get lv i with
  | some (.inl x) => bif Nat.blt i nL then zp_go (zp_st1 lv i (.inl (x + Int32.ofInt d))) t (pc + 3) st else none
  | _ => none
def zp_acp (pc : Nat) (lv : zp_LV) (st : List zp_V) (t : zp_T) : zp_N := match st with
  | .inl cn :: .inl dp :: .inr (.inr (some (q1 + 1))) :: .inl sp :: .inr (.inr (some (q0 + 1))) :: rest => match t.1.1[q0]?, t.1.1[q1]? with
    | some (.inr (0, n0)), some (.inr (0, n1)) => if 0 ≤ cn.toInt ∧ 0 ≤ dp.toInt ∧ 0 ≤ sp.toInt ∧ sp.toInt + cn.toInt ≤ n0 ∧ dp.toInt + cn.toInt ≤ n1 ∧ zp_wt rest ≤ 8 then zp_go lv ((t.1.1, zp_ua t.1.2.1 q1 (va_cpy (t.1.2.1 q0) (t.1.2.1 q1) sp.toInt.toNat dp.toInt.toNat cn.toInt.toNat), t.1.2.2), t.2) (pc + 3) rest else none
    | _, _ => none
  | _ => none
def zp_jmp (o : Int) (pc : Nat) (lv : zp_LV) (st : List zp_V) (t : zp_T) : zp_N := match zp_to o pc with
  | some g => zp_go lv t g st
  | none => none
def zp_br (b : Bool) (o : Int) (pc : Nat) (lv : zp_LV) (st : List zp_V) (t : zp_T) : zp_N := match zp_to o pc with
  | some g => zp_go lv t (bif b then g else pc + 3) st
  | none => none
def zp_if1 (f : Int32 → Bool) (o : Int) (pc : Nat) (lv : zp_LV) (st : List zp_V) (t : zp_T) : zp_N := match st with
  | .inl x :: r => zp_br (f x) o pc lv r t
  | _ => none
def zp_if2 (f : Int32 → Int32 → Bool) (o : Int) (pc : Nat) (lv : zp_LV) (st : List zp_V) (t : zp_T) : zp_N := match st with
  | .inl y :: .inl x :: r => zp_br (f x y) o pc lv r t
  | _ => none
def zp_tsw (dflt lo hi : Int) (offs : Array Int) (pc : Nat) (lv : zp_LV) (st : List zp_V) (t : zp_T) : zp_N := match st with
  | .inl x :: r => if x.toInt < lo ∨ hi < x.toInt then zp_jmp dflt pc lv r t else match offs[(x.toInt - lo).toNat]? with
    | some off => zp_jmp off pc lv r t
    | none => none
  | _ => none
def zp_lsw (dflt : Int) (ps : Array (Int × Int)) (pc : Nat) (lv : zp_LV) (st : List zp_V) (t : zp_T) : zp_N := match st with
  | .inl x :: r => bif (ps.toList.zip (ps.toList.drop 1)).all (fun (a, next) => a.1 < next.1) then zp_jmp (Op.lookupswitch.offset ps.toList dflt x.toInt) pc lv r t else none
  | _ => none
def zp_unI (g : Int32 → Int32) (pc : Nat) (lv : zp_LV) (st : List zp_V) (t : zp_T) : zp_N := match st with
  | .inl x :: r => zp_go lv t (pc + 1) (.inl (g x) :: r)
  | _ => none
def zp_i2l (pc : Nat) (lv : zp_LV) (st : List zp_V) (t : zp_T) : zp_N := match st with
  | .inl x :: r => zp_go lv t (pc + 1) (.inr (.inl x.toInt64) :: r)
  | _ => none
def zp_l2i (pc : Nat) (lv : zp_LV) (st : List zp_V) (t : zp_T) : zp_N := match st with
  | .inr (.inl x) :: r => zp_go lv t (pc + 1) (.inl x.toInt32 :: r)
  | _ => none
def zp_lcmp (pc : Nat) (lv : zp_LV) (st : List zp_V) (t : zp_T) : zp_N := match st with
  | .inr (.inl y) :: .inr (.inl x) :: r => zp_go lv t (pc + 1) (.inl (lg_cmp x y) :: r)
  | _ => none
def zp_dup (pc : Nat) (lv : zp_LV) (st : List zp_V) (t : zp_T) : zp_N := match st with
  | v :: r => bif Nat.beq (zp_cat v) 1 then zp_go lv t (pc + 1) (v :: v :: r) else none
  | _ => none
def zp_pop (pc : Nat) (lv : zp_LV) (st : List zp_V) (t : zp_T) : zp_N := match st with
  | v :: r => bif Nat.beq (zp_cat v) 1 then zp_go lv t (pc + 1) r else none
  | _ => none
def zp_dup2 (pc : Nat) (lv : zp_LV) (st : List zp_V) (t : zp_T) : zp_N := match st with
  | u :: v :: r => bif Nat.beq (zp_cat u) 1 then bif Nat.beq (zp_cat v) 1 then zp_go lv t (pc + 1) (u :: v :: u :: v :: r) else none else none
  | _ => none
/-- the words that the reader knows, as bytes -/
def zp_spell : List Nat := [110, 111, 114, 116, 104, 32, 101, 97, 115, 116, 32, 115, 111, 117, 116, 104, 32, 119, 101, 115, 116, 32, 120, 32, 121, 32, 104, 111, 117, 114, 32, 116, 105, 100, 101, 32, 111, 114, 32, 97, 110, 100, 32, 110, 111, 116, 32, 103, 111, 32, 115, 101, 97, 32, 114, 111, 99, 107, 32, 99, 117, 114, 114, 101, 110, 116, 32, 115, 108, 97, 116, 101, 32, 104, 97, 110, 100, 32, 115, 99, 104, 111, 111, 108, 32, 103, 111, 97, 108, 32, 112, 105, 108, 111, 116, 32, 114, 117, 108, 101, 32]
/-- a text's length, or a letter of it: ldc, then length() or a local and charAt() -/
def zp_str (cl k : Nat) (is : List (Nat × Instr)) (pc : Nat) (lv : zp_LV) (st : List zp_V) (t : zp_T) : zp_N :=
  bif Nat.beq cl 9 then bif Nat.beq k 56 then bif Nat.ble (zp_wt st) 8 then match za_fe is (pc + 2) with
    | some (.invokevirtual j) => bif Nat.beq j 58 then zp_go lv t (pc + 5) (.inl (Int32.ofNat zp_spell.length) :: st) else none
    | some (.iload_n i) => match za_fe is (pc + 3), zp_get lv i.val with
      | some (.invokevirtual j), some (.inl x) => bif Nat.beq j 63 then if 0 ≤ x.toInt ∧ x.toInt < zp_spell.length then zp_go lv t (pc + 6) (.inl (Int32.ofNat (zp_spell.getD x.toInt.toNat 0)) :: st) else none else none
      | _, _ => none
    | _ => none
    else none else none else none
def zp_ldc (n : Nat) (r : Option za_row) (pc : Nat) (lv : zp_LV) (st : List zp_V) (t : zp_T) : zp_N := match r with
  | some (7, _, _, v) => zp_go lv t (pc + n) (.inl (Int32.ofInt v) :: st)
  | _ => none
def zp_ldc2 (r : Option za_row) (pc : Nat) (lv : zp_LV) (st : List zp_V) (t : zp_T) : zp_N := match r with
  | some (8, _, _, v) => zp_go lv t (pc + 3) (.inr (.inl (Int64.ofInt v)) :: st)
  | _ => none
def zp_ins (L : Nat) (σ : Nat → Int32) (M : za_MI) (cp : Nat → Option za_row) (i : Instr) (pc : Nat) (lv : zp_LV) (st : List zp_V) (t : zp_T) : zp_N := match i with
  | .iconst k => zp_go lv t (pc + 1) (.inl (Int32.ofInt k) :: st)
  | .bipush k => bif za_ile (-128) k then bif za_ile k 127 then zp_go lv t (pc + 2) (.inl (Int32.ofInt k) :: st) else none else none
  | .sipush k => zp_go lv t (pc + 3) (.inl (Int16.ofInt k).toInt32 :: st)
  | .lconst k => zp_go lv t (pc + 1) (.inr (.inl (Int64.ofNat k)) :: st)
  | .ldc k => bif Nat.beq k 56 then zp_str (za_cl M) k (za_is M) pc lv st t else zp_ldc 2 (cp k) pc lv st t
  | .ldc_w k => zp_ldc 3 (cp k) pc lv st t
  | .ldc2_w k => zp_ldc2 (cp k) pc lv st t
  | .iload k => zp_load 2 k zp_isI pc lv st t
  | .iload_n k => zp_load 1 k zp_isI pc lv st t
  | .lload k => zp_load 2 k zp_isL pc lv st t
  | .lload_n k => zp_load 1 k zp_isL pc lv st t
  | .aload k => zp_load 2 k zp_isR pc lv st t
  | .aload_n k => zp_load 1 k zp_isR pc lv st t
  | .istore k => zp_stor1 2 k (za_nL M) zp_isI pc lv st t
  | .istore_n k => zp_stor1 1 k (za_nL M) zp_isI pc lv st t
  | .astore k => zp_stor1 2 k (za_nL M) zp_isR pc lv st t
  | .astore_n k => zp_stor1 1 k (za_nL M) zp_isR pc lv st t
  | .lstore k => zp_stor2 2 k (za_nL M) pc lv st t
  | .lstore_n k => zp_stor2 1 k (za_nL M) pc lv st t
  | .iinc k d => zp_iinc k (za_nL M) d pc lv st t
  | .iadd => zp_binI (· + ·) pc lv st t
  | .isub => zp_binI (· - ·) pc lv st t
  | .imul => zp_binI (· * ·) pc lv st t
  | .iand => zp_binI (· &&& ·) pc lv st t
  | .ior => zp_binI (· ||| ·) pc lv st t
  | .ixor => zp_binI (· ^^^ ·) pc lv st t
  | .ishl => zp_binI (fun x y => x <<< (y &&& 31)) pc lv st t
  | .ishr => zp_binI (fun x y => x >>> (y &&& 31)) pc lv st t
  | .iushr => zp_binI (fun x y => (x.toUInt32 >>> (y.toUInt32 &&& Int32.toUInt32 31)).toInt32) pc lv st t
  | .idiv => zp_divI (· / ·) pc lv st t
  | .irem => zp_divI (fun x y => x - x / y * y) pc lv st t
  | .i2b => zp_unI (fun x => x.toInt8.toInt32) pc lv st t
  | .ineg => zp_unI (fun x => -x) pc lv st t
  | .ladd => zp_binL (· + ·) pc lv st t
  | .lsub => zp_binL (· - ·) pc lv st t
  | .lmul => zp_binL (· * ·) pc lv st t
  | .land => zp_binL (· &&& ·) pc lv st t
  | .lor => zp_binL (· ||| ·) pc lv st t
  | .lxor => zp_binL (· ^^^ ·) pc lv st t
  | .lshl => zp_shL za_shl0 pc lv st t
  | .lshr => zp_shL za_shr0 pc lv st t
  | .lushr => zp_shL za_ushr0 pc lv st t
  | .i2l => zp_i2l pc lv st t
  | .l2i => zp_l2i pc lv st t
  | .lcmp => zp_lcmp pc lv st t
  | .dup => zp_dup pc lv st t
  | .pop => zp_pop pc lv st t
  | .dup2 => zp_dup2 pc lv st t
  | .ifCond .eq o => zp_if1 (fun x => decide (x = 0)) o pc lv st t
  | .ifCond .ne o => zp_if1 (fun x => decide (¬ x = 0)) o pc lv st t
  | .ifCond .lt o => zp_if1 (fun x => decide (x < 0)) o pc lv st t
  | .ifCond .ge o => zp_if1 (fun x => decide (0 ≤ x)) o pc lv st t
  | .ifCond .gt o => zp_if1 (fun x => decide (0 < x)) o pc lv st t
  | .ifCond .le o => zp_if1 (fun x => decide (x ≤ 0)) o pc lv st t
  | .if_icmp .eq o => zp_if2 (fun x y => decide (x = y)) o pc lv st t
  | .if_icmp .ne o => zp_if2 (fun x y => decide (¬ x = y)) o pc lv st t
  | .if_icmp .lt o => zp_if2 (fun x y => decide (x < y)) o pc lv st t
  | .if_icmp .ge o => zp_if2 (fun x y => decide (y ≤ x)) o pc lv st t
  | .if_icmp .gt o => zp_if2 (fun x y => decide (y < x)) o pc lv st t
  | .if_icmp .le o => zp_if2 (fun x y => decide (x ≤ y)) o pc lv st t
  | .goto o => zp_jmp o pc lv st t
  | .tableswitch d lo hi os => zp_tsw d lo hi os pc lv st t
  | .lookupswitch d ps => zp_lsw d ps pc lv st t
  | .getfield k => zp_getf (cp k) pc lv st t
  | .putfield k => zp_putf (cp k) (za_cl M) (za_ini M) pc lv st t
  | .iaload => zp_ald L σ false pc lv st t
  | .baload => zp_ald L σ true pc lv st t
  | .iastore => zp_ast false pc lv st t
  | .bastore => zp_ast true pc lv st t
  | .laload => zp_lld pc lv st t
  | .lastore => zp_lst pc lv st t
  | .arraylength => zp_alen L pc lv st t
  | .invokestatic k => match cp k with
    | some (14, _, _, _) => zp_acp pc lv st t
    | _ => none
  | _ => none
/-! ends -/
def zp_iret (mc ms : Nat) (rt : Option FieldType) (st : List zp_V) (t : zp_T) : Option zp_X := match rt, st with
  | some .int, [.inl a] => if t.2.1 ≤ mc ∧ t.2.2 ≤ ms then some (.inl (some (.inl a)), t.1) else none
  | some .boolean, [.inl a] => if (t.2.1 ≤ mc ∧ t.2.2 ≤ ms) ∧ (a = 0 ∨ a = 1) then some (.inl (some (.inl a)), t.1) else none
  | _, _ => none
def zp_lret (mc ms : Nat) (rt : Option FieldType) (st : List zp_V) (t : zp_T) : Option zp_X := match rt, st with
  | some .long, [.inr (.inl a)] => if t.2.1 ≤ mc ∧ t.2.2 ≤ ms then some (.inl (some (.inr (.inl a))), t.1) else none
  | _, _ => none
def zp_vret (mc ms : Nat) (rt : Option FieldType) (st : List zp_V) (t : zp_T) : Option zp_X := match rt, st with
  | none, [] => if t.2.1 ≤ mc ∧ t.2.2 ≤ ms then some (.inl none, t.1) else none
  | _, _ => none
def zp_thr (mc ms : Nat) (tab : List (Nat × Instr)) (cp : Nat → Option za_row) (ex : Nat) (pc : Nat) (st : List zp_V) (t : zp_T) : Option zp_X := match za_fe tab (pc + 3), za_fe tab (pc + 4) with
  | some .dup, some (.ldc is) => match za_fe tab (pc + 6), za_fe tab (pc + 9) with
    | some (.invokespecial ic), some .athrow => match cp is, cp ic with
      | some (10, _, _, _), some (15, ex', _, _) => if ex' = ex ∧ zp_wt st ≤ 8 ∧ t.2.1 + 1 ≤ mc ∧ t.2.2 + 6 ≤ ms then some (.inr ex, t.1) else none
      | _, _ => none
    | _, _ => none
  | some .dup, some (.ldc_w is) => match za_fe tab (pc + 7), za_fe tab (pc + 10) with
    | some (.invokespecial ic), some .athrow => match cp is, cp ic with
      | some (10, _, _, _), some (15, ex', _, _) => if ex' = ex ∧ zp_wt st ≤ 8 ∧ t.2.1 + 1 ≤ mc ∧ t.2.2 + 6 ≤ ms then some (.inr ex, t.1) else none
      | _, _ => none
    | _, _ => none
  | _, _ => none
def zp_end (M : za_MI) (cp : Nat → Option za_row) (i : Instr) (pc : Nat) (st : List zp_V) (t : zp_T) : Option zp_X := match i with
  | .ireturn => zp_iret (za_mc M) (za_ms M) (za_rt M) st t
  | .lreturn => zp_lret (za_mc M) (za_ms M) (za_rt M) st t
  | .return_ => zp_vret (za_mc M) (za_ms M) (za_rt M) st t
  | .new k => match cp k, za_hh M with
    | some (6, ex, _, _), [] => zp_thr (za_mc M) (za_ms M) (za_is M) cp ex pc st t
    | _, _ => none
  | _ => none
/-! calls -/
/-- the receiver is an object of this kind -/
def zp_isRk (st : List zp_V) (k : Nat) (h : zp_H) (own : Nat) : Bool := match st[k]? with
  | some (.inr (.inr (some (q + 1)))) => match h.1[q]? with
    | some (.inl ci) => Nat.beq ci own
    | _ => false
  | _ => false
/-- may it throw? its number, how many values it takes, the method -/
def zp_cl (cp : Nat → Option za_row) (i : Instr) (st : List zp_V) (t : zp_T) : Option (Bool × Nat × Nat × za_MI) := match i with
  | .invokevirtual k => match cp k with
    | some (1, j, n, _) => match za_MT j with
      | some Y => bif zp_isRk st n t.1 (za_cl Y) then some (false, j, n + 1, Y) else none
      | none => none
    | some (11, j, n, _) => match za_MT j with
      | some Y => bif zp_isRk st n t.1 (za_cl Y) then some (true, j, n + 1, Y) else none
      | none => none
    | _ => none
  | .invokestatic k => match cp k with
    | some (2, j, n, _) => match za_MT j with
      | some Y => some (false, j, n, Y)
      | none => none
    | some (12, j, n, _) => match za_MT j with
      | some Y => some (true, j, n, Y)
      | none => none
    | _ => none
  | _ => none
abbrev zp_C : Type := Nat → List zp_V → zp_H → zp_X → Prop
def zp_pre (M Y : za_MI) (k : Nat) (st : List zp_V) (t : zp_T) : Prop := k ≤ st.length ∧ zp_wt (st.drop k) ≤ 8 ∧ t.2.1 + za_mc Y ≤ za_mc M ∧ t.2.2 + za_ms Y ≤ za_ms M
/-- the exception's own local is forgotten -/
def zp_fl (lv : zp_LV) (k : Nat) : zp_LV := lv.filter (fun q => !(q.1 == k) && !(q.1 + 1 == k && zp_cat q.2 == 2))
def zp_aft (M : za_MI) (cp : Nat → Option za_row) (pc : Nat) (lv : zp_LV) (rest : List zp_V) (cs sl : Nat) (x : zp_X) : Option (zp_S ⊕ zp_X) := match x with
  | (.inl (some v), h) => some (.inl (pc + 3, lv, v :: rest, h, cs, sl))
  | (.inl none, h) => some (.inl (pc + 3, lv, rest, h, cs, sl))
  | (.inr ex, h) => match za_hnd cp pc ex (za_hh M) with
    | none => none
    | some none => some (.inr (.inr ex, h))
    | some (some hp) => match za_fe (za_is M) hp with
      | some (.astore_n k) => bif Nat.blt k.val (za_nL M) then some (.inl (hp + 1, zp_fl lv k.val, [], h, cs, sl)) else none
      | some (.astore k) => bif Nat.blt k (za_nL M) then some (.inl (hp + 2, zp_fl lv k, [], h, cs, sl)) else none
      | _ => none
def zp_nox (x : zp_X) : Prop := match x.1 with
  | .inl _ => True
  | .inr _ => False
/-- it goes on there, or this is the end -/
def zp_K1 (R : zp_S → zp_X → Prop) (o : Option (zp_S ⊕ zp_X)) (X : zp_X) : Prop := match o with
  | some (.inl S) => R S X
  | some (.inr X') => X' = X
  | none => False
def zp_Stp (L : Nat) (σ : Nat → Int32) (M : za_MI) (C : zp_C) (R : zp_S → zp_X → Prop) (S : zp_S) (X : zp_X) : Prop := ∃ i, za_fe (za_is M) S.1 = some i ∧
  ((∃ S', zp_ins L σ M (za_CP (za_cl M)) i S.1 S.2.1 S.2.2.1 S.2.2.2 = some (.inl S') ∧ R S' X) ∨ zp_end M (za_CP (za_cl M)) i S.1 S.2.2.1 S.2.2.2 = some X ∨
    ∃ nx j k Y X1, zp_cl (za_CP (za_cl M)) i S.2.2.1 S.2.2.2 = some (nx, j, k, Y) ∧ zp_pre M Y k S.2.2.1 S.2.2.2 ∧ C j (S.2.2.1.take k).reverse S.2.2.2.1 X1 ∧ (nx = true → zp_nox X1) ∧ zp_K1 R (zp_aft M (za_CP (za_cl M)) S.1 S.2.1 (S.2.2.1.drop k) (S.2.2.2.2.1 + za_mc Y) (S.2.2.2.2.2 + za_ms Y) X1) X)
def zp_RunN (L : Nat) (σ : Nat → Int32) (M : za_MI) (C : zp_C) : Nat → zp_S → zp_X → Prop
  | 0 => fun _ _ => False
  | n + 1 => zp_Stp L σ M C (zp_RunN L σ M C n)
def zp_args : Nat → List zp_V → zp_LV
  | _, [] => []
  | i, v :: vs => (i, v) :: zp_args (if zp_cat v = 2 then i + 2 else i + 1) vs
def zp_Call (L : Nat) (σ : Nat → Int32) : Nat → zp_C
  | 0 => fun _ _ _ _ => False
  | d + 1 => fun j as h X => ∃ Y n, za_MT j = some Y ∧ zp_wt as ≤ za_nL Y ∧ zp_RunN L σ Y (zp_Call L σ d) n (0, zp_args 0 as, [], h, 0, 0) X
end
section
/-! ===== the exact interpreter is sound: every instruction that doesn't end ===== -/
/-- the text's length and letters, as the reader asks for them (shown in a part of its own) -/
def zp_strOK (l : Launch) (E : za_E) (L : Nat) (s0 : State) : Prop := ∀ (p : Program) (e : Env) (R : Room) (s : State) (m : MethodId) (args : Array Value) (below : List Frame) (meth : Method) (c : Code) (Q : State → Prop) (ads0 : List Nat) (d pc k : Nat) (M : za_MI) (lv : zp_LV) (st : List zp_V) (t : zp_T) (S9 : zp_S),
  za_Cx p l R s m args meth c E L s0 d M → decode M.2.1 pc = .ok (.ldc k, 2) → zp_str (za_cl M) k (za_is M) pc lv st t = some (.inl S9) → zp_G p l e R s m args below meth c Q E (za_nL M) ads0 S9 → zp_G p l e R s m args below meth c Q E (za_nL M) ads0 (pc, lv, st, t)
theorem zp_jmpE {o : Int} {pc : Nat} {lv : zp_LV} {st : List zp_V} {t : zp_T} {S9 : zp_S} (h : zp_jmp o pc lv st t = some (.inl S9)) : ∃ g : Nat, (pc : Int) + o = (g : Int) ∧ zp_go lv t g st = some (.inl S9) := by
  unfold zp_jmp at h
  split at h
  · rename_i g hg
    refine ⟨g, ?_, h⟩
    unfold zp_to at hg
    split at hg
    · rename_i g9 h9
      cases hg
      exact h9
    · cases hg
  · cases h
theorem zp_brE {b : Bool} {o : Int} {pc : Nat} {lv : zp_LV} {st : List zp_V} {t : zp_T} {S9 : zp_S} (h : zp_br b o pc lv st t = some (.inl S9)) : ∃ g : Nat, zp_to o pc = some g ∧ (pc : Int) + o = (g : Int) ∧ zp_go lv t (bif b then g else pc + 3) st = some (.inl S9) := by
  unfold zp_br at h
  split at h
  · rename_i g hg
    refine ⟨g, hg, ?_, h⟩
    unfold zp_to at hg
    split at hg
    · rename_i g9 h9
      cases hg
      exact h9
    · cases hg
  · cases h
theorem zx_isI {ads : List Nat} {v : zp_V} {w : Value} (hf : zp_isI v = true) (h : zp_gV ads v w) : ∃ x, w = .int x := by
  match v, hf, h with
  | .inl x, _, h => exact ⟨x, h⟩
theorem zx_isL {ads : List Nat} {v : zp_V} {w : Value} (hf : zp_isL v = true) (h : zp_gV ads v w) : ∃ x, w = .long x := by
  match v, hf, h with
  | .inr (.inl x), _, h => exact ⟨x, h⟩
theorem zx_isR {ads : List Nat} {v : zp_V} {w : Value} (hf : zp_isR v = true) (h : zp_gV ads v w) : ∃ a, w = .ref a := by
  match v, hf, h with
  | .inr (.inr (some k)), _, ⟨a, h, _⟩ => exact ⟨a, h⟩
theorem zp_wt_ok : ∀ {ads : List Nat} {st : List zp_V} {stk : List Value}, za_F2 (zp_gV ads) st stk → (stk.map fun v => v.category).sum = zp_wt st
  | _, [], [], _ => rfl
  | _, v :: st, w :: stk, h => by
    have h1 := zp_wt_ok h.2
    have h2 := zp_cat_ok h.1
    show w.category + (stk.map fun v => v.category).sum = zp_cat v + zp_wt st
    omega
  | _, [], _ :: _, h => h.elim
  | _, _ :: _, [], h => h.elim
theorem zp_by8 {k : Int} (h1 : -128 ≤ k) (h2 : k ≤ 127) : (Int8.ofInt k).toInt32 = Int32.ofInt k := by
  apply Int32.toInt_inj.mp
  rw [Int8.toInt_toInt32, Int8.toInt_ofInt, Int32.toInt_ofInt]
  have e1 : k.bmod Int8.size = k := by
    show k.bmod 256 = k
    rw [Int.bmod_def]; split <;> omega
  have e2 : k.bmod Int32.size = k := by
    show k.bmod 4294967296 = k
    rw [Int.bmod_def]; split <;> omega
  rw [e1, e2]
section ZV
variable {p : Program} {l : Launch} {e : Env} {R : Room} {s s0 : State} {m : MethodId} {args : Array Value} {below : List Frame} {meth : Method} {c : Code} {Q : State → Prop} {E : za_E} {nL : Nat} {ads0 : List Nat} {pc L d : Nat} {M : za_MI} {lv : zp_LV} {t : zp_T} {st : List zp_V} {S9 : zp_S}
theorem zy_if1 {f : Int32 → Bool} {P : Int32 → Prop} (hf : ∀ x, f x = true ↔ P x) {o : Int}
    (rule : ∀ {g : Nat} {H : Heap} {locs : List Loc} {cells slots : Nat} {ls : Array Slot} {rest : List Value} {x : Int32}, (pc : Int) + o = (g : Int) → (P x → W p l e R s m args below meth c H locs cells slots Q (F0 m g ls rest)) → (¬ P x → W p l e R s m args below meth c H locs cells slots Q (F0 m (pc + 3) ls rest)) → W p l e R s m args below meth c H locs cells slots Q (F0 m pc ls (.int x :: rest)))
    (h : zp_if1 f o pc lv st t = some (.inl S9)) (hk : zp_G p l e R s m args below meth c Q E nL ads0 S9) : zp_G p l e R s m args below meth c Q E nL ads0 (pc, lv, st, t) := by
  unfold zp_if1 at h
  split at h
  · rename_i x r
    obtain ⟨g, hg, -, h⟩ := zp_brE h
    refine zx_if1 (P := P) rule hg (fun hp => ?_) (fun hn => ?_)
    · rw [(hf x).mpr hp] at h
      exact zx_go h hk
    · rw [show f x = false from Bool.eq_false_iff.mpr (fun z => hn ((hf x).mp z))] at h
      exact zx_go h hk
  · cases h
theorem zy_if2 {f : Int32 → Int32 → Bool} {P : Int32 → Int32 → Prop} (hf : ∀ x y, f x y = true ↔ P x y) {o : Int}
    (rule : ∀ {g : Nat} {H : Heap} {locs : List Loc} {cells slots : Nat} {ls : Array Slot} {rest : List Value} {x z : Int32}, (pc : Int) + o = (g : Int) → (P x z → W p l e R s m args below meth c H locs cells slots Q (F0 m g ls rest)) → (¬ P x z → W p l e R s m args below meth c H locs cells slots Q (F0 m (pc + 3) ls rest)) → W p l e R s m args below meth c H locs cells slots Q (F0 m pc ls (.int z :: .int x :: rest)))
    (h : zp_if2 f o pc lv st t = some (.inl S9)) (hk : zp_G p l e R s m args below meth c Q E nL ads0 S9) : zp_G p l e R s m args below meth c Q E nL ads0 (pc, lv, st, t) := by
  unfold zp_if2 at h
  split at h
  · rename_i y x r
    obtain ⟨g, -, hg, h⟩ := zp_brE h
    refine zx_if2 (P := P) rule hg (fun hp => ?_) (fun hn => ?_)
    · rw [(hf x y).mpr hp] at h
      exact zx_go h hk
    · rw [show f x y = false from Bool.eq_false_iff.mpr (fun z => hn ((hf x y).mp z))] at h
      exact zx_go h hk
  · cases h
theorem zy_acp
    (rule : ∀ {H : Heap} {locs : List Loc} {cells slots : Nat} {ls : Array Slot} {rest : List Value} {ws : va_W} {q0 q1 a0 a n0 n1 : Nat} {f g : Nat → Int32} {sp dp n : Int32}, ls.size = nL → va_P (za_D E) vwCl ws H → va_D (za_A E) ws → va_S (za_A E) s.heap H locs → ws[q0]? = some (a0, .inl (za_tc E 0, n0, .inl f)) → ws[q1]? = some (a, .inl (za_tc E 0, n1, .inl g)) → ¬ sp < 0 → ¬ dp < 0 → ¬ n < 0 → sp.toNatClampNeg + n.toNatClampNeg ≤ n0 → dp.toNatClampNeg + n.toNatClampNeg ≤ n1 → (rest.map fun v => v.category).sum ≤ 8 →
      (∀ (H1 : Heap) (locs1 : List Loc), va_P (za_D E) vwCl (ws.set q1 (a, .inl (za_tc E 0, n1, .inl (va_cpy f g sp.toNatClampNeg dp.toNatClampNeg n.toNatClampNeg)))) H1 → va_D (za_A E) (ws.set q1 (a, .inl (za_tc E 0, n1, .inl (va_cpy f g sp.toNatClampNeg dp.toNatClampNeg n.toNatClampNeg)))) → va_S (za_A E) s.heap H1 locs1 → W p l e R s m args below meth c H1 locs1 cells slots Q (F0 m (pc + 3) ls rest)) → W p l e R s m args below meth c H locs cells slots Q (F0 m pc ls (.int n :: .int dp :: .ref a :: .int sp :: .ref a0 :: rest)))
    (h : zp_acp pc lv st t = some (.inl S9)) (hk : zp_G p l e R s m args below meth c Q E nL ads0 S9) : zp_G p l e R s m args below meth c Q E nL ads0 (pc, lv, st, t) := by
  intro ads H locs ls stk M
  obtain ⟨h1, h3, h4, h5, h6⟩ := M
  unfold zp_acp at h
  split at h
  · rename_i cn dp r1 sp r0 rest
    split at h
    · rename_i n0 n1 o0 o1
      split at h
      · rename_i hc
        obtain ⟨c1, c2, c3, c4, c5, c6⟩ := hc
        obtain ⟨_, stk1, rfl, rfl, q1⟩ := za_F2_cons h3
        obtain ⟨_, stk2, rfl, rfl, q2⟩ := za_F2_cons q1
        obtain ⟨_, stk3, rfl, ⟨a, rfl, ha⟩, q3⟩ := za_F2_cons q2
        obtain ⟨_, stk4, rfl, rfl, q4⟩ := za_F2_cons q3
        obtain ⟨_, stk5, rfl, ⟨a0, rfl, ha0⟩, q5⟩ := za_F2_cons q4
        have k0 : ∀ {x : Int32}, 0 ≤ x.toInt → x.toInt = Int.ofNat x.toInt.toNat := fun {x} hx => by
          show x.toInt = ((x.toInt.toNat : Nat) : Int)
          omega
        obtain ⟨cn1, cn2⟩ := za_clamp (k0 c1)
        obtain ⟨cd1, cd2⟩ := za_clamp (k0 c2)
        obtain ⟨cs1, cs2⟩ := za_clamp (k0 c3)
        obtain ⟨ws, x0, e1, e2, e3, e4, e5, e6, e7⟩ := zp_obj h5 ha0 o0
        have hx1 : ∃ x1, ws[r1]? = some (a, x1) := by
          rw [e1, List.getElem?_cons_succ, List.getElem?_map] at ha
          cases hx : ws[r1]? with
          | none => rw [hx] at ha; cases ha
          | some q =>
            rw [hx] at ha
            have e9 : q.1 = a := Option.some.inj ha
            exact ⟨q.2, by rw [← e9]⟩
        obtain ⟨x1, z4⟩ := hx1
        have e8 := e3 _ _ _ o1 z4
        match x0, e6, e7, x1, z4, e8 with
        | .inl (cA, n', .inl f), e6, e7, .inl (cB, n'', .inl g), z4, e8 =>
          obtain ⟨rfl, -, rfl, f4⟩ := e7
          obtain ⟨rfl, -, rfl, g4⟩ := e8
          refine rule h4.choose_spec.1.1 e4 e5 h6 e6 z4 cs2 cd2 cn2 (by rw [cs1, cn1]; omega) (by rw [cd1, cn1]; omega) (by rw [zp_wt_ok q5]; exact c6) (fun H1 locs1 g1 g2 g3 => ?_)
          refine zx_go h hk ads H1 locs1 ls stk5 ⟨h1, q5, h4, ?_, g3⟩
          refine zp_set e1 e2 e3 o1 z4 rfl ?_ (fun _ _ _ => rfl) (fun _ _ _ => rfl) g1 g2 ⟨rfl, by decide, rfl, fun j hj => ?_⟩
          · intro p9 hp9 k9
            show (if p9 = r1 then _ else _) = _
            rw [if_neg hp9]
          · show va_cpy f g sp.toNatClampNeg dp.toNatClampNeg cn.toNatClampNeg j = (if r1 = r1 then _ else _)
            rw [if_pos rfl, cs1, cd1, cn1]
            unfold va_cpy
            by_cases e9 : dp.toInt.toNat ≤ j ∧ j < dp.toInt.toNat + cn.toInt.toNat
            · rw [if_pos e9, if_pos e9]
              exact f4 _ (by omega)
            · rw [if_neg e9, if_neg e9]
              exact g4 j hj
        | .inl (cA, n', .inr (.inl f)), e6, e7, _, z4, e8 => exact absurd e7.2.1 (by omega)
        | .inl (cA, n', .inl f), e6, e7, .inl (cB, n'', .inr (.inl g)), z4, e8 => exact absurd e8.2.1 (by omega)
      · cases h
    · cases h
  · cases h
theorem zy_getf {k : Nat} (X : za_Cx p l R s m args meth c E L s0 d M) (hdg : decode M.2.1 pc = .ok (.getfield k, 3)) (h : zp_getf (za_CP (za_cl M) k) pc lv st t = some (.inl S9)) (hk : zp_G p l e R s m args below meth c Q E (za_nL M) ads0 S9) : zp_G p l e R s m args below meth c Q E (za_nL M) ads0 (pc, lv, st, t) := by
  obtain ⟨hx, hb, hml, hr, hlocks, hnm, hown, htab, K, hW, h0, hdec, hRf, hRl, hRc, hRs⟩ := X
  refine zx_getf (fun {ci} {k9} {z} hrow => ?_) h hk
  obtain ⟨w1, w2⟩ := zc_row hrow
  obtain ⟨q9, hq9, g1, g2, g3⟩ := zb_0 w2
  obtain ⟨f1, f2, f3, f4, f5⟩ := zc_cls hq9
  refine ⟨by rw [← f4]; exact za_blt g1, ?_⟩
  intro H locs cells slots ls rest ws q a vs v hP he hv kk
  have hl := w1 (Cond.fieldLink (za_ow (za_cl M)) k (q9.2.1 k9).1 (q9.2.1 k9).2.1 (q9.2.1 k9).2.2.1) (by simp [za_need, za_wC, hq9])
  exact va_get hx hb (zk_w K hW) f1 hown (zk_K K hW) hP q he hq9 k9 (za_blt g1) (zk_w K hW _ hl) (fun x hx => hx) hv hdg kk
theorem zy_putf {k : Nat} (X : za_Cx p l R s m args meth c E L s0 d M) (hdg : decode M.2.1 pc = .ok (.putfield k, 3)) (h : zp_putf (za_CP (za_cl M) k) (za_cl M) (za_ini M) pc lv st t = some (.inl S9)) (hk : zp_G p l e R s m args below meth c Q E (za_nL M) ads0 S9) : zp_G p l e R s m args below meth c Q E (za_nL M) ads0 (pc, lv, st, t) := by
  obtain ⟨hx, hb, hml, hr, hlocks, hnm, hown, htab, K, hW, h0, hdec, hRf, hRl, hRc, hRs⟩ := X
  refine zx_putf (fun {ci} {k9} {z} hrow hz => ?_) h hk
  intro H locs cells slots ls rest ws q a vs v hP hD hS he hlen hn hf kk
  obtain ⟨w1, w2⟩ := zc_row hrow
  obtain ⟨q9, hq9, g1, g2, g3⟩ := zb_0 w2
  obtain ⟨f1, f2, f3, f4, f5⟩ := zc_cls hq9
  have hl := w1 (Cond.fieldLink (za_ow (za_cl M)) k (q9.2.1 k9).1 (q9.2.1 k9).2.1 (q9.2.1 k9).2.2.1) (by simp [za_need, za_wC, hq9])
  by_cases hz0 : z = 0
  · exact va_put hx hb (zk_w K hW) f1 (za_tyX ci) f2 f3 hown (zk_K K hW) hP hD hS q he hq9 k9 (za_blt g1) (zk_w K hW _ hl) (fun x hx => hx) (by rw [← g2, if_pos hz0]) (f2 k9 (za_blt g1)) hn hf hlen hdg kk
  · rcases hz with hz | ⟨hz1, hz2⟩
    · exact absurd hz hz0
    · have hin : meth.name = "<init>" := by rw [hnm]; exact of_decide_eq_true hz1
      exact va_putF hx hb (zk_w K hW) f1 (za_tyX ci) f2 f3 hown (zk_K K hW) hP hD hS q he hq9 k9 (za_blt g1) (zk_w K hW _ hl) (fun x hx => hx) (by rw [← g2, if_neg hz0]) hin (by rw [g3, f5, hz2]) (f2 k9 (za_blt g1)) hn hf hlen hdg kk
theorem zy_ald {bt : Bool} {i : Instr} (hi : i = if bt then .baload else .iaload) (X : za_Cx p l R s m args meth c E L s0 d M) (hdg : decode M.2.1 pc = .ok (i, 1)) (h : zp_ald L (za_σ E) bt pc lv st t = some (.inl S9)) (hk : zp_G p l e R s m args below meth c Q E (za_nL M) ads0 S9) : zp_G p l e R s m args below meth c Q E (za_nL M) ads0 (pc, lv, st, t) := by
  obtain ⟨hx, hb, hml, hr, hlocks, hnm, hown, htab, K, hW, h0, hdec, hRf, hRl, hRc, hRs⟩ := X
  have hK := zk_K K hW
  refine zx_ald (fun hbt => ?_) (fun {tt} htt hiff => ?_) h hk
  · intro H locs cells slots ls rest j hS hin kk
    subst hbt
    subst hi
    have hX : va_X (za_b E) L (za_σ E) s s.heap := (K.2.2.2.2.2.1.moved hW.alike).kept (by rw [h0.2 _ (by rw [K.2.1]; exact K.2.2.2.2.2.2.1), K.2.1])
    have hlt : za_b E < (za_H0 E).size := by rw [K.2.1]; exact K.2.2.2.2.2.2.1
    exact va_sld hx hb hX (Nat.lt_of_lt_of_le hlt h0.1) (Nat.not_le.mpr hlt) hS hin hdg kk
  · intro H locs cells slots ls rest ws q a n f j hP he hin kk
    match tt, htt, hiff, he with
    | 0, _, hiff, he =>
      have hbt := hiff.mpr rfl
      subst hbt; subst hi
      exact va_iald hx hb hK hP q 0 he rfl hin hdg kk
    | 1, _, hiff, he =>
      have hbt : bt = true := by cases bt with | true => rfl | false => exact absurd (hiff.mp rfl) (by decide)
      subst hbt; subst hi
      exact va_bald hx hb hK hP q 1 he rfl hin hdg kk
    | 2, _, hiff, he =>
      have hbt : bt = true := by cases bt with | true => rfl | false => exact absurd (hiff.mp rfl) (by decide)
      subst hbt; subst hi
      exact va_zald hx hb hK hP q 2 he rfl hin hdg kk
    | _ + 3, htt, _, _ => omega
theorem zy_ast {bt : Bool} {i : Instr} (hi : i = if bt then .bastore else .iastore) (X : za_Cx p l R s m args meth c E L s0 d M) (hdg : decode M.2.1 pc = .ok (i, 1)) (h : zp_ast bt pc lv st t = some (.inl S9)) (hk : zp_G p l e R s m args below meth c Q E (za_nL M) ads0 S9) : zp_G p l e R s m args below meth c Q E (za_nL M) ads0 (pc, lv, st, t) := by
  obtain ⟨hx, hb, hml, hr, hlocks, hnm, hown, htab, K, hW, h0, hdec, hRf, hRl, hRc, hRs⟩ := X
  have hK := zk_K K hW
  refine zx_ast (fun {tt} htt hiff => ?_) h hk
  intro H locs cells slots ls rest ws q a n f j x hP hD hS he hin kk
  match tt, htt, hiff, he, kk with
  | 0, _, hiff, he, kk =>
    have hbt := hiff.mpr rfl
    subst hbt; subst hi
    exact va_iast hx hb hK hP hD hS q 0 he rfl hin hdg kk
  | 1, _, hiff, he, kk =>
    have hbt : bt = true := by cases bt with | true => rfl | false => exact absurd (hiff.mp rfl) (by decide)
    subst hbt; subst hi
    exact va_bast hx hb hK hP hD hS q 1 he rfl hin hdg kk
  | 2, _, hiff, he, kk =>
    have hbt : bt = true := by cases bt with | true => rfl | false => exact absurd (hiff.mp rfl) (by decide)
    subst hbt; subst hi
    exact va_zast hx hb hK hP hD hS q 2 he rfl hin hdg kk
  | _ + 3, htt, _, _, _ => omega
theorem zy_alen (X : za_Cx p l R s m args meth c E L s0 d M) (hdg : decode M.2.1 pc = .ok (.arraylength, 1)) (h : zp_alen L pc lv st t = some (.inl S9)) (hk : zp_G p l e R s m args below meth c Q E (za_nL M) ads0 S9) : zp_G p l e R s m args below meth c Q E (za_nL M) ads0 (pc, lv, st, t) := by
  obtain ⟨hx, hb, hml, hr, hlocks, hnm, hown, htab, K, hW, h0, hdec, hRf, hRl, hRc, hRs⟩ := X
  have hK := zk_K K hW
  refine zx_alen ?_ ?_ h hk
  · intro H locs cells slots ls rest hS kk
    have hX : va_X (za_b E) L (za_σ E) s s.heap := (K.2.2.2.2.2.1.moved hW.alike).kept (by rw [h0.2 _ (by rw [K.2.1]; exact K.2.2.2.2.2.2.1), K.2.1])
    have hlt : za_b E < (za_H0 E).size := by rw [K.2.1]; exact K.2.2.2.2.2.2.1
    exact va_slen hx hb hX (Nat.lt_of_lt_of_le hlt h0.1) (Nat.not_le.mpr hlt) hS hdg kk
  · intro k ty cA H locs cells slots ls rest ws q a x htk hP he kk
    exact va_alen hx hb hK hP q k he htk rfl hdg kk
theorem zy_lld (X : za_Cx p l R s m args meth c E L s0 d M) (hdg : decode M.2.1 pc = .ok (.laload, 1)) (h : zp_lld pc lv st t = some (.inl S9)) (hk : zp_G p l e R s m args below meth c Q E (za_nL M) ads0 S9) : zp_G p l e R s m args below meth c Q E (za_nL M) ads0 (pc, lv, st, t) := by
  obtain ⟨hx, hb, hml, hr, hlocks, hnm, hown, htab, K, hW, h0, hdec, hRf, hRl, hRc, hRs⟩ := X
  have hK := zk_K K hW
  refine zx_lld ?_ h hk
  intro H locs cells slots ls rest ws q a n f j hP he hin kk
  exact va_lald (tys := za_tys E) hx hb hK hP q 3 he rfl hin hdg kk
theorem zy_lst (X : za_Cx p l R s m args meth c E L s0 d M) (hdg : decode M.2.1 pc = .ok (.lastore, 1)) (h : zp_lst pc lv st t = some (.inl S9)) (hk : zp_G p l e R s m args below meth c Q E (za_nL M) ads0 S9) : zp_G p l e R s m args below meth c Q E (za_nL M) ads0 (pc, lv, st, t) := by
  obtain ⟨hx, hb, hml, hr, hlocks, hnm, hown, htab, K, hW, h0, hdec, hRf, hRl, hRc, hRs⟩ := X
  have hK := zk_K K hW
  refine zx_lst ?_ h hk
  intro H locs cells slots ls rest ws q a n f j x hP hD hS he hin kk
  exact va_last (tys := za_tys E) hx hb hK hP hD hS q 3 he rfl hin hdg kk
theorem zy_acpC {k : Nat} {j9 k9 : Nat} {z9 : Int} (X : za_Cx p l R s m args meth c E L s0 d M) (hrow : za_CP (za_cl M) k = some (14, j9, k9, z9)) (hdg : decode M.2.1 pc = .ok (.invokestatic k, 3)) (h : zp_acp pc lv st t = some (.inl S9)) (hk : zp_G p l e R s m args below meth c Q E (za_nL M) ads0 S9) : zp_G p l e R s m args below meth c Q E (za_nL M) ads0 (pc, lv, st, t) := by
  obtain ⟨hx, hb, hml, hr, hlocks, hnm, hown, htab, K, hW, h0, hdec, hRf, hRl, hRc, hRs⟩ := X
  have hK := zk_K K hW
  refine zy_acp ?_ h hk
  intro H locs cells slots ls rest ws q0 q1 a0 a n0 n1 f g sp dp n hsz hP hD hS he0 he1 c1 c2 c3 c4 c5 c6 kk
  obtain ⟨w1, -⟩ := zc_row hrow
  have l1 := w1 (Cond.methodLink (za_ow (za_cl M)) k arraycopyName) (by simp [za_need])
  have l2 := w1 (Cond.native arraycopyName) (by simp [za_need])
  have l3 := w1 (Cond.static arraycopyName) (by simp [za_need])
  have l4 := w1 (Cond.initialized "java/lang/System") (by simp [za_need])
  have hnw : nativeFrameWords "java/lang/System" "arraycopy" 5 = 7 := by decide +kernel
  exact va_copyi (tys := za_tys E) hx hb (hml.trans hsz.symm) hown (zk_w K hW _ l1) (zk_w K hW _ l2) (zk_w K hW _ l3) (zk_w K hW _ l4) hK hP hD hS q0 q1 0 0 (ty := .int) he0 he1 rfl rfl rfl c1 c2 c3 c4 c5 (fun _ _ => rfl) (by omega) (by rw [hnw]; omega) hdg kk
theorem zy_ldc {k n : Nat} (X : za_Cx p l R s m args meth c E L s0 d M) (rule : ∀ {v : Int32} {H : Heap} {locs : List Loc} {cells slots : Nat} {ls : Array Slot} {rest : List Value}, (Cond.constant (za_ow (za_cl M)) k v).before args s = true → W p l e R s m args below meth c H locs cells slots Q (F0 m (pc + n) ls (.int v :: rest)) → W p l e R s m args below meth c H locs cells slots Q (F0 m pc ls rest))
    (h : zp_ldc n (za_CP (za_cl M) k) pc lv st t = some (.inl S9)) (hk : zp_G p l e R s m args below meth c Q E (za_nL M) ads0 S9) : zp_G p l e R s m args below meth c Q E (za_nL M) ads0 (pc, lv, st, t) := by
  obtain ⟨hx, hb, hml, hr, hlocks, hnm, hown, htab, K, hW, h0, hdec, hRf, hRl, hRc, hRs⟩ := X
  unfold zp_ldc at h
  split at h
  · rename_i j9 k9 v hrow
    obtain ⟨w1, -⟩ := zc_row hrow
    exact zx_push (v := .inl (Int32.ofInt v)) (w := .int (Int32.ofInt v)) (fun _ => rfl) (fun kk => rule (zk_w K hW _ (w1 _ (by simp [za_need]))) kk) (zx_go h hk)
  · cases h
theorem zy_ldc2 {k : Nat} (X : za_Cx p l R s m args meth c E L s0 d M) (hdg : decode M.2.1 pc = .ok (.ldc2_w k, 3)) (h : zp_ldc2 (za_CP (za_cl M) k) pc lv st t = some (.inl S9)) (hk : zp_G p l e R s m args below meth c Q E (za_nL M) ads0 S9) : zp_G p l e R s m args below meth c Q E (za_nL M) ads0 (pc, lv, st, t) := by
  obtain ⟨hx, hb, hml, hr, hlocks, hnm, hown, htab, K, hW, h0, hdec, hRf, hRl, hRc, hRs⟩ := X
  unfold zp_ldc2 at h
  split at h
  · rename_i j9 k9 v hrow
    obtain ⟨w1, -⟩ := zc_row hrow
    exact zx_push (v := .inr (.inl (Int64.ofInt v))) (w := .long (Int64.ofInt v)) (fun _ => rfl) (fun kk => lv_ldc2 hx hb hown (zk_w K hW _ (w1 _ (by simp [za_need]))) hdg kk) (zx_go h hk)
  · cases h
end ZV
end
section
/-! ===== the exact interpreter is sound: all instructions ===== -/
theorem zp_d {P : Prop} {i : Decidable P} : (@decide P i) = true ↔ P := decide_eq_true_iff
section ZW
variable {p : Program} {l : Launch} {e : Env} {R : Room} {s s0 : State} {m : MethodId} {args : Array Value} {below : List Frame} {meth : Method} {c : Code} {Q : State → Prop} {E : za_E} {ads0 : List Nat} {pc L d : Nat} {M : za_MI} {lv : zp_LV} {t : zp_T} {st : List zp_V} {S9 : zp_S}
theorem zy_ins {i : Instr} (X : za_Cx p l R s m args meth c E L s0 d M) (hstr : zp_strOK l E L s0) (hmm : (pc, i) ∈ za_is M) (h : zp_ins L (za_σ E) M (za_CP (za_cl M)) i pc lv st t = some (.inl S9)) (hk : zp_G p l e R s m args below meth c Q E (za_nL M) ads0 S9) : zp_G p l e R s m args below meth c Q E (za_nL M) ads0 (pc, lv, st, t) := by
  obtain ⟨hx, hb, hml, hr, hlocks, hnm, hown, htab, K, hW, h0, hdec, hRf, hRl, hRc, hRs⟩ := id X
  obtain ⟨len, hd0, hln⟩ := za_dok_ok (q := (pc, i)) (List.all_eq_true.mp hdec _ hmm)
  have hd : za_sw i = false → decode M.2.1 pc = .ok (i, za_ln i) := fun z => by
    rcases hln with h9 | h9
    · rw [show za_sw i = true from h9] at z; cases z
    · rw [show len = za_ln i from h9] at hd0; exact hd0
  cases i with
  | iconst k =>
    exact zx_push (v := .inl (Int32.ofInt k)) (w := .int (Int32.ofInt k)) (fun _ => rfl) (fun kk => lv_iconst hx hb (hd rfl) rfl kk) (zx_go h hk)
  | bipush k =>
    change (bif za_ile (-128) k then bif za_ile k 127 then zp_go lv t (pc + 2) (.inl (Int32.ofInt k) :: st) else none else none) = _ at h
    obtain ⟨h1, h⟩ := za_bif h
    obtain ⟨h2, h⟩ := za_bif h
    exact zx_push (v := .inl (Int32.ofInt k)) (w := .int (Int32.ofInt k)) (fun _ => rfl) (fun kk => lv_bipush hx hb (hd rfl) (zp_by8 (za_ile_t h1) (za_ile_t h2)) kk) (zx_go h hk)
  | sipush k =>
    exact zx_push (v := .inl (Int16.ofInt k).toInt32) (w := .int (Int16.ofInt k).toInt32) (fun _ => rfl) (fun kk => lv_sipush hx hb (hd rfl) rfl kk) (zx_go h hk)
  | lconst k =>
    exact zx_push (v := .inr (.inl (Int64.ofNat k))) (w := .long (Int64.ofNat k)) (fun _ => rfl) (fun kk => lv_lconst hx hb (hd rfl) rfl kk) (zx_go h hk)
  | ldc k =>
    change (bif Nat.beq k 56 then zp_str (za_cl M) k (za_is M) pc lv st t else zp_ldc 2 (za_CP (za_cl M) k) pc lv st t) = _ at h
    cases h9 : Nat.beq k 56 with
    | true =>
      rw [h9] at h
      exact hstr p e R s m args below meth c Q ads0 d pc k M lv st t S9 X (hd rfl) h hk
    | false =>
      rw [h9] at h
      exact zy_ldc X (fun hc kk => lv_ldc hx hb hown hc (hd rfl) kk) h hk
  | ldc_w k =>
    exact zy_ldc X (fun hc kk => lv_ldcw hx hb hown hc (hd rfl) kk) h hk
  | ldc2_w k =>
    exact zy_ldc2 X (hd rfl) h hk
  | iload k =>
    exact zx_load (fun hf hg hl kk => by
      obtain ⟨x, rfl⟩ := zx_isI hf hg
      exact lv_iload hx hb (hd rfl) hl kk) h hk
  | iload_n k =>
    exact zx_load (fun hf hg hl kk => by
      obtain ⟨x, rfl⟩ := zx_isI hf hg
      exact lv_iload_n hx hb (hd rfl) rfl hl kk) h hk
  | lload k =>
    exact zx_load (fun hf hg hl kk => by
      obtain ⟨x, rfl⟩ := zx_isL hf hg
      exact lv_lload hx hb (hd rfl) hl kk) h hk
  | lload_n k =>
    exact zx_load (fun hf hg hl kk => by
      obtain ⟨x, rfl⟩ := zx_isL hf hg
      exact lv_lload_n hx hb (hd rfl) rfl hl kk) h hk
  | aload k =>
    exact zx_load (fun hf hg hl kk => by
      obtain ⟨x, rfl⟩ := zx_isR hf hg
      exact lv_aload hx hb (hd rfl) hl kk) h hk
  | aload_n k =>
    exact zx_load (fun hf hg hl kk => by
      obtain ⟨x, rfl⟩ := zx_isR hf hg
      exact lv_aload_n hx hb (hd rfl) rfl hl kk) h hk
  | istore k =>
    exact zx_stor1 (fun hf hg h1 h2 kk => by
      obtain ⟨x, rfl⟩ := zx_isI hf hg
      exact lv_istore hx hb (hd rfl) h1 h2 rfl kk) h hk
  | istore_n k =>
    exact zx_stor1 (fun hf hg h1 h2 kk => by
      obtain ⟨x, rfl⟩ := zx_isI hf hg
      exact lv_istore_n hx hb (hd rfl) rfl h1 h2 rfl kk) h hk
  | astore k =>
    exact zx_stor1 (fun hf hg h1 h2 kk => by
      obtain ⟨x, rfl⟩ := zx_isR hf hg
      exact lv_astore hx hb (hd rfl) h1 h2 rfl kk) h hk
  | astore_n k =>
    exact zx_stor1 (fun hf hg h1 h2 kk => by
      obtain ⟨x, rfl⟩ := zx_isR hf hg
      exact lv_astore_n hx hb (hd rfl) rfl h1 h2 rfl kk) h hk
  | lstore k =>
    exact zx_stor2 (fun h1 h2 kk => lv_lstore hx hb (hd rfl) h1 h2 rfl kk) h hk
  | lstore_n k =>
    exact zx_stor2 (fun h1 h2 kk => lv_lstore_n hx hb (hd rfl) rfl h1 h2 rfl kk) h hk
  | iinc k d9 =>
    change zp_iinc k (za_nL M) d9 pc lv st t = _ at h
    unfold zp_iinc at h
    split at h
    · rename_i x hv
      obtain ⟨hi, h⟩ := za_bif h
      exact zx_iinc hv (za_blt hi) (fun h1 h2 h3 kk => lv_iinc hx hb (hd rfl) h1 h2 rfl h3 rfl kk) (zx_go h hk)
    · cases h
  | iadd =>
    exact zx_binI (· + ·) (fun kk => lv_iadd hx hb (hd rfl) kk) h hk
  | isub =>
    exact zx_binI (· - ·) (fun kk => lv_isub hx hb (hd rfl) kk) h hk
  | imul =>
    exact zx_binI (· * ·) (fun kk => lv_imul hx hb (hd rfl) kk) h hk
  | iand =>
    exact zx_binI (· &&& ·) (fun kk => lv_iand hx hb (hd rfl) kk) h hk
  | ior =>
    exact zx_binI (· ||| ·) (fun kk => lv_ior hx hb (hd rfl) kk) h hk
  | ixor =>
    exact zx_binI (· ^^^ ·) (fun kk => lv_ixor hx hb (hd rfl) kk) h hk
  | ishl =>
    exact zx_binI (fun x y => x <<< (y &&& 31)) (fun kk => lv_ishl hx hb (hd rfl) kk) h hk
  | ishr =>
    exact zx_binI (fun x y => x >>> (y &&& 31)) (fun kk => lv_ishr hx hb (hd rfl) kk) h hk
  | iushr =>
    exact zx_binI (fun x y => (x.toUInt32 >>> (y.toUInt32 &&& Int32.toUInt32 31)).toInt32) (fun kk => lv_iushr hx hb (hd rfl) rfl kk) h hk
  | idiv =>
    exact zx_divI (· / ·) (fun hn kk => lv_idiv hx hb (hd rfl) hn kk) h hk
  | irem =>
    exact zx_divI (fun x y => x - x / y * y) (fun hn kk => lv_irem hx hb (hd rfl) hn kk) h hk
  | i2b =>
    change zp_unI _ pc lv st t = _ at h
    unfold zp_unI at h
    split at h
    · exact zx_unI (fun x => x.toInt8.toInt32) (fun kk => lv_i2b hx hb (hd rfl) rfl kk) (zx_go h hk)
    · cases h
  | ineg =>
    change zp_unI _ pc lv st t = _ at h
    unfold zp_unI at h
    split at h
    · exact zx_unI (fun x => -x) (fun kk => lv_ineg hx hb (hd rfl) kk) (zx_go h hk)
    · cases h
  | ladd =>
    exact zx_binL (· + ·) (fun kk => lv_ladd hx hb (hd rfl) kk) h hk
  | lsub =>
    exact zx_binL (· - ·) (fun kk => lv_lsub hx hb (hd rfl) kk) h hk
  | lmul =>
    exact zx_binL (· * ·) (fun kk => lv_lmul hx hb (hd rfl) kk) h hk
  | land =>
    exact zx_binL (· &&& ·) (fun kk => lv_land hx hb (hd rfl) kk) h hk
  | lor =>
    exact zx_binL (· ||| ·) (fun kk => lv_lor hx hb (hd rfl) kk) h hk
  | lxor =>
    exact zx_binL (· ^^^ ·) (fun kk => lv_lxor hx hb (hd rfl) kk) h hk
  | lshl =>
    exact zx_shL za_shl0 (fun kk => lv_lshl hx hb (hd rfl) rfl kk) h hk
  | lshr =>
    exact zx_shL za_shr0 (fun kk => lv_lshr hx hb (hd rfl) rfl kk) h hk
  | lushr =>
    exact zx_shL za_ushr0 (fun kk => lv_lushr hx hb (hd rfl) rfl kk) h hk
  | i2l =>
    change zp_i2l pc lv st t = _ at h
    unfold zp_i2l at h
    split at h
    · exact zx_i2l (fun kk => lv_i2l hx hb (hd rfl) rfl kk) (zx_go h hk)
    · cases h
  | l2i =>
    change zp_l2i pc lv st t = _ at h
    unfold zp_l2i at h
    split at h
    · exact zx_l2i (fun kk => lv_l2i hx hb (hd rfl) rfl kk) (zx_go h hk)
    · cases h
  | lcmp =>
    change zp_lcmp pc lv st t = _ at h
    unfold zp_lcmp at h
    split at h
    · exact zx_lcmp (fun kk => W.lcmp hx hb (hd rfl) kk) (zx_go h hk)
    · cases h
  | dup =>
    change zp_dup pc lv st t = _ at h
    unfold zp_dup at h
    split at h
    · obtain ⟨g1, h⟩ := za_bif h
      exact zx_dup (za_beq g1) (fun h1 kk => lv_dup hx hb (hd rfl) h1 kk) (zx_go h hk)
    · cases h
  | pop =>
    change zp_pop pc lv st t = _ at h
    unfold zp_pop at h
    split at h
    · obtain ⟨g1, h⟩ := za_bif h
      exact zx_pop (za_beq g1) (fun h1 kk => lv_pop hx hb (hd rfl) h1 kk) (zx_go h hk)
    · cases h
  | dup2 =>
    change zp_dup2 pc lv st t = _ at h
    unfold zp_dup2 at h
    split at h
    · obtain ⟨g1, h⟩ := za_bif h
      obtain ⟨g2, h⟩ := za_bif h
      exact zx_dup2 (za_beq g1) (za_beq g2) (fun h1 h2 kk => lv_dup2_11 hx hb (hd rfl) h1 h2 kk) (zx_go h hk)
    · cases h
  | ifCond cnd o9 =>
    cases cnd with
    | eq => exact zy_if1 (P := fun x => x = 0) (fun _ => zp_d) (fun ht ky kn => lv_if_eq hx hb (hd rfl) ht ky kn) h hk
    | ne => exact zy_if1 (P := fun x => ¬ x = 0) (fun _ => zp_d) (fun ht ky kn => lv_if_ne hx hb (hd rfl) ht ky (fun h9 => kn (not_not_intro h9))) h hk
    | lt => exact zy_if1 (P := fun x => x < 0) (fun _ => zp_d) (fun ht ky kn => lv_if_lt hx hb (hd rfl) ht ky kn) h hk
    | ge => exact zy_if1 (P := fun x => 0 ≤ x) (fun _ => zp_d) (fun ht ky kn => lv_if_ge hx hb (hd rfl) ht ky kn) h hk
    | gt => exact zy_if1 (P := fun x => 0 < x) (fun _ => zp_d) (fun ht ky kn => lv_if_gt hx hb (hd rfl) ht ky kn) h hk
    | le => exact zy_if1 (P := fun x => x ≤ 0) (fun _ => zp_d) (fun ht ky kn => lv_if_le hx hb (hd rfl) ht ky kn) h hk
  | if_icmp cnd o9 =>
    cases cnd with
    | eq => exact zy_if2 (P := fun x y => x = y) (fun _ _ => zp_d) (fun ht ky kn => lv_icmp_eq hx hb (hd rfl) ht ky kn) h hk
    | ne => exact zy_if2 (P := fun x y => ¬ x = y) (fun _ _ => zp_d) (fun ht ky kn => lv_icmp_ne hx hb (hd rfl) ht ky (fun h9 => kn (not_not_intro h9))) h hk
    | lt => exact zy_if2 (P := fun x y => x < y) (fun _ _ => zp_d) (fun ht ky kn => lv_icmp_lt hx hb (hd rfl) ht ky kn) h hk
    | ge => exact zy_if2 (P := fun x y => y ≤ x) (fun _ _ => zp_d) (fun ht ky kn => lv_icmp_ge hx hb (hd rfl) ht ky kn) h hk
    | gt => exact zy_if2 (P := fun x y => y < x) (fun _ _ => zp_d) (fun ht ky kn => lv_icmp_gt hx hb (hd rfl) ht ky kn) h hk
    | le => exact zy_if2 (P := fun x y => x ≤ y) (fun _ _ => zp_d) (fun ht ky kn => lv_icmp_le hx hb (hd rfl) ht ky kn) h hk
  | goto o9 =>
    obtain ⟨g, hg, h⟩ := zp_jmpE (show zp_jmp o9 pc lv st t = some (.inl S9) from h)
    exact zx_goto (fun ht kk => lv_goto hx hb (hd rfl) ht kk) hg (zx_go h hk)
  | tableswitch dd lo hi os =>
    change zp_tsw dd lo hi os pc lv st t = _ at h
    unfold zp_tsw at h
    split at h
    · rename_i x r
      split at h
      · rename_i hc
        obtain ⟨g, hg, h⟩ := zp_jmpE h
        exact zx_tswOut (fun h1 h2 kk => lv_tableOut hx hb hd0 h1 h2 kk) hc hg (zx_go h hk)
      · rename_i hc
        split at h
        · rename_i off hoff
          obtain ⟨g, hg, h⟩ := zp_jmpE h
          exact zx_tswIn (fun h1 h2 h3 h4 kk => lv_tableIn hx hb hd0 h1 h2 h3 h4 kk) (fun z => hc (Or.inl z)) (fun z => hc (Or.inr z)) hoff hg (zx_go h hk)
        · cases h
    · cases h
  | lookupswitch dd ps =>
    change zp_lsw dd ps pc lv st t = _ at h
    unfold zp_lsw at h
    split at h
    · rename_i x r
      obtain ⟨g1, h⟩ := za_bif h
      obtain ⟨g, hg, h⟩ := zp_jmpE h
      exact zx_lsw (fun h2 h3 kk => lv_lookup hx hb hd0 g1 h2 h3 kk) rfl hg (zx_go h hk)
    · cases h
  | getfield k =>
    exact zy_getf X (hd rfl) h hk
  | putfield k =>
    exact zy_putf X (hd rfl) h hk
  | iaload =>
    exact zy_ald (bt := false) rfl X (hd rfl) h hk
  | baload =>
    exact zy_ald (bt := true) rfl X (hd rfl) h hk
  | iastore =>
    exact zy_ast (bt := false) rfl X (hd rfl) h hk
  | bastore =>
    exact zy_ast (bt := true) rfl X (hd rfl) h hk
  | laload =>
    exact zy_lld X (hd rfl) h hk
  | lastore =>
    exact zy_lst X (hd rfl) h hk
  | arraylength =>
    exact zy_alen X (hd rfl) h hk
  | invokestatic k =>
    change (match za_CP (za_cl M) k with
      | some (14, _, _, _) => zp_acp pc lv st t
      | _ => none) = _ at h
    split at h
    · rename_i j9 k9 z9 hrow
      exact zy_acpC X hrow (hd rfl) h hk
    · cases h
  | _ => exact nomatch (show (none : zp_N) = some (.inl S9) from h)
end ZW
end
section
/-! ===== the exact interpreter is sound: ends, calls, a method's contract ===== -/
def zp_gW (ads : List Nat) (v : Option zp_V) (w : Option Value) : Prop := match v, w with
  | none, none => True
  | some v, some w => zp_gV ads v w
  | _, _ => False
def zp_Qc (E : za_E) (ads0 : List Nat) (X : zp_X) : Array Value → State → Outcome → State → Prop := fun _ _ o t => ∃ (v : Option zp_V) (ads : List Nat) (w : Option Value), X.1 = .inl v ∧ o = .returned w ∧ zp_gW ads v w ∧ ads0 <+: ads ∧ zp_Wd E ads X.2 t.heap ∧ za_Bl E t.heap
def zp_XC (E : za_E) (ads0 : List Nat) (X : zp_X) : String → State → State → Prop := fun nm _ t => ∃ (ex : Nat) (ads : List Nat), X.1 = .inr ex ∧ ex < 2 ∧ nm = za_exn ex ∧ ads0 <+: ads ∧ zp_Wd E ads X.2 t.heap ∧ za_Bl E t.heap
def zp_Pc (E : za_E) (s0 : State) (ads : List Nat) (as : List zp_V) (h : zp_H) : Array Value → State → Prop := fun a U => ∃ vs : List Value, a = vs.toArray ∧ za_F2 (zp_gV ads) as vs ∧ zp_Wd E ads h U.heap ∧ s0.WarmedH U.vm ∧ za_Bl E U.heap
theorem zp_Pc_blind {E : za_E} {s0 : State} {ads : List Nat} {as : List zp_V} {h : zp_H} : FrameBlind (zp_Pc E s0 ads as h) := fun _ _ _ _ q => q
/-- the callees' contracts -/
def zp_IH (l : Launch) (E : za_E) (s0 : State) (d : Nat) (C : zp_C) : Prop := ∀ (j : Nat) (Y : za_MI) (as : List zp_V) (h : zp_H) (X : zp_X) (ads : List Nat), za_MT j = some Y → C j as h X → vx_Met l Y.1 [za_word Y] (za_rm d Y) (zp_Pc E s0 ads as h) (zp_Qc E ads X) (zp_XC E ads X) (za_mc Y) (za_ms Y) (za_A E)
theorem zp_gW_st {ads : List Nat} {v : Option zp_V} {w : Option Value} {rest : List zp_V} {rst : List Value} (h : zp_gW ads v w) (hr : za_F2 (zp_gV ads) rest rst) : za_F2 (zp_gV ads) (v.toList ++ rest) (w.toList ++ rst) := by
  match v, w, h with
  | none, none, _ => exact hr
  | some v, some w, h => exact ⟨h, hr⟩
theorem zp_lv_mono {ads ads' : List Nat} (h : ads <+: ads') {ls : Array Slot} {nL : Nat} {lv : zp_LV} (hl : ∃ lc, lv_has ls nL lc ∧ za_F2 (zp_gP ads) lv lc) : ∃ lc, lv_has ls nL lc ∧ za_F2 (zp_gP ads') lv lc := by
  obtain ⟨lc, l1, l2⟩ := hl
  exact ⟨lc, l1, za_F2_mono (fun a b hab => ⟨hab.1, zp_gV_mono h hab.2⟩) l2⟩
section ZY
variable {p : Program} {l : Launch} {e : Env} {R : Room} {s s0 : State} {m : MethodId} {args : Array Value} {below : List Frame} {meth : Method} {c : Code} {E : za_E} {ads0 : List Nat} {pc L d : Nat} {M : za_MI} {C : zp_C} {lv : zp_LV} {t : zp_T} {st : List zp_V} {X0 : zp_X}
theorem zy_iret (X : za_Cx p l R s m args meth c E L s0 d M) (hdg : decode M.2.1 pc = .ok (.ireturn, 1))
    (h : zp_iret (za_mc M) (za_ms M) (za_rt M) st t = some X0) : zp_G p l e R s m args below meth c (vx_MQ below (zp_Qc E ads0 X0) (zp_XC E ads0 X0) args s (za_mc M) (za_ms M) (za_A E)) E (za_nL M) ads0 (pc, lv, st, t) := by
  obtain ⟨hx, hb, hml, hr, hlocks, hnm, hown, htab, K, hW, h0, hdec, hRf, hRl, hRc, hRs⟩ := X
  intro ads H locs ls stk Mm
  obtain ⟨h1, h3, h4, h5, h6⟩ := Mm
  unfold zp_iret at h
  split at h
  · rename_i a hrt
    split at h
    · rename_i g
      obtain ⟨_, stk1, rfl, rfl, q1⟩ := za_F2_cons h3
      have e1 := za_F2_nil q1
      subst e1
      cases h
      exact W.widen g.1 g.2 (vx_ret (W.iret hx hb (hr.trans hrt) (fun t9 ht _ => ⟨_, ads, _, rfl, rfl, show zp_gW ads (some (.inl a)) (some (.int a)) from rfl, h1, by rw [ht]; exact h5, by rw [ht]; exact za_Bl_S h0 h6⟩) (fun q hq => h6.2.2 q hq) hdg hlocks))
    · cases h
  · rename_i a hrt
    split at h
    · rename_i g
      obtain ⟨_, stk1, rfl, rfl, q1⟩ := za_F2_cons h3
      have e1 := za_F2_nil q1
      subst e1
      have hn : narrow .boolean (.int a) = .int a := by
        rcases g.2 with rfl | rfl
        · rfl
        · rfl
      cases h
      exact W.widen g.1.1 g.1.2 (vx_ret (W.zret hx hb (hr.trans hrt) hn (fun t9 ht _ => ⟨_, ads, _, rfl, rfl, show zp_gW ads (some (.inl a)) (some (.int a)) from rfl, h1, by rw [ht]; exact h5, by rw [ht]; exact za_Bl_S h0 h6⟩) (fun q hq => h6.2.2 q hq) hdg hlocks))
    · cases h
  · cases h
theorem zy_lret (X : za_Cx p l R s m args meth c E L s0 d M) (hdg : decode M.2.1 pc = .ok (.lreturn, 1))
    (h : zp_lret (za_mc M) (za_ms M) (za_rt M) st t = some X0) : zp_G p l e R s m args below meth c (vx_MQ below (zp_Qc E ads0 X0) (zp_XC E ads0 X0) args s (za_mc M) (za_ms M) (za_A E)) E (za_nL M) ads0 (pc, lv, st, t) := by
  obtain ⟨hx, hb, hml, hr, hlocks, hnm, hown, htab, K, hW, h0, hdec, hRf, hRl, hRc, hRs⟩ := X
  intro ads H locs ls stk Mm
  obtain ⟨h1, h3, h4, h5, h6⟩ := Mm
  unfold zp_lret at h
  split at h
  · rename_i a hrt
    split at h
    · rename_i g
      obtain ⟨_, stk1, rfl, rfl, q1⟩ := za_F2_cons h3
      have e1 := za_F2_nil q1
      subst e1
      cases h
      exact W.widen g.1 g.2 (vx_ret (W.lret hx hb (hr.trans hrt) (fun t9 ht _ => ⟨_, ads, _, rfl, rfl, show zp_gW ads (some (.inr (.inl a))) (some (.long a)) from rfl, h1, by rw [ht]; exact h5, by rw [ht]; exact za_Bl_S h0 h6⟩) (fun q hq => h6.2.2 q hq) hdg hlocks))
    · cases h
  · cases h
theorem zy_vret (X : za_Cx p l R s m args meth c E L s0 d M) (hdg : decode M.2.1 pc = .ok (.return_, 1))
    (h : zp_vret (za_mc M) (za_ms M) (za_rt M) st t = some X0) : zp_G p l e R s m args below meth c (vx_MQ below (zp_Qc E ads0 X0) (zp_XC E ads0 X0) args s (za_mc M) (za_ms M) (za_A E)) E (za_nL M) ads0 (pc, lv, st, t) := by
  obtain ⟨hx, hb, hml, hr, hlocks, hnm, hown, htab, K, hW, h0, hdec, hRf, hRl, hRc, hRs⟩ := X
  intro ads H locs ls stk Mm
  obtain ⟨h1, h3, h4, h5, h6⟩ := Mm
  unfold zp_vret at h
  split at h
  · rename_i hrt
    split at h
    · rename_i g
      have e1 := za_F2_nil h3
      subst e1
      cases h
      exact W.widen g.1 g.2 (vx_ret (W.vret hx hb (hr.trans hrt) (fun t9 ht _ => ⟨none, ads, none, rfl, rfl, trivial, h1, by rw [ht]; exact h5, by rw [ht]; exact za_Bl_S h0 h6⟩) (fun q hq => h6.2.2 q hq) hdg hlocks))
    · cases h
  · cases h
/-- throw new E(text) -/
theorem zy_thr {ik : Nat} {ex j9 : Nat} {z9 : Int} (X : za_Cx p l R s m args meth c E L s0 d M) (hhe : za_hh M = []) (hrow : za_CP (za_cl M) ik = some (6, ex, j9, z9)) (hdg : decode M.2.1 pc = .ok (.new ik, 3)) (h : zp_thr (za_mc M) (za_ms M) (za_is M) (za_CP (za_cl M)) ex pc st t = some X0) : zp_G p l e R s m args below meth c (vx_MQ below (zp_Qc E ads0 X0) (zp_XC E ads0 X0) args s (za_mc M) (za_ms M) (za_A E)) E (za_nL M) ads0 (pc, lv, st, t) := by
  obtain ⟨hx, hb, hml, hr, hlocks, hnm, hown, htab, K, hW, h0, hdec, hRf, hRl, hRc, hRs⟩ := X
  intro ads H locs ls stk Mm
  obtain ⟨h1, h3, h4, h5, h6⟩ := Mm
  obtain ⟨w1, w2⟩ := zc_row hrow
  have hex : ex < 2 := za_blt w2
  have l1 := zk_w K hW (a9 := args) _ (w1 _ List.mem_cons_self)
  have l2 := zk_w K hW (a9 := args) _ (w1 _ (List.mem_cons_of_mem _ List.mem_cons_self))
  have hH0 : s0.heap = za_H0 E := K.2.1.symm
  have hqk : ∀ a : Nat, a < s0.heap.size → ¬ za_A E a → s.heap[a]? = s0.heap[a]? := fun a ha _ => by rw [hH0] at ha ⊢; exact h0.2 a ha
  have hU : vx_Zq Bundle.tN "UNASSIGNED_STACK" Bundle.steD (za_A E) s s.heap := (K.2.2.2.2.2.2.2.1.kept hqk).moved hW.alike
  have hN : vx_Zq Bundle.tN "SUPPRESSED_SENTINEL" Bundle.listD (za_A E) s s.heap := (K.2.2.2.2.2.2.2.2.1.kept hqk).moved hW.alike
  have hat : ∀ w ∈ za_atX ex, w.before args s = true := by
    intro w hw
    by_cases g : goodWord w = true
    · exact zk_w K hW w (List.mem_filter.mpr ⟨zx_at ex hex w (List.mem_filter.mpr ⟨hw, g⟩), g⟩)
    · have hz := zx_no ex hex w (List.mem_filter.mpr ⟨hw, by simpa using g⟩)
      have hi := (List.mem_filter.mp hz).2
      exact va_Nw.use (zn_on hi) (zn_warm hi hW (K.2.2.2.1 w hz))
  have hgood : ∀ w ∈ Cond.classLink RX11 ik (za_exn ex) :: Cond.initialized (za_exn ex) :: za_atX ex, vx_ot w = true := by
    intro w hw
    rcases List.mem_cons.mp hw with rfl | hw
    · rfl
    · rcases List.mem_cons.mp hw with rfl | hw
      · rfl
      · exact zx_ot ex hex w hw
  have hout : ∀ (k : Nat), ∀ x ∈ c.exceptionTable.toList, covers x k = false := fun k x hx => by rw [htab, hhe] at hx; exact absurd hx List.not_mem_nil
  have hsz : ls.size = c.maxLocals := by
    obtain ⟨lc, l9, -⟩ := h4
    exact l9.1.trans hml.symm
  have hX9 : ∀ t9 : State, s.vm.Alike t9.vm → H.size ≤ t9.heap.size → (∀ q : Nat, q < H.size → t9.heap[q]? = H[q]?) → X0 = (.inr ex, t.1) → zp_XC E ads0 X0 (za_exn ex) s t9 := by
    intro t9 _ hs9 hq9 hmem
    subst hmem
    refine ⟨ex, ads, rfl, hex, rfl, h1, ?_, ?_⟩
    · obtain ⟨ws, e1, e2, e3, e4, e5⟩ := h5
      exact ⟨ws, e1, e2, e3, e4.kept (fun k q hk => hq9 q.1 (e4 k q hk).lt), e5⟩
    · have hB := za_Bl_S h0 h6
      exact ⟨Nat.le_trans hB.1 hs9, fun q hq => (hq9 q (Nat.lt_of_lt_of_le hq hB.1)).trans (hB.2 q hq)⟩
  unfold zp_thr at h
  split at h
  · rename_i is f3 f4
    split at h
    · rename_i ic f6 f9
      split at h
      · rename_i r1 r2 r3 ex' r4 r5 c1 c2
        split at h
        · rename_i hc
          obtain ⟨g1, g2, g3, g4⟩ := hc
          subst g1
          cases h
          have x1 := zc_xr c2
          have x2 := zc_xr c1
          simp only [za_xok, Bool.and_eq_true, Bool.or_eq_true] at x1
          have hc11 : za_cl M = 11 := za_beq x1.1
          have hic : ic = za_icx ex' := by
            rcases x1.2 with z | z
            · rw [za_beq z.1, za_beq z.2]; rfl
            · rw [za_beq z.1, za_beq z.2]; rfl
          rw [hc11] at hown l1 x2
          have hsk : is ∈ za_sk := by
            simp only [za_xok] at x2
            simpa using x2
          obtain ⟨tx, sa, hstr⟩ := K.2.2.2.2.2.2.2.2.2.2.2 is hsk
          subst hic
          exact zt_throw (pq := pc + 6) hx hb K.1 (zx_d0 _ hex) (zx_d1 _ hex) (zx_d2 _ hex) (zx_d5 _ hex) hown (zx_fit _ hex) zx_fitn l1 l2 (vk_R.warm hW hstr) hat hgood hU hN h6 hsz hdg (za_fe_1 hdec f3 rfl) (Or.inl ⟨za_fe_1 hdec f4 rfl, rfl⟩) (za_fe_1 hdec f6 rfl) (za_fe_1 hdec f9 rfl) (hout _) (by show 2 + 3 < R.frames; omega) (by rw [zp_wt_ok h3]; show zp_wt st + (13 * (2 + 1) + 43) ≤ R.locals; omega) (by rw [hRc]; exact g3) (by rw [hRs]; exact g4) hlocks (fun t9 a1 a2 a3 => hX9 t9 a1 a2 a3 rfl) (fun z hz => h6.2.2 z hz) g3 g4
        · cases h
      · cases h
    · cases h
  · rename_i is f3 f4
    split at h
    · rename_i ic f6 f9
      split at h
      · rename_i r1 r2 r3 ex' r4 r5 c1 c2
        split at h
        · rename_i hc
          obtain ⟨g1, g2, g3, g4⟩ := hc
          subst g1
          cases h
          have x1 := zc_xr c2
          have x2 := zc_xr c1
          simp only [za_xok, Bool.and_eq_true, Bool.or_eq_true] at x1
          have hc11 : za_cl M = 11 := za_beq x1.1
          have hic : ic = za_icx ex' := by
            rcases x1.2 with z | z
            · rw [za_beq z.1, za_beq z.2]; rfl
            · rw [za_beq z.1, za_beq z.2]; rfl
          rw [hc11] at hown l1 x2
          have hsk : is ∈ za_sk := by
            simp only [za_xok] at x2
            simpa using x2
          obtain ⟨tx, sa, hstr⟩ := K.2.2.2.2.2.2.2.2.2.2.2 is hsk
          subst hic
          exact zt_throw (pq := pc + 7) hx hb K.1 (zx_d0 _ hex) (zx_d1 _ hex) (zx_d2 _ hex) (zx_d5 _ hex) hown (zx_fit _ hex) zx_fitn l1 l2 (vk_R.warm hW hstr) hat hgood hU hN h6 hsz hdg (za_fe_1 hdec f3 rfl) (Or.inr ⟨za_fe_1 hdec f4 rfl, rfl⟩) (za_fe_1 hdec f6 rfl) (za_fe_1 hdec f9 rfl) (hout _) (by show 2 + 3 < R.frames; omega) (by rw [zp_wt_ok h3]; show zp_wt st + (13 * (2 + 1) + 43) ≤ R.locals; omega) (by rw [hRc]; exact g3) (by rw [hRs]; exact g4) hlocks (fun t9 a1 a2 a3 => hX9 t9 a1 a2 a3 rfl) (fun z hz => h6.2.2 z hz) g3 g4
        · cases h
      · cases h
    · cases h
  · cases h
theorem zy_end {i : Instr} (X : za_Cx p l R s m args meth c E L s0 d M) (hmm : (pc, i) ∈ za_is M) (h : zp_end M (za_CP (za_cl M)) i pc st t = some X0) : zp_G p l e R s m args below meth c (vx_MQ below (zp_Qc E ads0 X0) (zp_XC E ads0 X0) args s (za_mc M) (za_ms M) (za_A E)) E (za_nL M) ads0 (pc, lv, st, t) := by
  obtain ⟨len, hd0, hln⟩ := za_dok_ok (q := (pc, i)) (List.all_eq_true.mp X.2.2.2.2.2.2.2.2.2.2.2.1 _ hmm)
  have hd : za_sw i = false → decode M.2.1 pc = .ok (i, za_ln i) := fun z => by
    rcases hln with h9 | h9
    · rw [show za_sw i = true from h9] at z; cases z
    · rw [show len = za_ln i from h9] at hd0; exact hd0
  unfold zp_end at h
  split at h
  · exact zy_iret X (hd rfl) h
  · exact zy_lret X (hd rfl) h
  · exact zy_vret X (hd rfl) h
  · split at h
    · rename_i k ex j9 z9 hrow hhe
      exact zy_thr X hhe hrow (hd rfl) h
    · cases h
  · cases h
/-! behind a call -/
theorem zy_aft {own : String} {rest : List zp_V} {X1 : zp_X} {cp : Nat → Option za_row} {a9 : Array Value} {mcY msY cells slots : Nat} {ads : List Nat} {H : Heap} {locs : List Loc} {ls : Array Slot} {stk rst : List Value}
    (hx : p.tables.exec = Jvm.exec) (hb : c.code = M.2.1) (hown : s.vm.findClass own = some m.cls) (hlocks : meth.locks = false) (h0 : za_Bl E s.heap) (htab : c.exceptionTable.toList = tableOf (za_hh M)) (hzk : zh_ok s args own cp) (hdec : (za_is M).all (za_dok M.2.1) = true) (hcs : cells + mcY ≤ za_mc M) (hsl : slots + msY ≤ za_ms M)
    (hr : vx_Run p l e R s m args below meth c H locs cells slots mcY msY (F0 m pc ls stk) rst (zp_Qc E ads X1 a9) (zp_XC E ads X1) (za_A E))
    (hK1 : zp_K1 (fun S X => zp_G p l e R s m args below meth c (vx_MQ below (zp_Qc E ads0 X) (zp_XC E ads0 X) args s (za_mc M) (za_ms M) (za_A E)) E (za_nL M) ads0 S) (zp_aft M cp pc lv rest (cells + mcY) (slots + msY) X1) X0)
    (h1 : ads0 <+: ads) (h3 : za_F2 (zp_gV ads) rest rst) (h4 : ∃ lc, lv_has ls (za_nL M) lc ∧ za_F2 (zp_gP ads) lv lc) (h6 : va_S (za_A E) s.heap H locs) :
    W p l e R s m args below meth c H locs cells slots (vx_MQ below (zp_Qc E ads0 X0) (zp_XC E ads0 X0) args s (za_mc M) (za_ms M) (za_A E)) (F0 m pc ls stk) := by
  intro T hT X
  rcases hr T hT X with ⟨v, st₀, t9, T', L9, g0, X', hL, e1, e2, hq, st⟩ | ⟨q, st₀, t9, T', L9, nm, ce, g0, X', hL, e1, e2, hx9, hce, hcv, hcl, st⟩
  · obtain ⟨v9, ads9, w9, m1, m2, m3, m4, m6, m7⟩ := hq
    cases m2
    have hS : va_S (za_A E) s.heap T'.heap (locs ++ L9) := by
      refine ⟨X'.same.2.1, fun q hq1 hq2 => ?_, fun z hz => ?_⟩
      · have hq3 : q < (za_H0 E).size := Nat.not_le.mp hq2
        rw [e1, m7.2 q hq3, h0.2 q hq3]
      · rcases List.mem_append.mp hz with z1 | z1
        · exact h6.2.2 z z1
        · exact hL z z1
    obtain ⟨xo, xh⟩ := X1
    have m1 : xo = .inl v9 := m1
    subst m1
    have hG : zp_G p l e R s m args below meth c (vx_MQ below (zp_Qc E ads0 X0) (zp_XC E ads0 X0) args s (za_mc M) (za_ms M) (za_A E)) E (za_nL M) ads0 (pc + 3, lv, v9.toList ++ rest, xh, cells + mcY, slots + msY) := by
      cases v9 with
      | none => exact hK1
      | some v9 => exact hK1
    obtain ⟨t2, a1, b1⟩ := hG ads9 T'.heap (locs ++ L9) ls (v.toList ++ rst) ⟨h1.trans m4, zp_gW_st m3 (za_F2_mono (fun _ _ => zp_gV_mono m4) h3), zp_lv_mono m4 h4, by rw [e1]; exact m6, hS⟩ T' rfl X'
    exact ⟨t2, st t2 a1, b1⟩
  · obtain ⟨ex, ads9, m1, mex, m2, m4, m6, m7⟩ := hx9
    subst m2
    have hS : va_S (za_A E) s.heap T'.heap (locs ++ L9) := by
      refine ⟨X'.same.2.1, fun q hq1 hq2 => ?_, fun z hz => ?_⟩
      · have hq3 : q < (za_H0 E).size := Nat.not_le.mp hq2
        rw [e1, m7.2 q hq3, h0.2 q hq3]
      · rcases List.mem_append.mp hz with z1 | z1
        · exact h6.2.2 z z1
        · exact hL z z1
    obtain ⟨xo, xh⟩ := X1
    have m1 : xo = .inr ex := m1
    subst m1
    have z1 : zp_K1 (fun S X => zp_G p l e R s m args below meth c (vx_MQ below (zp_Qc E ads0 X) (zp_XC E ads0 X) args s (za_mc M) (za_ms M) (za_A E)) E (za_nL M) ads0 S) (match za_hnd cp pc ex (za_hh M) with
      | none => none
      | some none => some (.inr (.inr ex, xh))
      | some (some hp) => match za_fe (za_is M) hp with
        | some (.astore_n k) => bif Nat.blt k.val (za_nL M) then some (.inl (hp + 1, zp_fl lv k.val, [], xh, cells + mcY, slots + msY)) else none
        | some (.astore k) => bif Nat.blt k (za_nL M) then some (.inl (hp + 2, zp_fl lv k, [], xh, cells + mcY, slots + msY)) else none
        | _ => none) X0 := hK1
    have hce9 : T'.heap[q]? = some ce := by rw [e1]; exact hce
    split at z1
    · exact z1.elim
    · rename_i hhnd
      have z1 : ((.inr ex, xh) : zp_X) = X0 := z1
      subst z1
      have hV : vx_W p l e R s m args below meth c T'.heap (locs ++ L9) (cells + mcY) (slots + msY) (vx_MQ below (zp_Qc E ads0 (.inr ex, xh)) (zp_XC E ads0 (.inr ex, xh)) args s (za_mc M) (za_ms M) (za_A E)) (F0 m pc ls rst) q :=
        vx_out (fun x hx => za_hnd_out hhnd x (by rw [← htab]; exact hx)) hlocks hce9 hcv hcl (fun t8 ht _ => ⟨ex, ads9, rfl, mex, rfl, h1.trans m4, by rw [ht, e1]; exact m6, by rw [ht, e1]; exact m7⟩) (fun z hz => hS.2.2 z hz) hcs hsl
      obtain ⟨t2, a1, b1⟩ := hV T' rfl X'
      exact ⟨t2, st.trans a1, b1⟩
    · rename_i hp hhnd
      have h4 := zp_lv_mono m4 h4
      obtain ⟨lc, l1, l2⟩ := h4
      have hV : vx_W p l e R s m args below meth c T'.heap (locs ++ L9) (cells + mcY) (slots + msY) (vx_MQ below (zp_Qc E ads0 X0) (zp_XC E ads0 X0) args s (za_mc M) (za_ms M) (za_A E)) (F0 m pc ls rst) q := by
        refine zh_catch hown htab hzk mex hhnd hce9 hcv hcl ?_
        split at z1
        · rename_i k hfe
          cases g1 : Nat.blt k.val (za_nL M) with
          | false => rw [g1] at z1; exact z1.elim
          | true =>
            rw [g1] at z1
            refine lv_astore_n hx hb (za_fe_1 hdec hfe rfl) rfl l1 (za_blt g1) rfl (fun ls' h4 => ?_)
            exact z1 ads9 T'.heap (locs ++ L9) ls' [] ⟨h1.trans m4, trivial, ⟨_, ⟨h4.1, h4.2.1, fun z hz => h4.2.2 z (List.mem_cons_of_mem _ hz)⟩, za_F2_filter (fun a b hab => by rw [hab.1, zp_cat_ok hab.2]) l2⟩, by rw [e1]; exact m6, hS⟩
        · rename_i k hfe
          cases g1 : Nat.blt k (za_nL M) with
          | false => rw [g1] at z1; exact z1.elim
          | true =>
            rw [g1] at z1
            refine lv_astore hx hb (za_fe_1 hdec hfe rfl) l1 (za_blt g1) rfl (fun ls' h4 => ?_)
            exact z1 ads9 T'.heap (locs ++ L9) ls' [] ⟨h1.trans m4, trivial, ⟨_, ⟨h4.1, h4.2.1, fun z hz => h4.2.2 z (List.mem_cons_of_mem _ hz)⟩, za_F2_filter (fun a b hab => by rw [hab.1, zp_cat_ok hab.2]) l2⟩, by rw [e1]; exact m6, hS⟩
        · exact z1.elim
      obtain ⟨t2, a1, b1⟩ := hV T' rfl X'
      exact ⟨t2, st.trans a1, b1⟩
theorem zy_met0 {y : MethodName} {ws : List Cond} {rm : Room} {Pc : Array Value → State → Prop} {X1 : zp_X} {ads : List Nat} {mc ms : Nat} {free : Addr → Prop} (h : vx_Met l y ws rm Pc (zp_Qc E ads X1) (zp_XC E ads X1) mc ms free) (hn : zp_nox X1) : Met l y ws rm Pc (zp_Qc E ads X1) mc ms free := by
  intro p e h1 h2 h3 s m args below h4 h5 h6 h7
  obtain ⟨n, o, k1, k2, k3, k4⟩ := h p e h1 h2 h3 s m args below h4 h5 h6 h7
  refine ⟨n, o, k1, k2, k3, ?_⟩
  rcases k4 with k4 | ⟨q, -, E9, ce, L9, ⟨ex, ads9, m1, -⟩, -⟩
  · exact k4
  · unfold zp_nox at hn
    rw [m1] at hn
    exact hn.elim
theorem zy_len {k : Nat} {ads : List Nat} {As : List Value} (hA : za_F2 (zp_gV ads) (st.take k).reverse As) (hk : k ≤ st.length) : As.length = k := by
  rw [← za_F2_len hA]
  simp only [List.length_reverse, List.length_take]
  omega
theorem zy_rk {k own : Nat} {hp : zp_H} (h : zp_isRk st k hp own = true) : ∃ q, st[k]? = some (.inr (.inr (some (q + 1)))) ∧ hp.1[q]? = some (.inl own) := by
  unfold zp_isRk at h
  split at h
  · rename_i q hq
    split at h
    · rename_i ci h9
      have h := za_beq h
      subst h
      exact ⟨q, hq, h9⟩
    · cases h
  · cases h
theorem zy_inv {nx : Bool} {Y : za_MI} {j k : Nat} {X1 : zp_X} (X : za_Cx p l R s m args meth c E L s0 d M) (IH : zp_IH l E s0 d C) (hj : za_MT j = some Y)
    (rule : ∀ {H : Heap} {locs : List Loc} {cells slots : Nat} {ls : Array Slot} {as : List zp_V} {As rst : List Value} {ads : List Nat}, as = (st.take k).reverse → cells + za_mc Y ≤ R.cells ∧ slots + za_ms Y ≤ R.slots → vx_Met l Y.1 [za_word Y] (za_rm d Y) (zp_Pc E s0 ads as t.1) (zp_Qc E ads X1) (zp_XC E ads X1) (za_mc Y) (za_ms Y) (za_A E) → (nx = true → zp_nox X1) → (∀ U : State, U.heap = H → s.WarmedH U.vm → zp_Pc E s0 ads as t.1 As.toArray U) → za_F2 (zp_gV ads) as As → zp_Wd E ads t.1 H → k ≤ st.length → ls.size = za_nL M → (rst.map fun v => v.category).sum ≤ 8 →
      vx_Run p l e R s m args below meth c H locs cells slots (za_mc Y) (za_ms Y) (F0 m pc ls (As.reverse ++ rst)) rst (zp_Qc E ads X1 As.toArray) (zp_XC E ads X1) (za_A E))
    (hp : zp_pre M Y k st t) (hC : C j (st.take k).reverse t.1 X1) (hnx : nx = true → zp_nox X1)
    (hK1 : zp_K1 (fun S X => zp_G p l e R s m args below meth c (vx_MQ below (zp_Qc E ads0 X) (zp_XC E ads0 X) args s (za_mc M) (za_ms M) (za_A E)) E (za_nL M) ads0 S) (zp_aft M (za_CP (za_cl M)) pc lv (st.drop k) (t.2.1 + za_mc Y) (t.2.2 + za_ms Y) X1) X0) : zp_G p l e R s m args below meth c (vx_MQ below (zp_Qc E ads0 X0) (zp_XC E ads0 X0) args s (za_mc M) (za_ms M) (za_A E)) E (za_nL M) ads0 (pc, lv, st, t) := by
  obtain ⟨hx, hb, hml, hr, hlocks, hnm, hown, htab, K, hW, h0, hdec, hRf, hRl, hRc, hRs⟩ := X
  obtain ⟨g1, g2, g3, g4⟩ := hp
  intro ads H locs ls stk Mm
  obtain ⟨h1, h3, h4, h5, h6⟩ := Mm
  obtain ⟨As, rst, e9, s1, s2⟩ : ∃ As rst, stk = As.reverse ++ rst ∧ za_F2 (zp_gV ads) (st.take k).reverse As ∧ za_F2 (zp_gV ads) (st.drop k) rst :=
    ⟨(stk.take k).reverse, stk.drop k, by simp, za_F2_rev (za_F2_split k h3).1, (za_F2_split k h3).2⟩
  subst e9
  have hsz : ls.size = za_nL M := by
    obtain ⟨lc, l9, -⟩ := h4
    exact l9.1
  have hB := za_Bl_S h0 h6
  have hrun := rule (H := H) (locs := locs) (cells := t.2.1) (slots := t.2.2) (ls := ls) (rst := rst) rfl ⟨by rw [hRc]; exact g3, by rw [hRs]; exact g4⟩ (IH j Y _ _ X1 ads hj hC) hnx (fun U hU hWU => ⟨As, rfl, s1, by rw [hU]; exact h5, State.WarmedH.trans hW hWU, by rw [hU]; exact hB⟩) s1 h5 g1 hsz (by rw [zp_wt_ok s2]; exact g2)
  exact zy_aft hx hb hown hlocks h0 htab (zk_zh K hW _) hdec g3 g4 hrun hK1 h1 s2 h4 h6
theorem zy_call {i : Instr} {nx : Bool} {Y : za_MI} {j k : Nat} {X1 : zp_X} (X : za_Cx p l R s m args meth c E L s0 d M) (IH : zp_IH l E s0 d C) (hmm : (pc, i) ∈ za_is M) (h : zp_cl (za_CP (za_cl M)) i st t = some (nx, j, k, Y)) (hp : zp_pre M Y k st t) (hC : C j (st.take k).reverse t.1 X1) (hnx : nx = true → zp_nox X1)
    (hK1 : zp_K1 (fun S X => zp_G p l e R s m args below meth c (vx_MQ below (zp_Qc E ads0 X) (zp_XC E ads0 X) args s (za_mc M) (za_ms M) (za_A E)) E (za_nL M) ads0 S) (zp_aft M (za_CP (za_cl M)) pc lv (st.drop k) (t.2.1 + za_mc Y) (t.2.2 + za_ms Y) X1) X0) : zp_G p l e R s m args below meth c (vx_MQ below (zp_Qc E ads0 X0) (zp_XC E ads0 X0) args s (za_mc M) (za_ms M) (za_A E)) E (za_nL M) ads0 (pc, lv, st, t) := by
  obtain ⟨len, hd0, hln⟩ := za_dok_ok (q := (pc, i)) (List.all_eq_true.mp X.2.2.2.2.2.2.2.2.2.2.2.1 _ hmm)
  have hd : za_sw i = false → decode M.2.1 pc = .ok (i, za_ln i) := fun z => by
    rcases hln with h9 | h9
    · rw [show za_sw i = true from h9] at z; cases z
    · rw [show len = za_ln i from h9] at hd0; exact hd0
  have hfix := zj_fix X
  obtain ⟨-, -, -, -, -, -, -, -, K, hW, -⟩ := id X
  have hK := zk_K K hW
  have recv : ∀ {n : Nat} {Y : za_MI}, zp_isRk st n t.1 (za_cl Y) = true → (vwCl[za_cl Y]?).map (fun q => q.1) = some Y.1.cls → ∀ {ads : List Nat} {As : List Value} {H : Heap}, za_F2 (zp_gV ads) (st.take (n + 1)).reverse As → zp_Wd E ads t.1 H → n + 1 ≤ st.length → ∃ b Bs, As = .ref b :: Bs ∧ Bs.length = n ∧ ∃ cellB : Cell, H[b]? = some cellB ∧ cellB.vm.isStatics = false ∧ s.vm.findClass Y.1.cls = some cellB.cls := by
    intro n Y hrk hcl ads As H hA hw hle
    obtain ⟨q, e1, e2⟩ := zy_rk hrk
    rw [zl_rev e1] at hA
    obtain ⟨_, Bs, rfl, ⟨b, rfl, hb⟩, hB⟩ := za_F2_cons hA
    obtain ⟨ws, x, f1, f2, f3, f4, f5, f6, f7⟩ := zp_obj hw hb e2
    match x, f6, f7 with
    | .inr (cj, vs), f6, f7 =>
      obtain ⟨rfl, -, -⟩ := f7
      refine ⟨b, Bs, rfl, zy_len hB (by omega), ?_⟩
      cases hq : vwCl[za_cl Y]? with
      | none => rw [hq] at hcl; cases hcl
      | some q9 =>
        rw [hq] at hcl
        have hcl : q9.1 = Y.1.cls := Option.some.inj hcl
        rw [← hcl]
        exact va_recv hK f4 hq f6
  unfold zp_cl at h
  split at h
  · rename_i k9
    split at h
    · rename_i j9 n z hrow
      obtain ⟨w1, w2⟩ := zc_row hrow
      split at h
      · rename_i Y9 hj
        obtain ⟨hrk, h⟩ := za_bif h
        cases h
        have hs := zb_Y (show za_sY j _ = true from w2) hj
        simp only [Bool.and_eq_true, decide_eq_true_eq] at hs
        obtain ⟨⟨s1, s2⟩, s3⟩ := hs
        have l1 := zk_w K hW (a9 := args) _ (w1 (Cond.methodLink (za_ow (za_cl M)) k9 Y.1) (by simp [za_need, za_wY, hj]))
        have l2 := zk_w K hW (a9 := args) _ (w1 (Cond.instanceMethod Y.1) (by simp [za_need, za_wY, hj]))
        have l3 := zk_w K hW (a9 := args) _ (w1 (Cond.selects Y.1.cls Y.1 Y.1) (by simp [za_need, za_wY, hj]))
        refine zy_inv X IH hj ?_ hp hC hnx hK1
        intro H locs cells slots ls as As rst ads has hf hM hnx hPc hA hw hle hsz h8
        subst has
        obtain ⟨b, Bs, rfl, hlen, hcell⟩ := recv hrk s2 hA hw hle
        exact vx_runV hfix hM ⟨zj_CB X hj s3 s1 l1, l2, l3⟩ ⟨zp_Pc_blind, hcell, hPc⟩ rfl hlen hsz (by show (Value.ref b :: Bs).reverse ++ rst = _; simp) (by show 2 * 0 + _ ≤ 8; omega) (hd rfl) hf
      · cases h
    · rename_i j9 n z hrow
      obtain ⟨w1, w2⟩ := zc_row hrow
      split at h
      · rename_i Y9 hj
        obtain ⟨hrk, h⟩ := za_bif h
        cases h
        have hs := zb_Y (show za_sY j _ = true from w2) hj
        simp only [Bool.and_eq_true, decide_eq_true_eq] at hs
        obtain ⟨⟨s1, s2⟩, s3⟩ := hs
        have l1 := va_Nw.use (A := args) rfl (((K.2.2.2.1 _ (zc_nest hrow (Cond.methodLinkNest (za_ow (za_cl M)) k9 Y.1 RX11) (by simp [za_nneed, za_wY, hj])))).warmM hW)
        have l2 := zk_w K hW (a9 := args) _ (w1 (Cond.instanceMethod Y.1) (by simp [za_need, za_wY, hj]))
        have l3 := zk_w K hW (a9 := args) _ (w1 (Cond.selects Y.1.cls Y.1 Y.1) (by simp [za_need, za_wY, hj]))
        refine zy_inv X IH hj ?_ hp hC hnx hK1
        intro H locs cells slots ls as As rst ads has hf hM hnx hPc hA hw hle hsz h8
        subst has
        obtain ⟨b, Bs, rfl, hlen, hcell⟩ := recv hrk s2 hA hw hle
        exact zr_of (va_runVN hfix (zy_met0 hM (hnx rfl)) ⟨zj_CN X hj s3 s1 l1, l2, l3⟩ ⟨zp_Pc_blind, hcell, hPc⟩ rfl hlen hsz (by show (Value.ref b :: Bs).reverse ++ rst = _; simp) (by show 2 * 0 + _ ≤ 8; omega) (hd rfl) hf)
      · cases h
    · cases h
  · rename_i k9
    split at h
    · rename_i j9 n z hrow
      obtain ⟨w1, w2⟩ := zc_row hrow
      split at h
      · rename_i Y9 hj
        cases h
        have s1 := zb_Y (show za_sY j _ = true from w2) hj
        have l1 := zk_w K hW (a9 := args) _ (w1 (Cond.methodLink (za_ow (za_cl M)) k9 Y.1) (by simp [za_need, za_wY, hj]))
        have l2 := zk_w K hW (a9 := args) _ (w1 (Cond.static Y.1) (by simp [za_need, za_wY, hj]))
        refine zy_inv X IH hj ?_ hp hC hnx hK1
        intro H locs cells slots ls as As rst ads has hf hM hnx hPc hA hw hle hsz h8
        subst has
        by_cases hh : za_hh Y = []
        · exact vx_runS hfix hM ⟨zj_CB X hj hh s1 l1, l2⟩ ⟨zp_Pc_blind, hPc⟩ rfl (zy_len hA hle) hsz rfl (by show 2 * 0 + _ ≤ 8; omega) (hd rfl) hf
        · exact vx_runSX hfix hM (zj_CSW X hj hh s1 l1 l2) ⟨zp_Pc_blind, hPc⟩ rfl (zy_len hA hle) hsz rfl (by show 2 * 0 + _ ≤ 8; omega) (hd rfl) hf
      · cases h
    · rename_i j9 n z hrow
      obtain ⟨w1, w2⟩ := zc_row hrow
      split at h
      · rename_i Y9 hj
        cases h
        have hs := zb_Y (show za_sY j _ = true from w2) hj
        simp only [Bool.and_eq_true, decide_eq_true_eq] at hs
        obtain ⟨s1, s3⟩ := hs
        have l1 := va_Nw.use (A := args) rfl (((K.2.2.2.1 _ (zc_nest hrow (Cond.methodLinkNest (za_ow (za_cl M)) k9 Y.1 RX11) (by simp [za_nneed, za_wY, hj])))).warmM hW)
        have l2 := zk_w K hW (a9 := args) _ (w1 (Cond.static Y.1) (by simp [za_need, za_wY, hj]))
        refine zy_inv X IH hj ?_ hp hC hnx hK1
        intro H locs cells slots ls as As rst ads has hf hM hnx hPc hA hw hle hsz h8
        subst has
        exact zr_of (va_runSN hfix (zy_met0 hM (hnx rfl)) ⟨zj_CN X hj s3 s1 l1, l2, trivial⟩ ⟨zp_Pc_blind, hPc⟩ rfl (zy_len hA hle) hsz rfl (by show 2 * 0 + _ ≤ 8; omega) (hd rfl) hf)
      · cases h
    · cases h
  · cases h
/-! the run -/
theorem zy_run (X : za_Cx p l R s m args meth c E L s0 d M) (hstr : zp_strOK l E L s0) (IH : zp_IH l E s0 d C) : ∀ (n : Nat) (S : zp_S) (X0 : zp_X), zp_RunN L (za_σ E) M C n S X0 → zp_G p l e R s m args below meth c (vx_MQ below (zp_Qc E ads0 X0) (zp_XC E ads0 X0) args s (za_mc M) (za_ms M) (za_A E)) E (za_nL M) ads0 S
  | 0, _, _, h => h.elim
  | n + 1, (pc, lv, st, t), X0, h => by
    obtain ⟨i, hi, h⟩ := h
    have hmm := za_fe_mem hi
    rcases h with ⟨S', h1, h2⟩ | h | ⟨nx, j, k, Y, X1, h1, h2, h3, h4, h5⟩
    · exact zy_ins X hstr hmm h1 (zy_run X hstr IH n S' X0 h2)
    · exact zy_end X hmm h
    · refine zy_call X IH hmm h1 h2 h3 h4 ?_
      generalize zp_aft M (za_CP (za_cl M)) pc lv (st.drop k) (t.2.1 + za_mc Y) (t.2.2 + za_ms Y) X1 = o at h5 ⊢
      match o, h5 with
      | some (.inl S'), h5 => exact zy_run X hstr IH n S' X0 h5
      | some (.inr X'), h5 => exact h5
end ZY
theorem zp_sl : ∀ {ads : List Nat} {as : List zp_V} {vs : List Value}, za_F2 (zp_gV ads) as vs → (lg_sl vs).length = zp_wt as
  | _, [], [], _ => rfl
  | _, v :: as, w :: vs, h => by
    have h1 := zp_sl h.2
    have h2 := zp_cat_ok h.1
    have h3 : lg_sl (w :: vs) = (if w.category = 2 then [Slot.val w, Slot.second] else [Slot.val w]) ++ lg_sl vs := rfl
    have h4 : zp_wt (v :: as) = zp_cat v + zp_wt as := rfl
    rw [h3, h4, List.length_append, h1, ← h2]
    cases w <;> rfl
  | _, [], _ :: _, h => h.elim
  | _, _ :: _, [], h => h.elim
theorem zp_args_ok : ∀ {ads : List Nat} {as : List zp_V} {vs : List Value} (i : Nat), za_F2 (zp_gV ads) as vs → za_F2 (zp_gP ads) (zp_args i as) (lv_args i vs)
  | _, [], [], _, _ => trivial
  | _, v :: as, w :: vs, i, h => by
    have h2 := zp_cat_ok h.1
    refine ⟨⟨rfl, h.1⟩, ?_⟩
    rw [h2]
    exact zp_args_ok _ h.2
  | _, [], _ :: _, _, h => h.elim
  | _, _ :: _, [], _, h => h.elim
theorem zy_spec {Y : za_MI} {args : Array Value} {s : State} {m : MethodId} (h : (za_word Y).before args s = true) (hn : s.methodNamed? Y.1 = some m) : ∃ meth c, s.vm.method? m = some meth ∧ meth.code = some c ∧ c.code = Y.2.1 ∧ c.maxLocals = za_nL Y ∧ meth.sig.returnType = za_rt Y ∧ meth.locks = false ∧ c.exceptionTable.toList = tableOf (za_hh Y) := by
  by_cases hh : za_hh Y = []
  · rw [zj_code hh] at h
    obtain ⟨meth, c, h1, h2, h3, h4, h5, h6, h7, -⟩ := Cond.code_spec hn h
    exact ⟨meth, c, h1, h2, h3, h4, h5, h6, by rw [Array.isEmpty_iff.mp h7, hh]; rfl⟩
  · rw [zj_with hh] at h
    obtain ⟨m9, meth, c, hn9, h1, h2, h3, h4, h6, h5, h7, -⟩ := Cond.codeWith_spec h
    cases Option.some.inj (hn9.symm.trans hn)
    exact ⟨meth, c, h1, h2, h3, h4, h5, h7, by rw [← h6, table_eq]⟩
theorem zy_met {l : Launch} {E : za_E} {s0 : State} {L d n : Nat} {C : zp_C} {Y : za_MI} {as : List zp_V} {h : zp_H} {X0 : zp_X} {ads : List Nat} (K : za_K0 l E L s0) (hstr : zp_strOK l E L s0) (IH : zp_IH l E s0 d C) (hpl : plainFor Y.1 = true) (how : za_ow (za_cl Y) = Y.1.cls) (hdec : (za_is Y).all (za_dok Y.2.1) = true) (hwt : zp_wt as ≤ za_nL Y) (hrun : zp_RunN L (za_σ E) Y C n (0, zp_args 0 as, [], h, 0, 0) X0) :
    vx_Met l Y.1 [za_word Y] (za_rm (d + 1) Y) (zp_Pc E s0 ads as h) (zp_Qc E ads X0) (zp_XC E ads X0) (za_mc Y) (za_ms Y) (za_A E) := by
  refine MetFree.of_bodySF (code := Y.2.1) (maxLocals := za_nL Y) (ret := za_rt Y) hpl ?_ ?_
  · intro args s m h hn
    obtain ⟨meth, c, h1, h2, h3, h4, h5, h6, -⟩ := zy_spec (atoms_spec (ws := [za_word Y]) h _ List.mem_cons_self) hn
    exact ⟨meth, c, h1, h2, h3, h4, h5, h6⟩
  · intro p e s m args below meth c s₁ B hml hP _
    have hh0 : s₁.heap = s.heap := by rw [B.state]; rfl
    obtain ⟨vs, rfl, hA, hWd, hW, hBl⟩ := hP
    have htab : c.exceptionTable.toList = tableOf (za_hh Y) := by
      obtain ⟨meth9, c9, h1, h2, -, -, -, -, h7⟩ := zy_spec (atoms_spec (ws := [za_word Y]) B.pre _ List.mem_cons_self) B.named
      cases Option.some.inj (h1.symm.trans B.method)
      cases Option.some.inj (h2.symm.trans (Stand.of_body B).code)
      exact h7
    have X : za_Cx p l (headSpec [za_word Y] (za_rm (d + 1) Y)).room s m vs.toArray meth c E L s0 d Y := ⟨B.exec, B.bytes, hml, B.returns, B.notSynchronized, (name_of_methodNamed B.named B.method).1, by rw [how]; exact findClass_of_methodNamed B.named, htab, K, hW, hBl, hdec, by show d + 9 ≤ d + 1 + 8; omega, by show 64 * d + 259 ≤ 64 * (d + 1) + 200; omega, rfl, rfl⟩
    have hG := zy_run (below := below) (e := e) (ads0 := ads) X hstr IH n _ X0 hrun ads s.heap [] ((lg_sl vs ++ List.replicate (za_nL Y - (lg_sl vs).length) Slot.unset).toArray) [] ⟨List.prefix_rfl, trivial, ⟨lv_args 0 vs, lv_entry vs (by rw [zp_sl hA]; exact hwt), zp_args_ok 0 hA⟩, hWd, ⟨Nat.le_refl _, fun _ _ _ => rfl, fun z hz => absurd hz List.not_mem_nil⟩⟩
    rw [lg_entry_eq]
    obtain ⟨t, a1, o, b1, b2, b3⟩ := hG s₁ hh0 (Stand.of_body B)
    exact ⟨t, o, a1, b1, b2, b3⟩
theorem zy_all {l : Launch} {E : za_E} {s0 : State} {L : Nat} (K : za_K0 l E L s0) (hstr : zp_strOK l E L s0) : ∀ d : Nat, zp_IH l E s0 d (zp_Call L (za_σ E) d)
  | 0 => fun _ _ _ _ _ _ _ hc => hc.elim
  | d + 1 => by
    intro j Y as h X ads hj hc
    obtain ⟨Y9, n, h1, h2, h3⟩ := hc
    cases Option.some.inj (h1.symm.trans hj)
    obtain ⟨o1, o2, -⟩ := zj_ok hj
    exact zy_met K hstr (zy_all K hstr d) o1 o2 (zm_d _ (zm_all hj)) h2 h3
end
section
/-! ===== the abstract executor: values, facts ===== -/
/-- (0, c): the number c; (j + 1, c): the j-th unknown and c -/
abbrev zk_I : Type := Nat × Int
/-- a number; none: a long; some r: a reference -/
abbrev zk_V : Type := zk_I ⊕ Option (Option Nat)
/-- least, most, isn't 0, what divides it -/
abbrev zk_E : Type := Int × Int × Bool × Nat
/-- how many unknowns; their ranges; fields (place, slot, written, value); array places; sums -/
abbrev zk_A : Type := Nat × List (Nat × zk_E) × List (Nat × Nat × Bool × zk_I) × List (Nat × zk_I × zk_I) × List (Nat × zk_I × zk_I × zk_I)
/-- shape, references, fields' ranges, arrays' ranges (modulus, ranges), conditions, what the ghost reads -/
abbrev zk_B : Type := List zp_K × (Nat → Nat → Option Nat) × (Nat → Nat → Option (Int × Int)) × (Nat → Nat × List (Int × Int)) × List (Nat × Nat × Int × Nat × Int × Int) × (Nat → Nat → Bool)
def zk_ev (τ : Nat → Int) (a : zk_I) : Int := match a.1 with
  | 0 => a.2
  | j + 1 => τ j + a.2
def zk_ok (t : Int) (e : zk_E) : Prop := e.1 ≤ t ∧ t ≤ e.2.1 ∧ (e.2.2.1 = true → t ≠ 0) ∧ ((e.2.2.2 : Int) ∣ t)
def zk_mo (τ : Nat → Int) (q : Nat × zk_I × zk_I × zk_I) : Prop := match q.1 with
  | 0 => zk_ev τ q.2.2.2 = zk_ev τ q.2.1 + zk_ev τ q.2.2.1 ∧ -2147483648 ≤ zk_ev τ q.2.2.2 ∧ zk_ev τ q.2.2.2 ≤ 2147483647
  | 1 => zk_ev τ q.2.2.2 = zk_ev τ q.2.1 - zk_ev τ q.2.2.1 ∧ -2147483648 ≤ zk_ev τ q.2.2.2 ∧ zk_ev τ q.2.2.2 ≤ 2147483647
  | 2 => zk_ev τ q.2.2.2 = (Int32.ofInt (zk_ev τ q.2.1) &&& Int32.ofInt (zk_ev τ q.2.2.1)).toInt
  | _ => zk_ev τ q.2.2.1 ≤ zk_ev τ q.2.1
/-- a field's number, or the ghost's -/
def zk_fv (gh : zp_H → Int) (H : zp_H) (p k : Nat) : Int := if p = 72 ∧ k = 100 then gh H else (H.2.1 p k).toInt
def zk_in (x : Int) (r : Int × Int) : Prop := r.1 ≤ x ∧ x ≤ r.2
/-- the numbers' part -/
def zk_N (τ : Nat → Int) (A : zk_A) : Prop := (∀ q ∈ A.2.1, q.1 < A.1 ∧ zk_ok (τ q.1) q.2) ∧ (∀ q ∈ A.2.2.2.2, q.2.1.1 ≤ A.1 ∧ q.2.2.1.1 ≤ A.1 ∧ q.2.2.2.1 ≤ A.1 ∧ zk_mo τ q)
/-- the heap's part -/
def zk_Hp (B : zk_B) (gh : zp_H → Int) (J : zp_H → Prop) (τ : Nat → Int) (A : zk_A) (H : zp_H) : Prop :=
  H.1 = B.1 ∧ (∀ p k, H.2.2.2 p k = B.2.1 p k) ∧
  (∀ q ∈ A.2.2.1, q.2.2.2.1 ≤ A.1 ∧ zk_fv gh H q.1 q.2.1 = zk_ev τ q.2.2.2) ∧
  (∀ q ∈ A.2.2.2.1, q.2.1.1 ≤ A.1 ∧ q.2.2.1 ≤ A.1 ∧ 0 ≤ zk_ev τ q.2.1 ∧ (H.2.1 q.1 (zk_ev τ q.2.1).toNat).toInt = zk_ev τ q.2.2) ∧
  (∀ p k r, B.2.2.1 p k = some r → (∃ q ∈ A.2.2.1, q.1 = p ∧ q.2.1 = k) ∨ zk_in (zk_fv gh H p k) r) ∧
  (∀ (p t n i : Nat) (r : Int × Int), B.1[p]? = some (.inr (t, n)) → i < n → (B.2.2.2.1 p).2[i % (B.2.2.2.1 p).1]? = some r → zk_in (H.2.1 p i).toInt r) ∧
  (∀ c ∈ B.2.2.2.2.1, (∃ q ∈ A.2.2.1, q.1 = c.1 ∧ (q.2.1 = c.2.1 ∨ q.2.1 = c.2.2.2.1) ∧ q.2.2.1 = true) ∨ (zk_fv gh H c.1 c.2.1 = c.2.2.1 → zk_in (zk_fv gh H c.1 c.2.2.2.1) c.2.2.2.2)) ∧
  J H
def zk_gV (τ : Nat → Int) (n : Nat) (a : zk_V) (v : zp_V) : Prop := match a, v with
  | .inl i, .inl x => i.1 ≤ n ∧ x.toInt = zk_ev τ i
  | .inr none, .inr (.inl _) => True
  | .inr (some r), .inr (.inr r') => r' = r
  | _, _ => False
def zk_gP (τ : Nat → Int) (n : Nat) (a : Nat × zk_V) (v : Nat × zp_V) : Prop := a.1 = v.1 ∧ zk_gV τ n a.2 v.2
def zk_ext (n : Nat) (τ τ' : Nat → Int) : Prop := ∀ j, j < n → τ' j = τ j
theorem zk_ext_r {n : Nat} (τ : Nat → Int) : zk_ext n τ τ := fun _ _ => rfl
theorem zk_ext_t {n n' : Nat} {τ τ' τ'' : Nat → Int} (hn : n ≤ n') (h1 : zk_ext n τ τ') (h2 : zk_ext n' τ' τ'') : zk_ext n τ τ'' := fun j hj => (h2 j (Nat.lt_of_lt_of_le hj hn)).trans (h1 j hj)
theorem zk_ev_x {n : Nat} {τ τ' : Nat → Int} {a : zk_I} (ha : a.1 ≤ n) (h : zk_ext n τ τ') : zk_ev τ' a = zk_ev τ a := by
  obtain ⟨k, c⟩ := a
  cases k with
  | zero => rfl
  | succ j =>
    show τ' j + c = τ j + c
    rw [h j ha]
theorem zk_gV_x {n n' : Nat} {τ τ' : Nat → Int} (hn : n ≤ n') (h : zk_ext n τ τ') {a : zk_V} {v : zp_V} (hv : zk_gV τ n a v) : zk_gV τ' n' a v := by
  match a, v, hv with
  | .inl i, .inl x, hv => exact ⟨Nat.le_trans hv.1 hn, by rw [zk_ev_x hv.1 h]; exact hv.2⟩
  | .inr none, .inr (.inl _), _ => trivial
  | .inr (some r), .inr (.inr r'), hv => exact hv
theorem zk_mo_x {n : Nat} {τ τ' : Nat → Int} (h : zk_ext n τ τ') {q : Nat × zk_I × zk_I × zk_I} (h1 : q.2.1.1 ≤ n) (h2 : q.2.2.1.1 ≤ n) (h3 : q.2.2.2.1 ≤ n) (hq : zk_mo τ q) : zk_mo τ' q := by
  unfold zk_mo at hq ⊢
  rw [zk_ev_x h1 h, zk_ev_x h2 h, zk_ev_x h3 h]
  exact hq
theorem zk_N_x {τ τ' : Nat → Int} {A : zk_A} (h : zk_ext A.1 τ τ') (hN : zk_N τ A) : zk_N τ' A :=
  ⟨fun q hq => ⟨(hN.1 q hq).1, by rw [h _ (hN.1 q hq).1]; exact (hN.1 q hq).2⟩, fun q hq => by
    obtain ⟨h1, h2, h3, h4⟩ := hN.2 q hq
    exact ⟨h1, h2, h3, zk_mo_x h h1 h2 h3 h4⟩⟩
/-! a new unknown -/
def zk_up (τ : Nat → Int) (n : Nat) (z : Int) : Nat → Int := fun j => if j = n then z else τ j
theorem zk_up_x (τ : Nat → Int) (n : Nat) (z : Int) : zk_ext n τ (zk_up τ n z) := fun j hj => by
  unfold zk_up
  rw [if_neg (Nat.ne_of_lt hj)]
def zk_new (A : zk_A) (e : zk_E) : zk_A := (A.1 + 1, (A.1, e) :: A.2.1, A.2.2)
theorem zk_new_N {τ : Nat → Int} {A : zk_A} {e : zk_E} {z : Int} (hN : zk_N τ A) (hz : zk_ok z e) : zk_N (zk_up τ A.1 z) (zk_new A e) := by
  have h9 := zk_N_x (zk_up_x τ A.1 z) hN
  refine ⟨fun q hq => ?_, fun q hq => ?_⟩
  · rcases List.mem_cons.mp hq with rfl | hq
    · exact ⟨Nat.lt_succ_self _, by unfold zk_up; rw [if_pos rfl]; exact hz⟩
    · exact ⟨Nat.lt_succ_of_lt (h9.1 q hq).1, (h9.1 q hq).2⟩
  · obtain ⟨h1, h2, h3, h4⟩ := h9.2 q hq
    exact ⟨Nat.le_succ_of_le h1, Nat.le_succ_of_le h2, Nat.le_succ_of_le h3, h4⟩
section KA
variable {B : zk_B} {gh : zp_H → Int} {J : zp_H → Prop} {τ τ' : Nat → Int} {A A' : zk_A} {H : zp_H}
/-- the heap's part looks at fields and array places alone -/
theorem zk_Hp_x (hn : A.1 ≤ A'.1) (ho : A'.2.2.1 = A.2.2.1) (ha : A'.2.2.2.1 = A.2.2.2.1) (h : zk_ext A.1 τ τ') (hH : zk_Hp B gh J τ A H) : zk_Hp B gh J τ' A' H := by
  obtain ⟨h1, h2, h3, h4, h5, h6, h7, h8⟩ := hH
  refine ⟨h1, h2, ?_, ?_, ?_, h6, ?_, h8⟩
  · rw [ho]
    intro q hq
    obtain ⟨g1, g2⟩ := h3 q hq
    exact ⟨Nat.le_trans g1 hn, by rw [zk_ev_x g1 h]; exact g2⟩
  · rw [ha]
    intro q hq
    obtain ⟨g1, g2, g3, g4⟩ := h4 q hq
    exact ⟨Nat.le_trans g1 hn, Nat.le_trans g2 hn, by rw [zk_ev_x g1 h]; exact g3, by rw [zk_ev_x g1 h, zk_ev_x g2 h]; exact g4⟩
  · rw [ho]; exact h5
  · rw [ho]; exact h7
end KA
/-! ranges -/
def zk_lk : List (Nat × zk_E) → Nat → Option zk_E
  | [], _ => none
  | q :: l, j => bif Nat.beq q.1 j then some q.2 else zk_lk l j
theorem zk_lk_m : ∀ {l : List (Nat × zk_E)} {j : Nat} {e : zk_E}, zk_lk l j = some e → (j, e) ∈ l
  | [], _, _, h => by cases h
  | q :: l, j, e, h => by
    unfold zk_lk at h
    cases hb : Nat.beq q.1 j with
    | true =>
      rw [hb] at h
      have e1 := za_beq hb
      cases h
      rw [← e1]
      exact List.mem_cons_self
    | false =>
      rw [hb] at h
      exact List.mem_cons_of_mem _ (zk_lk_m h)
def zk_rg (A : zk_A) (a : zk_I) : Option (Int × Int) := match a.1 with
  | 0 => some (a.2, a.2)
  | j + 1 => match zk_lk A.2.1 j with
    | some e => some (e.1 + a.2, e.2.1 + a.2)
    | none => none
theorem zk_rg_ok {τ : Nat → Int} {A : zk_A} {a : zk_I} {r : Int × Int} (hN : zk_N τ A) (h : zk_rg A a = some r) : zk_in (zk_ev τ a) r := by
  obtain ⟨k, c⟩ := a
  unfold zk_rg at h
  cases k with
  | zero =>
    cases h
    exact ⟨Int.le_refl _, Int.le_refl _⟩
  | succ j =>
    dsimp only at h
    split at h
    · rename_i e he
      cases h
      obtain ⟨-, g1, g2, -⟩ := hN.1 _ (zk_lk_m he)
      have g1 : e.1 ≤ τ j := g1
      have g2 : τ j ≤ e.2.1 := g2
      show e.1 + c ≤ τ j + c ∧ τ j + c ≤ e.2.1 + c
      omega
    · cases h
/-- what divides it -/
def zk_md (A : zk_A) (a : zk_I) : Nat := match a.1 with
  | 0 => a.2.natAbs
  | j + 1 => match zk_lk A.2.1 j with
    | some e => Nat.gcd e.2.2.2 a.2.natAbs
    | none => 1
theorem zk_md_ok {τ : Nat → Int} {A : zk_A} {a : zk_I} (hN : zk_N τ A) : ((zk_md A a : Nat) : Int) ∣ zk_ev τ a := by
  obtain ⟨k, c⟩ := a
  unfold zk_md
  cases k with
  | zero => exact Int.natAbs_dvd.mpr (Int.dvd_refl _)
  | succ j =>
    dsimp only
    split
    · rename_i e he
      obtain ⟨-, -, -, -, g4⟩ := hN.1 _ (zk_lk_m he)
      have h1 : ((Nat.gcd e.2.2.2 c.natAbs : Nat) : Int) ∣ τ j := Int.dvd_trans (Int.natCast_dvd_natCast.mpr (Nat.gcd_dvd_left _ _)) g4
      have h2 : ((Nat.gcd e.2.2.2 c.natAbs : Nat) : Int) ∣ c := Int.dvd_trans (Int.natCast_dvd_natCast.mpr (Nat.gcd_dvd_right _ _)) (Int.natAbs_dvd.mpr (Int.dvd_refl _))
      exact Int.dvd_add h1 h2
    · exact Int.one_dvd _
/-- a new unknown, or a number if it can be but one -/
def zk_fresh (A : zk_A) (lo hi : Int) (md : Nat) : zk_A × zk_I := bif za_ieq lo hi then (A, (0, lo)) else (zk_new A (lo, hi, false, md), (A.1 + 1, 0))
end
section
/-! ===== numbers: bounds of what the machine reckons ===== -/
theorem zn_t (x : Int32) : x.toInt = if 2 * x.toBitVec.toNat < 2 ^ 32 then (x.toBitVec.toNat : Int) else (x.toBitVec.toNat : Int) - ((2 ^ 32 : Nat) : Int) := BitVec.toInt_eq_toNat_cond x.toBitVec
theorem zn_nn {x : Int32} (h : 0 ≤ x.toInt) : x.toInt = (x.toBitVec.toNat : Int) ∧ x.toBitVec.toNat < 2147483648 := by
  have h1 := zn_t x
  have h2 := x.toBitVec.isLt
  split at h1
  · exact ⟨h1, by omega⟩
  · omega
theorem zn_of {x : Int32} (h : x.toBitVec.toNat < 2147483648) : x.toInt = (x.toBitVec.toNat : Int) := by
  have h1 := zn_t x
  split at h1
  · exact h1
  · omega
theorem zn_andR (x : Int32) {y : Int32} (h : 0 ≤ y.toInt) : 0 ≤ (x &&& y).toInt ∧ (x &&& y).toInt ≤ y.toInt := by
  obtain ⟨h1, h2⟩ := zn_nn h
  have h3 : (x &&& y).toBitVec.toNat = x.toBitVec.toNat &&& y.toBitVec.toNat := by
    rw [Int32.toBitVec_and, BitVec.toNat_and]
  have h4 : x.toBitVec.toNat &&& y.toBitVec.toNat ≤ y.toBitVec.toNat := Nat.and_le_right
  have h5 := zn_of (x := x &&& y) (by omega)
  omega
theorem zn_andL {x : Int32} (y : Int32) (h : 0 ≤ x.toInt) : 0 ≤ (x &&& y).toInt ∧ (x &&& y).toInt ≤ x.toInt := by
  obtain ⟨h1, h2⟩ := zn_nn h
  have h3 : (x &&& y).toBitVec.toNat = x.toBitVec.toNat &&& y.toBitVec.toNat := by
    rw [Int32.toBitVec_and, BitVec.toNat_and]
  have h4 : x.toBitVec.toNat &&& y.toBitVec.toNat ≤ x.toBitVec.toNat := Nat.and_le_left
  have h5 := zn_of (x := x &&& y) (by omega)
  omega
theorem zn_or {x y : Int32} {k : Nat} (hk : k ≤ 31) (h1 : 0 ≤ x.toInt) (h2 : 0 ≤ y.toInt) (h3 : x.toInt < ((2 ^ k : Nat) : Int)) (h4 : y.toInt < ((2 ^ k : Nat) : Int)) : 0 ≤ (x ||| y).toInt ∧ (x ||| y).toInt < ((2 ^ k : Nat) : Int) := by
  obtain ⟨a1, a2⟩ := zn_nn h1
  obtain ⟨b1, b2⟩ := zn_nn h2
  have h5 : (x ||| y).toBitVec.toNat = x.toBitVec.toNat ||| y.toBitVec.toNat := by
    rw [Int32.toBitVec_or, BitVec.toNat_or]
  have h6 : x.toBitVec.toNat ||| y.toBitVec.toNat < 2 ^ k := Nat.or_lt_two_pow (by omega) (by omega)
  have h7 : 2 ^ k ≤ 2 ^ 31 := Nat.pow_le_pow_right (by decide) hk
  have h8 := zn_of (x := x ||| y) (by omega)
  omega
theorem zn_shl0 : ∀ c : Fin 31, ((1 : Int32) <<< (Int32.ofNat c.val &&& 31)).toInt = ((2 ^ c.val : Nat) : Int) := by decide +kernel
theorem zn_shl {y : Int32} (h1 : 0 ≤ y.toInt) (h2 : y.toInt ≤ 30) : ((1 : Int32) <<< (y &&& 31)).toInt = ((2 ^ y.toInt.toNat : Nat) : Int) := by
  have h3 : y = Int32.ofNat y.toInt.toNat := by
    apply Int32.toInt_inj.mp
    rw [Int32.toInt_ofNat_of_lt (by omega)]
    omega
  have h4 := zn_shl0 ⟨y.toInt.toNat, by omega⟩
  rw [← h3] at h4
  exact h4
theorem zn_add {x y : Int32} (h1 : -2147483648 ≤ x.toInt + y.toInt) (h2 : x.toInt + y.toInt ≤ 2147483647) : (x + y).toInt = x.toInt + y.toInt := by
  rw [Int32.toInt_add]
  exact za_bmod h1 h2
theorem zn_sub {x y : Int32} (h1 : -2147483648 ≤ x.toInt - y.toInt) (h2 : x.toInt - y.toInt ≤ 2147483647) : (x - y).toInt = x.toInt - y.toInt := by
  rw [Int32.toInt_sub]
  exact za_bmod h1 h2
theorem zn_mul {x y : Int32} (h1 : -2147483648 ≤ x.toInt * y.toInt) (h2 : x.toInt * y.toInt ≤ 2147483647) : (x * y).toInt = x.toInt * y.toInt := by
  rw [Int32.toInt_mul]
  exact za_bmod h1 h2
theorem zn_neg {x : Int32} (h1 : -2147483647 ≤ x.toInt) : (-x).toInt = 0 - x.toInt := by
  have h2 := za_int x
  rw [Int32.toInt_neg, za_bmod (by omega) (by omega)]
  omega
theorem zn_div {x y : Int32} (h1 : 0 ≤ x.toInt) (h2 : 0 < y.toInt) : (x / y).toInt = x.toInt / y.toInt ∧ 0 ≤ x.toInt / y.toInt ∧ x.toInt / y.toInt ≤ x.toInt := by
  have h3 : 0 ≤ x.toInt / y.toInt := Int.ediv_nonneg h1 (by omega)
  have h4 : x.toInt / y.toInt ≤ x.toInt := Int.ediv_le_self _ h1
  have h5 := za_int x
  refine ⟨?_, h3, h4⟩
  rw [Int32.toInt_div, Int.tdiv_eq_ediv_of_nonneg h1]
  exact za_bmod (by omega) (by omega)
theorem zn_rem {x y : Int32} (h1 : 0 ≤ x.toInt) (h2 : 0 < y.toInt) : 0 ≤ (x - x / y * y).toInt ∧ (x - x / y * y).toInt ≤ x.toInt ∧ (x - x / y * y).toInt < y.toInt := by
  obtain ⟨g1, g2, g3⟩ := zn_div h1 h2
  have h5 := za_int x
  have h6 : x.toInt / y.toInt * y.toInt ≤ x.toInt := Int.ediv_mul_le _ (by omega)
  have h7 : x.toInt < (x.toInt / y.toInt + 1) * y.toInt := Int.lt_ediv_add_one_mul_self _ h2
  have h8 : 0 ≤ x.toInt / y.toInt * y.toInt := Int.mul_nonneg g2 (by omega)
  rw [Int.add_mul, Int.one_mul] at h7
  have h9 : (x / y * y).toInt = x.toInt / y.toInt * y.toInt := by
    rw [zn_mul (by rw [g1]; omega) (by rw [g1]; omega), g1]
  have h10 : (x - x / y * y).toInt = x.toInt - x.toInt / y.toInt * y.toInt := by
    rw [zn_sub (by rw [h9]; omega) (by rw [h9]; omega), h9]
  omega
theorem zn_i2b (x : Int32) : -128 ≤ x.toInt8.toInt32.toInt ∧ x.toInt8.toInt32.toInt ≤ 127 := by
  rw [Int8.toInt_toInt32]
  have h1 := Int8.le_toInt x.toInt8
  have h2 := Int8.toInt_lt x.toInt8
  omega
theorem zn_i2b' {x : Int32} (h1 : -128 ≤ x.toInt) (h2 : x.toInt ≤ 127) : x.toInt8.toInt32 = x := by
  apply Int32.toInt_inj.mp
  rw [Int8.toInt_toInt32, Int32.toInt_toInt8]
  rw [Int.bmod_def]
  omega
/-! ===== reckoning on what is known of numbers ===== -/
def zk_Rs (τ : Nat → Int) (A : zk_A) (z : Int) (q : zk_A × zk_I) : Prop := ∃ τ', zk_ext A.1 τ τ' ∧ A.1 ≤ q.1.1 ∧ zk_N τ' q.1 ∧ q.1.2.2.1 = A.2.2.1 ∧ q.1.2.2.2.1 = A.2.2.2.1 ∧ q.2.1 ≤ q.1.1 ∧ z = zk_ev τ' q.2
section KN
variable {τ : Nat → Int} {A : zk_A} {z : Int} {a b r : zk_I} {x y : Int32} {q : zk_A × zk_I}
theorem zk_Rs_s (hN : zk_N τ A) (hr : r.1 ≤ A.1) (hz : z = zk_ev τ r) : zk_Rs τ A z (A, r) := ⟨τ, zk_ext_r τ, Nat.le_refl _, hN, rfl, rfl, hr, hz⟩
theorem zk_fresh_ok {lo hi : Int} {md : Nat} (hN : zk_N τ A) (h1 : lo ≤ z) (h2 : z ≤ hi) (h3 : (md : Int) ∣ z) : zk_Rs τ A z (zk_fresh A lo hi md) := by
  unfold zk_fresh
  cases h : za_ieq lo hi with
  | true =>
    have e := za_ieq_t h
    exact zk_Rs_s hN (Nat.zero_le _) (by show z = lo; omega)
  | false =>
    refine ⟨zk_up τ A.1 z, zk_up_x τ A.1 z, Nat.le_succ _, zk_new_N hN ⟨h1, h2, (fun h => Bool.noConfusion h), h3⟩, rfl, rfl, Nat.le_refl _, ?_⟩
    show z = zk_up τ A.1 z A.1 + 0
    unfold zk_up
    rw [if_pos rfl]
    omega
def zk_full (A : zk_A) : zk_A × zk_I := zk_fresh A (-2147483648) 2147483647 1
theorem zk_full_ok (hN : zk_N τ A) (x : Int32) : zk_Rs τ A x.toInt (zk_full A) := by
  have h := za_int x
  exact zk_fresh_ok hN h.1 h.2 (Int.one_dvd _)
def zk_memo (q : zk_A × zk_I) (op : Nat) (a b : zk_I) : zk_A × zk_I := ((q.1.1, q.1.2.1, q.1.2.2.1, q.1.2.2.2.1, (op, a, b, q.2) :: q.1.2.2.2.2), q.2)
theorem zk_memo_ok {op : Nat} (h : zk_Rs τ A z q) (ha : a.1 ≤ A.1) (hb : b.1 ≤ A.1) (hm : ∀ τ', zk_ext A.1 τ τ' → z = zk_ev τ' q.2 → zk_mo τ' (op, a, b, q.2)) : zk_Rs τ A z (zk_memo q op a b) := by
  obtain ⟨τ', h1, h2, h3, h4, h5, h6, h7⟩ := h
  refine ⟨τ', h1, h2, ⟨h3.1, fun m hmm => ?_⟩, h4, h5, h6, h7⟩
  rcases List.mem_cons.mp hmm with rfl | hmm
  · exact ⟨Nat.le_trans ha h2, Nat.le_trans hb h2, h6, hm τ' h1 h7⟩
  · exact h3.2 m hmm
def zk_eqI (a b : zk_I) : Bool := bif Nat.beq a.1 b.1 then za_ieq a.2 b.2 else false
theorem zk_eqI_t (h : zk_eqI a b = true) : a = b := by
  unfold zk_eqI at h
  cases h1 : Nat.beq a.1 b.1 with
  | false => rw [h1] at h; cases h
  | true =>
    rw [h1] at h
    exact Prod.ext (za_beq h1) (za_ieq_t h)
def zk_look (op : Nat) (a b : zk_I) : List (Nat × zk_I × zk_I × zk_I) → Option zk_I
  | [] => none
  | q :: l => bif Nat.beq q.1 op then bif zk_eqI q.2.1 a then bif zk_eqI q.2.2.1 b then some q.2.2.2 else zk_look op a b l else zk_look op a b l else zk_look op a b l
theorem zk_look_m {op : Nat} : ∀ {l : List (Nat × zk_I × zk_I × zk_I)}, zk_look op a b l = some r → (op, a, b, r) ∈ l
  | [], h => by cases h
  | q :: l, h => by
    unfold zk_look at h
    cases h1 : Nat.beq q.1 op with
    | false => rw [h1] at h; exact List.mem_cons_of_mem _ (zk_look_m h)
    | true =>
      cases h2 : zk_eqI q.2.1 a with
      | false => rw [h1, h2] at h; exact List.mem_cons_of_mem _ (zk_look_m h)
      | true =>
        cases h3 : zk_eqI q.2.2.1 b with
        | false => rw [h1, h2, h3] at h; exact List.mem_cons_of_mem _ (zk_look_m h)
        | true =>
          rw [h1, h2, h3] at h
          cases h
          have e1 := za_beq h1
          have e2 := zk_eqI_t h2
          have e3 := zk_eqI_t h3
          rw [← e1, ← e2, ← e3]
          exact List.mem_cons_self
theorem zk_ev_off (τ : Nat → Int) (a : zk_I) (c : Int) : zk_ev τ (a.1, a.2 + c) = zk_ev τ a + c := by
  obtain ⟨k, d⟩ := a
  cases k with
  | zero => rfl
  | succ j =>
    show τ j + (d + c) = τ j + d + c
    omega
theorem zk_ev_0 {τ : Nat → Int} (h : Nat.beq a.1 0 = true) : zk_ev τ a = a.2 := by
  have e := za_beq h
  obtain ⟨k, d⟩ := a
  have e : k = 0 := e
  subst e
  rfl
def zk_add (A : zk_A) (a b : zk_I) : Option (zk_A × zk_I) := match zk_rg A a, zk_rg A b with
  | some (la, ha), some (lb, hb) =>
    bif (Nat.beq b.1 0).and (za_in (la + b.2) (ha + b.2)) then some (A, (a.1, a.2 + b.2))
    else bif (Nat.beq a.1 0).and (za_in (lb + a.2) (hb + a.2)) then some (A, (b.1, b.2 + a.2))
    else match zk_look 0 a b A.2.2.2.2 with
      | some r => some (A, r)
      | none => bif za_in (la + lb) (ha + hb) then some (zk_memo (zk_fresh A (la + lb) (ha + hb) (Nat.gcd (zk_md A a) (zk_md A b))) 0 a b) else some (zk_full A)
  | _, _ => none
theorem zk_add_ok (hN : zk_N τ A) (ha : a.1 ≤ A.1) (hb : b.1 ≤ A.1) (hx : x.toInt = zk_ev τ a) (hy : y.toInt = zk_ev τ b) (h : zk_add A a b = some q) : zk_Rs τ A (x + y).toInt q := by
  unfold zk_add at h
  split at h
  · rename_i la h1 lb h2 g1 g2
    have r1 := zk_rg_ok hN g1
    have r2 := zk_rg_ok hN g2
    unfold zk_in at r1 r2
    dsimp only at r1 r2
    cases c1 : (Nat.beq b.1 0).and (za_in (la + b.2) (h1 + b.2)) with
    | true =>
      rw [c1] at h
      cases h
      obtain ⟨c2, c3⟩ := Bool.and_eq_true_iff.mp c1
      have e1 := zk_ev_0 (τ := τ) c2
      have e2 := za_in_t c3
      refine zk_Rs_s hN ha ?_
      rw [zk_ev_off, zn_add (by omega) (by omega)]
      omega
    | false =>
      rw [c1] at h
      cases c4 : (Nat.beq a.1 0).and (za_in (lb + a.2) (h2 + a.2)) with
      | true =>
        rw [c4] at h
        cases h
        obtain ⟨c2, c3⟩ := Bool.and_eq_true_iff.mp c4
        have e1 := zk_ev_0 (τ := τ) c2
        have e2 := za_in_t c3
        refine zk_Rs_s hN hb ?_
        rw [zk_ev_off, zn_add (by omega) (by omega)]
        omega
      | false =>
        rw [c4] at h
        simp only [cond_false] at h
        split at h
        · rename_i r hr
          cases h
          obtain ⟨-, -, m3, m4, m5, m6⟩ := hN.2 _ (zk_look_m hr)
          have m4 : zk_ev τ r = zk_ev τ a + zk_ev τ b := m4
          refine zk_Rs_s hN m3 ?_
          dsimp only at m5 m6
          rw [zn_add (by omega) (by omega)]
          omega
        · cases c5 : za_in (la + lb) (h1 + h2) with
          | true =>
            rw [c5] at h
            cases h
            have e2 := za_in_t c5
            have e3 : (x + y).toInt = zk_ev τ a + zk_ev τ b := by rw [zn_add (by omega) (by omega)]; omega
            refine zk_memo_ok (zk_fresh_ok hN (by omega) (by omega) ?_) ha hb (fun τ' hτ hz => ?_)
            · rw [e3]
              exact Int.dvd_add (Int.dvd_trans (Int.natCast_dvd_natCast.mpr (Nat.gcd_dvd_left _ _)) (zk_md_ok hN)) (Int.dvd_trans (Int.natCast_dvd_natCast.mpr (Nat.gcd_dvd_right _ _)) (zk_md_ok hN))
            · have f1 := zk_ev_x ha hτ
              have f2 := zk_ev_x hb hτ
              generalize zk_fresh A (la + lb) (h1 + h2) (Nat.gcd (zk_md A a) (zk_md A b)) = q9 at hz
              show zk_ev τ' q9.2 = zk_ev τ' a + zk_ev τ' b ∧ -2147483648 ≤ zk_ev τ' q9.2 ∧ zk_ev τ' q9.2 ≤ 2147483647
              exact ⟨by omega, by omega, by omega⟩
          | false =>
            rw [c5] at h
            cases h
            exact zk_full_ok hN _
  · cases h
def zk_sub (A : zk_A) (a b : zk_I) : Option (zk_A × zk_I) := match zk_rg A a, zk_rg A b with
  | some (la, ha), some (lb, hb) =>
    bif (Nat.beq b.1 0).and (za_in (la - b.2) (ha - b.2)) then some (A, (a.1, a.2 + -b.2))
    else bif (Nat.beq a.1 b.1).and (za_in (a.2 - b.2) (a.2 - b.2)) then some (A, (0, a.2 - b.2))
    else match zk_look 1 a b A.2.2.2.2 with
      | some r => some (A, r)
      | none => bif za_in (la - hb) (ha - lb) then some (zk_memo (zk_fresh A (la - hb) (ha - lb) 1) 1 a b) else some (zk_full A)
  | _, _ => none
theorem zk_ev_d {τ : Nat → Int} (h : Nat.beq a.1 b.1 = true) : zk_ev τ a - zk_ev τ b = a.2 - b.2 := by
  have e := za_beq h
  obtain ⟨k, c⟩ := a
  obtain ⟨k', d⟩ := b
  have e : k = k' := e
  subst e
  cases k with
  | zero => rfl
  | succ j =>
    show τ j + c - (τ j + d) = c - d
    omega
theorem zk_sub_ok (hN : zk_N τ A) (ha : a.1 ≤ A.1) (hb : b.1 ≤ A.1) (hx : x.toInt = zk_ev τ a) (hy : y.toInt = zk_ev τ b) (h : zk_sub A a b = some q) : zk_Rs τ A (x - y).toInt q := by
  unfold zk_sub at h
  split at h
  · rename_i la h1 lb h2 g1 g2
    have r1 := zk_rg_ok hN g1
    have r2 := zk_rg_ok hN g2
    unfold zk_in at r1 r2
    dsimp only at r1 r2
    cases c1 : (Nat.beq b.1 0).and (za_in (la - b.2) (h1 - b.2)) with
    | true =>
      rw [c1] at h
      cases h
      obtain ⟨c2, c3⟩ := Bool.and_eq_true_iff.mp c1
      have e1 := zk_ev_0 (τ := τ) c2
      have e2 := za_in_t c3
      refine zk_Rs_s hN ha ?_
      rw [zk_ev_off, zn_sub (by omega) (by omega)]
      omega
    | false =>
      rw [c1] at h
      cases c4 : (Nat.beq a.1 b.1).and (za_in (a.2 - b.2) (a.2 - b.2)) with
      | true =>
        rw [c4] at h
        cases h
        obtain ⟨c2, c3⟩ := Bool.and_eq_true_iff.mp c4
        have e1 := zk_ev_d (τ := τ) c2
        have e2 := za_in_t c3
        refine zk_Rs_s hN (Nat.zero_le _) ?_
        show (x - y).toInt = a.2 - b.2
        rw [zn_sub (by omega) (by omega)]
        omega
      | false =>
        rw [c4] at h
        simp only [cond_false] at h
        split at h
        · rename_i r hr
          cases h
          obtain ⟨-, -, m3, m4, m5, m6⟩ := hN.2 _ (zk_look_m hr)
          have m4 : zk_ev τ r = zk_ev τ a - zk_ev τ b := m4
          refine zk_Rs_s hN m3 ?_
          dsimp only at m5 m6
          rw [zn_sub (by omega) (by omega)]
          omega
        · cases c5 : za_in (la - h2) (h1 - lb) with
          | true =>
            rw [c5] at h
            cases h
            have e2 := za_in_t c5
            have e3 : (x - y).toInt = zk_ev τ a - zk_ev τ b := by rw [zn_sub (by omega) (by omega)]; omega
            refine zk_memo_ok (zk_fresh_ok hN (by omega) (by omega) (Int.one_dvd _)) ha hb (fun τ' hτ hz => ?_)
            have f1 := zk_ev_x ha hτ
            have f2 := zk_ev_x hb hτ
            generalize zk_fresh A (la - h2) (h1 - lb) 1 = q9 at hz
            show zk_ev τ' q9.2 = zk_ev τ' a - zk_ev τ' b ∧ -2147483648 ≤ zk_ev τ' q9.2 ∧ zk_ev τ' q9.2 ≤ 2147483647
            exact ⟨by omega, by omega, by omega⟩
          | false =>
            rw [c5] at h
            cases h
            exact zk_full_ok hN _
  · cases h
def zk_mul (A : zk_A) (a b : zk_I) : Option (zk_A × zk_I) := match zk_rg A a, zk_rg A b with
  | some (la, ha), some (lb, hb) => bif (za_ile 0 la).and ((za_ile 0 lb).and (za_ile (ha * hb) 2147483647)) then some (zk_fresh A (la * lb) (ha * hb) (zk_md A a * zk_md A b)) else some (zk_full A)
  | _, _ => none
theorem zk_mul_ok (hN : zk_N τ A) (hx : x.toInt = zk_ev τ a) (hy : y.toInt = zk_ev τ b) (h : zk_mul A a b = some q) : zk_Rs τ A (x * y).toInt q := by
  unfold zk_mul at h
  split at h
  · rename_i la h1 lb h2 g1 g2
    have r1 := zk_rg_ok hN g1
    have r2 := zk_rg_ok hN g2
    unfold zk_in at r1 r2
    dsimp only at r1 r2
    cases c1 : (za_ile 0 la).and ((za_ile 0 lb).and (za_ile (h1 * h2) 2147483647)) with
    | true =>
      rw [c1] at h
      cases h
      obtain ⟨c2, c3⟩ := Bool.and_eq_true_iff.mp c1
      obtain ⟨c3, c4⟩ := Bool.and_eq_true_iff.mp c3
      have c2 := za_ile_t c2
      have c3 := za_ile_t c3
      have c4 := za_ile_t c4
      have e1 : la * lb ≤ zk_ev τ a * zk_ev τ b := Int.mul_le_mul r1.1 r2.1 c3 (by omega)
      have e2 : zk_ev τ a * zk_ev τ b ≤ h1 * h2 := Int.mul_le_mul r1.2 r2.2 (by omega) (by omega)
      have e3 : 0 ≤ la * lb := Int.mul_nonneg c2 c3
      have e4 : (x * y).toInt = zk_ev τ a * zk_ev τ b := by
        rw [zn_mul (by rw [hx, hy]; omega) (by rw [hx, hy]; omega), hx, hy]
      refine zk_fresh_ok hN (by omega) (by omega) ?_
      rw [e4, Int.natCast_mul]
      exact Int.mul_dvd_mul (zk_md_ok hN) (zk_md_ok hN)
    | false =>
      rw [c1] at h
      cases h
      exact zk_full_ok hN _
  · cases h
def zk_and (A : zk_A) (a b : zk_I) : Option (zk_A × zk_I) := match zk_rg A a, zk_rg A b with
  | some (la, ha), some (lb, hb) => match zk_look 2 a b A.2.2.2.2 with
    | some r => some (A, r)
    | none => bif za_ile 0 lb then bif za_ile 0 la then bif za_ile ha hb then some (zk_memo (zk_fresh A 0 ha 1) 2 a b) else some (zk_memo (zk_fresh A 0 hb 1) 2 a b) else some (zk_memo (zk_fresh A 0 hb 1) 2 a b)
      else bif za_ile 0 la then some (zk_memo (zk_fresh A 0 ha 1) 2 a b) else some (zk_memo (zk_full A) 2 a b)
  | _, _ => none
theorem zk_and_ok (hN : zk_N τ A) (ha : a.1 ≤ A.1) (hb : b.1 ≤ A.1) (hx : x.toInt = zk_ev τ a) (hy : y.toInt = zk_ev τ b) (h : zk_and A a b = some q) : zk_Rs τ A (x &&& y).toInt q := by
  have ex : Int32.ofInt (zk_ev τ a) = x := by rw [← hx]; exact Int32.ofInt_toInt x
  have ey : Int32.ofInt (zk_ev τ b) = y := by rw [← hy]; exact Int32.ofInt_toInt y
  have hm : ∀ {r : zk_I}, ∀ τ', zk_ext A.1 τ τ' → (x &&& y).toInt = zk_ev τ' r → zk_mo τ' (2, a, b, r) := by
    intro r τ' hτ hz
    show zk_ev τ' r = (Int32.ofInt (zk_ev τ' a) &&& Int32.ofInt (zk_ev τ' b)).toInt
    rw [zk_ev_x ha hτ, zk_ev_x hb hτ, ex, ey]
    exact hz.symm
  unfold zk_and at h
  split at h
  · rename_i la h1 lb h2 g1 g2
    have r1 := zk_rg_ok hN g1
    have r2 := zk_rg_ok hN g2
    unfold zk_in at r1 r2
    dsimp only at r1 r2
    split at h
    · rename_i r hr
      cases h
      obtain ⟨-, -, m3, m4⟩ := hN.2 _ (zk_look_m hr)
      have m4 : zk_ev τ r = (Int32.ofInt (zk_ev τ a) &&& Int32.ofInt (zk_ev τ b)).toInt := m4
      exact zk_Rs_s hN m3 (by rw [m4, ex, ey])
    · cases c1 : za_ile 0 lb with
      | true =>
        have c1' := za_ile_t c1
        have z1 := zn_andR x (y := y) (by omega)
        rw [c1] at h
        cases c2 : za_ile 0 la with
        | true =>
          have c2' := za_ile_t c2
          have z2 := zn_andL (x := x) y (by omega)
          rw [c2] at h
          cases c3 : za_ile h1 h2 with
          | true =>
            rw [c3] at h
            cases h
            exact zk_memo_ok (zk_fresh_ok hN (by omega) (by omega) (Int.one_dvd _)) ha hb hm
          | false =>
            rw [c3] at h
            cases h
            exact zk_memo_ok (zk_fresh_ok hN (by omega) (by omega) (Int.one_dvd _)) ha hb hm
        | false =>
          rw [c2] at h
          cases h
          exact zk_memo_ok (zk_fresh_ok hN (by omega) (by omega) (Int.one_dvd _)) ha hb hm
      | false =>
        rw [c1] at h
        cases c2 : za_ile 0 la with
        | true =>
          have c2' := za_ile_t c2
          have z2 := zn_andL (x := x) y (by omega)
          rw [c2] at h
          cases h
          exact zk_memo_ok (zk_fresh_ok hN (by omega) (by omega) (Int.one_dvd _)) ha hb hm
        | false =>
          rw [c2] at h
          cases h
          exact zk_memo_ok (zk_full_ok hN _) ha hb hm
  · cases h
/-- up to 2 ^ k - 1 -/
def zk_pw (h : Int) : Nat := bif za_ile h 1 then 1 else bif za_ile h 255 then 8 else bif za_ile h 65535 then 16 else 31
def zk_or (A : zk_A) (a b : zk_I) : Option (zk_A × zk_I) := match zk_rg A a, zk_rg A b with
  | some (la, ha), some (lb, hb) => bif (za_ile 0 la).and (za_ile 0 lb) then bif (za_ile ha 255).and (za_ile hb 255) then some (zk_fresh A 0 255 1) else some (zk_full A) else some (zk_full A)
  | _, _ => none
theorem zk_or_ok (hN : zk_N τ A) (hx : x.toInt = zk_ev τ a) (hy : y.toInt = zk_ev τ b) (h : zk_or A a b = some q) : zk_Rs τ A (x ||| y).toInt q := by
  unfold zk_or at h
  split at h
  · rename_i la h1 lb h2 g1 g2
    have r1 := zk_rg_ok hN g1
    have r2 := zk_rg_ok hN g2
    unfold zk_in at r1 r2
    dsimp only at r1 r2
    cases c1 : (za_ile 0 la).and (za_ile 0 lb) with
    | true =>
      rw [c1] at h
      cases c2 : (za_ile h1 255).and (za_ile h2 255) with
      | true =>
        rw [c2] at h
        cases h
        obtain ⟨d1, d2⟩ := Bool.and_eq_true_iff.mp c1
        obtain ⟨d3, d4⟩ := Bool.and_eq_true_iff.mp c2
        have d1 := za_ile_t d1
        have d2 := za_ile_t d2
        have d3 := za_ile_t d3
        have d4 := za_ile_t d4
        have z := zn_or (x := x) (y := y) (k := 8) (by decide) (by omega) (by omega) (by omega) (by omega)
        exact zk_fresh_ok hN (by omega) (by omega) (Int.one_dvd _)
      | false =>
        rw [c2] at h
        cases h
        exact zk_full_ok hN _
    | false =>
      rw [c1] at h
      cases h
      exact zk_full_ok hN _
  · cases h
def zk_shl (A : zk_A) (a b : zk_I) : Option (zk_A × zk_I) := match zk_rg A b with
  | some (lb, hb) => bif (zk_eqI a (0, 1)).and ((za_ile 0 lb).and (za_ile hb 30)) then some (zk_fresh A ((2 ^ lb.toNat : Nat) : Int) ((2 ^ hb.toNat : Nat) : Int) 1) else some (zk_full A)
  | none => none
theorem zk_shl_ok (hN : zk_N τ A) (hx : x.toInt = zk_ev τ a) (hy : y.toInt = zk_ev τ b) (h : zk_shl A a b = some q) : zk_Rs τ A (x <<< (y &&& 31)).toInt q := by
  unfold zk_shl at h
  split at h
  · rename_i lb h2 g2
    have r2 := zk_rg_ok hN g2
    unfold zk_in at r2
    dsimp only at r2
    cases c1 : (zk_eqI a (0, 1)).and ((za_ile 0 lb).and (za_ile h2 30)) with
    | true =>
      rw [c1] at h
      cases h
      obtain ⟨d1, d2⟩ := Bool.and_eq_true_iff.mp c1
      obtain ⟨d2, d3⟩ := Bool.and_eq_true_iff.mp d2
      have d1 := zk_eqI_t d1
      have d2 := za_ile_t d2
      have d3 := za_ile_t d3
      subst d1
      have hx1 : x = 1 := Int32.toInt_inj.mp hx
      subst hx1
      rw [zn_shl (by omega) (by omega)]
      have e1 : 2 ^ lb.toNat ≤ 2 ^ y.toInt.toNat := Nat.pow_le_pow_right (by decide) (by omega)
      have e2 : 2 ^ y.toInt.toNat ≤ 2 ^ h2.toNat := Nat.pow_le_pow_right (by decide) (by omega)
      exact zk_fresh_ok hN (Int.ofNat_le.mpr e1) (Int.ofNat_le.mpr e2) (Int.one_dvd _)
    | false =>
      rw [c1] at h
      cases h
      exact zk_full_ok hN _
  · cases h
/-- can't it be 0? -/
def zk_nz (A : zk_A) (a : zk_I) : Bool := match zk_rg A a with
  | some (lo, hi) => bif za_ile 1 lo then true else bif za_ile hi (-1) then true else match a.1 with
    | 0 => false
    | j + 1 => bif za_ieq a.2 0 then match zk_lk A.2.1 j with
      | some e => e.2.2.1
      | none => false
      else false
  | none => false
theorem zk_nz_ok (hN : zk_N τ A) (h : zk_nz A a = true) : zk_ev τ a ≠ 0 := by
  unfold zk_nz at h
  split at h
  · rename_i lo hi g
    have r := zk_rg_ok hN g
    unfold zk_in at r
    dsimp only at r
    cases c1 : za_ile 1 lo with
    | true => have := za_ile_t c1; omega
    | false =>
      rw [c1] at h
      cases c2 : za_ile hi (-1) with
      | true => have := za_ile_t c2; omega
      | false =>
        rw [c2] at h
        simp only [cond_false] at h
        obtain ⟨k, c⟩ := a
        cases k with
        | zero => cases h
        | succ j =>
          dsimp only at h
          cases c3 : za_ieq c 0 with
          | false => rw [c3] at h; cases h
          | true =>
            rw [c3] at h
            have e3 := za_ieq_t c3
            simp only [cond_true] at h
            split at h
            · rename_i e he
              obtain ⟨-, -, -, g3, -⟩ := hN.1 _ (zk_lk_m he)
              have g3 := g3 h
              show τ j + c ≠ 0
              dsimp only at g3
              omega
            · cases h
  · cases h
def zk_div (A : zk_A) (a b : zk_I) : Option (zk_A × zk_I) := bif zk_nz A b then match zk_rg A a, zk_rg A b with
  | some (la, ha), some (lb, _) => bif (za_ile 0 la).and (za_ile 1 lb) then some (zk_fresh A 0 ha 1) else some (zk_full A)
  | _, _ => none
  else none
def zk_rem (A : zk_A) (a b : zk_I) : Option (zk_A × zk_I) := bif zk_nz A b then match zk_rg A a, zk_rg A b with
  | some (la, ha), some (lb, hb) => bif (za_ile 0 la).and (za_ile 1 lb) then some (zk_fresh A 0 (bif za_ile ha (hb - 1) then ha else hb - 1) 1) else some (zk_full A)
  | _, _ => none
  else none
theorem zk_div_ok (hN : zk_N τ A) (hx : x.toInt = zk_ev τ a) (hy : y.toInt = zk_ev τ b) (h : zk_div A a b = some q) : y ≠ 0 ∧ zk_Rs τ A (x / y).toInt q := by
  unfold zk_div at h
  obtain ⟨h0, h⟩ := za_bif h
  have n0 := zk_nz_ok hN h0
  refine ⟨fun z => n0 (by rw [← hy, z]; rfl), ?_⟩
  split at h
  · rename_i la h1 lb h2 g1 g2
    have r1 := zk_rg_ok hN g1
    have r2 := zk_rg_ok hN g2
    unfold zk_in at r1 r2
    dsimp only at r1 r2
    cases c1 : (za_ile 0 la).and (za_ile 1 lb) with
    | true =>
      rw [c1] at h
      cases h
      obtain ⟨d1, d2⟩ := Bool.and_eq_true_iff.mp c1
      have d1 := za_ile_t d1
      have d2 := za_ile_t d2
      obtain ⟨z1, z2, z3⟩ := zn_div (x := x) (y := y) (by omega) (by omega)
      exact zk_fresh_ok hN (by omega) (by omega) (Int.one_dvd _)
    | false =>
      rw [c1] at h
      cases h
      exact zk_full_ok hN _
  · cases h
theorem zk_rem_ok (hN : zk_N τ A) (hx : x.toInt = zk_ev τ a) (hy : y.toInt = zk_ev τ b) (h : zk_rem A a b = some q) : y ≠ 0 ∧ zk_Rs τ A (x - x / y * y).toInt q := by
  unfold zk_rem at h
  obtain ⟨h0, h⟩ := za_bif h
  have n0 := zk_nz_ok hN h0
  refine ⟨fun z => n0 (by rw [← hy, z]; rfl), ?_⟩
  split at h
  · rename_i la h1 lb h2 g1 g2
    have r1 := zk_rg_ok hN g1
    have r2 := zk_rg_ok hN g2
    unfold zk_in at r1 r2
    dsimp only at r1 r2
    cases c1 : (za_ile 0 la).and (za_ile 1 lb) with
    | true =>
      rw [c1] at h
      cases h
      obtain ⟨d1, d2⟩ := Bool.and_eq_true_iff.mp c1
      have d1 := za_ile_t d1
      have d2 := za_ile_t d2
      obtain ⟨z1, z2, z3⟩ := zn_rem (x := x) (y := y) (by omega) (by omega)
      refine zk_fresh_ok hN (by omega) ?_ (Int.one_dvd _)
      cases c3 : za_ile h1 (h2 - 1) with
      | true => show _ ≤ h1; omega
      | false => show _ ≤ h2 - 1; omega
    | false =>
      rw [c1] at h
      cases h
      exact zk_full_ok hN _
  · cases h
def zk_i2b (A : zk_A) (a : zk_I) : Option (zk_A × zk_I) := match zk_rg A a with
  | some (lo, hi) => bif (za_ile (-128) lo).and (za_ile hi 127) then some (A, a) else some (zk_fresh A (-128) 127 1)
  | none => none
theorem zk_i2b_ok (hN : zk_N τ A) (ha : a.1 ≤ A.1) (hx : x.toInt = zk_ev τ a) (h : zk_i2b A a = some q) : zk_Rs τ A x.toInt8.toInt32.toInt q := by
  unfold zk_i2b at h
  split at h
  · rename_i lo hi g
    have r := zk_rg_ok hN g
    unfold zk_in at r
    dsimp only at r
    cases c1 : (za_ile (-128) lo).and (za_ile hi 127) with
    | true =>
      rw [c1] at h
      cases h
      obtain ⟨d1, d2⟩ := Bool.and_eq_true_iff.mp c1
      have d1 := za_ile_t d1
      have d2 := za_ile_t d2
      rw [zn_i2b' (by omega) (by omega)]
      exact zk_Rs_s hN ha hx
    | false =>
      rw [c1] at h
      cases h
      have z := zn_i2b x
      exact zk_fresh_ok hN z.1 z.2 (Int.one_dvd _)
  · cases h
def zk_neg (A : zk_A) (a : zk_I) : Option (zk_A × zk_I) := match zk_rg A a with
  | some (lo, _) => bif za_ile (-2147483647) lo then zk_sub A (0, 0) a else some (zk_full A)
  | none => none
theorem zk_neg_ok (hN : zk_N τ A) (ha : a.1 ≤ A.1) (hx : x.toInt = zk_ev τ a) (h : zk_neg A a = some q) : zk_Rs τ A (-x).toInt q := by
  unfold zk_neg at h
  split at h
  · rename_i lo hi g
    have r := zk_rg_ok hN g
    unfold zk_in at r
    dsimp only at r
    cases c1 : za_ile (-2147483647) lo with
    | true =>
      rw [c1] at h
      have d1 := za_ile_t c1
      have z := zk_sub_ok (x := 0) (y := x) hN (Nat.zero_le _) ha rfl hx h
      have h9 := za_int x
      rw [zn_sub (by show _ ≤ 0 - x.toInt; omega) (by show 0 - x.toInt ≤ _; omega)] at z
      rw [zn_neg (by omega)]
      exact z
    | false =>
      rw [c1] at h
      cases h
      exact zk_full_ok hN _
  · cases h
end KN
end
section
/-! ===== what a branch tells ===== -/
def zk_Cut (τ : Nat → Int) (A : zk_A) (o : Option zk_A) : Prop := ∃ A', o = some A' ∧ zk_N τ A' ∧ A'.1 = A.1 ∧ A'.2.2 = A.2.2
section KC
variable {τ : Nat → Int} {A : zk_A} {a b r : zk_I}
theorem zk_Cut_s (hN : zk_N τ A) : zk_Cut τ A (some A) := ⟨A, rfl, hN, rfl, rfl⟩
theorem zk_Cut_b {o : Option zk_A} {f : zk_A → Option zk_A} (h : zk_Cut τ A o) (hf : ∀ A', zk_N τ A' → A'.1 = A.1 → A'.2.2 = A.2.2 → zk_Cut τ A' (f A')) : zk_Cut τ A (o.bind f) := by
  obtain ⟨A', rfl, h2, h3, h4⟩ := h
  obtain ⟨A'', g1, g2, g3, g4⟩ := hf A' h2 h3 h4
  exact ⟨A'', g1, g2, g3.trans h3, g4.trans h4⟩
def zk_max (a b : Int) : Int := bif za_ile a b then b else a
def zk_min (a b : Int) : Int := bif za_ile a b then a else b
theorem zk_max_le {a b c : Int} (h1 : a ≤ c) (h2 : b ≤ c) : zk_max a b ≤ c := by
  unfold zk_max
  cases za_ile a b with
  | true => exact h2
  | false => exact h1
theorem zk_le_min {a b c : Int} (h1 : c ≤ a) (h2 : c ≤ b) : c ≤ zk_min a b := by
  unfold zk_min
  cases za_ile a b with
  | true => exact h1
  | false => exact h2
/-- a lies in lo .. hi; none: it can't -/
def zk_nar (A : zk_A) (a : zk_I) (lo hi : Int) : Option zk_A := match a.1 with
  | 0 => bif za_ile lo a.2 then bif za_ile a.2 hi then some A else none else none
  | j + 1 => match zk_lk A.2.1 j with
    | none => some A
    | some e =>
      bif (za_ile (lo - a.2) e.1).and (za_ile e.2.1 (hi - a.2)) then some A else
      match zk_max e.1 (lo - a.2), zk_min e.2.1 (hi - a.2) with
      | l, h => match bif e.2.2.1.and (za_ieq l 0) then 1 else l, bif e.2.2.1.and (za_ieq h 0) then -1 else h with
        | l', h' => bif za_ile l' h' then some (A.1, (j, (l', h', e.2.2)) :: A.2.1, A.2.2) else none
theorem zk_nar_ok {lo hi : Int} (hN : zk_N τ A) (h1 : lo ≤ zk_ev τ a) (h2 : zk_ev τ a ≤ hi) : zk_Cut τ A (zk_nar A a lo hi) := by
  obtain ⟨k, c⟩ := a
  unfold zk_nar
  cases k with
  | zero =>
    have h1 : lo ≤ c := h1
    have h2 : c ≤ hi := h2
    show zk_Cut τ A (bif za_ile lo c then bif za_ile c hi then some A else none else none)
    rw [za_ile_i.mpr h1, za_ile_i.mpr h2]
    exact zk_Cut_s hN
  | succ j =>
    have h1 : lo ≤ τ j + c := h1
    have h2 : τ j + c ≤ hi := h2
    dsimp only
    split
    · exact zk_Cut_s hN
    · rename_i e he
      obtain ⟨g0, g1, g2, g3, g4⟩ := hN.1 _ (zk_lk_m he)
      have g0 : j < A.1 := g0
      have g1 : e.1 ≤ τ j := g1
      have g2 : τ j ≤ e.2.1 := g2
      have g3 : e.2.2.1 = true → τ j ≠ 0 := g3
      have g4 : (e.2.2.2 : Int) ∣ τ j := g4
      cases (za_ile (lo - c) e.1).and (za_ile e.2.1 (hi - c)) with
      | true => exact zk_Cut_s hN
      | false =>
        simp only [cond_false]
        have m1 : zk_max e.1 (lo - c) ≤ τ j := zk_max_le g1 (by omega)
        have m2 : τ j ≤ zk_min e.2.1 (hi - c) := zk_le_min g2 (by omega)
        generalize zk_max e.1 (lo - c) = l at m1 ⊢
        generalize zk_min e.2.1 (hi - c) = h at m2 ⊢
        have n1 : (bif e.2.2.1.and (za_ieq l 0) then 1 else l) ≤ τ j := by
          cases d : e.2.2.1.and (za_ieq l 0) with
          | false => exact m1
          | true =>
            obtain ⟨d1, d2⟩ := Bool.and_eq_true_iff.mp d
            have d2 := za_ieq_t d2
            have d1 := g3 d1
            show 1 ≤ τ j
            omega
        have n2 : τ j ≤ (bif e.2.2.1.and (za_ieq h 0) then -1 else h) := by
          cases d : e.2.2.1.and (za_ieq h 0) with
          | false => exact m2
          | true =>
            obtain ⟨d1, d2⟩ := Bool.and_eq_true_iff.mp d
            have d2 := za_ieq_t d2
            have d1 := g3 d1
            show τ j ≤ -1
            omega
        generalize (bif e.2.2.1.and (za_ieq l 0) then 1 else l) = l' at n1 ⊢
        generalize (bif e.2.2.1.and (za_ieq h 0) then -1 else h) = h' at n2 ⊢
        rw [za_ile_i.mpr (show l' ≤ h' by omega)]
        refine ⟨_, rfl, ⟨fun q hq => ?_, hN.2⟩, rfl, rfl⟩
        rcases List.mem_cons.mp hq with rfl | hq
        · exact ⟨g0, n1, n2, g3, g4⟩
        · exact hN.1 q hq
/-- a sum tells of its parts -/
def zk_pr1 (q : Nat × zk_I × zk_I × zk_I) (A : zk_A) : Option zk_A := match q with
  | (0, a, b, r) => match zk_rg A a, zk_rg A b with
    | some (la, ha), some (lb, hb) => (zk_nar A r (la + lb) (ha + hb)).bind fun A => match zk_rg A r with
      | some (lr, hr) => (zk_nar A a (lr - hb) (hr - lb)).bind fun A => zk_nar A b (lr - ha) (hr - la)
      | none => some A
    | _, _ => some A
  | (1, a, b, r) => match zk_rg A a, zk_rg A b with
    | some (la, ha), some (lb, hb) => (zk_nar A r (la - hb) (ha - lb)).bind fun A => match zk_rg A r with
      | some (lr, hr) => (zk_nar A a (lr + lb) (hr + hb)).bind fun A => zk_nar A b (la - hr) (ha - lr)
      | none => some A
    | _, _ => some A
  | _ => some A
theorem zk_pr1_ok {q : Nat × zk_I × zk_I × zk_I} (hN : zk_N τ A) (hq : zk_mo τ q) : zk_Cut τ A (zk_pr1 q A) := by
  unfold zk_pr1
  split
  · rename_i a b r
    have hq : zk_ev τ r = zk_ev τ a + zk_ev τ b := hq.1
    split
    · rename_i la ha lb hb g1 g2
      have r1 := zk_rg_ok hN g1
      have r2 := zk_rg_ok hN g2
      unfold zk_in at r1 r2
      dsimp only at r1 r2
      refine zk_Cut_b (zk_nar_ok hN (by omega) (by omega)) (fun A' n1 _ _ => ?_)
      split
      · rename_i lr hr g3
        have r3 := zk_rg_ok n1 g3
        unfold zk_in at r3
        dsimp only at r3
        exact zk_Cut_b (zk_nar_ok n1 (by omega) (by omega)) (fun A'' n2 _ _ => zk_nar_ok n2 (by omega) (by omega))
      · exact zk_Cut_s n1
    · exact zk_Cut_s hN
  · rename_i a b r
    have hq : zk_ev τ r = zk_ev τ a - zk_ev τ b := hq.1
    split
    · rename_i la ha lb hb g1 g2
      have r1 := zk_rg_ok hN g1
      have r2 := zk_rg_ok hN g2
      unfold zk_in at r1 r2
      dsimp only at r1 r2
      refine zk_Cut_b (zk_nar_ok hN (by omega) (by omega)) (fun A' n1 _ _ => ?_)
      split
      · rename_i lr hr g3
        have r3 := zk_rg_ok n1 g3
        unfold zk_in at r3
        dsimp only at r3
        exact zk_Cut_b (zk_nar_ok n1 (by omega) (by omega)) (fun A'' n2 _ _ => zk_nar_ok n2 (by omega) (by omega))
      · exact zk_Cut_s n1
    · exact zk_Cut_s hN
  · exact zk_Cut_s hN
def zk_prl : List (Nat × zk_I × zk_I × zk_I) → zk_A → Option zk_A
  | [], A => some A
  | q :: l, A => (zk_pr1 q A).bind fun A => zk_prl l A
theorem zk_prl_ok : ∀ {l : List (Nat × zk_I × zk_I × zk_I)} {A : zk_A}, zk_N τ A → (∀ q ∈ l, zk_mo τ q) → zk_Cut τ A (zk_prl l A)
  | [], _, hN, _ => zk_Cut_s hN
  | q :: l, _, hN, hq => zk_Cut_b (zk_pr1_ok hN (hq q List.mem_cons_self)) (fun _ n1 _ _ => zk_prl_ok n1 (fun q' h' => hq q' (List.mem_cons_of_mem _ h')))
def zk_prop (A : zk_A) : Option zk_A := zk_prl A.2.2.2.2 A
theorem zk_prop_ok (hN : zk_N τ A) : zk_Cut τ A (zk_prop A) := zk_prl_ok hN (fun q hq => (hN.2 q hq).2.2.2)
/-- a < b, or a ≤ b (e = 0) -/
def zk_lt (e : Int) (A : zk_A) (a b : zk_I) : Option zk_A := bif Nat.beq a.1 b.1 then bif za_ile (a.2 + e) b.2 then some A else none else match zk_rg A a, zk_rg A b with
  | some (la, _), some (_, hb) => ((zk_nar A a la (hb - e)).bind fun A => zk_nar A b (la + e) hb).bind zk_prop
  | _, _ => some A
theorem zk_lt_ok {e : Int} (hN : zk_N τ A) (h : zk_ev τ a + e ≤ zk_ev τ b) : zk_Cut τ A (zk_lt e A a b) := by
  unfold zk_lt
  cases c : Nat.beq a.1 b.1 with
  | true =>
    have h1 := zk_ev_d (τ := τ) c
    show zk_Cut τ A (bif za_ile (a.2 + e) b.2 then some A else none)
    rw [za_ile_i.mpr (show a.2 + e ≤ b.2 by omega)]
    exact zk_Cut_s hN
  | false =>
    simp only [cond_false]
    split
    · rename_i la ha lb hb g1 g2
      have r1 := zk_rg_ok hN g1
      have r2 := zk_rg_ok hN g2
      unfold zk_in at r1 r2
      dsimp only at r1 r2
      exact zk_Cut_b (zk_Cut_b (zk_nar_ok hN (by omega) (by omega)) (fun A' n1 _ _ => zk_nar_ok n1 (by omega) (by omega))) (fun A' n1 _ _ => zk_prop_ok n1)
    · exact zk_Cut_s hN
def zk_eq (A : zk_A) (a b : zk_I) : Option zk_A := bif Nat.beq a.1 b.1 then bif za_ieq a.2 b.2 then some A else none else match zk_rg A a, zk_rg A b with
  | some (la, ha), some (lb, hb) => ((zk_nar A a lb hb).bind fun A => zk_nar A b la ha).bind zk_prop
  | _, _ => some A
theorem zk_ieq_r (a : Int) : za_ieq a a = true := by
  cases h : za_ieq a a with
  | true => rfl
  | false => exact absurd rfl (za_ieq_f h)
theorem zk_eq_ok (hN : zk_N τ A) (h : zk_ev τ a = zk_ev τ b) : zk_Cut τ A (zk_eq A a b) := by
  unfold zk_eq
  cases c : Nat.beq a.1 b.1 with
  | true =>
    have h1 := zk_ev_d (τ := τ) c
    show zk_Cut τ A (bif za_ieq a.2 b.2 then some A else none)
    rw [show a.2 = b.2 by omega, zk_ieq_r]
    exact zk_Cut_s hN
  | false =>
    simp only [cond_false]
    split
    · rename_i la ha lb hb g1 g2
      have r1 := zk_rg_ok hN g1
      have r2 := zk_rg_ok hN g2
      unfold zk_in at r1 r2
      dsimp only at r1 r2
      exact zk_Cut_b (zk_Cut_b (zk_nar_ok hN (by omega) (by omega)) (fun A' n1 _ _ => zk_nar_ok n1 (by omega) (by omega))) (fun A' n1 _ _ => zk_prop_ok n1)
    · exact zk_Cut_s hN
/-- a isn't the number c -/
def zk_nec (A : zk_A) (a : zk_I) (c : Int) : Option zk_A := match zk_rg A a with
  | some (la, ha) => bif za_ieq la c then (zk_nar A a (la + 1) ha).bind zk_prop else bif za_ieq ha c then (zk_nar A a la (ha - 1)).bind zk_prop else match a.1 with
    | 0 => some A
    | j + 1 => bif za_ieq a.2 c then match zk_lk A.2.1 j with
      | some e => some (A.1, (j, (e.1, e.2.1, true, e.2.2.2)) :: A.2.1, A.2.2)
      | none => some A
      else some A
  | none => some A
theorem zk_nec_ok {c : Int} (hN : zk_N τ A) (h : zk_ev τ a ≠ c) : zk_Cut τ A (zk_nec A a c) := by
  unfold zk_nec
  split
  · rename_i la ha g1
    have r1 := zk_rg_ok hN g1
    unfold zk_in at r1
    dsimp only at r1
    cases c1 : za_ieq la c with
    | true =>
      have e1 := za_ieq_t c1
      exact zk_Cut_b (zk_nar_ok hN (by omega) (by omega)) (fun A' n1 _ _ => zk_prop_ok n1)
    | false =>
      simp only [cond_false]
      cases c2 : za_ieq ha c with
      | true =>
        have e1 := za_ieq_t c2
        exact zk_Cut_b (zk_nar_ok hN (by omega) (by omega)) (fun A' n1 _ _ => zk_prop_ok n1)
      | false =>
        simp only [cond_false]
        obtain ⟨k, d⟩ := a
        cases k with
        | zero => exact zk_Cut_s hN
        | succ j =>
          dsimp only
          cases c3 : za_ieq d c with
          | false => exact zk_Cut_s hN
          | true =>
            have e3 := za_ieq_t c3
            have h : τ j + d ≠ c := h
            simp only [cond_true]
            split
            · rename_i e he
              obtain ⟨g0, g2, g3, g4, g5⟩ := hN.1 _ (zk_lk_m he)
              refine ⟨_, rfl, ⟨fun q hq => ?_, hN.2⟩, rfl, rfl⟩
              rcases List.mem_cons.mp hq with rfl | hq
              · exact ⟨g0, g2, g3, (fun _ => by show τ j ≠ 0; omega), g5⟩
              · exact hN.1 q hq
            · exact zk_Cut_s hN
  · exact zk_Cut_s hN
def zk_ne (A : zk_A) (a b : zk_I) : Option zk_A := bif Nat.beq a.1 b.1 then bif za_ieq a.2 b.2 then none else some A else match b.1 with
  | 0 => zk_nec A a b.2
  | _ + 1 => match a.1 with
    | 0 => zk_nec A b a.2
    | _ + 1 => some A
theorem zk_ne_ok (hN : zk_N τ A) (h : zk_ev τ a ≠ zk_ev τ b) : zk_Cut τ A (zk_ne A a b) := by
  unfold zk_ne
  cases c : Nat.beq a.1 b.1 with
  | true =>
    have h1 := zk_ev_d (τ := τ) c
    show zk_Cut τ A (bif za_ieq a.2 b.2 then none else some A)
    cases d : za_ieq a.2 b.2 with
    | true => have := za_ieq_t d; omega
    | false => exact zk_Cut_s hN
  | false =>
    simp only [cond_false]
    obtain ⟨kb, cb⟩ := b
    cases kb with
    | zero => exact zk_nec_ok hN h
    | succ j =>
      obtain ⟨ka, ca⟩ := a
      cases ka with
      | zero => exact zk_nec_ok hN (fun z => h z.symm)
      | succ i => exact zk_Cut_s hN
end KC
end
section
/-! ===== the abstract executor: the heap ===== -/
/-- what is asked of the world's parameters: J looks at the frozen places alone, the ghost at its own -/
def zk_W (B : zk_B) (gh : zp_H → Int) (J : zp_H → Prop) (fz : Nat → Nat → Bool) : Prop :=
  (∀ H H' : zp_H, H'.1 = H.1 → (∀ p k, fz p k = true → H'.2.1 p k = H.2.1 p k ∧ H'.2.2.1 p k = H.2.2.1 p k) → J H → J H') ∧
  (∀ H H' : zp_H, (∀ p k, B.2.2.2.2.2 p k = true → H'.2.1 p k = H.2.1 p k ∧ H'.2.2.1 p k = H.2.2.1 p k) → gh H' = gh H) ∧
  (∀ H r, B.2.2.1 72 100 = some r → zk_in (gh H) r) ∧
  (∀ p k r, B.2.2.1 p k = some r → ∃ ci, B.1[p]? = some (.inl ci)) ∧
  (∀ c ∈ B.2.2.2.2.1, (∃ ci, B.1[c.1]? = some (.inl ci)) ∧ c.2.1 ≠ 100 ∧ c.2.2.2.1 ≠ 100) ∧
  (∀ p k, B.2.2.2.2.2 p k = true → ∃ ci, B.1[p]? = some (.inl ci)) ∧
  (∀ (p k t n : Nat), B.1[p]? = some (.inr (t, n)) → fz p k = fz p 0) ∧
  (∃ ci, B.1[72]? = some (.inl ci))
def zk_Rh (B : zk_B) (gh : zp_H → Int) (J : zp_H → Prop) (τ : Nat → Int) (A : zk_A) (H : zp_H) (z : Int) (q : zk_A × zk_I) : Prop := ∃ τ', zk_ext A.1 τ τ' ∧ A.1 ≤ q.1.1 ∧ zk_N τ' q.1 ∧ zk_Hp B gh J τ' q.1 H ∧ q.2.1 ≤ q.1.1 ∧ z = zk_ev τ' q.2
def zk_og : List (Nat × Nat × Bool × zk_I) → Nat → Nat → Option zk_I
  | [], _, _ => none
  | q :: l, p, k => bif (Nat.beq q.1 p).and (Nat.beq q.2.1 k) then some q.2.2.2 else zk_og l p k
def zk_dty (ov : List (Nat × Nat × Bool × zk_I)) (p k v : Nat) : Bool := ov.any (fun q => (Nat.beq q.1 p).and (q.2.2.1.and ((Nat.beq q.2.1 k).or (Nat.beq q.2.1 v))))
theorem zk_og_m {p k : Nat} {a : zk_I} : ∀ {l : List (Nat × Nat × Bool × zk_I)}, zk_og l p k = some a → ∃ q ∈ l, q.1 = p ∧ q.2.1 = k ∧ q.2.2.2 = a
  | [], h => by cases h
  | q :: l, h => by
    unfold zk_og at h
    cases hb : (Nat.beq q.1 p).and (Nat.beq q.2.1 k) with
    | true =>
      rw [hb] at h
      obtain ⟨h1, h2⟩ := Bool.and_eq_true_iff.mp hb
      cases h
      exact ⟨q, List.mem_cons_self, za_beq h1, za_beq h2, rfl⟩
    | false =>
      rw [hb] at h
      obtain ⟨q9, h1, h2⟩ := zk_og_m h
      exact ⟨q9, List.mem_cons_of_mem _ h1, h2⟩
theorem zk_og_n {p k : Nat} : ∀ {l : List (Nat × Nat × Bool × zk_I)}, zk_og l p k = none → ∀ q ∈ l, ¬ (q.1 = p ∧ q.2.1 = k)
  | [], _, q, hq => absurd hq List.not_mem_nil
  | x :: l, h, q, hq => by
    unfold zk_og at h
    cases hb : (Nat.beq x.1 p).and (Nat.beq x.2.1 k) with
    | true => rw [hb] at h; cases h
    | false =>
      rw [hb] at h
      rcases List.mem_cons.mp hq with rfl | hq
      · rintro ⟨rfl, rfl⟩
        rw [Nat.beq_refl, Nat.beq_refl] at hb
        cases hb
      · exact zk_og_n h q hq
theorem zk_dty_f {ov : List (Nat × Nat × Bool × zk_I)} {p k v : Nat} (h : zk_dty ov p k v = false) : ¬ ∃ q ∈ ov, q.1 = p ∧ (q.2.1 = k ∨ q.2.1 = v) ∧ q.2.2.1 = true := by
  rintro ⟨q, h1, rfl, h3, h4⟩
  have h9 : zk_dty ov q.1 k v = true := List.any_eq_true.mpr ⟨q, h1, by
    rw [h4, Nat.beq_refl]
    rcases h3 with rfl | rfl
    · rw [Nat.beq_refl]; rfl
    · rw [Nat.beq_refl]; simp⟩
  rw [h9] at h
  cases h
section KH
variable {B : zk_B} {gh : zp_H → Int} {J : zp_H → Prop} {fz : Nat → Nat → Bool} {τ : Nat → Int} {A : zk_A} {H : zp_H} {z : Int} {a b r : zk_I} {x y : Int32} {q : zk_A × zk_I} {p k : Nat}
theorem zk_Rs_h (hH : zk_Hp B gh J τ A H) (h : zk_Rs τ A z q) : zk_Rh B gh J τ A H z q := by
  obtain ⟨τ', h1, h2, h3, h4, h5, h6, h7⟩ := h
  exact ⟨τ', h1, h2, h3, zk_Hp_x h2 h4 h5 h1 hH, h6, h7⟩
/-- the conditions that tell of this field -/
def zk_cn (A : zk_A) (p k : Nat) : List (Nat × Nat × Int × Nat × Int × Int) → Int × Int → Int × Int
  | [], r => r
  | c :: l, r => zk_cn A p k l (bif (Nat.beq c.1 p).and (Nat.beq c.2.2.2.1 k) then bif zk_dty A.2.2.1 p c.2.1 k then r else match zk_og A.2.2.1 p c.2.1 with
      | some a => match zk_rg A a with
        | some (lo, hi) => bif (za_ieq lo c.2.2.1).and (za_ieq hi c.2.2.1) then (zk_max r.1 c.2.2.2.2.1, zk_min r.2 c.2.2.2.2.2) else r
        | none => r
      | none => r else r)
theorem zk_cn_ok (hN : zk_N τ A) (hH : zk_Hp B gh J τ A H) : ∀ {l : List (Nat × Nat × Int × Nat × Int × Int)} {r : Int × Int}, (∀ c ∈ l, c ∈ B.2.2.2.2.1) → zk_in (zk_fv gh H p k) r → zk_in (zk_fv gh H p k) (zk_cn A p k l r)
  | [], _, _, h => h
  | c :: l, r, hl, h => by
    unfold zk_cn
    refine zk_cn_ok hN hH (fun c' h' => hl c' (List.mem_cons_of_mem _ h')) ?_
    cases h1 : (Nat.beq c.1 p).and (Nat.beq c.2.2.2.1 k) with
    | false => exact h
    | true =>
      obtain ⟨e1, e2⟩ := Bool.and_eq_true_iff.mp h1
      have e1 := za_beq e1
      have e2 := za_beq e2
      simp only [cond_true]
      cases h2 : zk_dty A.2.2.1 p c.2.1 k with
      | true => exact h
      | false =>
        simp only [cond_false]
        split
        · rename_i a ha
          split
          · rename_i lo hi hr
            cases h3 : (za_ieq lo c.2.2.1).and (za_ieq hi c.2.2.1) with
            | false => exact h
            | true =>
              obtain ⟨f1, f2⟩ := Bool.and_eq_true_iff.mp h3
              have f1 := za_ieq_t f1
              have f2 := za_ieq_t f2
              obtain ⟨q, q1, q2, q3, q4⟩ := zk_og_m ha
              have g1 := (hH.2.2.1 q q1).2
              have g2 := zk_rg_ok hN hr
              unfold zk_in at g2
              dsimp only at g2
              rw [q2, q3, q4] at g1
              rcases hH.2.2.2.2.2.2.1 c (hl c List.mem_cons_self) with g3 | g3
              · rw [e1, e2] at g3
                exact absurd g3 (zk_dty_f h2)
              · rw [e1, e2] at g3
                have g4 := g3 (by omega)
                exact ⟨zk_max_le h.1 g4.1, zk_le_min h.2 g4.2⟩
          · exact h
        · exact h
def zk_addo (q : zk_A × zk_I) (p k : Nat) : zk_A × zk_I := ((q.1.1, q.1.2.1, (p, k, false, q.2) :: q.1.2.2.1, q.1.2.2.2), q.2)
theorem zk_addo_ok (h : zk_Rh B gh J τ A H (zk_fv gh H p k) q) : zk_Rh B gh J τ A H (zk_fv gh H p k) (zk_addo q p k) := by
  obtain ⟨τ', h1, h2, h3, h4, h5, h6⟩ := h
  refine ⟨τ', h1, h2, h3, ?_, h5, h6⟩
  obtain ⟨g1, g2, g3, g4, g5, g6, g7, g8⟩ := h4
  refine ⟨g1, g2, fun e he => ?_, g4, fun p' k' r' h' => ?_, g6, fun c hc => ?_, g8⟩
  · rcases List.mem_cons.mp he with rfl | he
    · exact ⟨h5, h6⟩
    · exact g3 e he
  · rcases g5 p' k' r' h' with ⟨e, he, h9⟩ | h9
    · exact Or.inl ⟨e, List.mem_cons_of_mem _ he, h9⟩
    · exact Or.inr h9
  · rcases g7 c hc with ⟨e, he, h9⟩ | h9
    · exact Or.inl ⟨e, List.mem_cons_of_mem _ he, h9⟩
    · exact Or.inr h9
/-- a field's number -/
def zk_getf (B : zk_B) (A : zk_A) (p k : Nat) : Option (zk_A × zk_I) := match zk_og A.2.2.1 p k with
  | some a => some (A, a)
  | none => match B.2.2.1 p k with
    | some r => match zk_cn A p k B.2.2.2.2.1 r with
      | (lo, hi) => some (zk_addo (zk_fresh A lo hi 1) p k)
    | none => bif (Nat.beq p 72).and (Nat.beq k 100) then none else some (zk_addo (zk_full A) p k)
theorem zk_getf_ok (hN : zk_N τ A) (hH : zk_Hp B gh J τ A H) (h : zk_getf B A p k = some q) : zk_Rh B gh J τ A H (zk_fv gh H p k) q := by
  unfold zk_getf at h
  split at h
  · rename_i a ha
    cases h
    obtain ⟨e, e1, e2, e3, e4⟩ := zk_og_m ha
    obtain ⟨g1, g2⟩ := hH.2.2.1 e e1
    rw [e2, e3, e4] at g2
    rw [e4] at g1
    exact ⟨τ, zk_ext_r τ, Nat.le_refl _, hN, hH, g1, g2⟩
  · rename_i ho
    split at h
    · rename_i r hr
      generalize hq : zk_cn A p k B.2.2.2.2.1 r = r' at h
      obtain ⟨lo, hi⟩ := r'
      cases h
      have h1 : zk_in (zk_fv gh H p k) r := by
        rcases hH.2.2.2.2.1 p k r hr with ⟨e, he, h9⟩ | h9
        · exact absurd h9 (zk_og_n ho e he)
        · exact h9
      have h2 := zk_cn_ok hN hH (fun c hc => hc) h1
      rw [hq] at h2
      exact zk_addo_ok (zk_Rs_h hH (zk_fresh_ok hN h2.1 h2.2 (Int.one_dvd _)))
    · cases hg : (Nat.beq p 72).and (Nat.beq k 100) with
      | true => rw [hg] at h; cases h
      | false =>
        rw [hg] at h
        cases h
        have e : zk_fv gh H p k = (H.2.1 p k).toInt := by
          unfold zk_fv
          rw [if_neg]
          rintro ⟨rfl, rfl⟩
          cases hg
        rw [e]
        refine e ▸ zk_addo_ok (zk_Rs_h hH ?_)
        rw [e]
        exact zk_full_ok hN _
end KH
end
section
/-! ===== the abstract executor: writes, arrays ===== -/
section KW
variable {B : zk_B} {gh : zp_H → Int} {J : zp_H → Prop} {fz : Nat → Nat → Bool} {τ : Nat → Int} {A A' : zk_A} {H : zp_H} {z : Int} {a b r i v : zk_I} {x y : Int32} {q : zk_A × zk_I} {p k : Nat}
def zk_is (q : Nat × Nat × Bool × zk_I) (p k : Nat) : Bool := (Nat.beq q.1 p).and (Nat.beq q.2.1 k)
theorem zk_is_f {q : Nat × Nat × Bool × zk_I} (h : zk_is q p k = false) : ¬ (q.1 = p ∧ q.2.1 = k) := by
  rintro ⟨rfl, rfl⟩
  unfold zk_is at h
  rw [Nat.beq_refl, Nat.beq_refl] at h
  cases h
theorem zk_is_n {q : Nat × Nat × Bool × zk_I} (h : ¬ (q.1 = p ∧ q.2.1 = k)) : zk_is q p k = false := by
  cases hb : zk_is q p k with
  | false => rfl
  | true =>
    obtain ⟨h1, h2⟩ := Bool.and_eq_true_iff.mp hb
    exact absurd ⟨za_beq h1, za_beq h2⟩ h
/-- the ghost is forgotten where what it reads is written -/
def zk_kg (B : zk_B) (p k : Nat) (ov : List (Nat × Nat × Bool × zk_I)) : List (Nat × Nat × Bool × zk_I) := bif B.2.2.2.2.2 p k then ov.filter (fun q => (zk_is q 72 100).not) else ov
theorem zk_kg_m {ov : List (Nat × Nat × Bool × zk_I)} {q : Nat × Nat × Bool × zk_I} (h : q ∈ zk_kg B p k ov) : q ∈ ov ∧ (B.2.2.2.2.2 p k = true → ¬ (q.1 = 72 ∧ q.2.1 = 100)) := by
  unfold zk_kg at h
  cases hb : B.2.2.2.2.2 p k with
  | false => rw [hb] at h; exact ⟨h, fun z => by cases z⟩
  | true =>
    rw [hb] at h
    obtain ⟨h1, h2⟩ := List.mem_filter.mp h
    exact ⟨h1, fun _ => zk_is_f (by simpa using h2)⟩
theorem zk_kg_k {ov : List (Nat × Nat × Bool × zk_I)} {q : Nat × Nat × Bool × zk_I} (h : q ∈ ov) (hn : ¬ (q.1 = 72 ∧ q.2.1 = 100)) : q ∈ zk_kg B p k ov := by
  unfold zk_kg
  cases hb : B.2.2.2.2.2 p k with
  | false => exact h
  | true => exact List.mem_filter.mpr ⟨h, by rw [zk_is_n hn]; rfl⟩
/-- an int field is written -/
def zk_putf (B : zk_B) (fz : Nat → Nat → Bool) (A : zk_A) (p k : Nat) (a : zk_I) : Option zk_A := bif (fz p k).or ((Nat.beq p 72).and (Nat.beq k 100)) then none else some (A.1, A.2.1, (p, k, true, a) :: (zk_kg B p k A.2.2.1).filter (fun q => (zk_is q p k).not), A.2.2.2.1.filter (fun q => (Nat.beq q.1 p).not), A.2.2.2.2)
theorem zk_putf_ok {ci : Nat} (hw : zk_W B gh J fz) (hp : B.1[p]? = some (.inl ci)) (hN : zk_N τ A) (hH : zk_Hp B gh J τ A H) (ha : a.1 ≤ A.1) (hx : x.toInt = zk_ev τ a) (h : zk_putf B fz A p k a = some A') : A'.1 = A.1 ∧ zk_N τ A' ∧ zk_Hp B gh J τ A' (H.1, zp_u H.2.1 p k x, H.2.2) := by
  obtain ⟨w1, w2, w3, w4, w5, w6, w7, w8⟩ := hw
  unfold zk_putf at h
  cases hb : (fz p k).or ((Nat.beq p 72).and (Nat.beq k 100)) with
  | true => rw [hb] at h; cases h
  | false =>
    rw [hb] at h
    cases h
    obtain ⟨hb1, hb2⟩ := Bool.or_eq_false_iff.mp hb
    have hg : ¬ (p = 72 ∧ k = 100) := by
      rintro ⟨rfl, rfl⟩
      cases hb2
    refine ⟨rfl, hN, ?_⟩
    obtain ⟨g1, g2, g3, g4, g5, g6, g7, g8⟩ := hH
    have hu : ∀ p' k', ¬ (p' = p ∧ k' = k) → zp_u H.2.1 p k x p' k' = H.2.1 p' k' := fun p' k' hn => zp_u_ne hn
    have hgh : B.2.2.2.2.2 p k = false → gh (H.1, zp_u H.2.1 p k x, H.2.2) = gh H := fun hf => w2 H _ (fun p' k' h' => ⟨hu p' k' (by rintro ⟨rfl, rfl⟩; rw [hf] at h'; cases h'), rfl⟩)
    have hfv : ∀ p' k', ¬ (p' = p ∧ k' = k) → ((p' = 72 ∧ k' = 100) → B.2.2.2.2.2 p k = false) → zk_fv gh (H.1, zp_u H.2.1 p k x, H.2.2) p' k' = zk_fv gh H p' k' := by
      intro p' k' h1 h2
      unfold zk_fv
      by_cases h3 : p' = 72 ∧ k' = 100
      · rw [if_pos h3, if_pos h3, hgh (h2 h3)]
      · rw [if_neg h3, if_neg h3]
        show (zp_u H.2.1 p k x p' k').toInt = _
        rw [hu p' k' h1]
    refine ⟨g1, g2, fun e he => ?_, fun e he => ?_, fun p' k' r' h' => ?_, fun p' t n i r' h1 h2 h3 => ?_, fun c hc => ?_, ?_⟩
    · rcases List.mem_cons.mp he with rfl | he
      · refine ⟨ha, ?_⟩
        show zk_fv gh _ p k = _
        unfold zk_fv
        rw [if_neg hg]
        show (zp_u H.2.1 p k x p k).toInt = _
        rw [zp_u_self]
        exact hx
      · obtain ⟨he, hn⟩ := List.mem_filter.mp he
        obtain ⟨he, hk⟩ := zk_kg_m he
        have hn := zk_is_f (show zk_is e p k = false by simpa using hn)
        refine ⟨(g3 e he).1, ?_⟩
        rw [hfv _ _ hn]
        · exact (g3 e he).2
        · intro h9
          cases hf : B.2.2.2.2.2 p k with
          | false => rfl
          | true => exact absurd h9 (hk hf)
    · obtain ⟨he, hn⟩ := List.mem_filter.mp he
      have hn : e.1 ≠ p := by
        rintro rfl
        rw [Nat.beq_refl] at hn
        cases hn
      obtain ⟨f1, f2, f3, f4⟩ := g4 e he
      refine ⟨f1, f2, f3, ?_⟩
      show (zp_u H.2.1 p k x e.1 _).toInt = _
      rw [hu _ _ (fun z => hn z.1)]
      exact f4
    · by_cases h1 : p' = p ∧ k' = k
      · exact Or.inl ⟨_, List.mem_cons_self, h1.1.symm, h1.2.symm⟩
      · by_cases h2 : p' = 72 ∧ k' = 100
        · right
          unfold zk_fv
          rw [if_pos h2]
          rw [h2.1, h2.2] at h'
          exact w3 _ _ h'
        · rcases g5 p' k' r' h' with ⟨e, he, e1, e2⟩ | h9
          · refine Or.inl ⟨e, List.mem_cons_of_mem _ (List.mem_filter.mpr ⟨zk_kg_k he (by rw [e1, e2]; exact h2), ?_⟩), e1, e2⟩
            rw [zk_is_n (by rw [e1, e2]; exact h1)]
            rfl
          · right
            rw [hfv _ _ h1 (fun z => absurd z h2)]
            exact h9
    · have hn : p' ≠ p := by
        rintro rfl
        rw [h1] at hp
        cases hp
      show zk_in (zp_u H.2.1 p k x p' i).toInt r'
      rw [hu _ _ (fun z => hn z.1)]
      exact g6 p' t n i r' h1 h2 h3
    · obtain ⟨-, c2, c3⟩ := w5 c hc
      by_cases h1 : c.1 = p ∧ (c.2.1 = k ∨ c.2.2.2.1 = k)
      · refine Or.inl ⟨_, List.mem_cons_self, h1.1.symm, ?_, rfl⟩
        rcases h1.2 with h | h
        · exact Or.inl h.symm
        · exact Or.inr h.symm
      · rcases g7 c hc with ⟨e, he, e1, e2, e3⟩ | h9
        · refine Or.inl ⟨e, List.mem_cons_of_mem _ (List.mem_filter.mpr ⟨zk_kg_k he ?_, ?_⟩), e1, e2, e3⟩
          · rintro ⟨-, h9⟩
            rcases e2 with e2 | e2
            · exact c2 (e2 ▸ h9)
            · exact c3 (e2 ▸ h9)
          · rw [zk_is_n]
            · rfl
            · rintro ⟨f1, f2⟩
              refine h1 ⟨e1.symm.trans f1, ?_⟩
              rcases e2 with e2 | e2
              · exact Or.inl (e2.symm.trans f2)
              · exact Or.inr (e2.symm.trans f2)
        · right
          rw [hfv c.1 c.2.1 (fun z => h1 ⟨z.1, Or.inl z.2⟩) (fun z => absurd z.2 c2), hfv c.1 c.2.2.2.1 (fun z => h1 ⟨z.1, Or.inr z.2⟩) (fun z => absurd z.2 c3)]
          exact h9
    · refine w1 H _ rfl (fun p' k' h' => ⟨hu p' k' ?_, rfl⟩) g8
      rintro ⟨rfl, rfl⟩
      rw [hb1] at h'
      cases h'
/-- a long is written, in a field or in an array: numbers stand as they are -/
def zk_putl (B : zk_B) (fz : Nat → Nat → Bool) (A : zk_A) (p k : Nat) : Option zk_A := bif fz p k then none else some (A.1, A.2.1, zk_kg B p k A.2.2.1, A.2.2.2)
theorem zk_putl_ok {hl : Nat → Nat → Int64} (hw : zk_W B gh J fz) (hN : zk_N τ A) (hH : zk_Hp B gh J τ A H) (h : zk_putl B fz A p k = some A') (hl1 : ∀ p' k', fz p' k' = true → hl p' k' = H.2.2.1 p' k') (hl2 : B.2.2.2.2.2 p k = false → ∀ p' k', B.2.2.2.2.2 p' k' = true → hl p' k' = H.2.2.1 p' k') : A'.1 = A.1 ∧ zk_N τ A' ∧ zk_Hp B gh J τ A' (H.1, H.2.1, hl, H.2.2.2) := by
  obtain ⟨w1, w2, w3, w4, w5, w6, w7, w8⟩ := hw
  unfold zk_putl at h
  cases hb : fz p k with
  | true => rw [hb] at h; cases h
  | false =>
    rw [hb] at h
    cases h
    refine ⟨rfl, hN, ?_⟩
    obtain ⟨g1, g2, g3, g4, g5, g6, g7, g8⟩ := hH
    have hgh : B.2.2.2.2.2 p k = false → gh (H.1, H.2.1, hl, H.2.2.2) = gh H := fun hf => w2 H _ (fun p' k' h' => ⟨rfl, hl2 hf p' k' h'⟩)
    have hfv : ∀ p' k', ((p' = 72 ∧ k' = 100) → B.2.2.2.2.2 p k = false) → zk_fv gh (H.1, H.2.1, hl, H.2.2.2) p' k' = zk_fv gh H p' k' := by
      intro p' k' h2
      unfold zk_fv
      by_cases h3 : p' = 72 ∧ k' = 100
      · rw [if_pos h3, if_pos h3, hgh (h2 h3)]
      · rw [if_neg h3, if_neg h3]
    refine ⟨g1, g2, fun e he => ?_, g4, fun p' k' r' h' => ?_, g6, fun c hc => ?_, w1 H _ rfl (fun p' k' h' => ⟨rfl, hl1 p' k' h'⟩) g8⟩
    · obtain ⟨he, hk⟩ := zk_kg_m he
      refine ⟨(g3 e he).1, ?_⟩
      rw [hfv]
      · exact (g3 e he).2
      · intro h9
        cases hf : B.2.2.2.2.2 p k with
        | false => rfl
        | true => exact absurd h9 (hk hf)
    · by_cases h2 : p' = 72 ∧ k' = 100
      · right
        unfold zk_fv
        rw [if_pos h2]
        rw [h2.1, h2.2] at h'
        exact w3 _ _ h'
      · rcases g5 p' k' r' h' with ⟨e, he, e1, e2⟩ | h9
        · exact Or.inl ⟨e, zk_kg_k he (by rw [e1, e2]; exact h2), e1, e2⟩
        · right
          rw [hfv _ _ (fun z => absurd z h2)]
          exact h9
    · obtain ⟨-, c2, c3⟩ := w5 c hc
      rcases g7 c hc with ⟨e, he, e1, e2, e3⟩ | h9
      · refine Or.inl ⟨e, zk_kg_k he ?_, e1, e2, e3⟩
        rintro ⟨-, h9⟩
        rcases e2 with e2 | e2
        · exact c2 (e2 ▸ h9)
        · exact c3 (e2 ▸ h9)
      · right
        rw [hfv c.1 c.2.1 (fun z => absurd z.2 c2), hfv c.1 c.2.2.2.1 (fun z => absurd z.2 c3)]
        exact h9
/-! arrays -/
/-- the rest of the index by m, where it is known -/
def zk_res (A : zk_A) (i : zk_I) (m : Nat) : Option Nat := bif Nat.beq m 1 then some 0 else match i.1 with
  | 0 => some (i.2 % (m : Int)).toNat
  | j + 1 => match zk_lk A.2.1 j with
    | some e => bif Nat.beq (e.2.2.2 % m) 0 then some (i.2 % (m : Int)).toNat else none
    | none => none
theorem zk_res_ok {m s : Nat} (hm : 0 < m) (hN : zk_N τ A) (h0 : 0 ≤ zk_ev τ i) (h : zk_res A i m = some s) : (zk_ev τ i).toNat % m = s := by
  unfold zk_res at h
  cases h1 : Nat.beq m 1 with
  | true =>
    have e := za_beq h1
    rw [h1] at h
    cases h
    rw [e]
    exact Nat.mod_one _
  | false =>
    rw [h1] at h
    simp only [cond_false] at h
    have key : ∀ {u c : Int}, 0 ≤ u → u % (m : Int) = c % (m : Int) → u.toNat % m = (c % (m : Int)).toNat := by
      intro u c hu hc
      obtain ⟨w, rfl⟩ : ∃ w : Nat, u = (w : Int) := ⟨u.toNat, by omega⟩
      rw [← hc, ← Int.natCast_emod, Int.toNat_natCast, Int.toNat_natCast]
    obtain ⟨kk, c⟩ := i
    cases kk with
    | zero =>
      cases h
      exact key h0 rfl
    | succ j =>
      dsimp only at h
      split at h
      · rename_i e he
        obtain ⟨h2, h⟩ := za_bif h
        cases h
        obtain ⟨-, -, -, -, g5⟩ := hN.1 _ (zk_lk_m he)
        have g6 : (m : Int) ∣ τ j := Int.dvd_trans (Int.natCast_dvd_natCast.mpr (Nat.dvd_of_mod_eq_zero (za_beq h2))) g5
        refine key h0 ?_
        show (τ j + c) % (m : Int) = c % (m : Int)
        obtain ⟨w, hw⟩ := g6
        rw [hw, Int.add_comm, Int.add_mul_emod_self_left]
      · cases h
/-- all ranges together -/
def zk_jn : List (Int × Int) → Int × Int
  | [] => (-2147483648, 2147483647)
  | [r] => r
  | r :: l => match zk_jn l with
    | (lo, hi) => (zk_min r.1 lo, zk_max r.2 hi)
theorem zk_min_l (a b : Int) : zk_min a b ≤ a := by
  unfold zk_min
  cases h : za_ile a b with
  | true => exact Int.le_refl _
  | false => have := za_ile_f h; show b ≤ a; omega
theorem zk_min_r (a b : Int) : zk_min a b ≤ b := by
  unfold zk_min
  cases h : za_ile a b with
  | true => exact za_ile_t h
  | false => exact Int.le_refl _
theorem zk_max_l (a b : Int) : a ≤ zk_max a b := by
  unfold zk_max
  cases h : za_ile a b with
  | true => exact za_ile_t h
  | false => exact Int.le_refl _
theorem zk_max_r (a b : Int) : b ≤ zk_max a b := by
  unfold zk_max
  cases h : za_ile a b with
  | true => exact Int.le_refl _
  | false => have := za_ile_f h; show b ≤ a; omega
theorem zk_jn_ok {u : Int} : ∀ {l : List (Int × Int)} {s : Nat} {r : Int × Int}, l[s]? = some r → zk_in u r → zk_in u (zk_jn l)
  | [], s, r, h, _ => by simp at h
  | [r0], 0, r, h, hu => by
    simp at h
    subst h
    exact hu
  | [r0], s + 1, r, h, _ => by simp at h
  | r0 :: r1 :: l, 0, r, h, hu => by
    simp at h
    subst h
    unfold zk_jn
    generalize zk_jn (r1 :: l) = q
    obtain ⟨lo, hi⟩ := q
    exact ⟨Int.le_trans (zk_min_l _ _) hu.1, Int.le_trans hu.2 (zk_max_l _ _)⟩
  | r0 :: r1 :: l, s + 1, r, h, hu => by
    have ih := zk_jn_ok (l := r1 :: l) (by simpa using h) hu
    unfold zk_jn
    generalize zk_jn (r1 :: l) = q at ih ⊢
    obtain ⟨lo, hi⟩ := q
    exact ⟨Int.le_trans (zk_min_r _ _) ih.1, Int.le_trans ih.2 (zk_max_r _ _)⟩
/-- the place lies in the array -/
def zk_ix (A : zk_A) (i : zk_I) (n : Nat) : Bool := match zk_rg A i with
  | some (lo, hi) => (za_ile 0 lo).and (za_ile (hi + 1) (n : Int))
  | none => false
theorem zk_ix_ok {n : Nat} (hN : zk_N τ A) (h : zk_ix A i n = true) : 0 ≤ zk_ev τ i ∧ zk_ev τ i < (n : Int) := by
  unfold zk_ix at h
  split at h
  · rename_i lo hi g
    have r1 := zk_rg_ok hN g
    unfold zk_in at r1
    dsimp only at r1
    obtain ⟨h1, h2⟩ := Bool.and_eq_true_iff.mp h
    have h1 := za_ile_t h1
    have h2 := za_ile_t h2
    omega
  · cases h
def zk_al (p : Nat) (i : zk_I) : List (Nat × zk_I × zk_I) → Option zk_I
  | [] => none
  | q :: l => bif (Nat.beq q.1 p).and (zk_eqI q.2.1 i) then some q.2.2 else zk_al p i l
theorem zk_al_m : ∀ {l : List (Nat × zk_I × zk_I)}, zk_al p i l = some v → (p, i, v) ∈ l
  | [], h => by cases h
  | q :: l, h => by
    unfold zk_al at h
    cases hb : (Nat.beq q.1 p).and (zk_eqI q.2.1 i) with
    | true =>
      rw [hb] at h
      obtain ⟨h1, h2⟩ := Bool.and_eq_true_iff.mp hb
      cases h
      have e1 := za_beq h1
      have e2 := zk_eqI_t h2
      rw [← e1, ← e2]
      exact List.mem_cons_self
    | false =>
      rw [hb] at h
      exact List.mem_cons_of_mem _ (zk_al_m h)
def zk_adda (q : zk_A × zk_I) (p : Nat) (i : zk_I) : zk_A × zk_I := ((q.1.1, q.1.2.1, q.1.2.2.1, (p, i, q.2) :: q.1.2.2.2.1, q.1.2.2.2.2), q.2)
/-- an int is read out of an array -/
def zk_ald (B : zk_B) (A : zk_A) (p n : Nat) (i : zk_I) : Option (zk_A × zk_I) := bif zk_ix A i n then match zk_al p i A.2.2.2.1 with
  | some v => some (A, v)
  | none => match B.2.2.2.1 p with
    | (m, rs) => bif Nat.blt 0 m then bif Nat.beq m rs.length then match (match zk_res A i m with
        | some s => match rs[s]? with
          | some r => r
          | none => zk_jn rs
        | none => zk_jn rs) with
      | (lo, hi) => some (zk_adda (zk_fresh A lo hi 1) p i) else none else none
  else none
theorem zk_ald_ok {t n : Nat} (hp : B.1[p]? = some (.inr (t, n))) (hN : zk_N τ A) (hH : zk_Hp B gh J τ A H) (hi : i.1 ≤ A.1) (h : zk_ald B A p n i = some q) : 0 ≤ zk_ev τ i ∧ zk_ev τ i < (n : Int) ∧ zk_Rh B gh J τ A H (H.2.1 p (zk_ev τ i).toNat).toInt q := by
  unfold zk_ald at h
  obtain ⟨h0, h⟩ := za_bif h
  obtain ⟨i0, i1⟩ := zk_ix_ok hN h0
  refine ⟨i0, i1, ?_⟩
  split at h
  · rename_i v hv
    cases h
    obtain ⟨g1, g2, g3, g4⟩ := hH.2.2.2.1 _ (zk_al_m hv)
    exact ⟨τ, zk_ext_r τ, Nat.le_refl _, hN, hH, g2, g4⟩
  · generalize hm : B.2.2.2.1 p = mr at h
    obtain ⟨m, rs⟩ := mr
    dsimp only at h
    obtain ⟨m0, h⟩ := za_bif h
    obtain ⟨m1, h⟩ := za_bif h
    have m0 := za_blt m0
    have m1 := za_beq m1
    have hlt : (zk_ev τ i).toNat % m < rs.length := by rw [← m1]; exact Nat.mod_lt _ m0
    have hr : zk_in (H.2.1 p (zk_ev τ i).toNat).toInt (rs[(zk_ev τ i).toNat % m]'hlt) := by
      refine hH.2.2.2.2.2.1 p t n _ _ hp (by omega) ?_
      rw [hm]
      exact List.getElem?_eq_getElem hlt
    have hj := zk_jn_ok (List.getElem?_eq_getElem hlt) hr
    have hk : ∀ r : Int × Int, (match zk_res A i m with
        | some s => match rs[s]? with
          | some r => r
          | none => zk_jn rs
        | none => zk_jn rs) = r → zk_in (H.2.1 p (zk_ev τ i).toNat).toInt r := by
      intro r hr9
      split at hr9
      · rename_i s hs
        have e := zk_res_ok m0 hN i0 hs
        split at hr9
        · rename_i r8 hr8
          subst hr9
          rw [← e, List.getElem?_eq_getElem hlt] at hr8
          rw [← Option.some.inj hr8]
          exact hr
        · subst hr9; exact hj
      · subst hr9; exact hj
    generalize hq : (match zk_res A i m with
        | some s => match rs[s]? with
          | some r => r
          | none => zk_jn rs
        | none => zk_jn rs) = r9 at h
    obtain ⟨lo, hi9⟩ := r9
    have hr9 := hk _ hq
    cases h
    obtain ⟨τ', f1, f2, f3, f4, f5, f6⟩ := zk_Rs_h hH (zk_fresh_ok (md := 1) hN hr9.1 hr9.2 (Int.one_dvd _))
    refine ⟨τ', f1, f2, f3, ?_, f5, f6⟩
    obtain ⟨g1, g2, g3, g4, g5, g6, g7, g8⟩ := f4
    refine ⟨g1, g2, g3, fun e he => ?_, g5, g6, g7, g8⟩
    rcases List.mem_cons.mp he with rfl | he
    · refine ⟨Nat.le_trans hi f2, f5, ?_, ?_⟩
      · show 0 ≤ zk_ev τ' i
        rw [zk_ev_x hi f1]
        exact i0
      · show (H.2.1 p (zk_ev τ' i).toNat).toInt = _
        rw [zk_ev_x hi f1]
        exact f6
    · exact g4 e he
/-- a number lies in a range -/
def zk_sub1 (A : zk_A) (v : zk_I) (r : Int × Int) : Bool := match zk_rg A v with
  | some (lo, hi) => (za_ile r.1 lo).and (za_ile hi r.2)
  | none => false
theorem zk_sub1_ok {r : Int × Int} (hN : zk_N τ A) (h : zk_sub1 A v r = true) : zk_in (zk_ev τ v) r := by
  unfold zk_sub1 at h
  split at h
  · rename_i lo hi g
    have r1 := zk_rg_ok hN g
    obtain ⟨h1, h2⟩ := Bool.and_eq_true_iff.mp h
    exact ⟨Int.le_trans (za_ile_t h1) r1.1, Int.le_trans r1.2 (za_ile_t h2)⟩
  · cases h
/-- an int is written into an array -/
def zk_ast (B : zk_B) (fz : Nat → Nat → Bool) (A : zk_A) (p n : Nat) (i v : zk_I) : Option zk_A := bif zk_ix A i n then bif fz p 0 then none else bif A.2.2.1.all (fun q => (Nat.beq q.1 p).not) then match B.2.2.2.1 p with
  | (m, rs) => bif Nat.blt 0 m then bif (match zk_res A i m with
      | some s => match rs[s]? with
        | some r => zk_sub1 A v r
        | none => true
      | none => rs.all (fun r => zk_sub1 A v r)) then some (A.1, A.2.1, A.2.2.1, (p, i, v) :: A.2.2.2.1.filter (fun q => (Nat.beq q.1 p).not), A.2.2.2.2) else none else none
  else none else none
theorem zk_ast_ok {t n : Nat} (hw : zk_W B gh J fz) (hp : B.1[p]? = some (.inr (t, n))) (hN : zk_N τ A) (hH : zk_Hp B gh J τ A H) (hi : i.1 ≤ A.1) (hv : v.1 ≤ A.1) (hx : x.toInt = zk_ev τ v) (h : zk_ast B fz A p n i v = some A') : 0 ≤ zk_ev τ i ∧ zk_ev τ i < (n : Int) ∧ A'.1 = A.1 ∧ zk_N τ A' ∧ zk_Hp B gh J τ A' (H.1, zp_u H.2.1 p (zk_ev τ i).toNat x, H.2.2) := by
  obtain ⟨w1, w2, w3, w4, w5, w6, w7, w8⟩ := hw
  unfold zk_ast at h
  obtain ⟨h0, h⟩ := za_bif h
  obtain ⟨i0, i1⟩ := zk_ix_ok hN h0
  refine ⟨i0, i1, ?_⟩
  cases hf : fz p 0 with
  | true => rw [hf] at h; cases h
  | false =>
    rw [hf] at h
    simp only [cond_false] at h
    obtain ⟨ho, h⟩ := za_bif h
    have ho : ∀ e ∈ A.2.2.1, e.1 ≠ p := by
      intro e he
      have h9 := List.all_eq_true.mp ho e he
      rintro rfl
      rw [Nat.beq_refl] at h9
      cases h9
    obtain ⟨m0, h⟩ := za_bif h
    obtain ⟨hc, h⟩ := za_bif h
    have m0 := za_blt m0
    cases h
    refine ⟨rfl, hN, ?_⟩
    obtain ⟨g1, g2, g3, g4, g5, g6, g7, g8⟩ := hH
    have hno : ∀ p' ci, B.1[p']? = some (.inl ci) → p' ≠ p := by
      rintro p' ci h1 rfl
      rw [hp] at h1
      cases h1
    have hu : ∀ p' k', p' ≠ p → zp_u H.2.1 p (zk_ev τ i).toNat x p' k' = H.2.1 p' k' := fun p' k' hn => zp_u_ne (fun z => hn z.1)
    have hgh : gh (H.1, zp_u H.2.1 p (zk_ev τ i).toNat x, H.2.2) = gh H := w2 H _ (fun p' k' h' => ⟨by
      obtain ⟨ci, h9⟩ := w6 p' k' h'
      exact hu p' k' (hno p' ci h9), rfl⟩)
    have hfv : ∀ p' k', p' ≠ p → zk_fv gh (H.1, zp_u H.2.1 p (zk_ev τ i).toNat x, H.2.2) p' k' = zk_fv gh H p' k' := by
      intro p' k' h1
      unfold zk_fv
      by_cases h3 : p' = 72 ∧ k' = 100
      · rw [if_pos h3, if_pos h3, hgh]
      · rw [if_neg h3, if_neg h3]
        show (zp_u H.2.1 p _ x p' k').toInt = _
        rw [hu p' k' h1]
    refine ⟨g1, g2, fun e he => ?_, fun e he => ?_, fun p' k' r' h' => ?_, fun p' t' n' i' r' h1 h2 h3 => ?_, fun c hc => ?_, ?_⟩
    · rw [hfv _ _ (ho e he)]
      exact g3 e he
    · rcases List.mem_cons.mp he with rfl | he
      · refine ⟨hi, hv, i0, ?_⟩
        show (zp_u H.2.1 p (zk_ev τ i).toNat x p (zk_ev τ i).toNat).toInt = _
        rw [zp_u_self]
        exact hx
      · obtain ⟨he, hn⟩ := List.mem_filter.mp he
        have hn : e.1 ≠ p := by
          rintro rfl
          rw [Nat.beq_refl] at hn
          cases hn
        obtain ⟨f1, f2, f3, f4⟩ := g4 e he
        refine ⟨f1, f2, f3, ?_⟩
        show (zp_u H.2.1 p _ x e.1 _).toInt = _
        rw [hu _ _ hn]
        exact f4
    · obtain ⟨ci, h9⟩ := w4 p' k' r' h'
      rw [hfv _ _ (hno p' ci h9)]
      exact g5 p' k' r' h'
    · show zk_in (zp_u H.2.1 p (zk_ev τ i).toNat x p' i').toInt r'
      by_cases h9 : p' = p ∧ i' = (zk_ev τ i).toNat
      · obtain ⟨rfl, rfl⟩ := h9
        rw [zp_u_self, hx]
        split at hc
        · rename_i s hs
          have e := zk_res_ok m0 hN i0 hs
          rw [e] at h3
          rw [h3] at hc
          exact zk_sub1_ok hN hc
        · exact zk_sub1_ok hN (List.all_eq_true.mp hc r' (List.mem_of_getElem? h3))
      · rw [zp_u_ne h9]
        exact g6 p' t' n' i' r' h1 h2 h3
    · obtain ⟨⟨ci, c1⟩, -, -⟩ := w5 c hc
      rw [hfv c.1 c.2.1 (hno _ ci c1), hfv c.1 c.2.2.2.1 (hno _ ci c1)]
      exact g7 c hc
    · refine w1 H _ rfl (fun p' k' h' => ⟨hu p' k' ?_, rfl⟩) g8
      rintro rfl
      rw [w7 p' k' t n hp, hf] at h'
      cases h'
end KW
end
section
/-! ===== the abstract executor: whole arrays, between calls ===== -/
def zk_inm (mods : List (Nat × Nat)) (p k : Nat) : Bool := mods.any (fun q => (Nat.beq q.1 p).and (Nat.beq q.2 k))
def zk_ina (am : List Nat) (p : Nat) : Bool := am.any (fun q => Nat.beq q p)
/-- nothing but these fields and arrays has changed -/
def zk_Fr (gh : zp_H → Int) (mods : List (Nat × Nat)) (am : List Nat) (H H' : zp_H) : Prop := ∀ p k, zk_inm mods p k = false → zk_ina am p = false → zk_fv gh H' p k = zk_fv gh H p k ∧ H'.2.2.1 p k = H.2.2.1 p k
theorem zk_Fr_r {gh : zp_H → Int} {mods : List (Nat × Nat)} {am : List Nat} (H : zp_H) : zk_Fr gh mods am H H := fun _ _ _ _ => ⟨rfl, rfl⟩
theorem zk_Fr_t {gh : zp_H → Int} {mods : List (Nat × Nat)} {am : List Nat} {H H' H'' : zp_H} (h1 : zk_Fr gh mods am H H') (h2 : zk_Fr gh mods am H' H'') : zk_Fr gh mods am H H'' := fun p k h3 h4 => ⟨(h2 p k h3 h4).1.trans (h1 p k h3 h4).1, (h2 p k h3 h4).2.trans (h1 p k h3 h4).2⟩
/-- what always holds -/
def zk_A0 : zk_A := (0, [], [], [], [])
def zk_Bs (B : zk_B) (gh : zp_H → Int) (J : zp_H → Prop) (H : zp_H) : Prop := zk_Hp B gh J (fun _ => 0) zk_A0 H
section KF
variable {B : zk_B} {gh : zp_H → Int} {J : zp_H → Prop} {fz : Nat → Nat → Bool} {τ : Nat → Int} {A A' : zk_A} {H H' : zp_H} {p k : Nat} {mods : List (Nat × Nat)} {am : List Nat}
/-- an array has new contents -/
def zk_arw (fz : Nat → Nat → Bool) (A : zk_A) (p : Nat) : Option zk_A := bif fz p 0 then none else bif A.2.2.1.all (fun q => (Nat.beq q.1 p).not) then some (A.1, A.2.1, A.2.2.1, A.2.2.2.1.filter (fun q => (Nat.beq q.1 p).not), A.2.2.2.2) else none
theorem zk_arw_ok {t n : Nat} {g : Nat → Int32} (hw : zk_W B gh J fz) (hp : B.1[p]? = some (.inr (t, n))) (hN : zk_N τ A) (hH : zk_Hp B gh J τ A H) (hg : ∀ (i : Nat) (r : Int × Int), i < n → (B.2.2.2.1 p).2[i % (B.2.2.2.1 p).1]? = some r → zk_in (g i).toInt r) (h : zk_arw fz A p = some A') : A'.1 = A.1 ∧ zk_N τ A' ∧ zk_Hp B gh J τ A' (H.1, zp_ua H.2.1 p g, H.2.2) := by
  obtain ⟨w1, w2, w3, w4, w5, w6, w7, w8⟩ := hw
  unfold zk_arw at h
  cases hf : fz p 0 with
  | true => rw [hf] at h; cases h
  | false =>
    rw [hf] at h
    simp only [cond_false] at h
    obtain ⟨ho, h⟩ := za_bif h
    have ho : ∀ e ∈ A.2.2.1, e.1 ≠ p := by
      intro e he
      have h9 := List.all_eq_true.mp ho e he
      rintro rfl
      rw [Nat.beq_refl] at h9
      cases h9
    cases h
    refine ⟨rfl, hN, ?_⟩
    obtain ⟨g1, g2, g3, g4, g5, g6, g7, g8⟩ := hH
    have hno : ∀ p' ci, B.1[p']? = some (.inl ci) → p' ≠ p := by
      rintro p' ci h1 rfl
      rw [hp] at h1
      cases h1
    have hu : ∀ p' k', p' ≠ p → zp_ua H.2.1 p g p' k' = H.2.1 p' k' := fun p' k' hn => by
      unfold zp_ua
      rw [if_neg hn]
    have hgh : gh (H.1, zp_ua H.2.1 p g, H.2.2) = gh H := w2 H _ (fun p' k' h' => ⟨by
      obtain ⟨ci, h9⟩ := w6 p' k' h'
      exact hu p' k' (hno p' ci h9), rfl⟩)
    have hfv : ∀ p' k', p' ≠ p → zk_fv gh (H.1, zp_ua H.2.1 p g, H.2.2) p' k' = zk_fv gh H p' k' := by
      intro p' k' h1
      unfold zk_fv
      by_cases h3 : p' = 72 ∧ k' = 100
      · rw [if_pos h3, if_pos h3, hgh]
      · rw [if_neg h3, if_neg h3]
        show (zp_ua H.2.1 p g p' k').toInt = _
        rw [hu p' k' h1]
    refine ⟨g1, g2, fun e he => ?_, fun e he => ?_, fun p' k' r' h' => ?_, fun p' t' n' i' r' h1 h2 h3 => ?_, fun c hc => ?_, ?_⟩
    · rw [hfv _ _ (ho e he)]
      exact g3 e he
    · obtain ⟨he, hn⟩ := List.mem_filter.mp he
      have hn : e.1 ≠ p := by
        rintro rfl
        rw [Nat.beq_refl] at hn
        cases hn
      obtain ⟨f1, f2, f3, f4⟩ := g4 e he
      refine ⟨f1, f2, f3, ?_⟩
      show (zp_ua H.2.1 p g e.1 _).toInt = _
      rw [hu _ _ hn]
      exact f4
    · obtain ⟨ci, h9⟩ := w4 p' k' r' h'
      rw [hfv _ _ (hno p' ci h9)]
      exact g5 p' k' r' h'
    · show zk_in (zp_ua H.2.1 p g p' i').toInt r'
      by_cases h9 : p' = p
      · subst h9
        rw [hp] at h1
        cases h1
        unfold zp_ua
        rw [if_pos rfl]
        exact hg i' r' h2 h3
      · rw [hu _ _ h9]
        exact g6 p' t' n' i' r' h1 h2 h3
    · obtain ⟨⟨ci, c1⟩, -, -⟩ := w5 c hc
      rw [hfv c.1 c.2.1 (hno _ ci c1), hfv c.1 c.2.2.2.1 (hno _ ci c1)]
      exact g7 c hc
    · refine w1 H _ rfl (fun p' k' h' => ⟨hu p' k' ?_, rfl⟩) g8
      rintro rfl
      rw [w7 p' k' t n hp, hf] at h'
      cases h'
/-! all is as it always is -/
def zk_fr1 (B : zk_B) (A : zk_A) (p k : Nat) : Option (Int × Int) := match zk_og A.2.2.1 p k with
  | some a => zk_rg A a
  | none => B.2.2.1 p k
theorem zk_fr1_ok {r : Int × Int} (hN : zk_N τ A) (hH : zk_Hp B gh J τ A H) (h : zk_fr1 B A p k = some r) : zk_in (zk_fv gh H p k) r := by
  unfold zk_fr1 at h
  split at h
  · rename_i a ha
    obtain ⟨e, e1, e2, e3, e4⟩ := zk_og_m ha
    have g := (hH.2.2.1 e e1).2
    rw [e2, e3, e4] at g
    rw [g]
    exact zk_rg_ok hN h
  · rename_i ho
    rcases hH.2.2.2.2.1 p k r h with ⟨e, he, h9⟩ | h9
    · exact absurd h9 (zk_og_n ho e he)
    · exact h9
def zk_cok (B : zk_B) (A : zk_A) (c : Nat × Nat × Int × Nat × Int × Int) : Bool := bif zk_dty A.2.2.1 c.1 c.2.1 c.2.2.2.1 then
  (match zk_fr1 B A c.1 c.2.1 with
    | some (lo, hi) => (za_ile (c.2.2.1 + 1) lo).or (za_ile (hi + 1) c.2.2.1)
    | none => false).or (match zk_fr1 B A c.1 c.2.2.2.1 with
    | some (lo, hi) => (za_ile c.2.2.2.2.1 lo).and (za_ile hi c.2.2.2.2.2)
    | none => false) else true
theorem zk_cok_ok {c : Nat × Nat × Int × Nat × Int × Int} (hc : c ∈ B.2.2.2.2.1) (hN : zk_N τ A) (hH : zk_Hp B gh J τ A H) (h : zk_cok B A c = true) : zk_fv gh H c.1 c.2.1 = c.2.2.1 → zk_in (zk_fv gh H c.1 c.2.2.2.1) c.2.2.2.2 := by
  intro hk
  unfold zk_cok at h
  cases hd : zk_dty A.2.2.1 c.1 c.2.1 c.2.2.2.1 with
  | false =>
    rcases hH.2.2.2.2.2.2.1 c hc with g | g
    · exact absurd g (zk_dty_f hd)
    · exact g hk
  | true =>
    rw [hd] at h
    simp only [cond_true] at h
    rcases Bool.or_eq_true_iff.mp h with h | h
    · split at h
      · rename_i lo hi hr
        have r := zk_fr1_ok hN hH hr
        unfold zk_in at r
        dsimp only at r
        rcases Bool.or_eq_true_iff.mp h with h | h
        · have := za_ile_t h; omega
        · have := za_ile_t h; omega
      · cases h
    · split at h
      · rename_i lo hi hr
        have r := zk_fr1_ok hN hH hr
        obtain ⟨h1, h2⟩ := Bool.and_eq_true_iff.mp h
        exact ⟨Int.le_trans (za_ile_t h1) r.1, Int.le_trans r.2 (za_ile_t h2)⟩
      · cases h
def zk_flush (B : zk_B) (A : zk_A) : Bool := (A.2.2.1.all (fun q => match B.2.2.1 q.1 q.2.1 with
  | some r => zk_sub1 A q.2.2.2 r
  | none => true)).and (B.2.2.2.2.1.all (zk_cok B A))
theorem zk_flush_b (hN : zk_N τ A) (hH : zk_Hp B gh J τ A H) (h : zk_flush B A = true) : ∀ p k r, B.2.2.1 p k = some r → zk_in (zk_fv gh H p k) r := by
  intro p k r hr
  rcases hH.2.2.2.2.1 p k r hr with ⟨e, he, e1, e2⟩ | h9
  · have h9 := List.all_eq_true.mp (Bool.and_eq_true_iff.mp h).1 e he
    rw [e1, e2, hr] at h9
    have g := (hH.2.2.1 e he).2
    rw [e1, e2] at g
    rw [g]
    exact zk_sub1_ok hN h9
  · exact h9
theorem zk_flush_ok (hN : zk_N τ A) (hH : zk_Hp B gh J τ A H) (h : zk_flush B A = true) : zk_Bs B gh J H := by
  refine ⟨hH.1, hH.2.1, fun q hq => absurd hq List.not_mem_nil, fun q hq => absurd hq List.not_mem_nil, fun p k r hr => Or.inr (zk_flush_b hN hH h p k r hr), hH.2.2.2.2.2.1, fun c hc => Or.inr ?_, hH.2.2.2.2.2.2.2⟩
  exact zk_cok_ok hc hN hH (List.all_eq_true.mp (Bool.and_eq_true_iff.mp h).2 c hc)
/-- behind a call: what it may have changed is forgotten -/
def zk_cl1 (q : Nat × Nat × Bool × zk_I) : Nat × Nat × Bool × zk_I := (q.1, q.2.1, false, q.2.2.2)
def zk_bh (mods : List (Nat × Nat)) (am : List Nat) (A : zk_A) : zk_A := (A.1, A.2.1, (A.2.2.1.filter (fun q => ((zk_inm mods q.1 q.2.1).or (zk_ina am q.1)).not)).map zk_cl1, A.2.2.2.1.filter (fun q => ((mods.any (fun m => Nat.beq m.1 q.1)).or ((zk_ina am q.1).or (Nat.beq q.1 72))).not), A.2.2.2.2)
theorem zk_bh_ok (hw : zk_W B gh J fz) (hN : zk_N τ A) (hH : zk_Hp B gh J τ A H) (hB : zk_Bs B gh J H') (hF : zk_Fr gh mods am H H') : zk_N τ (zk_bh mods am A) ∧ zk_Hp B gh J τ (zk_bh mods am A) H' := by
  obtain ⟨b1, b2, -, -, b5, b6, b7, b8⟩ := hB
  obtain ⟨g1, g2, g3, g4, g5, g6, g7, g8⟩ := hH
  refine ⟨hN, b1, b2, fun e he => ?_, fun e he => ?_, fun p k r hr => ?_, b6, fun c hc => ?_, b8⟩
  · obtain ⟨e0, h0, rfl⟩ := List.mem_map.mp he
    obtain ⟨h1, h2⟩ := List.mem_filter.mp h0
    have h2 : (zk_inm mods e0.1 e0.2.1).or (zk_ina am e0.1) = false := by simpa using h2
    obtain ⟨h3, h4⟩ := Bool.or_eq_false_iff.mp h2
    refine ⟨(g3 e0 h1).1, ?_⟩
    show zk_fv gh H' e0.1 e0.2.1 = zk_ev τ e0.2.2.2
    rw [(hF _ _ h3 h4).1]
    exact (g3 e0 h1).2
  · obtain ⟨h1, h2⟩ := List.mem_filter.mp he
    have h2 : (mods.any (fun m => Nat.beq m.1 e.1)).or ((zk_ina am e.1).or (Nat.beq e.1 72)) = false := by simpa using h2
    obtain ⟨h3, h4⟩ := Bool.or_eq_false_iff.mp h2
    obtain ⟨h4, h8⟩ := Bool.or_eq_false_iff.mp h4
    obtain ⟨f1, f2, f3, f4⟩ := g4 e h1
    refine ⟨f1, f2, f3, ?_⟩
    have h5 : zk_inm mods e.1 (zk_ev τ e.2.1).toNat = false := by
      cases hb : zk_inm mods e.1 (zk_ev τ e.2.1).toNat with
      | false => rfl
      | true =>
        obtain ⟨m, m1, m2⟩ := List.any_eq_true.mp hb
        rw [List.any_eq_true.mpr ⟨m, m1, (Bool.and_eq_true_iff.mp m2).1⟩] at h3
        cases h3
    have h6 := (hF _ _ h5 h4).1
    by_cases h7 : e.1 = 72 ∧ (zk_ev τ e.2.1).toNat = 100
    · rw [h7.1] at h8
      cases h8
    · unfold zk_fv at h6
      rw [if_neg h7, if_neg h7] at h6
      rw [h6]
      exact f4
  · rcases b5 p k r hr with ⟨e, he, -⟩ | h9
    · exact absurd he List.not_mem_nil
    · exact Or.inr h9
  · rcases b7 c hc with ⟨e, he, -⟩ | h9
    · exact absurd he List.not_mem_nil
    · exact Or.inr h9
end KF
end
section
/-! ===== the abstract executor: instructions ===== -/
abbrev zk_LV : Type := List (Nat × zk_V)
abbrev zk_O : Type := zk_A × Nat × zk_LV × List zk_V
def zk_cat (v : zk_V) : Nat := match v with
  | .inr none => 2
  | _ => 1
def zk_get : zk_LV → Nat → Option zk_V
  | [], _ => none
  | q :: l, i => bif Nat.beq q.1 i then some q.2 else zk_get l i
def zk_st1 (lv : zk_LV) (i : Nat) (v : zk_V) : zk_LV := (i, v) :: lv.filter (fun q => !(q.1 == i) && !(q.1 + 1 == i && zk_cat q.2 == 2))
def zk_st2 (lv : zk_LV) (i : Nat) (v : zk_V) : zk_LV := (i, v) :: lv.filter (fun q => !(q.1 == i) && (!(q.1 == i + 1) && !(q.1 + 1 == i && zk_cat q.2 == 2)))
theorem zk_cat_ok {τ : Nat → Int} {n : Nat} {a : zk_V} {v : zp_V} (h : zk_gV τ n a v) : zk_cat a = zp_cat v := by
  match a, v, h with
  | .inl i, .inl x, _ => rfl
  | .inr none, .inr (.inl _), _ => rfl
  | .inr (some r), .inr (.inr r'), _ => rfl
def zk_L (τ : Nat → Int) (n : Nat) (lv : zk_LV) (lc : zp_LV) : Prop := ∀ i v, zk_get lv i = some v → ∃ w, zp_get lc i = some w ∧ zk_gV τ n v w
theorem zk_get_ok {τ : Nat → Int} {n i : Nat} {v : zk_V} {lv : zk_LV} {lc : zp_LV} (h : zk_L τ n lv lc) (hv : zk_get lv i = some v) : ∃ w, zp_get lc i = some w ∧ zk_gV τ n v w := h i v hv
theorem zk_get_f {f : Nat × zk_V → Bool} {j : Nat} {v : zk_V} : ∀ {lv : zk_LV}, zk_get (lv.filter f) j = some v → ∃ q ∈ lv, q.1 = j ∧ q.2 = v ∧ f q = true
  | [], h => by cases h
  | q :: l, h => by
    rw [List.filter_cons] at h
    cases hf : f q with
    | false =>
      rw [hf] at h
      obtain ⟨q9, h1, h2⟩ := zk_get_f (lv := l) h
      exact ⟨q9, List.mem_cons_of_mem _ h1, h2⟩
    | true =>
      rw [hf] at h
      have h : zk_get (q :: l.filter f) j = some v := h
      unfold zk_get at h
      cases hb : Nat.beq q.1 j with
      | true =>
        rw [hb] at h
        exact ⟨q, List.mem_cons_self, za_beq hb, Option.some.inj h, hf⟩
      | false =>
        rw [hb] at h
        obtain ⟨q9, h1, h2⟩ := zk_get_f (lv := l) h
        exact ⟨q9, List.mem_cons_of_mem _ h1, h2⟩
/-- no local stands there twice -/
def zk_u1 : zk_LV → Bool
  | [] => true
  | q :: l => (l.all (fun r => (Nat.beq r.1 q.1).not)).and (zk_u1 l)
theorem zk_u1_get {q : Nat × zk_V} : ∀ {lv : zk_LV}, zk_u1 lv = true → q ∈ lv → zk_get lv q.1 = some q.2
  | [], _, hq => absurd hq List.not_mem_nil
  | r :: l, h, hq => by
    obtain ⟨h1, h2⟩ := Bool.and_eq_true_iff.mp h
    unfold zk_get
    rcases List.mem_cons.mp hq with rfl | hq
    · rw [Nat.beq_refl]
      rfl
    · have h3 := List.all_eq_true.mp h1 q hq
      cases hb : Nat.beq r.1 q.1 with
      | true =>
        rw [za_beq hb, Nat.beq_refl] at h3
        cases h3
      | false => exact zk_u1_get h2 hq
theorem zp_get_f {f : Nat × zp_V → Bool} {j : Nat} {w : zp_V} : ∀ {lc : zp_LV}, zp_get lc j = some w → (∀ q ∈ lc, q.1 = j → q.2 = w → f q = true) → zp_get (lc.filter f) j = some w
  | [], h, _ => by cases h
  | q :: l, h, hf => by
    unfold zp_get at h
    rw [List.filter_cons]
    cases hb : Nat.beq q.1 j with
    | true =>
      rw [hb] at h
      have e := Option.some.inj h
      rw [hf q List.mem_cons_self (za_beq hb) e]
      show (bif Nat.beq q.1 j then some q.2 else _) = _
      rw [hb]
      exact congrArg some e
    | false =>
      rw [hb] at h
      have ih := zp_get_f (lc := l) h (fun q9 h1 h2 h3 => hf q9 (List.mem_cons_of_mem _ h1) h2 h3)
      cases hq : f q with
      | false => exact ih
      | true =>
        show (bif Nat.beq q.1 j then some q.2 else zp_get (l.filter f) j) = _
        rw [hb]
        exact ih
/-- what is kept of a local behind a store -/
def zk_kp (lv : zk_LV) (f : Nat × zk_V → Bool) : zk_LV := lv.filter f
theorem zk_st1_ok {τ : Nat → Int} {n i : Nat} {v : zk_V} {w : zp_V} {lv : zk_LV} {lc : zp_LV} (hu : zk_u1 lv = true) (h : zk_L τ n lv lc) (hv : zk_gV τ n v w) : zk_L τ n (zk_st1 lv i v) (zp_st1 lc i w) := by
  intro j v' hj
  unfold zk_st1 at hj
  unfold zk_get at hj
  show ∃ w9, (bif Nat.beq i j then some w else zp_get (lc.filter _) j) = some w9 ∧ _
  cases hb : Nat.beq i j with
  | true =>
    rw [hb] at hj
    cases hj
    exact ⟨w, rfl, hv⟩
  | false =>
    rw [hb] at hj
    obtain ⟨q, q1, q2, q3, q4⟩ := zk_get_f hj
    have hg := zk_u1_get hu q1
    rw [q2, q3] at hg
    obtain ⟨w', w1, w2⟩ := h j v' hg
    refine ⟨w', zp_get_f w1 (fun r r1 r2 r3 => ?_), w2⟩
    rw [q2, q3] at q4
    rw [r2, r3, ← zk_cat_ok w2]
    exact q4
theorem zk_st2_ok {τ : Nat → Int} {n i : Nat} {v : zk_V} {w : zp_V} {lv : zk_LV} {lc : zp_LV} (hu : zk_u1 lv = true) (h : zk_L τ n lv lc) (hv : zk_gV τ n v w) : zk_L τ n (zk_st2 lv i v) (zp_st2 lc i w) := by
  intro j v' hj
  unfold zk_st2 at hj
  unfold zk_get at hj
  show ∃ w9, (bif Nat.beq i j then some w else zp_get (lc.filter _) j) = some w9 ∧ _
  cases hb : Nat.beq i j with
  | true =>
    rw [hb] at hj
    cases hj
    exact ⟨w, rfl, hv⟩
  | false =>
    rw [hb] at hj
    obtain ⟨q, q1, q2, q3, q4⟩ := zk_get_f hj
    have hg := zk_u1_get hu q1
    rw [q2, q3] at hg
    obtain ⟨w', w1, w2⟩ := h j v' hg
    refine ⟨w', zp_get_f w1 (fun r r1 r2 r3 => ?_), w2⟩
    rw [q2, q3] at q4
    rw [r2, r3, ← zk_cat_ok w2]
    exact q4
def zk_St (B : zk_B) (gh : zp_H → Int) (J : zp_H → Prop) (mods : List (Nat × Nat)) (am : List Nat) (τ : Nat → Int) (A : zk_A) (t : zp_T) (n : zp_N) (o : zk_O) : Prop :=
  ∃ τ' lc' sc' H', n = some (.inl (o.2.1, lc', sc', H', t.2)) ∧ zk_ext A.1 τ τ' ∧ A.1 ≤ o.1.1 ∧ zk_N τ' o.1 ∧ zk_Hp B gh J τ' o.1 H' ∧ zk_L τ' o.1.1 o.2.2.1 lc' ∧ za_F2 (zk_gV τ' o.1.1) o.2.2.2 sc' ∧ zk_Fr gh mods am t.1 H'
section KI
variable {B : zk_B} {gh : zp_H → Int} {J : zp_H → Prop} {fz : Nat → Nat → Bool} {τ : Nat → Int} {A : zk_A} {t : zp_T} {mods : List (Nat × Nat)} {am : List Nat} {pc pc' : Nat} {lv lv' : zk_LV} {st st' : List zk_V} {lc lc' : zp_LV} {sc sc' : List zp_V} {o : zk_O} {x : Int32} {q : zk_A × zk_I}
theorem zk_lv_x {n n' : Nat} {τ τ' : Nat → Int} (hn : n ≤ n') (h : zk_ext n τ τ') {lv : zk_LV} {lc : zp_LV} (hl : zk_L τ n lv lc) : zk_L τ' n' lv lc := fun i v hv => (hl i v hv).imp (fun _ hw => ⟨hw.1, zk_gV_x hn h hw.2⟩)
theorem zk_st_x {n n' : Nat} {τ τ' : Nat → Int} (hn : n ≤ n') (h : zk_ext n τ τ') {st : List zk_V} {sc : List zp_V} (hl : za_F2 (zk_gV τ n) st sc) : za_F2 (zk_gV τ' n') st sc := za_F2_mono (fun _ _ hab => zk_gV_x hn h hab) hl
theorem zk_St_same (hN : zk_N τ A) (hH : zk_Hp B gh J τ A t.1) (hl : zk_L τ A.1 lv' lc') (hs : za_F2 (zk_gV τ A.1) st' sc') : zk_St B gh J mods am τ A t (zp_go lc' t pc' sc') (A, pc', lv', st') :=
  ⟨τ, lc', sc', t.1, rfl, zk_ext_r τ, Nat.le_refl _, hN, hH, hl, hs, zk_Fr_r _⟩
theorem zk_St_push (hl : zk_L τ A.1 lv lc) (hs : za_F2 (zk_gV τ A.1) st sc) (h : zk_Rh B gh J τ A t.1 x.toInt q) : zk_St B gh J mods am τ A t (zp_go lc t pc' (.inl x :: sc)) (q.1, pc', lv, .inl q.2 :: st) := by
  obtain ⟨τ', h1, h2, h3, h4, h5, h6⟩ := h
  exact ⟨τ', lc, .inl x :: sc, t.1, rfl, h1, h2, h3, h4, zk_lv_x h2 h1 hl, ⟨⟨h5, h6⟩, zk_st_x h2 h1 hs⟩, zk_Fr_r _⟩
theorem zk_gI_v {n : Nat} {a : zk_I} {v : zp_V} (h : zk_gV τ n (.inl a) v) : ∃ x : Int32, v = .inl x ∧ a.1 ≤ n ∧ x.toInt = zk_ev τ a := by
  match v, h with
  | .inl x, h => exact ⟨x, rfl, h.1, h.2⟩
theorem zk_gL_v {n : Nat} {v : zp_V} (h : zk_gV τ n (.inr none) v) : ∃ x : Int64, v = .inr (.inl x) := by
  match v, h with
  | .inr (.inl x), _ => exact ⟨x, rfl⟩
theorem zk_gR_v {n : Nat} {r : Option Nat} {v : zp_V} (h : zk_gV τ n (.inr (some r)) v) : v = .inr (.inr r) := by
  match v, h with
  | .inr (.inr r'), h => rw [show r' = r from h]
def zk_bin (f : zk_A → zk_I → zk_I → Option (zk_A × zk_I)) (A : zk_A) (pc : Nat) (lv : zk_LV) (st : List zk_V) : Option zk_O := match st with
  | .inl b :: .inl a :: r => match f A a b with
    | some q => some (q.1, pc + 1, lv, .inl q.2 :: r)
    | none => none
  | _ => none
theorem zk_bin_ok {f : zk_A → zk_I → zk_I → Option (zk_A × zk_I)} (g : Int32 → Int32 → Int32) (hf : ∀ {a b : zk_I} {x y : Int32} {q : zk_A × zk_I}, a.1 ≤ A.1 → b.1 ≤ A.1 → x.toInt = zk_ev τ a → y.toInt = zk_ev τ b → f A a b = some q → zk_Rs τ A (g x y).toInt q) (hN : zk_N τ A) (hH : zk_Hp B gh J τ A t.1) (hl : zk_L τ A.1 lv lc) (hs : za_F2 (zk_gV τ A.1) st sc) (h : zk_bin f A pc lv st = some o) : zk_St B gh J mods am τ A t (zp_binI g pc lc sc t) o := by
  unfold zk_bin at h
  split at h
  · rename_i b a r
    obtain ⟨_, s1, rfl, v1, q1⟩ := za_F2_cons hs
    obtain ⟨_, s2, rfl, v2, q2⟩ := za_F2_cons q1
    obtain ⟨y, rfl, y1, y2⟩ := zk_gI_v v1
    obtain ⟨x, rfl, x1, x2⟩ := zk_gI_v v2
    split at h
    · rename_i q hq
      cases h
      exact zk_St_push hl q2 (zk_Rs_h hH (hf x1 y1 x2 y2 hq))
    · cases h
  · cases h
theorem zk_binD_ok {f : zk_A → zk_I → zk_I → Option (zk_A × zk_I)} (g : Int32 → Int32 → Int32) (hf : ∀ {a b : zk_I} {x y : Int32} {q : zk_A × zk_I}, a.1 ≤ A.1 → b.1 ≤ A.1 → x.toInt = zk_ev τ a → y.toInt = zk_ev τ b → f A a b = some q → y ≠ 0 ∧ zk_Rs τ A (g x y).toInt q) (hN : zk_N τ A) (hH : zk_Hp B gh J τ A t.1) (hl : zk_L τ A.1 lv lc) (hs : za_F2 (zk_gV τ A.1) st sc) (h : zk_bin f A pc lv st = some o) : zk_St B gh J mods am τ A t (zp_divI g pc lc sc t) o := by
  unfold zk_bin at h
  split at h
  · rename_i b a r
    obtain ⟨_, s1, rfl, v1, q1⟩ := za_F2_cons hs
    obtain ⟨_, s2, rfl, v2, q2⟩ := za_F2_cons q1
    obtain ⟨y, rfl, y1, y2⟩ := zk_gI_v v1
    obtain ⟨x, rfl, x1, x2⟩ := zk_gI_v v2
    split at h
    · rename_i q hq
      cases h
      obtain ⟨h1, h2⟩ := hf x1 y1 x2 y2 hq
      unfold zp_divI
      dsimp only
      rw [show (if y = 0 then none else zp_go lc t (pc + 1) (.inl (g x y) :: s2)) = zp_go lc t (pc + 1) (.inl (g x y) :: s2) from if_neg h1]
      exact zk_St_push hl q2 (zk_Rs_h hH h2)
    · cases h
  · cases h
/-- nothing is known of it -/
def zk_any (A : zk_A) (_ _ : zk_I) : Option (zk_A × zk_I) := some (zk_full A)
theorem zk_any_ok {a b : zk_I} (hN : zk_N τ A) (h : zk_any A a b = some q) : zk_Rs τ A x.toInt q := by
  cases h
  exact zk_full_ok hN x
def zk_un (f : zk_A → zk_I → Option (zk_A × zk_I)) (A : zk_A) (pc : Nat) (lv : zk_LV) (st : List zk_V) : Option zk_O := match st with
  | .inl a :: r => match f A a with
    | some q => some (q.1, pc + 1, lv, .inl q.2 :: r)
    | none => none
  | _ => none
theorem zk_un_ok {f : zk_A → zk_I → Option (zk_A × zk_I)} (g : Int32 → Int32) (hf : ∀ {a : zk_I} {x : Int32} {q : zk_A × zk_I}, a.1 ≤ A.1 → x.toInt = zk_ev τ a → f A a = some q → zk_Rs τ A (g x).toInt q) (hH : zk_Hp B gh J τ A t.1) (hl : zk_L τ A.1 lv lc) (hs : za_F2 (zk_gV τ A.1) st sc) (h : zk_un f A pc lv st = some o) : zk_St B gh J mods am τ A t (zp_unI g pc lc sc t) o := by
  unfold zk_un at h
  split at h
  · rename_i a r
    obtain ⟨_, s1, rfl, v1, q1⟩ := za_F2_cons hs
    obtain ⟨x, rfl, x1, x2⟩ := zk_gI_v v1
    split at h
    · rename_i q hq
      cases h
      exact zk_St_push hl q1 (zk_Rs_h hH (hf x1 x2 hq))
    · cases h
  · cases h
/-! longs -/
def zk_binL (A : zk_A) (pc : Nat) (lv : zk_LV) (st : List zk_V) : Option zk_O := match st with
  | .inr none :: .inr none :: r => some (A, pc + 1, lv, .inr none :: r)
  | _ => none
theorem zk_binL_ok (g : Int64 → Int64 → Int64) (hN : zk_N τ A) (hH : zk_Hp B gh J τ A t.1) (hl : zk_L τ A.1 lv lc) (hs : za_F2 (zk_gV τ A.1) st sc) (h : zk_binL A pc lv st = some o) : zk_St B gh J mods am τ A t (zp_binL g pc lc sc t) o := by
  unfold zk_binL at h
  split at h
  · obtain ⟨_, s1, rfl, v1, q1⟩ := za_F2_cons hs
    obtain ⟨_, s2, rfl, v2, q2⟩ := za_F2_cons q1
    obtain ⟨y, rfl⟩ := zk_gL_v v1
    obtain ⟨x, rfl⟩ := zk_gL_v v2
    cases h
    exact zk_St_same hN hH hl ⟨trivial, q2⟩
  · cases h
def zk_shL (A : zk_A) (pc : Nat) (lv : zk_LV) (st : List zk_V) : Option zk_O := match st with
  | .inl _ :: .inr none :: r => some (A, pc + 1, lv, .inr none :: r)
  | _ => none
theorem zk_shL_ok (g : Int64 → Int32 → Int64) (hN : zk_N τ A) (hH : zk_Hp B gh J τ A t.1) (hl : zk_L τ A.1 lv lc) (hs : za_F2 (zk_gV τ A.1) st sc) (h : zk_shL A pc lv st = some o) : zk_St B gh J mods am τ A t (zp_shL g pc lc sc t) o := by
  unfold zk_shL at h
  split at h
  · obtain ⟨_, s1, rfl, v1, q1⟩ := za_F2_cons hs
    obtain ⟨_, s2, rfl, v2, q2⟩ := za_F2_cons q1
    obtain ⟨y, rfl, -, -⟩ := zk_gI_v v1
    obtain ⟨x, rfl⟩ := zk_gL_v v2
    cases h
    exact zk_St_same hN hH hl ⟨trivial, q2⟩
  · cases h
def zk_i2l (A : zk_A) (pc : Nat) (lv : zk_LV) (st : List zk_V) : Option zk_O := match st with
  | .inl _ :: r => some (A, pc + 1, lv, .inr none :: r)
  | _ => none
theorem zk_i2l_ok (hN : zk_N τ A) (hH : zk_Hp B gh J τ A t.1) (hl : zk_L τ A.1 lv lc) (hs : za_F2 (zk_gV τ A.1) st sc) (h : zk_i2l A pc lv st = some o) : zk_St B gh J mods am τ A t (zp_i2l pc lc sc t) o := by
  unfold zk_i2l at h
  split at h
  · obtain ⟨_, s1, rfl, v1, q1⟩ := za_F2_cons hs
    obtain ⟨y, rfl, -, -⟩ := zk_gI_v v1
    cases h
    exact zk_St_same hN hH hl ⟨trivial, q1⟩
  · cases h
def zk_l2i (A : zk_A) (pc : Nat) (lv : zk_LV) (st : List zk_V) : Option zk_O := match st with
  | .inr none :: r => some ((zk_full A).1, pc + 1, lv, .inl (zk_full A).2 :: r)
  | _ => none
theorem zk_l2i_ok (hN : zk_N τ A) (hH : zk_Hp B gh J τ A t.1) (hl : zk_L τ A.1 lv lc) (hs : za_F2 (zk_gV τ A.1) st sc) (h : zk_l2i A pc lv st = some o) : zk_St B gh J mods am τ A t (zp_l2i pc lc sc t) o := by
  unfold zk_l2i at h
  split at h
  · obtain ⟨_, s1, rfl, v1, q1⟩ := za_F2_cons hs
    obtain ⟨y, rfl⟩ := zk_gL_v v1
    cases h
    exact zk_St_push hl q1 (zk_Rs_h hH (zk_full_ok hN _))
  · cases h
theorem zk_cmp1 (x y : Int64) : -1 ≤ (lg_cmp x y).toInt ∧ (lg_cmp x y).toInt ≤ 1 := by
  unfold lg_cmp
  split
  · decide
  · split <;> decide
def zk_lcmp (A : zk_A) (pc : Nat) (lv : zk_LV) (st : List zk_V) : Option zk_O := match st with
  | .inr none :: .inr none :: r => some ((zk_fresh A (-1) 1 1).1, pc + 1, lv, .inl (zk_fresh A (-1) 1 1).2 :: r)
  | _ => none
theorem zk_lcmp_ok (hN : zk_N τ A) (hH : zk_Hp B gh J τ A t.1) (hl : zk_L τ A.1 lv lc) (hs : za_F2 (zk_gV τ A.1) st sc) (h : zk_lcmp A pc lv st = some o) : zk_St B gh J mods am τ A t (zp_lcmp pc lc sc t) o := by
  unfold zk_lcmp at h
  split at h
  · obtain ⟨_, s1, rfl, v1, q1⟩ := za_F2_cons hs
    obtain ⟨_, s2, rfl, v2, q2⟩ := za_F2_cons q1
    obtain ⟨y, rfl⟩ := zk_gL_v v1
    obtain ⟨x, rfl⟩ := zk_gL_v v2
    cases h
    have z := zk_cmp1 x y
    exact zk_St_push hl q2 (zk_Rs_h hH (zk_fresh_ok hN z.1 z.2 (Int.one_dvd _)))
  · cases h
/-! locals, stack -/
def zk_sel (k : Nat) (v : zk_V) : Bool := match k, v with
  | 0, .inl _ => true
  | 1, .inr none => true
  | 2, .inr (some (some _)) => true
  | _, _ => false
def zk_load (n i k : Nat) (A : zk_A) (pc : Nat) (lv : zk_LV) (st : List zk_V) : Option zk_O := match zk_get lv i with
  | some v => bif zk_sel k v then some (A, pc + n, lv, v :: st) else none
  | none => none
theorem zk_sel_ok {n k : Nat} {v : zk_V} {w : zp_V} (h : zk_sel k v = true) (hv : zk_gV τ n v w) : (k = 0 → zp_isI w = true) ∧ (k = 1 → zp_isL w = true) ∧ (k = 2 → zp_isR w = true) := by
  match k, v, w, h, hv with
  | 0, .inl _, .inl _, _, _ => exact ⟨fun _ => rfl, fun h => (by cases h), fun h => (by cases h)⟩
  | 1, .inr none, .inr (.inl _), _, _ => exact ⟨fun h => (by cases h), fun _ => rfl, fun h => (by cases h)⟩
  | 2, .inr (some (some r)), .inr (.inr r'), _, hv =>
    have e : r' = some r := hv
    subst e
    exact ⟨fun h => (by cases h), fun h => (by cases h), fun _ => rfl⟩
theorem zk_load_ok {n i k : Nat} {f : zp_V → Bool} (hf : ∀ {v : zk_V} {w : zp_V}, zk_sel k v = true → zk_gV τ A.1 v w → f w = true) (hN : zk_N τ A) (hH : zk_Hp B gh J τ A t.1) (hl : zk_L τ A.1 lv lc) (hs : za_F2 (zk_gV τ A.1) st sc) (h : zk_load n i k A pc lv st = some o) : zk_St B gh J mods am τ A t (zp_load n i f pc lc sc t) o := by
  unfold zk_load at h
  split at h
  · rename_i v hv
    obtain ⟨h1, h⟩ := za_bif h
    cases h
    obtain ⟨w, w1, w2⟩ := zk_get_ok hl hv
    unfold zp_load
    rw [w1]
    dsimp only
    rw [hf h1 w2]
    exact zk_St_same hN hH hl ⟨w2, hs⟩
  · cases h
def zk_stor (n i k nL : Nat) (A : zk_A) (pc : Nat) (lv : zk_LV) (st : List zk_V) : Option zk_O := match st with
  | v :: r => bif zk_sel k v then bif Nat.blt i nL then bif zk_u1 lv then some (A, pc + n, zk_st1 lv i v, r) else none else none else none
  | _ => none
theorem zk_stor_ok {n i k nL : Nat} {f : zp_V → Bool} (hf : ∀ {v : zk_V} {w : zp_V}, zk_sel k v = true → zk_gV τ A.1 v w → f w = true) (hN : zk_N τ A) (hH : zk_Hp B gh J τ A t.1) (hl : zk_L τ A.1 lv lc) (hs : za_F2 (zk_gV τ A.1) st sc) (h : zk_stor n i k nL A pc lv st = some o) : zk_St B gh J mods am τ A t (zp_stor1 n i nL f pc lc sc t) o := by
  unfold zk_stor at h
  split at h
  · rename_i v r
    obtain ⟨h1, h⟩ := za_bif h
    obtain ⟨h2, h⟩ := za_bif h
    obtain ⟨hu, h⟩ := za_bif h
    cases h
    obtain ⟨w, s1, rfl, w2, q1⟩ := za_F2_cons hs
    unfold zp_stor1
    dsimp only
    rw [hf h1 w2, h2]
    exact zk_St_same hN hH (zk_st1_ok hu hl w2) q1
  · cases h
def zk_stor2 (n i nL : Nat) (A : zk_A) (pc : Nat) (lv : zk_LV) (st : List zk_V) : Option zk_O := match st with
  | .inr none :: r => bif Nat.blt (i + 1) nL then bif zk_u1 lv then some (A, pc + n, zk_st2 lv i (.inr none), r) else none else none
  | _ => none
theorem zk_stor2_ok {n i nL : Nat} (hN : zk_N τ A) (hH : zk_Hp B gh J τ A t.1) (hl : zk_L τ A.1 lv lc) (hs : za_F2 (zk_gV τ A.1) st sc) (h : zk_stor2 n i nL A pc lv st = some o) : zk_St B gh J mods am τ A t (zp_stor2 n i nL pc lc sc t) o := by
  unfold zk_stor2 at h
  split at h
  · obtain ⟨h2, h⟩ := za_bif h
    obtain ⟨hu, h⟩ := za_bif h
    cases h
    obtain ⟨_, s1, rfl, w2, q1⟩ := za_F2_cons hs
    obtain ⟨w, rfl⟩ := zk_gL_v w2
    unfold zp_stor2
    dsimp only
    rw [h2]
    exact zk_St_same hN hH (zk_st2_ok hu hl w2) q1
  · cases h
def zk_iinc (i nL : Nat) (d : Int) (A : zk_A) (pc : Nat) (lv : zk_LV) (st : List zk_V) : Option zk_O := bif za_in d d then match zk_get lv i with
  | some (.inl a) => match zk_add A a (0, d) with
    | some q => bif Nat.blt i nL then bif zk_u1 lv then some (q.1, pc + 3, zk_st1 lv i (.inl q.2), st) else none else none
    | none => none
  | _ => none
  else none
theorem zk_ofInt {d : Int} (h : za_in d d = true) : (Int32.ofInt d).toInt = d := by
  have h1 := za_in_t h
  rw [Int32.toInt_ofInt]
  exact za_bmod h1.1 h1.2
theorem zk_iinc_ok {i nL : Nat} {d : Int} (hN : zk_N τ A) (hH : zk_Hp B gh J τ A t.1) (hl : zk_L τ A.1 lv lc) (hs : za_F2 (zk_gV τ A.1) st sc) (h : zk_iinc i nL d A pc lv st = some o) : zk_St B gh J mods am τ A t (zp_iinc i nL d pc lc sc t) o := by
  unfold zk_iinc at h
  obtain ⟨h0, h⟩ := za_bif h
  split at h
  · rename_i a ha
    split at h
    · rename_i q hq
      obtain ⟨h2, h⟩ := za_bif h
      obtain ⟨hu, h⟩ := za_bif h
      cases h
      obtain ⟨w, w1, w2⟩ := zk_get_ok hl ha
      obtain ⟨x, rfl, x1, x2⟩ := zk_gI_v w2
      obtain ⟨τ', f1, f2, f3, f4, f5, f6⟩ := zk_Rs_h hH (zk_add_ok (y := Int32.ofInt d) (b := (0, d)) hN x1 (Nat.zero_le _) x2 (show _ = d from zk_ofInt h0) hq)
      unfold zp_iinc
      rw [w1]
      dsimp only
      rw [h2]
      exact ⟨τ', _, _, t.1, rfl, f1, f2, f3, f4, zk_st1_ok (w := .inl (x + Int32.ofInt d)) hu (zk_lv_x f2 f1 hl) ⟨f5, f6⟩, zk_st_x f2 f1 hs, zk_Fr_r _⟩
    · cases h
  · cases h
def zk_dup (A : zk_A) (pc : Nat) (lv : zk_LV) (st : List zk_V) : Option zk_O := match st with
  | v :: r => bif Nat.beq (zk_cat v) 1 then some (A, pc + 1, lv, v :: v :: r) else none
  | _ => none
theorem zk_dup_ok (hN : zk_N τ A) (hH : zk_Hp B gh J τ A t.1) (hl : zk_L τ A.1 lv lc) (hs : za_F2 (zk_gV τ A.1) st sc) (h : zk_dup A pc lv st = some o) : zk_St B gh J mods am τ A t (zp_dup pc lc sc t) o := by
  unfold zk_dup at h
  split at h
  · obtain ⟨h2, h⟩ := za_bif h
    cases h
    obtain ⟨w, s1, rfl, w2, q1⟩ := za_F2_cons hs
    unfold zp_dup
    dsimp only
    rw [← zk_cat_ok w2, h2]
    exact zk_St_same hN hH hl ⟨w2, w2, q1⟩
  · cases h
def zk_pop (A : zk_A) (pc : Nat) (lv : zk_LV) (st : List zk_V) : Option zk_O := match st with
  | v :: r => bif Nat.beq (zk_cat v) 1 then some (A, pc + 1, lv, r) else none
  | _ => none
theorem zk_pop_ok (hN : zk_N τ A) (hH : zk_Hp B gh J τ A t.1) (hl : zk_L τ A.1 lv lc) (hs : za_F2 (zk_gV τ A.1) st sc) (h : zk_pop A pc lv st = some o) : zk_St B gh J mods am τ A t (zp_pop pc lc sc t) o := by
  unfold zk_pop at h
  split at h
  · obtain ⟨h2, h⟩ := za_bif h
    cases h
    obtain ⟨w, s1, rfl, w2, q1⟩ := za_F2_cons hs
    unfold zp_pop
    dsimp only
    rw [← zk_cat_ok w2, h2]
    exact zk_St_same hN hH hl q1
  · cases h
def zk_dup2 (A : zk_A) (pc : Nat) (lv : zk_LV) (st : List zk_V) : Option zk_O := match st with
  | u :: v :: r => bif Nat.beq (zk_cat u) 1 then bif Nat.beq (zk_cat v) 1 then some (A, pc + 1, lv, u :: v :: u :: v :: r) else none else none
  | _ => none
theorem zk_dup2_ok (hN : zk_N τ A) (hH : zk_Hp B gh J τ A t.1) (hl : zk_L τ A.1 lv lc) (hs : za_F2 (zk_gV τ A.1) st sc) (h : zk_dup2 A pc lv st = some o) : zk_St B gh J mods am τ A t (zp_dup2 pc lc sc t) o := by
  unfold zk_dup2 at h
  split at h
  · obtain ⟨h2, h⟩ := za_bif h
    obtain ⟨h3, h⟩ := za_bif h
    cases h
    obtain ⟨w, s1, rfl, w2, q1⟩ := za_F2_cons hs
    obtain ⟨u, s2, rfl, u2, q2⟩ := za_F2_cons q1
    unfold zp_dup2
    dsimp only
    rw [← zk_cat_ok w2, h2, ← zk_cat_ok u2, h3]
    exact zk_St_same hN hH hl ⟨w2, u2, w2, u2, q2⟩
  · cases h
def zk_jmp (d : Int) (A : zk_A) (pc : Nat) (lv : zk_LV) (st : List zk_V) : Option zk_O := match zp_to d pc with
  | some g => some (A, g, lv, st)
  | none => none
theorem zk_jmp_ok {d : Int} (hN : zk_N τ A) (hH : zk_Hp B gh J τ A t.1) (hl : zk_L τ A.1 lv lc) (hs : za_F2 (zk_gV τ A.1) st sc) (h : zk_jmp d A pc lv st = some o) : zk_St B gh J mods am τ A t (zp_jmp d pc lc sc t) o := by
  unfold zk_jmp at h
  split at h
  · rename_i g hg
    cases h
    unfold zp_jmp
    rw [hg]
    exact zk_St_same hN hH hl hs
  · cases h
end KI
end
section
/-! ===== the abstract executor: instructions of the heap ===== -/
def zk_kd (ty : FieldType) : Nat := match ty with
  | .long => 1
  | .object _ => 2
  | .array _ => 2
  | _ => 0
theorem zk_kd0 {H : zp_H} {p k : Nat} {ty : FieldType} (h : zk_kd ty = 0) : zp_fv H p ty k = .inl (H.2.1 p k) := by
  cases ty <;> first | rfl | cases h
theorem zk_kd1 {H : zp_H} {p k : Nat} {ty : FieldType} (h : zk_kd ty = 1) : zp_fv H p ty k = .inr (.inl (H.2.2.1 p k)) := by
  cases ty <;> first | rfl | cases h
theorem zk_kd2 {H : zp_H} {p k n : Nat} {ty : FieldType} (h : zk_kd ty = n + 2) : zp_fv H p ty k = .inr (.inr (H.2.2.2 p k)) := by
  cases ty <;> first | rfl | cases h
theorem zp_getf_e {ci k p cj : Nat} {z : Int} {pc : Nat} {lc : zp_LV} {s1 : List zp_V} {t : zp_T} (hp : t.1.1[p]? = some (.inl cj)) (h : Nat.beq cj ci = true) : zp_getf (some (0, ci, k, z)) pc lc (.inr (.inr (some (p + 1))) :: s1) t = zp_go lc t (pc + 3) (zp_fv t.1 p (za_tyX ci k) k :: s1) := by
  show (match t.1.1[p]? with
    | some (.inl cj) => bif Nat.beq cj ci then zp_go lc t (pc + 3) (zp_fv t.1 p (za_tyX ci k) k :: s1) else none
    | _ => none) = _
  rw [hp]
  show (bif Nat.beq cj ci then zp_go lc t (pc + 3) (zp_fv t.1 p (za_tyX ci k) k :: s1) else none) = _
  rw [h]
  rfl
theorem zp_putf_e {ci k p cj : Nat} {fin : Int} {own : Nat} {ini : Bool} {pc : Nat} {lc : zp_LV} {w : zp_V} {s1 : List zp_V} {t : zp_T} (hp : t.1.1[p]? = some (.inl cj)) (h1 : Nat.beq cj ci = true) (h2 : Nat.blt k (za_nX ci) = true) (hf : zp_fit (za_tyX ci k) w = true) (h3 : fin = 0) : zp_putf (some (0, ci, k, fin)) own ini pc lc (w :: .inr (.inr (some (p + 1))) :: s1) t = zp_go lc (zp_wf t.1 p k w, t.2) (pc + 3) s1 := by
  show (match t.1.1[p]? with
    | some (.inl cj) => bif Nat.beq cj ci then bif Nat.blt k (za_nX ci) then bif zp_fit (za_tyX ci k) w then if fin = 0 ∨ (ini = true ∧ ci = own) then zp_go lc (zp_wf t.1 p k w, t.2) (pc + 3) s1 else none else none else none else none
    | _ => none) = _
  rw [hp]
  show (bif Nat.beq cj ci then bif Nat.blt k (za_nX ci) then bif zp_fit (za_tyX ci k) w then if fin = 0 ∨ (ini = true ∧ ci = own) then zp_go lc (zp_wf t.1 p k w, t.2) (pc + 3) s1 else none else none else none else none) = _
  rw [h1, h2, hf]
  exact if_pos (Or.inl h3)
theorem zp_lld_e {p n : Nat} {x : Int32} {pc : Nat} {lc : zp_LV} {s1 : List zp_V} {t : zp_T} (hp : t.1.1[p]? = some (.inr (3, n))) (h : 0 ≤ x.toInt ∧ x.toInt < n) : zp_lld pc lc (.inl x :: .inr (.inr (some (p + 1))) :: s1) t = zp_go lc t (pc + 1) (.inr (.inl (t.1.2.2.1 p x.toInt.toNat)) :: s1) := by
  show (match t.1.1[p]? with
    | some (.inr (3, n)) => if 0 ≤ x.toInt ∧ x.toInt < n then zp_go lc t (pc + 1) (.inr (.inl (t.1.2.2.1 p x.toInt.toNat)) :: s1) else none
    | _ => none) = _
  rw [hp]
  exact if_pos h
theorem zp_lst_e {p n : Nat} {x : Int32} {y : Int64} {pc : Nat} {lc : zp_LV} {s1 : List zp_V} {t : zp_T} (hp : t.1.1[p]? = some (.inr (3, n))) (h : 0 ≤ x.toInt ∧ x.toInt < n) : zp_lst pc lc (.inr (.inl y) :: .inl x :: .inr (.inr (some (p + 1))) :: s1) t = zp_go lc ((t.1.1, t.1.2.1, zp_u t.1.2.2.1 p x.toInt.toNat y, t.1.2.2.2), t.2) (pc + 1) s1 := by
  show (match t.1.1[p]? with
    | some (.inr (3, n)) => if 0 ≤ x.toInt ∧ x.toInt < n then zp_go lc ((t.1.1, t.1.2.1, zp_u t.1.2.2.1 p x.toInt.toNat y, t.1.2.2.2), t.2) (pc + 1) s1 else none
    | _ => none) = _
  rw [hp]
  exact if_pos h
theorem zp_acp_e {p0 p1 n0 n1 : Nat} {cn dp sp : Int32} {pc : Nat} {lc : zp_LV} {rest : List zp_V} {t : zp_T} (hp0 : t.1.1[p0]? = some (.inr (0, n0))) (hp1 : t.1.1[p1]? = some (.inr (0, n1))) (h : 0 ≤ cn.toInt ∧ 0 ≤ dp.toInt ∧ 0 ≤ sp.toInt ∧ sp.toInt + cn.toInt ≤ n0 ∧ dp.toInt + cn.toInt ≤ n1 ∧ zp_wt rest ≤ 8) : zp_acp pc lc (.inl cn :: .inl dp :: .inr (.inr (some (p1 + 1))) :: .inl sp :: .inr (.inr (some (p0 + 1))) :: rest) t = zp_go lc ((t.1.1, zp_ua t.1.2.1 p1 (va_cpy (t.1.2.1 p0) (t.1.2.1 p1) sp.toInt.toNat dp.toInt.toNat cn.toInt.toNat), t.1.2.2), t.2) (pc + 3) rest := by
  show (match t.1.1[p0]?, t.1.1[p1]? with
    | some (.inr (0, n0)), some (.inr (0, n1)) => if 0 ≤ cn.toInt ∧ 0 ≤ dp.toInt ∧ 0 ≤ sp.toInt ∧ sp.toInt + cn.toInt ≤ n0 ∧ dp.toInt + cn.toInt ≤ n1 ∧ zp_wt rest ≤ 8 then zp_go lc ((t.1.1, zp_ua t.1.2.1 p1 (va_cpy (t.1.2.1 p0) (t.1.2.1 p1) sp.toInt.toNat dp.toInt.toNat cn.toInt.toNat), t.1.2.2), t.2) (pc + 3) rest else none
    | _, _ => none) = _
  rw [hp0, hp1]
  exact if_pos h
section KJ
variable {B : zk_B} {gh : zp_H → Int} {J : zp_H → Prop} {fz : Nat → Nat → Bool} {τ : Nat → Int} {A : zk_A} {t : zp_T} {mods : List (Nat × Nat)} {am : List Nat} {pc pc' : Nat} {lv lv' : zk_LV} {st st' : List zk_V} {lc lc' : zp_LV} {sc sc' : List zp_V} {o : zk_O} {x : Int32} {q : zk_A × zk_I}
def zk_getI (B : zk_B) (r : Option za_row) (A : zk_A) (pc : Nat) (lv : zk_LV) (st : List zk_V) : Option zk_O := match r, st with
  | some (0, ci, k, _), .inr (some (some (p + 1))) :: rest => match B.1[p]? with
    | some (.inl cj) => bif Nat.beq cj ci then bif Nat.blt k 100 then match zk_kd (za_tyX ci k) with
      | 0 => match zk_getf B A p k with
        | some z => some (z.1, pc + 3, lv, .inl z.2 :: rest)
        | none => none
      | 1 => some (A, pc + 3, lv, .inr none :: rest)
      | _ + 2 => some (A, pc + 3, lv, .inr (some (B.2.1 p k)) :: rest)
      else none else none
    | _ => none
  | _, _ => none
theorem zk_getI_ok {r : Option za_row} (hN : zk_N τ A) (hH : zk_Hp B gh J τ A t.1) (hl : zk_L τ A.1 lv lc) (hs : za_F2 (zk_gV τ A.1) st sc) (h : zk_getI B r A pc lv st = some o) : zk_St B gh J mods am τ A t (zp_getf r pc lc sc t) o := by
  unfold zk_getI at h
  split at h
  · rename_i ci k z p rest
    obtain ⟨_, s1, rfl, v1, q1⟩ := za_F2_cons hs
    have e := zk_gR_v v1
    subst e
    split at h
    · rename_i cj hp
      obtain ⟨h1, h⟩ := za_bif h
      obtain ⟨h2, h⟩ := za_bif h
      have h2 := za_blt h2
      rw [show p.succ = p + 1 from rfl, zp_getf_e (by rw [hH.1]; exact hp) h1]
      split at h
      · rename_i hk
        split at h
        · rename_i z9 hz
          cases h
          rw [zk_kd0 hk]
          have g := zk_getf_ok hN hH hz
          have e : zk_fv gh t.1 p k = (t.1.2.1 p k).toInt := by
            unfold zk_fv
            rw [if_neg (fun hh => absurd hh.2 (by omega))]
          rw [e] at g
          exact zk_St_push hl q1 g
        · cases h
      · rename_i hk
        cases h
        rw [zk_kd1 hk]
        exact zk_St_same hN hH hl ⟨trivial, q1⟩
      · rename_i n hk
        cases h
        rw [zk_kd2 hk, hH.2.1 p k]
        exact zk_St_same hN hH hl ⟨rfl, q1⟩
    · cases h
  · cases h
/-- may this field be written? the ghost too -/
def zk_may (B : zk_B) (mods : List (Nat × Nat)) (p k : Nat) : Bool := (zk_inm mods p k).and (bif B.2.2.2.2.2 p k then zk_inm mods 72 100 else true)
theorem zk_Fr_put {H : zp_H} {p k : Nat} (hw : zk_W B gh J fz) (hm : zk_may B mods p k = true) : zk_Fr gh mods am H (H.1, zp_u H.2.1 p k x, H.2.2) := by
  intro p' k' h1 h2
  refine ⟨?_, rfl⟩
  obtain ⟨m1, m2⟩ := Bool.and_eq_true_iff.mp hm
  have hn : ¬ (p' = p ∧ k' = k) := by
    rintro ⟨rfl, rfl⟩
    rw [m1] at h1
    cases h1
  unfold zk_fv
  by_cases h3 : p' = 72 ∧ k' = 100
  · rw [if_pos h3, if_pos h3]
    refine hw.2.1 H _ (fun p9 k9 h9 => ⟨zp_u_ne ?_, rfl⟩)
    rintro ⟨rfl, rfl⟩
    rw [h9] at m2
    rw [h3.1, h3.2] at h1
    rw [show zk_inm mods 72 100 = true from m2] at h1
    cases h1
  · rw [if_neg h3, if_neg h3]
    show (zp_u H.2.1 p k x p' k').toInt = _
    rw [zp_u_ne hn]
theorem zk_Fr_putl {H : zp_H} {p k : Nat} {y : Int64} (hw : zk_W B gh J fz) (hm : zk_may B mods p k = true) : zk_Fr gh mods am H (H.1, H.2.1, zp_u H.2.2.1 p k y, H.2.2.2) := by
  intro p' k' h1 h2
  obtain ⟨m1, m2⟩ := Bool.and_eq_true_iff.mp hm
  have hn : ¬ (p' = p ∧ k' = k) := by
    rintro ⟨rfl, rfl⟩
    rw [m1] at h1
    cases h1
  refine ⟨?_, zp_u_ne hn⟩
  unfold zk_fv
  by_cases h3 : p' = 72 ∧ k' = 100
  · rw [if_pos h3, if_pos h3]
    refine hw.2.1 H _ (fun p9 k9 h9 => ⟨rfl, zp_u_ne ?_⟩)
    rintro ⟨rfl, rfl⟩
    rw [h9] at m2
    rw [h3.1, h3.2] at h1
    rw [show zk_inm mods 72 100 = true from m2] at h1
    cases h1
  · rw [if_neg h3, if_neg h3]
theorem zk_Fr_arr {H : zp_H} {p t n : Nat} {f : Nat → Nat → Int32} {g : Nat → Nat → Int64} (hw : zk_W B gh J fz) (hp : B.1[p]? = some (.inr (t, n))) (hm : zk_ina am p = true) (hf : ∀ p' k', p' ≠ p → f p' k' = H.2.1 p' k' ∧ g p' k' = H.2.2.1 p' k') : zk_Fr gh mods am H (H.1, f, g, H.2.2.2) := by
  intro p' k' h1 h2
  have hn : p' ≠ p := by
    rintro rfl
    rw [hm] at h2
    cases h2
  refine ⟨?_, (hf p' k' hn).2⟩
  unfold zk_fv
  by_cases h3 : p' = 72 ∧ k' = 100
  · rw [if_pos h3, if_pos h3]
    refine hw.2.1 H _ (fun p9 k9 h9 => ?_)
    obtain ⟨ci, h8⟩ := hw.2.2.2.2.2.1 p9 k9 h9
    refine hf p9 k9 ?_
    rintro rfl
    rw [hp] at h8
    cases h8
  · rw [if_neg h3, if_neg h3]
    show (f p' k').toInt = _
    rw [(hf p' k' hn).1]
def zk_putI (B : zk_B) (fz : Nat → Nat → Bool) (mods : List (Nat × Nat)) (r : Option za_row) (A : zk_A) (pc : Nat) (lv : zk_LV) (st : List zk_V) : Option zk_O := match r, st with
  | some (0, ci, k, fin), v :: .inr (some (some (p + 1))) :: rest => match B.1[p]? with
    | some (.inl cj) => bif Nat.beq cj ci then bif Nat.blt k (za_nX ci) then bif za_ieq fin 0 then bif zk_may B mods p k then match za_tyX ci k, v with
      | .int, .inl a => match zk_putf B fz A p k a with
        | some A' => some (A', pc + 3, lv, rest)
        | none => none
      | .boolean, .inl a => bif zk_sub1 A a (0, 1) then match zk_putf B fz A p k a with
        | some A' => some (A', pc + 3, lv, rest)
        | none => none else none
      | .long, .inr none => match zk_putl B fz A p k with
        | some A' => some (A', pc + 3, lv, rest)
        | none => none
      | _, _ => none
      else none else none else none else none
    | _ => none
  | _, _ => none
theorem zk_x01 {x : Int32} (h1 : 0 ≤ x.toInt) (h2 : x.toInt ≤ 1) : x = 0 ∨ x = 1 := by
  by_cases h : x.toInt = 0
  · exact Or.inl (Int32.toInt_inj.mp (by rw [h]; rfl))
  · exact Or.inr (Int32.toInt_inj.mp (by rw [show x.toInt = 1 by omega]; rfl))
theorem zk_putI_ok {r : Option za_row} {own : Nat} {ini : Bool} (hw : zk_W B gh J fz) (hN : zk_N τ A) (hH : zk_Hp B gh J τ A t.1) (hl : zk_L τ A.1 lv lc) (hs : za_F2 (zk_gV τ A.1) st sc) (h : zk_putI B fz mods r A pc lv st = some o) : zk_St B gh J mods am τ A t (zp_putf r own ini pc lc sc t) o := by
  unfold zk_putI at h
  split at h
  · rename_i ci k fin v p rest
    obtain ⟨w, s1, rfl, v1, q1⟩ := za_F2_cons hs
    obtain ⟨_, s2, rfl, v2, q2⟩ := za_F2_cons q1
    have e := zk_gR_v v2
    subst e
    split at h
    · rename_i cj hp
      replace h := za_bif h
      obtain ⟨h1, h⟩ := h
      replace h := za_bif h
      obtain ⟨h2, h⟩ := h
      replace h := za_bif h
      obtain ⟨h3, h⟩ := h
      replace h := za_bif h
      obtain ⟨h4, h⟩ := h
      have h3 := za_ieq_t h3
      have key : zp_fit (za_tyX ci k) w = true → zp_putf (some (0, ci, k, fin)) own ini pc lc (w :: .inr (.inr (some (p + 1))) :: s2) t = zp_go lc (zp_wf t.1 p k w, t.2) (pc + 3) s2 := by
        intro hf
        exact zp_putf_e (by rw [hH.1]; exact hp) h1 h2 hf h3
      split at h
      · rename_i a hty
        obtain ⟨x, rfl, x1, x2⟩ := zk_gI_v v1
        split at h
        · rename_i A' hA
          cases h
          rw [key (by rw [hty]; rfl)]
          obtain ⟨f1, f2, f3⟩ := zk_putf_ok hw hp hN hH x1 x2 hA
          exact ⟨τ, lc, s2, _, rfl, zk_ext_r τ, by rw [f1]; exact Nat.le_refl _, f2, f3, by rw [f1]; exact hl, by rw [f1]; exact q2, zk_Fr_put hw h4⟩
        · cases h
      · rename_i a hty
        replace h := za_bif h
        obtain ⟨h5, h⟩ := h
        obtain ⟨x, rfl, x1, x2⟩ := zk_gI_v v1
        have hb := zk_sub1_ok hN h5
        split at h
        · rename_i A' hA
          cases h
          rw [key (by rw [hty]; exact decide_eq_true (zk_x01 (by rw [x2]; exact hb.1) (by rw [x2]; exact hb.2)))]
          obtain ⟨f1, f2, f3⟩ := zk_putf_ok hw hp hN hH x1 x2 hA
          exact ⟨τ, lc, s2, _, rfl, zk_ext_r τ, by rw [f1]; exact Nat.le_refl _, f2, f3, by rw [f1]; exact hl, by rw [f1]; exact q2, zk_Fr_put hw h4⟩
        · cases h
      · rename_i hty
        obtain ⟨x, rfl⟩ := zk_gL_v v1
        split at h
        · rename_i A' hA
          cases h
          rw [key (by rw [hty]; rfl)]
          have hfz : fz p k = false := by
            unfold zk_putl at hA
            cases hz : fz p k with
            | false => rfl
            | true => rw [hz] at hA; cases hA
          obtain ⟨f1, f2, f3⟩ := zk_putl_ok (hl := zp_u t.1.2.2.1 p k x) hw hN hH hA (fun p' k' h' => zp_u_ne (by rintro ⟨rfl, rfl⟩; rw [hfz] at h'; cases h')) (fun hg p' k' h' => zp_u_ne (by rintro ⟨rfl, rfl⟩; rw [hg] at h'; cases h'))
          exact ⟨τ, lc, s2, _, rfl, zk_ext_r τ, by rw [f1]; exact Nat.le_refl _, f2, f3, by rw [f1]; exact hl, by rw [f1]; exact q2, zk_Fr_putl hw h4⟩
        · cases h
      · cases h
    · cases h
  · cases h
/-! arrays -/
def zk_aldI (B : zk_B) (bt : Bool) (A : zk_A) (pc : Nat) (lv : zk_LV) (st : List zk_V) : Option zk_O := match st with
  | .inl i :: .inr (some (some (p + 1))) :: rest => match B.1[p]? with
    | some (.inr (ty, n)) => bif Bool.xor bt (Nat.beq ty 0) then bif Nat.blt ty 3 then match zk_ald B A p n i with
      | some z => some (z.1, pc + 1, lv, .inl z.2 :: rest)
      | none => none
      else none else none
    | _ => none
  | _ => none
theorem zk_bt {bt : Bool} {ty : Nat} (h : Bool.xor bt (Nat.beq ty 0) = true) : bt = false ↔ ty = 0 := by
  cases bt with
  | false =>
    have h : Nat.beq ty 0 = true := by simpa using h
    exact ⟨fun _ => za_beq h, fun _ => rfl⟩
  | true =>
    have h : Nat.beq ty 0 = false := by simpa using h
    refine ⟨fun z => (by cases z), fun z => ?_⟩
    rw [z] at h
    cases h
theorem zk_aldI_ok {L : Nat} {σ : Nat → Int32} {bt : Bool} (hN : zk_N τ A) (hH : zk_Hp B gh J τ A t.1) (hl : zk_L τ A.1 lv lc) (hs : za_F2 (zk_gV τ A.1) st sc) (h : zk_aldI B bt A pc lv st = some o) : zk_St B gh J mods am τ A t (zp_ald L σ bt pc lc sc t) o := by
  unfold zk_aldI at h
  split at h
  · rename_i i p rest
    obtain ⟨_, s1, rfl, v1, q1⟩ := za_F2_cons hs
    obtain ⟨_, s2, rfl, v2, q2⟩ := za_F2_cons q1
    have e := zk_gR_v v2
    subst e
    obtain ⟨x, rfl, x1, x2⟩ := zk_gI_v v1
    split at h
    · rename_i ty n hp
      obtain ⟨h1, h⟩ := za_bif h
      obtain ⟨h2, h⟩ := za_bif h
      split at h
      · rename_i z hz
        cases h
        obtain ⟨i0, i1, hr⟩ := zk_ald_ok hp hN hH x1 hz
        rw [← x2] at i0 i1 hr
        unfold zp_ald
        try dsimp only
        rw [hH.1, hp]
        try dsimp only
        rw [if_pos ⟨zk_bt h1, za_blt h2, i0, i1⟩]
        exact zk_St_push hl q2 hr
      · cases h
    · cases h
  · cases h
def zk_astI (B : zk_B) (fz : Nat → Nat → Bool) (am : List Nat) (bt : Bool) (A : zk_A) (pc : Nat) (lv : zk_LV) (st : List zk_V) : Option zk_O := match st with
  | .inl v :: .inl i :: .inr (some (some (p + 1))) :: rest => match B.1[p]? with
    | some (.inr (ty, n)) => bif Bool.xor bt (Nat.beq ty 0) then bif zk_ina am p then bif (match ty with
        | 0 => true
        | 1 => zk_sub1 A v (-128, 127)
        | 2 => zk_sub1 A v (0, 1)
        | _ => false) then match zk_ast B fz A p n i v with
      | some A' => some (A', pc + 1, lv, rest)
      | none => none
      else none else none else none
    | _ => none
  | _ => none
theorem zk_nar1 {x : Int32} (h1 : -128 ≤ x.toInt) (h2 : x.toInt ≤ 127) : zp_nar 1 x = x := by
  show (match narrow .byte (.int x) with | .int y => y | _ => 0) = x
  show x.toInt8.toInt32 = x
  exact zn_i2b' h1 h2
theorem zk_nar2 {x : Int32} (h1 : 0 ≤ x.toInt) (h2 : x.toInt ≤ 1) : zp_nar 2 x = x := by
  rcases zk_x01 h1 h2 with rfl | rfl
  · rfl
  · rfl
theorem zk_astI_ok {bt : Bool} (hw : zk_W B gh J fz) (hN : zk_N τ A) (hH : zk_Hp B gh J τ A t.1) (hl : zk_L τ A.1 lv lc) (hs : za_F2 (zk_gV τ A.1) st sc) (h : zk_astI B fz am bt A pc lv st = some o) : zk_St B gh J mods am τ A t (zp_ast bt pc lc sc t) o := by
  unfold zk_astI at h
  split at h
  · rename_i v i p rest
    obtain ⟨_, s0, rfl, v0, q0⟩ := za_F2_cons hs
    obtain ⟨_, s1, rfl, v1, q1⟩ := za_F2_cons q0
    obtain ⟨_, s2, rfl, v2, q2⟩ := za_F2_cons q1
    have e := zk_gR_v v2
    subst e
    obtain ⟨x, rfl, x1, x2⟩ := zk_gI_v v1
    obtain ⟨y, rfl, y1, y2⟩ := zk_gI_v v0
    split at h
    · rename_i ty n hp
      obtain ⟨h1, h⟩ := za_bif h
      obtain ⟨h2, h⟩ := za_bif h
      obtain ⟨h3, h⟩ := za_bif h
      have hty : ty < 3 ∧ zp_nar ty y = y := by
        match ty, h3 with
        | 0, _ => exact ⟨by decide, rfl⟩
        | 1, h3 =>
          have hb := zk_sub1_ok hN h3
          exact ⟨by decide, zk_nar1 (by rw [y2]; exact hb.1) (by rw [y2]; exact hb.2)⟩
        | 2, h3 =>
          have hb := zk_sub1_ok hN h3
          exact ⟨by decide, zk_nar2 (by rw [y2]; exact hb.1) (by rw [y2]; exact hb.2)⟩
      split at h
      · rename_i A' hA
        cases h
        obtain ⟨i0, i1, f1, f2, f3⟩ := zk_ast_ok hw hp hN hH x1 y1 y2 hA
        rw [← x2] at i0 i1 f3
        unfold zp_ast
        try dsimp only
        rw [hH.1, hp]
        try dsimp only
        rw [if_pos ⟨zk_bt h1, hty.1, i0, i1⟩, hty.2]
        rw [hH.1] at f3
        exact ⟨τ, lc, s2, _, rfl, zk_ext_r τ, by rw [f1]; exact Nat.le_refl _, f2, f3, by rw [f1]; exact hl, by rw [f1]; exact q2, by
          rw [← hH.1]
          exact zk_Fr_arr hw hp h2 (fun p' k' hn => ⟨zp_u_ne (fun z => hn z.1), rfl⟩)⟩
      · cases h
    · cases h
  · cases h
def zk_lldI (B : zk_B) (A : zk_A) (pc : Nat) (lv : zk_LV) (st : List zk_V) : Option zk_O := match st with
  | .inl i :: .inr (some (some (p + 1))) :: rest => match B.1[p]? with
    | some (.inr (3, n)) => bif zk_ix A i n then some (A, pc + 1, lv, .inr none :: rest) else none
    | _ => none
  | _ => none
theorem zk_lldI_ok (hN : zk_N τ A) (hH : zk_Hp B gh J τ A t.1) (hl : zk_L τ A.1 lv lc) (hs : za_F2 (zk_gV τ A.1) st sc) (h : zk_lldI B A pc lv st = some o) : zk_St B gh J mods am τ A t (zp_lld pc lc sc t) o := by
  unfold zk_lldI at h
  split at h
  · rename_i i p rest
    obtain ⟨_, s1, rfl, v1, q1⟩ := za_F2_cons hs
    obtain ⟨_, s2, rfl, v2, q2⟩ := za_F2_cons q1
    have e := zk_gR_v v2
    subst e
    obtain ⟨x, rfl, x1, x2⟩ := zk_gI_v v1
    split at h
    · rename_i n hp
      obtain ⟨h1, h⟩ := za_bif h
      cases h
      have i0 := zk_ix_ok hN h1
      rw [← x2] at i0
      rw [show p.succ = p + 1 from rfl, zp_lld_e (by rw [hH.1]; exact hp) i0]
      exact zk_St_same hN hH hl ⟨trivial, q2⟩
    · cases h
  · cases h
def zk_lstI (B : zk_B) (fz : Nat → Nat → Bool) (am : List Nat) (A : zk_A) (pc : Nat) (lv : zk_LV) (st : List zk_V) : Option zk_O := match st with
  | .inr none :: .inl i :: .inr (some (some (p + 1))) :: rest => match B.1[p]? with
    | some (.inr (3, n)) => bif zk_ix A i n then bif zk_ina am p then match zk_putl B fz A p 0 with
      | some A' => some (A', pc + 1, lv, rest)
      | none => none
      else none else none
    | _ => none
  | _ => none
theorem zk_lstI_ok (hw : zk_W B gh J fz) (hN : zk_N τ A) (hH : zk_Hp B gh J τ A t.1) (hl : zk_L τ A.1 lv lc) (hs : za_F2 (zk_gV τ A.1) st sc) (h : zk_lstI B fz am A pc lv st = some o) : zk_St B gh J mods am τ A t (zp_lst pc lc sc t) o := by
  unfold zk_lstI at h
  split at h
  · rename_i i p rest
    obtain ⟨_, s0, rfl, v0, q0⟩ := za_F2_cons hs
    obtain ⟨_, s1, rfl, v1, q1⟩ := za_F2_cons q0
    obtain ⟨_, s2, rfl, v2, q2⟩ := za_F2_cons q1
    have e := zk_gR_v v2
    subst e
    obtain ⟨x, rfl, x1, x2⟩ := zk_gI_v v1
    obtain ⟨y, rfl⟩ := zk_gL_v v0
    split at h
    · rename_i n hp
      obtain ⟨h1, h⟩ := za_bif h
      obtain ⟨h2, h⟩ := za_bif h
      split at h
      · rename_i A' hA
        cases h
        have i0 := zk_ix_ok hN h1
        rw [← x2] at i0
        have hfz : fz p 0 = false := by
          unfold zk_putl at hA
          cases hz : fz p 0 with
          | false => rfl
          | true => rw [hz] at hA; cases hA
        obtain ⟨f1, f2, f3⟩ := zk_putl_ok (hl := zp_u t.1.2.2.1 p x.toInt.toNat y) hw hN hH hA (fun p' k' h' => zp_u_ne (by
          rintro ⟨rfl, rfl⟩
          rw [hw.2.2.2.2.2.2.1 _ _ _ _ hp, hfz] at h'
          cases h')) (fun _ p' k' h' => zp_u_ne (by
          rintro ⟨rfl, rfl⟩
          obtain ⟨ci, h8⟩ := hw.2.2.2.2.2.1 _ _ h'
          rw [hp] at h8
          cases h8))
        rw [show p.succ = p + 1 from rfl, zp_lst_e (by rw [hH.1]; exact hp) i0]
        exact ⟨τ, lc, s2, _, rfl, zk_ext_r τ, by rw [f1]; exact Nat.le_refl _, f2, f3, by rw [f1]; exact hl, by rw [f1]; exact q2, by
          exact zk_Fr_arr hw hp h2 (fun p' k' hn => ⟨rfl, zp_u_ne (fun z => hn z.1)⟩)⟩
      · cases h
    · cases h
  · cases h
def zk_alenI (B : zk_B) (A : zk_A) (pc : Nat) (lv : zk_LV) (st : List zk_V) : Option zk_O := match st with
  | .inr (some (some (p + 1))) :: rest => match B.1[p]? with
    | some (.inr (_, n)) => bif Nat.blt n 100000 then some (A, pc + 1, lv, .inl (0, (n : Int)) :: rest) else none
    | _ => none
  | _ => none
theorem zk_alenI_ok {L : Nat} (hN : zk_N τ A) (hH : zk_Hp B gh J τ A t.1) (hl : zk_L τ A.1 lv lc) (hs : za_F2 (zk_gV τ A.1) st sc) (h : zk_alenI B A pc lv st = some o) : zk_St B gh J mods am τ A t (zp_alen L pc lc sc t) o := by
  unfold zk_alenI at h
  split at h
  · rename_i p rest
    obtain ⟨_, s1, rfl, v1, q1⟩ := za_F2_cons hs
    have e := zk_gR_v v1
    subst e
    split at h
    · rename_i ty n hp
      obtain ⟨h1, h⟩ := za_bif h
      have h1 := za_blt h1
      cases h
      unfold zp_alen
      try dsimp only
      rw [hH.1, hp]
      exact zk_St_same hN hH hl ⟨⟨Nat.zero_le _, Int32.toInt_ofNat_of_lt (by omega)⟩, q1⟩
    · cases h
  · cases h
/-- one range within another -/
def zk_le2 (r s : Int × Int) : Bool := (za_ile s.1 r.1).and (za_ile r.2 s.2)
def zk_acpI (B : zk_B) (fz : Nat → Nat → Bool) (am : List Nat) (A : zk_A) (pc : Nat) (lv : zk_LV) (st : List zk_V) : Option zk_O := match st with
  | .inl (0, c) :: .inl (0, d) :: .inr (some (some (p1 + 1))) :: .inl (0, s) :: .inr (some (some (p0 + 1))) :: rest => match B.1[p0]?, B.1[p1]?, B.2.2.2.1 p0, B.2.2.2.1 p1 with
    | some (.inr (0, n0)), some (.inr (0, n1)), (1, [r0]), (1, [r1]) => bif zk_le2 r0 r1 then bif (za_ile 0 c).and ((za_ile 0 d).and ((za_ile 0 s).and ((za_ile (s + c) n0).and (za_ile (d + c) n1)))) then bif Nat.ble rest.length 4 then bif zk_ina am p1 then match zk_arw fz A p1 with
      | some A' => some (A', pc + 3, lv, rest)
      | none => none
      else none else none else none else none
    | _, _, _, _ => none
  | _ => none
theorem zk_wt4 {n : Nat} : ∀ {st : List zk_V} {sc : List zp_V}, za_F2 (zk_gV τ n) st sc → zp_wt sc ≤ 2 * st.length
  | [], [], _ => Nat.le_refl _
  | a :: st, v :: sc, h => by
    have ih := zk_wt4 h.2
    have h9 : zp_cat v ≤ 2 := by
      unfold zp_cat
      split <;> omega
    show zp_cat v + zp_wt sc ≤ 2 * (st.length + 1)
    omega
  | [], _ :: _, h => h.elim
  | _ :: _, [], h => h.elim
theorem zk_acpI_ok (hw : zk_W B gh J fz) (hN : zk_N τ A) (hH : zk_Hp B gh J τ A t.1) (hl : zk_L τ A.1 lv lc) (hs : za_F2 (zk_gV τ A.1) st sc) (h : zk_acpI B fz am A pc lv st = some o) : zk_St B gh J mods am τ A t (zp_acp pc lc sc t) o := by
  unfold zk_acpI at h
  split at h
  · rename_i c d p1 s p0 rest
    obtain ⟨_, s0, rfl, v0, q0⟩ := za_F2_cons hs
    obtain ⟨_, s1, rfl, v1, q1⟩ := za_F2_cons q0
    obtain ⟨_, s2, rfl, v2, q2⟩ := za_F2_cons q1
    obtain ⟨_, s3, rfl, v3, q3⟩ := za_F2_cons q2
    obtain ⟨_, s4, rfl, v4, q4⟩ := za_F2_cons q3
    have e2 := zk_gR_v v2
    subst e2
    have e4 := zk_gR_v v4
    subst e4
    obtain ⟨xc, rfl, -, xc2⟩ := zk_gI_v v0
    obtain ⟨xd, rfl, -, xd2⟩ := zk_gI_v v1
    obtain ⟨xs, rfl, -, xs2⟩ := zk_gI_v v3
    have xc2 : xc.toInt = c := xc2
    have xd2 : xd.toInt = d := xd2
    have xs2 : xs.toInt = s := xs2
    split at h
    · rename_i n0 n1 r0 r1 hp0 hp1 ha0 ha1
      obtain ⟨h1, h⟩ := za_bif h
      obtain ⟨h2, h⟩ := za_bif h
      obtain ⟨h3, h⟩ := za_bif h
      obtain ⟨h4, h⟩ := za_bif h
      obtain ⟨c1, h2⟩ := Bool.and_eq_true_iff.mp h2
      obtain ⟨c2, h2⟩ := Bool.and_eq_true_iff.mp h2
      obtain ⟨c3, h2⟩ := Bool.and_eq_true_iff.mp h2
      obtain ⟨c4, c5⟩ := Bool.and_eq_true_iff.mp h2
      have c1 := za_ile_t c1
      have c2 := za_ile_t c2
      have c3 := za_ile_t c3
      have c4 := za_ile_t c4
      have c5 := za_ile_t c5
      obtain ⟨d1, d2⟩ := Bool.and_eq_true_iff.mp h1
      have d1 := za_ile_t d1
      have d2 := za_ile_t d2
      have hwt := zk_wt4 q4
      have h3 := za_ble h3
      split at h
      · rename_i A' hA
        cases h
        have hA0 := hH.2.2.2.2.2.1
        obtain ⟨f1, f2, f3⟩ := zk_arw_ok (g := va_cpy (t.1.2.1 p0) (t.1.2.1 p1) xs.toInt.toNat xd.toInt.toNat xc.toInt.toNat) hw hp1 hN hH (fun i r hi hr => by
          rw [ha1] at hr
          have hr : [r1][i % 1]? = some r := hr
          rw [Nat.mod_one] at hr
          cases hr
          unfold va_cpy
          split
          · rename_i hc
            have g := hA0 p0 0 n0 (xs.toInt.toNat + (i - xd.toInt.toNat)) r0 hp0 (by omega) (by rw [ha0]; show [r0][_ % 1]? = _; rw [Nat.mod_one]; rfl)
            exact ⟨Int.le_trans d1 g.1, Int.le_trans g.2 d2⟩
          · exact hA0 p1 0 n1 i r1 hp1 hi (by rw [ha1]; show [r1][i % 1]? = _; rw [Nat.mod_one]; rfl)) hA
        rw [show p0.succ = p0 + 1 from rfl, show p1.succ = p1 + 1 from rfl, zp_acp_e (by rw [hH.1]; exact hp0) (by rw [hH.1]; exact hp1) ⟨by omega, by omega, by omega, by omega, by omega, by omega⟩]
        exact ⟨τ, lc, s4, _, rfl, zk_ext_r τ, by rw [f1]; exact Nat.le_refl _, f2, f3, by rw [f1]; exact hl, by rw [f1]; exact q4, by
          exact zk_Fr_arr hw hp1 h4 (fun p' k' hn => ⟨by unfold zp_ua; rw [if_neg hn], rfl⟩)⟩
      · cases h
    · cases h
  · cases h
end KJ
end
