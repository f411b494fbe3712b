section
-- ===== PART A: goes FIRST, ahead of the names: the tables' words, and 'selects' of the private methods out of them =====
/-- a private method of a class that the tables say can be made, by its rows of tables_1 -/
def lw_okq (q : MethodName × Nat) : Prop := (q.1.cls ≠ "java/lang/invoke/MethodHandle" ∧ q.1.cls ≠ "java/lang/invoke/VarHandle") ∧ Cond.instantiable q.1.cls q.2 ∈ tables_1 ∧ Cond.privateMethod q.1 ∈ tables_1 ∧ Cond.instanceMethod q.1 ∈ tables_1
theorem lw_p0 : lw_okq (⟨"CrowdDesk$Atom", "reduce", "(I)I"⟩, 8) := ⟨⟨by decide +kernel, by decide +kernel⟩, List.mem_of_getElem? (i := 33) (by decide +kernel), List.mem_of_getElem? (i := 210) (by decide +kernel), List.mem_of_getElem? (i := 211) (by decide +kernel)⟩
theorem lw_p1 : lw_okq (⟨"CrowdDesk$Atom", "opinionOf", "(I)Z"⟩, 8) := ⟨⟨by decide +kernel, by decide +kernel⟩, List.mem_of_getElem? (i := 33) (by decide +kernel), List.mem_of_getElem? (i := 223) (by decide +kernel), List.mem_of_getElem? (i := 224) (by decide +kernel)⟩
theorem lw_p2 : lw_okq (⟨"CrowdDesk$Formula", "evaluate", "(I)Z"⟩, 8) := ⟨⟨by decide +kernel, by decide +kernel⟩, List.mem_of_getElem? (i := 26) (by decide +kernel), List.mem_of_getElem? (i := 255) (by decide +kernel), List.mem_of_getElem? (i := 256) (by decide +kernel)⟩
theorem lw_p3 : lw_okq (⟨"CrowdDesk$Formula", "nodeTruth", "(III)I"⟩, 8) := ⟨⟨by decide +kernel, by decide +kernel⟩, List.mem_of_getElem? (i := 26) (by decide +kernel), List.mem_of_getElem? (i := 259) (by decide +kernel), List.mem_of_getElem? (i := 260) (by decide +kernel)⟩
theorem lw_p4 : lw_okq (⟨"java/lang/Throwable", "fillInStackTrace", "(I)Ljava/lang/Throwable;"⟩, 6) := ⟨⟨by decide +kernel, by decide +kernel⟩, List.mem_of_getElem? (i := 320) (by decide +kernel), List.mem_of_getElem? (i := 318) (by decide +kernel), List.mem_of_getElem? (i := 319) (by decide +kernel)⟩
theorem lw_p5 : lw_okq (⟨"CrowdDesk$Atom", "findStates", "()V"⟩, 8) := ⟨⟨by decide +kernel, by decide +kernel⟩, List.mem_of_getElem? (i := 33) (by decide +kernel), List.mem_of_getElem? (i := 461) (by decide +kernel), List.mem_of_getElem? (i := 462) (by decide +kernel)⟩
theorem lw_p6 : lw_okq (⟨"CrowdDesk$Atom", "learn", "(I)V"⟩, 8) := ⟨⟨by decide +kernel, by decide +kernel⟩, List.mem_of_getElem? (i := 33) (by decide +kernel), List.mem_of_getElem? (i := 470) (by decide +kernel), List.mem_of_getElem? (i := 471) (by decide +kernel)⟩
theorem lw_p7 : lw_okq (⟨"CrowdDesk$Atom", "learnBoth", "(I)V"⟩, 8) := ⟨⟨by decide +kernel, by decide +kernel⟩, List.mem_of_getElem? (i := 33) (by decide +kernel), List.mem_of_getElem? (i := 475) (by decide +kernel), List.mem_of_getElem? (i := 476) (by decide +kernel)⟩
theorem lw_p8 : lw_okq (⟨"CrowdDesk$Atom", "numberStates", "()V"⟩, 8) := ⟨⟨by decide +kernel, by decide +kernel⟩, List.mem_of_getElem? (i := 33) (by decide +kernel), List.mem_of_getElem? (i := 481) (by decide +kernel), List.mem_of_getElem? (i := 482) (by decide +kernel)⟩
theorem lw_p9 : lw_okq (⟨"CrowdDesk$Atom", "countRules", "()V"⟩, 8) := ⟨⟨by decide +kernel, by decide +kernel⟩, List.mem_of_getElem? (i := 33) (by decide +kernel), List.mem_of_getElem? (i := 485) (by decide +kernel), List.mem_of_getElem? (i := 486) (by decide +kernel)⟩
theorem lw_p10 : lw_okq (⟨"CrowdDesk$Atom", "isRule", "(II)Z"⟩, 8) := ⟨⟨by decide +kernel, by decide +kernel⟩, List.mem_of_getElem? (i := 33) (by decide +kernel), List.mem_of_getElem? (i := 489) (by decide +kernel), List.mem_of_getElem? (i := 490) (by decide +kernel)⟩
theorem lw_p11 : lw_okq (⟨"CrowdDesk$Crowd", "sweepOnce", "()I"⟩, 5) := ⟨⟨by decide +kernel, by decide +kernel⟩, List.mem_of_getElem? (i := 90) (by decide +kernel), List.mem_of_getElem? (i := 571) (by decide +kernel), List.mem_of_getElem? (i := 572) (by decide +kernel)⟩
theorem lw_p12 : lw_okq (⟨"CrowdDesk$Crowd", "behindLastLeader", "()I"⟩, 5) := ⟨⟨by decide +kernel, by decide +kernel⟩, List.mem_of_getElem? (i := 90) (by decide +kernel), List.mem_of_getElem? (i := 575) (by decide +kernel), List.mem_of_getElem? (i := 576) (by decide +kernel)⟩
theorem lw_p13 : lw_okq (⟨"CrowdDesk$Search", "sortNext", "()V"⟩, 8) := ⟨⟨by decide +kernel, by decide +kernel⟩, List.mem_of_getElem? (i := 643) (by decide +kernel), List.mem_of_getElem? (i := 684) (by decide +kernel), List.mem_of_getElem? (i := 685) (by decide +kernel)⟩
theorem lw_p14 : lw_okq (⟨"CrowdDesk$Search", "slotOfNext", "()I"⟩, 8) := ⟨⟨by decide +kernel, by decide +kernel⟩, List.mem_of_getElem? (i := 643) (by decide +kernel), List.mem_of_getElem? (i := 688) (by decide +kernel), List.mem_of_getElem? (i := 689) (by decide +kernel)⟩
theorem lw_p15 : lw_okq (⟨"CrowdDesk$Search", "isNext", "(I)Z"⟩, 8) := ⟨⟨by decide +kernel, by decide +kernel⟩, List.mem_of_getElem? (i := 643) (by decide +kernel), List.mem_of_getElem? (i := 693) (by decide +kernel), List.mem_of_getElem? (i := 694) (by decide +kernel)⟩
def lw_privs_1 : List (MethodName × Nat) := [(⟨"CrowdDesk$Atom", "reduce", "(I)I"⟩, 8), (⟨"CrowdDesk$Atom", "opinionOf", "(I)Z"⟩, 8), (⟨"CrowdDesk$Formula", "evaluate", "(I)Z"⟩, 8), (⟨"CrowdDesk$Formula", "nodeTruth", "(III)I"⟩, 8), (⟨"java/lang/Throwable", "fillInStackTrace", "(I)Ljava/lang/Throwable;"⟩, 6), (⟨"CrowdDesk$Atom", "findStates", "()V"⟩, 8), (⟨"CrowdDesk$Atom", "learn", "(I)V"⟩, 8), (⟨"CrowdDesk$Atom", "learnBoth", "(I)V"⟩, 8), (⟨"CrowdDesk$Atom", "numberStates", "()V"⟩, 8), (⟨"CrowdDesk$Atom", "countRules", "()V"⟩, 8), (⟨"CrowdDesk$Atom", "isRule", "(II)Z"⟩, 8), (⟨"CrowdDesk$Crowd", "sweepOnce", "()I"⟩, 5), (⟨"CrowdDesk$Crowd", "behindLastLeader", "()I"⟩, 5), (⟨"CrowdDesk$Search", "sortNext", "()V"⟩, 8), (⟨"CrowdDesk$Search", "slotOfNext", "()I"⟩, 8), (⟨"CrowdDesk$Search", "isNext", "(I)Z"⟩, 8)]
theorem lw_r1 : ∀ q ∈ lw_privs_1, lw_okq q := List.forall_mem_cons.mpr ⟨lw_p0, List.forall_mem_cons.mpr ⟨lw_p1, List.forall_mem_cons.mpr ⟨lw_p2, List.forall_mem_cons.mpr ⟨lw_p3, List.forall_mem_cons.mpr ⟨lw_p4, List.forall_mem_cons.mpr ⟨lw_p5, List.forall_mem_cons.mpr ⟨lw_p6, List.forall_mem_cons.mpr ⟨lw_p7, List.forall_mem_cons.mpr ⟨lw_p8, List.forall_mem_cons.mpr ⟨lw_p9, List.forall_mem_cons.mpr ⟨lw_p10, List.forall_mem_cons.mpr ⟨lw_p11, List.forall_mem_cons.mpr ⟨lw_p12, List.forall_mem_cons.mpr ⟨lw_p13, List.forall_mem_cons.mpr ⟨lw_p14, List.forall_mem_cons.mpr ⟨lw_p15, fun _ h => absurd h List.not_mem_nil⟩⟩⟩⟩⟩⟩⟩⟩⟩⟩⟩⟩⟩⟩⟩⟩
theorem lw_p16 : lw_okq (⟨"CrowdDesk$Search", "keepNext", "(I)V"⟩, 8) := ⟨⟨by decide +kernel, by decide +kernel⟩, List.mem_of_getElem? (i := 643) (by decide +kernel), List.mem_of_getElem? (i := 697) (by decide +kernel), List.mem_of_getElem? (i := 698) (by decide +kernel)⟩
theorem lw_p17 : lw_okq (⟨"CrowdDesk$Search", "keepAllAfter", "(II)Z"⟩, 8) := ⟨⟨by decide +kernel, by decide +kernel⟩, List.mem_of_getElem? (i := 643) (by decide +kernel), List.mem_of_getElem? (i := 701) (by decide +kernel), List.mem_of_getElem? (i := 702) (by decide +kernel)⟩
theorem lw_p18 : lw_okq (⟨"CrowdDesk$Search", "stepToNext", "(III)Z"⟩, 8) := ⟨⟨by decide +kernel, by decide +kernel⟩, List.mem_of_getElem? (i := 643) (by decide +kernel), List.mem_of_getElem? (i := 705) (by decide +kernel), List.mem_of_getElem? (i := 706) (by decide +kernel)⟩
theorem lw_p19 : lw_okq (⟨"CrowdDesk$Search", "isRightEnd", "(IZ)Z"⟩, 8) := ⟨⟨by decide +kernel, by decide +kernel⟩, List.mem_of_getElem? (i := 643) (by decide +kernel), List.mem_of_getElem? (i := 724) (by decide +kernel), List.mem_of_getElem? (i := 725) (by decide +kernel)⟩
theorem lw_p20 : lw_okq (⟨"CrowdDesk$Search", "leadsToRightEnd", "(I)Z"⟩, 8) := ⟨⟨by decide +kernel, by decide +kernel⟩, List.mem_of_getElem? (i := 643) (by decide +kernel), List.mem_of_getElem? (i := 730) (by decide +kernel), List.mem_of_getElem? (i := 731) (by decide +kernel)⟩
theorem lw_p21 : lw_okq (⟨"CrowdDesk", "checkTable", "(III)V"⟩, 4) := ⟨⟨by decide +kernel, by decide +kernel⟩, List.mem_of_getElem? (i := 18) (by decide +kernel), List.mem_of_getElem? (i := 741) (by decide +kernel), List.mem_of_getElem? (i := 742) (by decide +kernel)⟩
theorem lw_p22 : lw_okq (⟨"CrowdDesk$Atom", "firstOfRule", "(I)I"⟩, 8) := ⟨⟨by decide +kernel, by decide +kernel⟩, List.mem_of_getElem? (i := 33) (by decide +kernel), List.mem_of_getElem? (i := 764) (by decide +kernel), List.mem_of_getElem? (i := 765) (by decide +kernel)⟩
theorem lw_p23 : lw_okq (⟨"CrowdDesk$Atom", "secondOfRule", "(II)I"⟩, 8) := ⟨⟨by decide +kernel, by decide +kernel⟩, List.mem_of_getElem? (i := 33) (by decide +kernel), List.mem_of_getElem? (i := 768) (by decide +kernel), List.mem_of_getElem? (i := 769) (by decide +kernel)⟩
theorem lw_p24 : lw_okq (⟨"CrowdDeskModel", "full", "()Z"⟩, 25) := ⟨⟨by decide +kernel, by decide +kernel⟩, List.mem_of_getElem? (i := 784) (by decide +kernel), List.mem_of_getElem? (i := 882) (by decide +kernel), List.mem_of_getElem? (i := 883) (by decide +kernel)⟩
theorem lw_p25 : lw_okq (⟨"CrowdDeskModel", "atom", "(II)I"⟩, 25) := ⟨⟨by decide +kernel, by decide +kernel⟩, List.mem_of_getElem? (i := 784) (by decide +kernel), List.mem_of_getElem? (i := 886) (by decide +kernel), List.mem_of_getElem? (i := 887) (by decide +kernel)⟩
theorem lw_p26 : lw_okq (⟨"CrowdDeskModel", "node", "(III)I"⟩, 25) := ⟨⟨by decide +kernel, by decide +kernel⟩, List.mem_of_getElem? (i := 784) (by decide +kernel), List.mem_of_getElem? (i := 890) (by decide +kernel), List.mem_of_getElem? (i := 891) (by decide +kernel)⟩
theorem lw_p27 : lw_okq (⟨"CrowdDeskModel", "findStates", "(I)V"⟩, 25) := ⟨⟨by decide +kernel, by decide +kernel⟩, List.mem_of_getElem? (i := 784) (by decide +kernel), List.mem_of_getElem? (i := 906) (by decide +kernel), List.mem_of_getElem? (i := 907) (by decide +kernel)⟩
theorem lw_p28 : lw_okq (⟨"CrowdDeskModel", "firstState", "(II)I"⟩, 25) := ⟨⟨by decide +kernel, by decide +kernel⟩, List.mem_of_getElem? (i := 784) (by decide +kernel), List.mem_of_getElem? (i := 910) (by decide +kernel), List.mem_of_getElem? (i := 911) (by decide +kernel)⟩
theorem lw_p29 : lw_okq (⟨"CrowdDeskModel", "opinionOf", "(II)Z"⟩, 25) := ⟨⟨by decide +kernel, by decide +kernel⟩, List.mem_of_getElem? (i := 784) (by decide +kernel), List.mem_of_getElem? (i := 914) (by decide +kernel), List.mem_of_getElem? (i := 915) (by decide +kernel)⟩
theorem lw_p30 : lw_okq (⟨"CrowdDeskModel", "stateOf", "(IZIZ)I"⟩, 25) := ⟨⟨by decide +kernel, by decide +kernel⟩, List.mem_of_getElem? (i := 784) (by decide +kernel), List.mem_of_getElem? (i := 918) (by decide +kernel), List.mem_of_getElem? (i := 919) (by decide +kernel)⟩
theorem lw_p31 : lw_okq (⟨"CrowdDeskModel", "meeting", "(III)V"⟩, 25) := ⟨⟨by decide +kernel, by decide +kernel⟩, List.mem_of_getElem? (i := 784) (by decide +kernel), List.mem_of_getElem? (i := 922) (by decide +kernel), List.mem_of_getElem? (i := 923) (by decide +kernel)⟩
def lw_privs_2 : List (MethodName × Nat) := [(⟨"CrowdDesk$Search", "keepNext", "(I)V"⟩, 8), (⟨"CrowdDesk$Search", "keepAllAfter", "(II)Z"⟩, 8), (⟨"CrowdDesk$Search", "stepToNext", "(III)Z"⟩, 8), (⟨"CrowdDesk$Search", "isRightEnd", "(IZ)Z"⟩, 8), (⟨"CrowdDesk$Search", "leadsToRightEnd", "(I)Z"⟩, 8), (⟨"CrowdDesk", "checkTable", "(III)V"⟩, 4), (⟨"CrowdDesk$Atom", "firstOfRule", "(I)I"⟩, 8), (⟨"CrowdDesk$Atom", "secondOfRule", "(II)I"⟩, 8), (⟨"CrowdDeskModel", "full", "()Z"⟩, 25), (⟨"CrowdDeskModel", "atom", "(II)I"⟩, 25), (⟨"CrowdDeskModel", "node", "(III)I"⟩, 25), (⟨"CrowdDeskModel", "findStates", "(I)V"⟩, 25), (⟨"CrowdDeskModel", "firstState", "(II)I"⟩, 25), (⟨"CrowdDeskModel", "opinionOf", "(II)Z"⟩, 25), (⟨"CrowdDeskModel", "stateOf", "(IZIZ)I"⟩, 25), (⟨"CrowdDeskModel", "meeting", "(III)V"⟩, 25)]
theorem lw_r2 : ∀ q ∈ lw_privs_2, lw_okq q := List.forall_mem_cons.mpr ⟨lw_p16, List.forall_mem_cons.mpr ⟨lw_p17, List.forall_mem_cons.mpr ⟨lw_p18, List.forall_mem_cons.mpr ⟨lw_p19, List.forall_mem_cons.mpr ⟨lw_p20, List.forall_mem_cons.mpr ⟨lw_p21, List.forall_mem_cons.mpr ⟨lw_p22, List.forall_mem_cons.mpr ⟨lw_p23, List.forall_mem_cons.mpr ⟨lw_p24, List.forall_mem_cons.mpr ⟨lw_p25, List.forall_mem_cons.mpr ⟨lw_p26, List.forall_mem_cons.mpr ⟨lw_p27, List.forall_mem_cons.mpr ⟨lw_p28, List.forall_mem_cons.mpr ⟨lw_p29, List.forall_mem_cons.mpr ⟨lw_p30, List.forall_mem_cons.mpr ⟨lw_p31, fun _ h => absurd h List.not_mem_nil⟩⟩⟩⟩⟩⟩⟩⟩⟩⟩⟩⟩⟩⟩⟩⟩
theorem lw_p32 : lw_okq (⟨"CrowdDeskModel", "stateCount", "(I)I"⟩, 25) := ⟨⟨by decide +kernel, by decide +kernel⟩, List.mem_of_getElem? (i := 784) (by decide +kernel), List.mem_of_getElem? (i := 929) (by decide +kernel), List.mem_of_getElem? (i := 930) (by decide +kernel)⟩
theorem lw_p33 : lw_okq (⟨"CrowdDeskModel", "noAgent", "(I)Z"⟩, 25) := ⟨⟨by decide +kernel, by decide +kernel⟩, List.mem_of_getElem? (i := 784) (by decide +kernel), List.mem_of_getElem? (i := 945) (by decide +kernel), List.mem_of_getElem? (i := 946) (by decide +kernel)⟩
theorem lw_p34 : lw_okq (⟨"CrowdDeskModel", "meets", "(IIZ)Z"⟩, 25) := ⟨⟨by decide +kernel, by decide +kernel⟩, List.mem_of_getElem? (i := 784) (by decide +kernel), List.mem_of_getElem? (i := 949) (by decide +kernel), List.mem_of_getElem? (i := 950) (by decide +kernel)⟩
theorem lw_p35 : lw_okq (⟨"CrowdDeskModel", "outputOf", "(I)Z"⟩, 25) := ⟨⟨by decide +kernel, by decide +kernel⟩, List.mem_of_getElem? (i := 784) (by decide +kernel), List.mem_of_getElem? (i := 961) (by decide +kernel), List.mem_of_getElem? (i := 962) (by decide +kernel)⟩
theorem lw_p36 : lw_okq (⟨"CrowdDeskModel", "formula", "()Z"⟩, 25) := ⟨⟨by decide +kernel, by decide +kernel⟩, List.mem_of_getElem? (i := 784) (by decide +kernel), List.mem_of_getElem? (i := 965) (by decide +kernel), List.mem_of_getElem? (i := 966) (by decide +kernel)⟩
theorem lw_p37 : lw_okq (⟨"CrowdDeskModel", "truthNow", "()Z"⟩, 25) := ⟨⟨by decide +kernel, by decide +kernel⟩, List.mem_of_getElem? (i := 784) (by decide +kernel), List.mem_of_getElem? (i := 980) (by decide +kernel), List.mem_of_getElem? (i := 981) (by decide +kernel)⟩
theorem lw_p38 : lw_okq (⟨"CrowdDeskModel", "sort", "()V"⟩, 25) := ⟨⟨by decide +kernel, by decide +kernel⟩, List.mem_of_getElem? (i := 784) (by decide +kernel), List.mem_of_getElem? (i := 996) (by decide +kernel), List.mem_of_getElem? (i := 997) (by decide +kernel)⟩
theorem lw_p39 : lw_okq (⟨"CrowdDeskModel", "find", "(Z)I"⟩, 25) := ⟨⟨by decide +kernel, by decide +kernel⟩, List.mem_of_getElem? (i := 784) (by decide +kernel), List.mem_of_getElem? (i := 1000) (by decide +kernel), List.mem_of_getElem? (i := 1001) (by decide +kernel)⟩
theorem lw_p40 : lw_okq (⟨"CrowdDeskModel", "after", "(III)Z"⟩, 25) := ⟨⟨by decide +kernel, by decide +kernel⟩, List.mem_of_getElem? (i := 784) (by decide +kernel), List.mem_of_getElem? (i := 1006) (by decide +kernel), List.mem_of_getElem? (i := 1007) (by decide +kernel)⟩
theorem lw_p41 : lw_okq (⟨"CrowdDeskModel", "silentCrowd", "(I)Z"⟩, 25) := ⟨⟨by decide +kernel, by decide +kernel⟩, List.mem_of_getElem? (i := 784) (by decide +kernel), List.mem_of_getElem? (i := 1017) (by decide +kernel), List.mem_of_getElem? (i := 1018) (by decide +kernel)⟩
theorem lw_p42 : lw_okq (⟨"CrowdDeskModel", "rightCrowd", "(IZ)Z"⟩, 25) := ⟨⟨by decide +kernel, by decide +kernel⟩, List.mem_of_getElem? (i := 784) (by decide +kernel), List.mem_of_getElem? (i := 1021) (by decide +kernel), List.mem_of_getElem? (i := 1022) (by decide +kernel)⟩
theorem lw_p43 : lw_okq (⟨"CrowdDeskModel", "leadsToGood", "(I)Z"⟩, 25) := ⟨⟨by decide +kernel, by decide +kernel⟩, List.mem_of_getElem? (i := 784) (by decide +kernel), List.mem_of_getElem? (i := 1025) (by decide +kernel), List.mem_of_getElem? (i := 1026) (by decide +kernel)⟩
theorem lw_p44 : lw_okq (⟨"CrowdDeskModel", "tableFault", "(III)I"⟩, 25) := ⟨⟨by decide +kernel, by decide +kernel⟩, List.mem_of_getElem? (i := 784) (by decide +kernel), List.mem_of_getElem? (i := 1033) (by decide +kernel), List.mem_of_getElem? (i := 1034) (by decide +kernel)⟩
theorem lw_p45 : lw_okq (⟨"CrowdDeskModel", "findRule", "(II)I"⟩, 25) := ⟨⟨by decide +kernel, by decide +kernel⟩, List.mem_of_getElem? (i := 784) (by decide +kernel), List.mem_of_getElem? (i := 1037) (by decide +kernel), List.mem_of_getElem? (i := 1038) (by decide +kernel)⟩
theorem lw_p46 : lw_okq (⟨"CrowdDeskModel", "numberOf", "(II)I"⟩, 25) := ⟨⟨by decide +kernel, by decide +kernel⟩, List.mem_of_getElem? (i := 784) (by decide +kernel), List.mem_of_getElem? (i := 1045) (by decide +kernel), List.mem_of_getElem? (i := 1046) (by decide +kernel)⟩
def lw_privs_3 : List (MethodName × Nat) := [(⟨"CrowdDeskModel", "stateCount", "(I)I"⟩, 25), (⟨"CrowdDeskModel", "noAgent", "(I)Z"⟩, 25), (⟨"CrowdDeskModel", "meets", "(IIZ)Z"⟩, 25), (⟨"CrowdDeskModel", "outputOf", "(I)Z"⟩, 25), (⟨"CrowdDeskModel", "formula", "()Z"⟩, 25), (⟨"CrowdDeskModel", "truthNow", "()Z"⟩, 25), (⟨"CrowdDeskModel", "sort", "()V"⟩, 25), (⟨"CrowdDeskModel", "find", "(Z)I"⟩, 25), (⟨"CrowdDeskModel", "after", "(III)Z"⟩, 25), (⟨"CrowdDeskModel", "silentCrowd", "(I)Z"⟩, 25), (⟨"CrowdDeskModel", "rightCrowd", "(IZ)Z"⟩, 25), (⟨"CrowdDeskModel", "leadsToGood", "(I)Z"⟩, 25), (⟨"CrowdDeskModel", "tableFault", "(III)I"⟩, 25), (⟨"CrowdDeskModel", "findRule", "(II)I"⟩, 25), (⟨"CrowdDeskModel", "numberOf", "(II)I"⟩, 25)]
theorem lw_r3 : ∀ q ∈ lw_privs_3, lw_okq q := List.forall_mem_cons.mpr ⟨lw_p32, List.forall_mem_cons.mpr ⟨lw_p33, List.forall_mem_cons.mpr ⟨lw_p34, List.forall_mem_cons.mpr ⟨lw_p35, List.forall_mem_cons.mpr ⟨lw_p36, List.forall_mem_cons.mpr ⟨lw_p37, List.forall_mem_cons.mpr ⟨lw_p38, List.forall_mem_cons.mpr ⟨lw_p39, List.forall_mem_cons.mpr ⟨lw_p40, List.forall_mem_cons.mpr ⟨lw_p41, List.forall_mem_cons.mpr ⟨lw_p42, List.forall_mem_cons.mpr ⟨lw_p43, List.forall_mem_cons.mpr ⟨lw_p44, List.forall_mem_cons.mpr ⟨lw_p45, List.forall_mem_cons.mpr ⟨lw_p46, fun _ h => absurd h List.not_mem_nil⟩⟩⟩⟩⟩⟩⟩⟩⟩⟩⟩⟩⟩⟩⟩
def lw_privs : List (MethodName × Nat) := lw_privs_1 ++ (lw_privs_2 ++ (lw_privs_3))
def lw_tbl : List Cond := k2_sels lw_privs ++ tables_1
theorem lw_privs_ok : ∀ q ∈ lw_privs, lw_okq q := by
  show ∀ q ∈ lw_privs_1 ++ (lw_privs_2 ++ (lw_privs_3)), lw_okq q
  exact List.forall_mem_append.mpr ⟨lw_r1, List.forall_mem_append.mpr ⟨lw_r2, lw_r3⟩⟩
end
section
/-! ===== BEGIN words of one list among another's, by their places ===== -/
theorem goodIn_r {big : List Cond} (ws : List Cond) (ps : List Nat) (hp : ws = ps.filterMap (fun i => big[i]?)) (h : ws.all goodWord = true) : GoodIn big ws := by
  intro w hw
  have h1 := List.all_eq_true.mp h w hw
  rw [hp] at hw
  obtain ⟨i, -, hi⟩ := List.mem_filterMap.mp hw
  have hm : w ∈ big := by first | exact List.mem_of_getElem? hi | exact List.getElem?_mem hi
  exact ⟨hm, good_of_word h1⟩
theorem goodIn_app {big a b : List Cond} (ha : GoodIn big a) (hb : GoodIn big b) : GoodIn big (a ++ b) := fun w h => (List.mem_append.mp h).elim (ha w) (hb w)
theorem goodIn_ca {big a b : List Cond} {c : Cond} (ha : GoodIn big (c :: a)) (hb : GoodIn big b) : GoodIn big (c :: (a ++ b)) := fun w h => (List.mem_cons.mp h).elim (fun e => ha w (List.mem_cons.mpr (Or.inl e))) (fun h => (List.mem_append.mp h).elim (fun h => ha w (List.mem_cons.mpr (Or.inr h))) (hb w))
theorem goodIn_sub {big ws : List Cond} (hm : ∀ w ∈ ws, w ∈ big) (h : ws.all goodWord = true) : GoodIn big ws := fun w hw => ⟨hm w hw, good_of_word (List.all_eq_true.mp h w hw)⟩
/-! ===== END ===== -/

/-! ===== BEGIN exceptions that leave a method, and their catching by the caller (launches without stack traces) ===== -/
section VXA
/-! The laws vx_back, vx_callV, vx_callS, vx_callSW, vx_throw0, vx_throwS follow proofs of the library, with one case more: JvmDerived/Free/Laws.lean (Back.of_free), Shelf42/LK1.lean (callV, callS), Shelf/KitTraced.lean (throwNew0V, throwNewS). -/
/-- where a method has thrown q: the class by its name, the cell, what was written, the world -/
def vx_T (XC : String → State → State → Prop) (st : State) (q : Addr) (t : State) (mc ms : Nat) (free : Addr → Prop) : Prop :=
  ∃ (E : String) (ce : Cell) (L : List Loc), XC E st t ∧ t.heap[q]? = some ce ∧ ce.vm = .none ∧ st.vm.findClass E = some ce.cls ∧ st.WarmedH t.vm ∧ st.sameButNew ({ t with vm := st.vm } : State) L mc ms ∧ ∀ z ∈ L, free z.base
def vx_Q (Qc : Array Value → State → Outcome → State → Prop) (XC : String → State → State → Prop) (mc ms : Nat) (free : Addr → Prop) : Array Value → State → Outcome → State → Prop := fun a st o t =>
  (Qc a st o t ∧ ∃ L, FrameEnd st o t L mc ms ∧ ∀ q ∈ L, free q.base) ∨ ∃ q, o = .threw q ∧ vx_T XC st q t mc ms free
/-- a callee that returns or throws -/
def vx_Met (l : Launch) (y : MethodName) (ws : List Cond) (rm : Room) (Pc : Array Value → State → Prop) (Qc : Array Value → State → Outcome → State → Prop) (XC : String → State → State → Prop) (mc ms : Nat) (free : Addr → Prop) : Prop :=
  MetFree l y (headSpec ws rm) Pc (fun _ _ _ _ _ => True) (vx_Q Qc XC mc ms free)
def vx_Post (XC : String → State → State → Prop) (mc ms : Nat) (free : Addr → Prop) : Pt → Array Value → Addr → Pt → Prop := fun A a q B =>
  ∃ (g : JFrame) (mk : MethodId) (t : State) (L : List Loc) (E : String) (ce : Cell), B.U.heap = t.heap ∧ B.U.vm = t.vm ∧ XC E (A.U.calling g mk a) t ∧ t.heap[q]? = some ce ∧ ce.vm = .none ∧ A.U.vm.findClass E = some ce.cls ∧ B.locs = A.locs ++ L ∧ (∀ z ∈ L, free z.base) ∧ B.cells = A.cells + mc ∧ B.slots = A.slots + ms
def vx_Back (l : Launch) (R : Room) (p : Program) (e : Env) (below : List Frame) (s : State) (sargs : Array Value) (y : MethodName) (len W9 : Nat)
    (Pre : Pt → Array Value → Prop) (Post : Pt → Array Value → Option Value → Pt → Prop) (PostX : Pt → Array Value → Addr → Pt → Prop) : Prop :=
  ∀ (m : MethodId) (meth : Method) (c : Code) (A : Pt) (g : JFrame) (ig : Instr) (mk : MethodId) (a : Array Value),
    Stand p l e R s m sargs below meth c A.U A.locs A.cells A.slots → g.method = m → g.locals.size = c.maxLocals → decode c.code g.pc = .ok (ig, len) →
    2 * g.monitorRoom + (g.stack.map fun v => v.category).sum ≤ W9 → A.U.methodNamed? y = some mk → Pre A a →
    (∃ (v : Option Value) (B : Pt), Stand p l e R s m sargs below meth c B.U B.locs B.cells B.slots ∧ Post A a v B ∧
      Steps p.tables e below (doInvoke e (A.U.setTop g) [] mk a).1 (B.U.setTop { g with pc := g.pc + len, stack := v.toList ++ g.stack })) ∨
    (∃ (q : Addr) (B : Pt), Stand p l e R s m sargs below meth c B.U B.locs B.cells B.slots ∧ PostX A a q B ∧
      Steps p.tables e below (doInvoke e (A.U.setTop g) [] mk a).1 ((B.U.setTop g).pushFrame (.throwing q)))
section Payer
variable {l : Launch} {R : Room} {p : Program} {e : Env} {below : List Frame} {s : State} {sargs : Array Value} {y : MethodName} {len W9 : Nat}
theorem vx_back {ws : List Cond} {rm : Room} {Pc : Array Value → State → Prop} {Qc : Array Value → State → Outcome → State → Prop} {XC : String → State → State → Prop} {mc ms : Nat} {free : Addr → Prop} {bytes : ByteArray} {maxL : Nat} {ret : Option FieldType}
    (hM : vx_Met l y ws rm Pc Qc XC mc ms free) (hblind : FrameBlind Pc) (hrc : rm.cells = mc) (hrs : rm.slots = ms)
    (hframes : rm.frames + 1 ≤ R.frames) (hlocals : W9 + (maxL + 11) + rm.locals ≤ R.locals)
    (hws : ∀ w ∈ ws, ∀ a' U, s.WarmedH U.vm → w.before a' U = true) (hcode : Cond.code y bytes maxL ret ∈ ws) (hinit : ∀ a' U, s.WarmedH U.vm → (Cond.initialized y.cls).before a' U = true) :
    vx_Back l R p e below s sargs y len W9 (PreOf R mc ms Pc) (PostOf Qc mc ms free) (vx_Post XC mc ms free) := by
  intro m meth c A g ig mk a X hg hsize hdg hW hn hp
  have h1 : (headSpec ws rm).pre.before a A.U = true := atoms_intro fun w hw => hws w hw _ _ X.warmed
  have h2 : (Cond.code y bytes maxL ret).before a A.U = true := hws _ hcode _ _ X.warmed
  have h3 : (Cond.initialized y.cls).before a A.U = true := hinit _ _ X.warmed
  have h4 : A.cells + (headSpec ws rm).room.cells ≤ R.cells := by rw [show (headSpec ws rm).room.cells = mc from hrc]; exact hp.1
  have h5 : A.slots + (headSpec ws rm).room.slots ≤ R.slots := by rw [show (headSpec ws rm).room.slots = ms from hrs]; exact hp.2.1
  have hPc : Pc a (A.U.calling g mk a) := hblind _ _ _ _ hp.2.2
  obtain ⟨U, Ls, c0, s0⟩ := A
  dsimp only [Pt.U, Pt.locs, Pt.cells, Pt.slots] at h1 h2 h3 h4 h5 X hn hPc ⊢
  obtain ⟨methY, cY, hmY, hcY, -, hlY, -, -, -, -⟩ := Cond.code_spec hn h2
  obtain ⟨kY, hkY, -⟩ := className_of_methodNamed hn
  have hinitY : kY.init = .initialized := Cond.initialized_spec (findClass_of_methodNamed hn) hkY h3
  have h : At U g.method c below := by rw [hg]; exact X.here
  have hlocals9 : W9 + (maxL + 11) + (headSpec ws rm).room.locals ≤ R.locals := hlocals
  have happ : (headSpec ws rm).appliesLoose y e.platform (U.calling g mk a) = true :=
    Spec.appliesLoose_calling (g := g) h hdg hn hkY hinitY
      (X.room_calling (g := g) (R' := (headSpec ws rm).room) hsize hmY hcY hframes (by rw [hlY]; omega) h4 h5) h1
  obtain ⟨mid, hmid⟩ := h.above
  have hfr : (U.setTop g).frames = (.java g :: mid) ++ below := by rw [State.frames_setTop' g h.top, hmid]; rfl
  obtain ⟨o, s₂, hsteps, -, hend, hq⟩ := Steps.callFree hM p X.admits X.cas X.clock (acts := []) hfr happ hPc trivial
  have hq' : vx_Q Qc XC mc ms free a (U.calling g mk a) o s₂ := hq
  rw [State.frames_setTop' g h.top] at hend
  obtain ⟨g₀, hg0⟩ := Option.isSome_iff_exists.mp h.top
  obtain ⟨r, hr⟩ := State.topJava?_eq_some.mp hg0
  have hr' : (({ U with heap := s₂.heap, slotsUsed := s₂.slotsUsed } : State).setVm s₂.vm).frames = .java g₀ :: r := hr
  rcases hq' with ⟨hqc, L, hfe, hL⟩ | ⟨q, rfl, E, ce, L, hx, hce, hcv, hcl, hW₂, hsm, hL⟩
  · obtain ⟨⟨v, rfl⟩, hW₂, e2, q2, q3, q4, q5, q6⟩ := id hfe
    have e3 : s₂ = ({ (U.calling g mk a).setFrames s₂.frames with heap := s₂.heap, slotsUsed := s₂.slotsUsed } : State).setVm s₂.vm := by
      have : s₂ = ({ s₂ with vm := (U.calling g mk a).vm } : State).setVm s₂.vm := rfl
      rw [e2] at this
      exact this
    obtain ⟨c₂, i₂, len₂, hc₂, hd₂, hf₂⟩ := hend
    have hW' : U.WarmedH s₂.vm := hW₂
    have hcc : c₂ = c := by
      have h1 : s₂.code? g.method = U.code? g.method := by
        rw [State.code?_eq, State.code?_eq, hW'.alike.method?]
      exact Option.some.inj (hc₂.symm.trans (h1.trans h.code))
    subst hcc
    have hlen : len₂ = len := by rw [hdg] at hd₂; cases hd₂; rfl
    subst hlen
    have hs₂ : s₂ = (({ U with heap := s₂.heap, slotsUsed := s₂.slotsUsed } : State).setVm s₂.vm).setTop { g with pc := g.pc + len₂, stack := v.toList ++ g.stack } := by
      refine e3.trans ?_
      rw [hf₂, State.calling_eq h.top, State.setFrames_setFrames, State.setTop_of_frames _ hr', hr]
      rfl
    have hsame : U.sameButNew ({ U with heap := s₂.heap, slotsUsed := s₂.slotsUsed } : State) L mc ms := by
      refine ⟨?_, q2, q3, q4, q5, q6⟩
      obtain ⟨t, ht, -⟩ := State.frames_cons hr
      show ({ U with heap := s₂.heap, slotsUsed := s₂.slotsUsed } : State) = { U.setFrames U.frames with heap := s₂.heap, slotsUsed := s₂.slotsUsed }
      rw [State.setFrames_self ht]
    subst hg
    refine Or.inl ⟨v, ⟨(({ U with heap := s₂.heap, slotsUsed := s₂.slotsUsed } : State).setVm s₂.vm), Ls ++ L, c0 + mc, s0 + ms⟩,
      ⟨X.admits, X.cas, X.clock, X.frames, X.room, X.hears, X.method, X.code, (X.here.setHeapUsed s₂.heap s₂.slotsUsed).setVm hW'.alike, X.tail, State.WarmedH.trans X.warmed hW', X.limits, X.bytes, X.same.trans (hsame.setVm s.vm)⟩,
      ⟨g, mk, s₂, L, rfl, rfl, hqc, rfl, hL, rfl, rfl⟩, ?_⟩
    show Steps p.tables e below _ ((({ U with heap := s₂.heap, slotsUsed := s₂.slotsUsed } : State).setVm s₂.vm).setTop { g with pc := g.pc + len₂, stack := v.toList ++ g.stack })
    rw [← hs₂]
    exact hsteps
  · obtain ⟨e2, q2, q3, q4, q5, q6⟩ := id hsm
    have e3 : s₂ = ({ (U.calling g mk a).setFrames s₂.frames with heap := s₂.heap, slotsUsed := s₂.slotsUsed } : State).setVm s₂.vm := by
      have : s₂ = ({ s₂ with vm := (U.calling g mk a).vm } : State).setVm s₂.vm := rfl
      rw [e2] at this
      exact this
    have hf₂ : s₂.frames = .throwing q :: .java g :: U.frames.tail := hend
    have hW' : U.WarmedH s₂.vm := hW₂
    have hs₂ : s₂ = ((({ U with heap := s₂.heap, slotsUsed := s₂.slotsUsed } : State).setVm s₂.vm).setTop g).pushFrame (.throwing q) := by
      refine e3.trans ?_
      rw [hf₂, State.calling_eq h.top, State.setFrames_setFrames, State.pushFrame, State.frames_setTop _ hr', State.setTop_of_frames _ hr', State.setFrames_setFrames, hr]
      rfl
    have hsame : U.sameButNew ({ U with heap := s₂.heap, slotsUsed := s₂.slotsUsed } : State) L mc ms := by
      refine ⟨?_, q2, q3, q4, q5, q6⟩
      obtain ⟨t, ht, -⟩ := State.frames_cons hr
      show ({ U with heap := s₂.heap, slotsUsed := s₂.slotsUsed } : State) = { U.setFrames U.frames with heap := s₂.heap, slotsUsed := s₂.slotsUsed }
      rw [State.setFrames_self ht]
    subst hg
    refine Or.inr ⟨q, ⟨(({ U with heap := s₂.heap, slotsUsed := s₂.slotsUsed } : State).setVm s₂.vm), Ls ++ L, c0 + mc, s0 + ms⟩,
      ⟨X.admits, X.cas, X.clock, X.frames, X.room, X.hears, X.method, X.code, (X.here.setHeapUsed s₂.heap s₂.slotsUsed).setVm hW'.alike, X.tail, State.WarmedH.trans X.warmed hW', X.limits, X.bytes, X.same.trans (hsame.setVm s.vm)⟩,
      ⟨g, mk, s₂, L, E, ce, rfl, rfl, hx, hce, hcv, hcl, rfl, hL, rfl, rfl⟩, ?_⟩
    show Steps p.tables e below _ (((({ U with heap := s₂.heap, slotsUsed := s₂.slotsUsed } : State).setVm s₂.vm).setTop g).pushFrame (.throwing q))
    rw [← hs₂]
    exact hsteps
end Payer
section Calls
variable {p : Program} {l : Launch} {e : Env} {R : Room} {s : State} {m : MethodId} {args : Array Value} {below : List Frame} {meth : Method} {c : Code} {T : State} {locs : List Loc} {cells slots : Nat}
theorem vx_callV (X : Stand p l e R s m args below meth c T locs cells slots) (hexec : p.tables.exec = Jvm.exec) {own C : String} {index : Nat} {y : MethodName} {bytes : ByteArray} {maxL : Nat} {ret : Option FieldType}
    (hown : s.vm.findClass own = some m.cls) (hlink : (Cond.methodLink own index y).before args s = true) (hinst : (Cond.instanceMethod y).before args s = true) (hsel : (Cond.selects C y y).before args s = true)
    (hcode : (Cond.code y bytes maxL ret).before args s = true) (hy : y.cls ≠ "java/lang/invoke/MethodHandle" ∧ y.cls ≠ "java/lang/invoke/VarHandle")
    {W9 : Nat} {Pre : Pt → Array Value → Prop} {Post : Pt → Array Value → Option Value → Pt → Prop} {PostX : Pt → Array Value → Addr → Pt → Prop} (hK : vx_Back l R p e below s args y 3 W9 Pre Post PostX)
    {b : Addr} {cellB : Cell} (hcell : T.heap[b]? = some cellB) (hobj : cellB.vm.isStatics = false) (hcls : s.vm.findClass C = some cellB.cls)
    {g : JFrame} (hg : g.method = m) (hsize : g.locals.size = c.maxLocals) {argsL rest : List Value} (hlen : ∀ sig, parseMethodDescriptor y.desc = some sig → argsL.length = sig.parameters.length)
    (hstack : g.stack = argsL.reverse ++ .ref b :: rest) (hW : 2 * g.monitorRoom + (rest.map fun v => v.category).sum ≤ W9) (hdg : decode c.code g.pc = .ok (.invokevirtual index, 3))
    (hpre : ∀ vm₁, s.WarmedH vm₁ → Pre ⟨T.setVm vm₁, locs, cells, slots⟩ (Value.ref b :: argsL).toArray) :
    (∃ (v : Option Value) (vm₁ : Vm) (B : Pt), s.WarmedH vm₁ ∧ Stand p l e R s m args below meth c B.U B.locs B.cells B.slots ∧ Post ⟨T.setVm vm₁, locs, cells, slots⟩ (Value.ref b :: argsL).toArray v B ∧
      ∀ target, Steps p.tables e below (B.U.setTop { g with pc := g.pc + 3, stack := v.toList ++ rest }) target → Steps p.tables e below (T.setTop g) target) ∨
    (∃ (q : Addr) (vm₁ : Vm) (B : Pt), s.WarmedH vm₁ ∧ Stand p l e R s m args below meth c B.U B.locs B.cells B.slots ∧ PostX ⟨T.setVm vm₁, locs, cells, slots⟩ (Value.ref b :: argsL).toArray q B ∧
      Steps p.tables e below (T.setTop g) ((B.U.setTop { g with stack := rest }).pushFrame (.throwing q))) := by
  obtain ⟨mk, methM, hnamed, hmethM, hstM, habM⟩ := Cond.instanceMethod_spec hinst
  obtain ⟨methM', cM, hmethM', -, -, -, -, -, -, hsigM⟩ := Cond.code_spec hnamed hcode
  cases hmethM.symm.trans hmethM'
  obtain ⟨c2, r2, m2, q1, q2, q3, q4, kP, hkP, hkPi⟩ := Cond.selects_spec hsel
  cases hcls.symm.trans q1
  cases (State.methodFound?_of_named hnamed hy).symm.trans q2
  cases hnamed.symm.trans q3
  have hselP : selectMethod e.platform s.vm cellB.cls mk = .method mk := by rw [Launch.admits_selectMethod X.admits]; exact q4
  obtain ⟨vm₁, X₁, hstep₁⟩ := X.invokevirtual hexec hown hlink hnamed hmethM hstM hkP hkPi hy (a := b) (cell := cellB) hcell
    (fun z h => by rw [h] at hobj; cases hobj) hselP hmethM habM hkP hkPi (g := g) hg (argsL := argsL) (rest := rest) (hlen _ hsigM) hstack hdg
  rcases hK m meth c ⟨T.setVm vm₁, locs, cells, slots⟩ { g with stack := rest } (.invokevirtual index) mk (Value.ref b :: argsL).toArray X₁ hg hsize hdg hW (X₁.named hnamed) (hpre vm₁ X₁.warmed) with ⟨v, B, X', hpost, hsteps⟩ | ⟨q, B, X', hpost, hsteps⟩
  · exact Or.inl ⟨v, vm₁, B, X₁.warmed, X', hpost, fun target h => hstep₁ _ fun acts => by rw [doInvoke_state]; exact hsteps.trans h⟩
  · exact Or.inr ⟨q, vm₁, B, X₁.warmed, X', hpost, hstep₁ _ fun acts => by rw [doInvoke_state]; exact hsteps⟩
theorem vx_callS (X : Stand p l e R s m args below meth c T locs cells slots) (hexec : p.tables.exec = Jvm.exec) {own : String} {index : Nat} {y : MethodName} {bytes : ByteArray} {maxL : Nat} {ret : Option FieldType}
    (hown : s.vm.findClass own = some m.cls) (hlink : (Cond.methodLink own index y).before args s = true) (hstat : (Cond.static y).before args s = true) (hinit : (Cond.initialized y.cls).before args s = true)
    (hcode : (Cond.code y bytes maxL ret).before args s = true) (hy : y.cls ≠ "java/lang/invoke/MethodHandle" ∧ y.cls ≠ "java/lang/invoke/VarHandle")
    {W9 : Nat} {Pre : Pt → Array Value → Prop} {Post : Pt → Array Value → Option Value → Pt → Prop} {PostX : Pt → Array Value → Addr → Pt → Prop} (hK : vx_Back l R p e below s args y 3 W9 Pre Post PostX)
    {g : JFrame} (hg : g.method = m) (hsize : g.locals.size = c.maxLocals) {argsL rest : List Value} (hlen : ∀ sig, parseMethodDescriptor y.desc = some sig → argsL.length = sig.parameters.length)
    (hstack : g.stack = argsL.reverse ++ rest) (hW : 2 * g.monitorRoom + (rest.map fun v => v.category).sum ≤ W9) (hdg : decode c.code g.pc = .ok (.invokestatic index, 3))
    (hpre : ∀ vm₁, s.WarmedH vm₁ → Pre ⟨T.setVm vm₁, locs, cells, slots⟩ argsL.toArray) :
    (∃ (v : Option Value) (vm₁ : Vm) (B : Pt), s.WarmedH vm₁ ∧ Stand p l e R s m args below meth c B.U B.locs B.cells B.slots ∧ Post ⟨T.setVm vm₁, locs, cells, slots⟩ argsL.toArray v B ∧
      ∀ target, Steps p.tables e below (B.U.setTop { g with pc := g.pc + 3, stack := v.toList ++ rest }) target → Steps p.tables e below (T.setTop g) target) ∨
    (∃ (q : Addr) (vm₁ : Vm) (B : Pt), s.WarmedH vm₁ ∧ Stand p l e R s m args below meth c B.U B.locs B.cells B.slots ∧ PostX ⟨T.setVm vm₁, locs, cells, slots⟩ argsL.toArray q B ∧
      Steps p.tables e below (T.setTop g) ((B.U.setTop { g with stack := rest }).pushFrame (.throwing q))) := by
  obtain ⟨mk, hnamed⟩ := Cond.code_named hcode
  obtain ⟨methM, cM, hmethM, -, -, -, -, -, -, hsigM⟩ := Cond.code_spec hnamed hcode
  have hstatic : methM.isStatic = true := Cond.static_spec hnamed hmethM hstat
  obtain ⟨kP, hkP, -⟩ := className_of_methodNamed hnamed
  have hinitP : kP.init = .initialized := Cond.initialized_spec (findClass_of_methodNamed hnamed) hkP hinit
  obtain ⟨vm₁, X₁, hstep₁⟩ := X.invokestatic hexec hown hlink hnamed hmethM hstatic hkP hinitP hy (g := g) hg (argsL := argsL) (rest := rest) (hlen _ hsigM) hstack hdg
  rcases hK m meth c ⟨T.setVm vm₁, locs, cells, slots⟩ { g with stack := rest } (.invokestatic index) mk argsL.toArray X₁ hg hsize hdg hW (X₁.named hnamed) (hpre vm₁ X₁.warmed) with ⟨v, B, X', hpost, hsteps⟩ | ⟨q, B, X', hpost, hsteps⟩
  · exact Or.inl ⟨v, vm₁, B, X₁.warmed, X', hpost, fun target h => hstep₁ _ fun acts => by rw [doInvoke_state]; exact hsteps.trans h⟩
  · exact Or.inr ⟨q, vm₁, B, X₁.warmed, X', hpost, hstep₁ _ fun acts => by rw [doInvoke_state]; exact hsteps⟩
end Calls
theorem vx_cls {s : State} {T : State} {vm₁ : Vm} {E : String} {k : ClassId} (hW : s.WarmedH vm₁) (h : (T.setVm vm₁).vm.findClass E = some k) : s.vm.findClass E = some k := by
  have h1 : vm₁.findClass E = some k := h
  rw [hW.alike.findClass] at h1
  exact h1
/-- the method's frame g, with q thrown over it -/
def vx_W (p : Program) (l : Launch) (e : Env) (R : Room) (s : State) (m : MethodId) (args : Array Value) (below : List Frame) (meth : Method) (c : Code) (H : Heap) (locs : List Loc) (cells slots : Nat) (Q : State → Prop) (g : JFrame) (q : Addr) : Prop :=
  ∀ T : State, T.heap = H → Stand p l e R s m args below meth c T locs cells slots → ∃ t, Steps p.tables e below ((T.setTop g).pushFrame (.throwing q)) t ∧ Q t
def vx_Run (p : Program) (l : Launch) (e : Env) (R : Room) (s : State) (m : MethodId) (args : Array Value) (below : List Frame) (meth : Method) (c : Code) (H : Heap) (locs : List Loc) (cells slots mc ms : Nat) (g : JFrame) (rest : List Value) (Qa : State → Outcome → State → Prop) (XC : String → State → State → Prop) (free : Addr → Prop) : Prop :=
  ∀ T : State, T.heap = H → Stand p l e R s m args below meth c T locs cells slots →
    (∃ (v : Option Value) (st₀ t T' : State) (L : List Loc), st₀.heap = H ∧ Stand p l e R s m args below meth c T' (locs ++ L) (cells + mc) (slots + ms) ∧ (∀ q ∈ L, free q.base) ∧ T'.heap = t.heap ∧ T'.vm = t.vm ∧ Qa st₀ (.returned v) t ∧
      Goes p e below T g T' { g with pc := g.pc + 3, stack := v.toList ++ rest }) ∨
    (∃ (q : Addr) (st₀ t T' : State) (L : List Loc) (E : String) (ce : Cell), st₀.heap = H ∧ Stand p l e R s m args below meth c T' (locs ++ L) (cells + mc) (slots + ms) ∧ (∀ z ∈ L, free z.base) ∧ T'.heap = t.heap ∧ T'.vm = t.vm ∧ XC E st₀ t ∧ t.heap[q]? = some ce ∧ ce.vm = .none ∧ s.vm.findClass E = some ce.cls ∧
      Steps p.tables e below (T.setTop g) ((T'.setTop { g with stack := rest }).pushFrame (.throwing q)))
def vx_X {S : Type} (px : S → Prop) (B : String → S → State → Prop) (A : Nat → Prop) : String → State → State → Prop := fun E st t => ∃ u : S, px u ∧ B E u t ∧ va_F A st t
section Runs
variable {p : Program} {l : Launch} {e : Env} {R : Room} {s : State} {m : MethodId} {args : Array Value} {below : List Frame} {meth : Method} {c : Code} {H : Heap} {locs : List Loc} {cells slots : Nat}
variable {y : MethodName} {bytes cc : ByteArray} {maxL nL mc ms n index : Nat} {ret : Option FieldType} {ws : List Cond} {rm : Room} {Pc : Array Value → State → Prop} {Qc : Array Value → State → Outcome → State → Prop} {XC : String → State → State → Prop} {free : Addr → Prop} {Ts : List Cond} {own C : String} {b : Addr} {As rest : List Value} {g : JFrame}
theorem vx_callBack (cb : CallB R s args own index y bytes maxL ret ws rm mc ms n) (hM : vx_Met l y ws rm Pc Qc XC mc ms free) (hbl : FrameBlind Pc) : vx_Back l R p e below s args y 3 8 (PreOf R mc ms Pc) (PostOf Qc mc ms free) (vx_Post XC mc ms free) := by
  obtain ⟨hrc, hrs, hfr, hlo, hws, hcw, -, hini, -⟩ := cb
  exact vx_back (bytes := bytes) (maxL := maxL) (ret := ret) hM hbl hrc hrs hfr hlo hws hcw (fun a' U hW => word_at hW (Or.inl (by first | rfl | simp [Cond.onTables, Cond.keeps, Cond.steady])) hini)
theorem vx_runV (S : CallFix p m c cc nL s args Ts own) (hM : vx_Met l y ws rm Pc Qc XC mc ms free) (cw : CallW R s args own C index y bytes maxL ret ws rm mc ms n) (hp : PreV s H C b Pc As)
    (hg : g.method = m) (hn : As.length = n) (hsize : g.locals.size = nL) (hstack : g.stack = As.reverse ++ .ref b :: rest) (hW : 2 * g.monitorRoom + (rest.map fun v => v.category).sum ≤ 8) (hdg : decode cc g.pc = .ok (.invokevirtual index, 3)) (hf : cells + mc ≤ R.cells ∧ slots + ms ≤ R.slots) :
    vx_Run p l e R s m args below meth c H locs cells slots mc ms g rest (Qc (Value.ref b :: As).toArray) XC free := by
  have hK : vx_Back l R p e below s args y 3 8 (PreOf R mc ms Pc) (PostOf Qc mc ms free) (vx_Post XC mc ms free) := vx_callBack cw.1 hM hp.1
  obtain ⟨⟨-, -, -, -, -, -, hcode, -, hy, hlen, hl⟩, hin, hse⟩ := cw
  obtain ⟨hx, hb, hml, ho, -⟩ := S
  obtain ⟨-, ⟨cellB, hcB, hoB, hclB⟩, hPc⟩ := hp
  intro T hT X
  rcases vx_callV X hx (C := C) (bytes := bytes) (maxL := maxL) (ret := ret) ho hl hin hse hcode hy hK (by rw [hT]; exact hcB) hoB hclB hg (hsize.trans hml.symm) (argsL := As) (rest := rest) (fun sig h => hn.trans (hlen sig h)) hstack hW (by rw [hb]; exact hdg)
    (fun vm₁ hW₁ => ⟨hf.1, hf.2, hPc (T.setVm vm₁) hT hW₁⟩) with ⟨v, vm₁, ⟨U', l2, c2, s2⟩, hW₁, X', ⟨g', mk, t, L, e1, e2, hq, h1, hL, h2, h3⟩, st⟩ | ⟨q, vm₁, ⟨U', l2, c2, s2⟩, hW₁, X', ⟨g', mk, t, L, E, ce, e1, e2, hq, hce, hcv, hcl, h1, hL, h2, h3⟩, st⟩
  · dsimp only [Pt.U, Pt.locs, Pt.cells, Pt.slots] at X' e1 e2 h1 h2 h3 st
    subst h1; subst h2; subst h3
    exact Or.inl ⟨v, (T.setVm vm₁).calling g' mk (Value.ref b :: As).toArray, t, U', L, hT, X', hL, e1, e2, hq, st⟩
  · dsimp only [Pt.U, Pt.locs, Pt.cells, Pt.slots] at X' e1 e2 h1 h2 h3 st hcl
    subst h1; subst h2; subst h3
    exact Or.inr ⟨q, (T.setVm vm₁).calling g' mk (Value.ref b :: As).toArray, t, U', L, E, ce, hT, X', hL, e1, e2, hq, hce, hcv, vx_cls hW₁ hcl, st⟩
theorem vx_runS (S : CallFix p m c cc nL s args Ts own) (hM : vx_Met l y ws rm Pc Qc XC mc ms free) (cw : CallB R s args own index y bytes maxL ret ws rm mc ms n ∧ (Cond.static y).before args s = true) (hp : PreS s H Pc As)
    (hg : g.method = m) (hn : As.length = n) (hsize : g.locals.size = nL) (hstack : g.stack = As.reverse ++ rest) (hW : 2 * g.monitorRoom + (rest.map fun v => v.category).sum ≤ 8) (hdg : decode cc g.pc = .ok (.invokestatic index, 3)) (hf : cells + mc ≤ R.cells ∧ slots + ms ≤ R.slots) :
    vx_Run p l e R s m args below meth c H locs cells slots mc ms g rest (Qc As.toArray) XC free := by
  have hK : vx_Back l R p e below s args y 3 8 (PreOf R mc ms Pc) (PostOf Qc mc ms free) (vx_Post XC mc ms free) := vx_callBack cw.1 hM hp.1
  obtain ⟨⟨-, -, -, -, -, -, hcode, hini, hy, hlen, hl⟩, hstt⟩ := cw
  obtain ⟨hx, hb, hml, ho, -⟩ := S
  intro T hT X
  rcases vx_callS X hx (bytes := bytes) (maxL := maxL) (ret := ret) ho hl hstt hini hcode hy hK hg (hsize.trans hml.symm) (argsL := As) (rest := rest) (fun sig h => hn.trans (hlen sig h)) hstack hW (by rw [hb]; exact hdg)
    (fun vm₁ hW₁ => ⟨hf.1, hf.2, hp.2 (T.setVm vm₁) hT hW₁⟩) with ⟨v, vm₁, ⟨U', l2, c2, s2⟩, hW₁, X', ⟨g', mk, t, L, e1, e2, hq, h1, hL, h2, h3⟩, st⟩ | ⟨q, vm₁, ⟨U', l2, c2, s2⟩, hW₁, X', ⟨g', mk, t, L, E, ce, e1, e2, hq, hce, hcv, hcl, h1, hL, h2, h3⟩, st⟩
  · dsimp only [Pt.U, Pt.locs, Pt.cells, Pt.slots] at X' e1 e2 h1 h2 h3 st
    subst h1; subst h2; subst h3
    exact Or.inl ⟨v, (T.setVm vm₁).calling g' mk As.toArray, t, U', L, hT, X', hL, e1, e2, hq, st⟩
  · dsimp only [Pt.U, Pt.locs, Pt.cells, Pt.slots] at X' e1 e2 h1 h2 h3 st hcl
    subst h1; subst h2; subst h3
    exact Or.inr ⟨q, (T.setVm vm₁).calling g' mk As.toArray, t, U', L, E, ce, hT, X', hL, e1, e2, hq, hce, hcv, vx_cls hW₁ hcl, st⟩
end Runs
section Rows
variable {p : Program} {l : Launch} {e : Env} {R : Room} {s : State} {m : MethodId} {args : Array Value} {below : List Frame} {meth : Method} {c : Code} {H : Heap} {locs : List Loc} {cells slots : Nat} {Q : State → Prop}
variable {mc ms : Nat} {free : Addr → Prop} {A0 A1 : Nat → Prop} {H0 : Heap} {a : Array Value} {pc : Nat} {ls : Array Slot} {st0 rest : List Value}
theorem vx_keep {st₀ t T' : State} {L : List Loc} (h0 : st₀.heap = H) (e1 : T'.heap = t.heap) (hS : va_S A0 H0 H locs) (hA : ∀ q, q < H.size → A1 q → A0 q) (hf : ∀ q, free q → A0 q) (hL : ∀ q ∈ L, free q.base) (hF : va_F A1 st₀ t) :
    H.size ≤ T'.heap.size ∧ (∀ q : Nat, q < H.size → ¬ A1 q → T'.heap[q]? = H[q]?) ∧ va_S A0 H0 T'.heap (locs ++ L) := by
  obtain ⟨hz, hk⟩ := hF
  rw [h0] at hz hk
  exact ⟨by rw [e1]; exact hz, fun q h1 h2 => by rw [e1]; exact hk q h1 h2,
    ⟨Nat.le_trans hS.1 (by rw [e1]; exact hz), fun q h1 h2 => by rw [e1, hk q (Nat.lt_of_lt_of_le h1 hS.1) (fun z => h2 (hA q (Nat.lt_of_lt_of_le h1 hS.1) z))]; exact hS.2.1 q h1 h2, fun q hq => by
      rcases List.mem_append.mp hq with h | h
      · exact hS.2.2 q h
      · exact hf _ (hL q h)⟩⟩
theorem vx_calli {S SX : Type} {post : Int32 → S → Prop} {px : SX → Prop} {B : S → State → Prop} {BX : String → SX → State → Prop} {AX : Nat → Prop} (hr : vx_Run p l e R s m args below meth c H locs cells slots mc ms (F0 m pc ls st0) rest (va_Qi post B A1 a) (vx_X px BX AX) free) (hS : va_S A0 H0 H locs) (hA : ∀ q, q < H.size → A1 q → A0 q) (hf : ∀ q, free q → A0 q) (hAX : ∀ q, q < H.size → AX q → A0 q)
    (kx : ∀ (E : String) (ce : Cell) (q9 : Addr) (u : SX) (t : State) (H1 : Heap) (locs1 : List Loc), t.heap = H1 → s.vm.Alike t.vm → px u → BX E u t → H.size ≤ H1.size → (∀ q : Nat, q < H.size → ¬ AX q → H1[q]? = H[q]?) → va_S A0 H0 H1 locs1 → H1[q9]? = some ce → ce.vm = .none → s.vm.findClass E = some ce.cls → vx_W p l e R s m args below meth c H1 locs1 (cells + mc) (slots + ms) Q (F0 m pc ls rest) q9)
    (kk : ∀ (r : Int32) (u : S) (t : State) (H1 : Heap) (locs1 : List Loc), t.heap = H1 → s.vm.Alike t.vm → post r u → B u t → H.size ≤ H1.size → (∀ q : Nat, q < H.size → ¬ A1 q → H1[q]? = H[q]?) → va_S A0 H0 H1 locs1 → W p l e R s m args below meth c H1 locs1 (cells + mc) (slots + ms) Q (F0 m (pc + 3) ls (.int r :: rest))) : W p l e R s m args below meth c H locs cells slots Q (F0 m pc ls st0) := by
  intro T hT X
  rcases hr T hT X with ⟨v, st₀, t, T', L, h0, X', hL, e1, e2, ⟨⟨r, u, hv, hp, hb⟩, hF⟩, st⟩ | ⟨q, st₀, t, T', L, E, ce, h0, X', hL, e1, e2, ⟨u, hp, hb, hF⟩, hce, hcv, hcl, st⟩
  · cases hv
    obtain ⟨k1, k2, k3⟩ := vx_keep h0 e1 hS hA hf hL hF
    obtain ⟨t2, a1, b1⟩ := kk r u t T'.heap (locs ++ L) e1.symm (by rw [← e2]; exact X'.warmed.alike) hp hb k1 k2 k3 T' rfl X'
    exact ⟨t2, st t2 a1, b1⟩
  · obtain ⟨k1, k2, k3⟩ := vx_keep h0 e1 hS hAX hf hL hF
    obtain ⟨t2, a1, b1⟩ := kx E ce q u t T'.heap (locs ++ L) e1.symm (by rw [← e2]; exact X'.warmed.alike) hp hb k1 k2 k3 (by rw [e1]; exact hce) hcv hcl T' rfl X'
    exact ⟨t2, st.trans a1, b1⟩
theorem vx_calll {S SX : Type} {post : Int64 → S → Prop} {px : SX → Prop} {B : S → State → Prop} {BX : String → SX → State → Prop} {AX : Nat → Prop} (hr : vx_Run p l e R s m args below meth c H locs cells slots mc ms (F0 m pc ls st0) rest (va_Ql post B A1 a) (vx_X px BX AX) free) (hS : va_S A0 H0 H locs) (hA : ∀ q, q < H.size → A1 q → A0 q) (hf : ∀ q, free q → A0 q) (hAX : ∀ q, q < H.size → AX q → A0 q)
    (kx : ∀ (E : String) (ce : Cell) (q9 : Addr) (u : SX) (t : State) (H1 : Heap) (locs1 : List Loc), t.heap = H1 → s.vm.Alike t.vm → px u → BX E u t → H.size ≤ H1.size → (∀ q : Nat, q < H.size → ¬ AX q → H1[q]? = H[q]?) → va_S A0 H0 H1 locs1 → H1[q9]? = some ce → ce.vm = .none → s.vm.findClass E = some ce.cls → vx_W p l e R s m args below meth c H1 locs1 (cells + mc) (slots + ms) Q (F0 m pc ls rest) q9)
    (kk : ∀ (r : Int64) (u : S) (t : State) (H1 : Heap) (locs1 : List Loc), t.heap = H1 → s.vm.Alike t.vm → post r u → B u t → H.size ≤ H1.size → (∀ q : Nat, q < H.size → ¬ A1 q → H1[q]? = H[q]?) → va_S A0 H0 H1 locs1 → W p l e R s m args below meth c H1 locs1 (cells + mc) (slots + ms) Q (F0 m (pc + 3) ls (.long r :: rest))) : W p l e R s m args below meth c H locs cells slots Q (F0 m pc ls st0) := by
  intro T hT X
  rcases hr T hT X with ⟨v, st₀, t, T', L, h0, X', hL, e1, e2, ⟨⟨r, u, hv, hp, hb⟩, hF⟩, st⟩ | ⟨q, st₀, t, T', L, E, ce, h0, X', hL, e1, e2, ⟨u, hp, hb, hF⟩, hce, hcv, hcl, st⟩
  · cases hv
    obtain ⟨k1, k2, k3⟩ := vx_keep h0 e1 hS hA hf hL hF
    obtain ⟨t2, a1, b1⟩ := kk r u t T'.heap (locs ++ L) e1.symm (by rw [← e2]; exact X'.warmed.alike) hp hb k1 k2 k3 T' rfl X'
    exact ⟨t2, st t2 a1, b1⟩
  · obtain ⟨k1, k2, k3⟩ := vx_keep h0 e1 hS hAX hf hL hF
    obtain ⟨t2, a1, b1⟩ := kx E ce q u t T'.heap (locs ++ L) e1.symm (by rw [← e2]; exact X'.warmed.alike) hp hb k1 k2 k3 (by rw [e1]; exact hce) hcv hcl T' rfl X'
    exact ⟨t2, st.trans a1, b1⟩
theorem vx_callf {S SX : Type} {post : UInt32 → S → Prop} {px : SX → Prop} {B : S → State → Prop} {BX : String → SX → State → Prop} {AX : Nat → Prop} (hr : vx_Run p l e R s m args below meth c H locs cells slots mc ms (F0 m pc ls st0) rest (va_Qf post B A1 a) (vx_X px BX AX) free) (hS : va_S A0 H0 H locs) (hA : ∀ q, q < H.size → A1 q → A0 q) (hf : ∀ q, free q → A0 q) (hAX : ∀ q, q < H.size → AX q → A0 q)
    (kx : ∀ (E : String) (ce : Cell) (q9 : Addr) (u : SX) (t : State) (H1 : Heap) (locs1 : List Loc), t.heap = H1 → s.vm.Alike t.vm → px u → BX E u t → H.size ≤ H1.size → (∀ q : Nat, q < H.size → ¬ AX q → H1[q]? = H[q]?) → va_S A0 H0 H1 locs1 → H1[q9]? = some ce → ce.vm = .none → s.vm.findClass E = some ce.cls → vx_W p l e R s m args below meth c H1 locs1 (cells + mc) (slots + ms) Q (F0 m pc ls rest) q9)
    (kk : ∀ (r : UInt32) (u : S) (t : State) (H1 : Heap) (locs1 : List Loc), t.heap = H1 → s.vm.Alike t.vm → post r u → B u t → H.size ≤ H1.size → (∀ q : Nat, q < H.size → ¬ A1 q → H1[q]? = H[q]?) → va_S A0 H0 H1 locs1 → W p l e R s m args below meth c H1 locs1 (cells + mc) (slots + ms) Q (F0 m (pc + 3) ls (.float r :: rest))) : W p l e R s m args below meth c H locs cells slots Q (F0 m pc ls st0) := by
  intro T hT X
  rcases hr T hT X with ⟨v, st₀, t, T', L, h0, X', hL, e1, e2, ⟨⟨r, u, hv, hp, hb⟩, hF⟩, st⟩ | ⟨q, st₀, t, T', L, E, ce, h0, X', hL, e1, e2, ⟨u, hp, hb, hF⟩, hce, hcv, hcl, st⟩
  · cases hv
    obtain ⟨k1, k2, k3⟩ := vx_keep h0 e1 hS hA hf hL hF
    obtain ⟨t2, a1, b1⟩ := kk r u t T'.heap (locs ++ L) e1.symm (by rw [← e2]; exact X'.warmed.alike) hp hb k1 k2 k3 T' rfl X'
    exact ⟨t2, st t2 a1, b1⟩
  · obtain ⟨k1, k2, k3⟩ := vx_keep h0 e1 hS hAX hf hL hF
    obtain ⟨t2, a1, b1⟩ := kx E ce q u t T'.heap (locs ++ L) e1.symm (by rw [← e2]; exact X'.warmed.alike) hp hb k1 k2 k3 (by rw [e1]; exact hce) hcv hcl T' rfl X'
    exact ⟨t2, st.trans a1, b1⟩
theorem vx_calld {S SX : Type} {post : UInt64 → S → Prop} {px : SX → Prop} {B : S → State → Prop} {BX : String → SX → State → Prop} {AX : Nat → Prop} (hr : vx_Run p l e R s m args below meth c H locs cells slots mc ms (F0 m pc ls st0) rest (va_Qd post B A1 a) (vx_X px BX AX) free) (hS : va_S A0 H0 H locs) (hA : ∀ q, q < H.size → A1 q → A0 q) (hf : ∀ q, free q → A0 q) (hAX : ∀ q, q < H.size → AX q → A0 q)
    (kx : ∀ (E : String) (ce : Cell) (q9 : Addr) (u : SX) (t : State) (H1 : Heap) (locs1 : List Loc), t.heap = H1 → s.vm.Alike t.vm → px u → BX E u t → H.size ≤ H1.size → (∀ q : Nat, q < H.size → ¬ AX q → H1[q]? = H[q]?) → va_S A0 H0 H1 locs1 → H1[q9]? = some ce → ce.vm = .none → s.vm.findClass E = some ce.cls → vx_W p l e R s m args below meth c H1 locs1 (cells + mc) (slots + ms) Q (F0 m pc ls rest) q9)
    (kk : ∀ (r : UInt64) (u : S) (t : State) (H1 : Heap) (locs1 : List Loc), t.heap = H1 → s.vm.Alike t.vm → post r u → B u t → H.size ≤ H1.size → (∀ q : Nat, q < H.size → ¬ A1 q → H1[q]? = H[q]?) → va_S A0 H0 H1 locs1 → W p l e R s m args below meth c H1 locs1 (cells + mc) (slots + ms) Q (F0 m (pc + 3) ls (.double r :: rest))) : W p l e R s m args below meth c H locs cells slots Q (F0 m pc ls st0) := by
  intro T hT X
  rcases hr T hT X with ⟨v, st₀, t, T', L, h0, X', hL, e1, e2, ⟨⟨r, u, hv, hp, hb⟩, hF⟩, st⟩ | ⟨q, st₀, t, T', L, E, ce, h0, X', hL, e1, e2, ⟨u, hp, hb, hF⟩, hce, hcv, hcl, st⟩
  · cases hv
    obtain ⟨k1, k2, k3⟩ := vx_keep h0 e1 hS hA hf hL hF
    obtain ⟨t2, a1, b1⟩ := kk r u t T'.heap (locs ++ L) e1.symm (by rw [← e2]; exact X'.warmed.alike) hp hb k1 k2 k3 T' rfl X'
    exact ⟨t2, st t2 a1, b1⟩
  · obtain ⟨k1, k2, k3⟩ := vx_keep h0 e1 hS hAX hf hL hF
    obtain ⟨t2, a1, b1⟩ := kx E ce q u t T'.heap (locs ++ L) e1.symm (by rw [← e2]; exact X'.warmed.alike) hp hb k1 k2 k3 (by rw [e1]; exact hce) hcv hcl T' rfl X'
    exact ⟨t2, st.trans a1, b1⟩
theorem vx_callv {S SX : Type} {post : S → Prop} {px : SX → Prop} {B : S → State → Prop} {BX : String → SX → State → Prop} {AX : Nat → Prop} (hr : vx_Run p l e R s m args below meth c H locs cells slots mc ms (F0 m pc ls st0) rest (va_Qv post B A1 a) (vx_X px BX AX) free) (hS : va_S A0 H0 H locs) (hA : ∀ q, q < H.size → A1 q → A0 q) (hf : ∀ q, free q → A0 q) (hAX : ∀ q, q < H.size → AX q → A0 q)
    (kx : ∀ (E : String) (ce : Cell) (q9 : Addr) (u : SX) (t : State) (H1 : Heap) (locs1 : List Loc), t.heap = H1 → s.vm.Alike t.vm → px u → BX E u t → H.size ≤ H1.size → (∀ q : Nat, q < H.size → ¬ AX q → H1[q]? = H[q]?) → va_S A0 H0 H1 locs1 → H1[q9]? = some ce → ce.vm = .none → s.vm.findClass E = some ce.cls → vx_W p l e R s m args below meth c H1 locs1 (cells + mc) (slots + ms) Q (F0 m pc ls rest) q9)
    (kk : ∀ (u : S) (t : State) (H1 : Heap) (locs1 : List Loc), t.heap = H1 → s.vm.Alike t.vm → post u → B u t → H.size ≤ H1.size → (∀ q : Nat, q < H.size → ¬ A1 q → H1[q]? = H[q]?) → va_S A0 H0 H1 locs1 → W p l e R s m args below meth c H1 locs1 (cells + mc) (slots + ms) Q (F0 m (pc + 3) ls (rest))) : W p l e R s m args below meth c H locs cells slots Q (F0 m pc ls st0) := by
  intro T hT X
  rcases hr T hT X with ⟨v, st₀, t, T', L, h0, X', hL, e1, e2, ⟨⟨u, hv, hp, hb⟩, hF⟩, st⟩ | ⟨q, st₀, t, T', L, E, ce, h0, X', hL, e1, e2, ⟨u, hp, hb, hF⟩, hce, hcv, hcl, st⟩
  · cases hv
    obtain ⟨k1, k2, k3⟩ := vx_keep h0 e1 hS hA hf hL hF
    obtain ⟨t2, a1, b1⟩ := kk u t T'.heap (locs ++ L) e1.symm (by rw [← e2]; exact X'.warmed.alike) hp hb k1 k2 k3 T' rfl X'
    exact ⟨t2, st t2 a1, b1⟩
  · obtain ⟨k1, k2, k3⟩ := vx_keep h0 e1 hS hAX hf hL hF
    obtain ⟨t2, a1, b1⟩ := kx E ce q u t T'.heap (locs ++ L) e1.symm (by rw [← e2]; exact X'.warmed.alike) hp hb k1 k2 k3 (by rw [e1]; exact hce) hcv hcl T' rfl X'
    exact ⟨t2, st.trans a1, b1⟩
end Rows
section Ends
variable {p : Program} {l : Launch} {e : Env} {R : Room} {s : State} {m : MethodId} {args : Array Value} {below : List Frame} {meth : Method} {c : Code} {H : Heap} {locs : List Loc} {cells slots : Nat} {Q : State → Prop}
variable {mc ms : Nat} {free : Addr → Prop} {A0 A1 : Nat → Prop} {H0 : Heap} {a : Array Value} {ls : Array Slot} {st0 rest : List Value}
variable {Qc : Array Value → State → Outcome → State → Prop} {XC : String → State → State → Prop}
/-- what a body that may throw owes at its end -/
def vx_MQ (below : List Frame) (Qc : Array Value → State → Outcome → State → Prop) (XC : String → State → State → Prop) (a : Array Value) (s : State) (mc ms : Nat) (free : Addr → Prop) : State → Prop := fun t =>
  ∃ o, t.status = .running ∧ Ended t below o ∧ vx_Q Qc XC mc ms free a s o t
theorem vx_ret {g : JFrame} {mc ms : Nat} (k : W p l e R s m args below meth c H locs cells slots (MQ below Qc args s mc ms free) g) : W p l e R s m args below meth c H locs cells slots (vx_MQ below Qc XC args s mc ms free) g := by
  intro T hT X
  obtain ⟨t, a1, o, b1, b2, b3, b4⟩ := k T hT X
  exact ⟨t, a1, o, b1, b2, Or.inl ⟨b3, b4⟩⟩
/-- not caught here: it goes on to the caller -/
theorem vx_widen {g : JFrame} {q : Addr} {k n : Nat} (h1 : cells ≤ k) (h2 : slots ≤ n) (kk : vx_W p l e R s m args below meth c H locs k n Q g q) : vx_W p l e R s m args below meth c H locs cells slots Q g q := fun T hT X => kk T hT (stand_widen X h1 h2)
theorem vx_out {pc : Nat} {E : String} {ce : Cell} {q : Addr} {mc ms : Nat} (hout : ∀ x ∈ c.exceptionTable.toList, covers x pc = false) (hlocks : meth.locks = false) (hcell : H[q]? = some ce) (hv : ce.vm = .none) (hcl : s.vm.findClass E = some ce.cls)
    (hx : ∀ t : State, t.heap = H → s.vm.Alike t.vm → XC E s t) (hf : ∀ z ∈ locs, free z.base) (hc : cells ≤ mc) (hs : slots ≤ ms) :
    vx_W p l e R s m args below meth c H locs cells slots (vx_MQ below Qc XC args s mc ms free) (F0 m pc ls rest) q := by
  intro T hT X
  obtain ⟨st1, hrun, hend, hW, hsm⟩ := X.leaveThrown q (g := F0 m pc ls rest) rfl rfl rfl hout hlocks
  have hcell9 : (T.setFrames (.throwing q :: below)).heap[q]? = some ce := by
    show T.heap[q]? = some ce
    rw [hT]; exact hcell
  exact ⟨_, st1, .threw q, hrun, hend, Or.inr ⟨q, rfl, E, ce, locs, hx _ hT hW.alike, hcell9, hv, hcl, hW, hsm.mono hc hs, hf⟩⟩
theorem vx_frame {U : State} {k n : Nat} (h : s.sameButNew ({ U with vm := s.vm } : State) locs k n) : s.heap.size ≤ U.heap.size ∧ ∀ q : Nat, q < s.heap.size → (∀ z ∈ locs, z.base ≠ q) → U.heap[q]? = s.heap[q]? := by
  obtain ⟨-, h2, -, -, -, h6⟩ := h
  refine ⟨h2, fun q hq hz => ?_⟩
  obtain ⟨c9, e1, e2, e3, e4⟩ := h6 q _ (Array.getElem?_eq_getElem hq)
  have hs : c9.slots = (s.heap[q]).slots := Array.ext_getElem? fun i => e4 i fun hm => hz _ hm rfl
  have h9 : c9 = s.heap[q] := by
    rw [hs] at e2
    exact e2
  have e5 : U.heap[q]? = some c9 := e1
  rw [e5, h9, Array.getElem?_eq_getElem hq]
/-- the words of a throw but the four that speak of the heap -/
def vx_no (w : Cond) : Bool := decide (w ≠ .isRef (.static Bundle.tN "UNASSIGNED_STACK" Bundle.steD)) && decide (w ≠ .isRef (.static Bundle.tN "SUPPRESSED_SENTINEL" Bundle.listD)) && decide (w ≠ .laysStatic Bundle.tN "UNASSIGNED_STACK" Bundle.steD) && decide (w ≠ .laysStatic Bundle.tN "SUPPRESSED_SENTINEL" Bundle.listD)
def vx_at0 (own : String) (ic : Nat) (X : String) (names : List String) : List Cond := (Bundle.ownAtoms0 own ic X names).filter vx_no
def vx_atS (own : String) (ic : Nat) (X : String) (names : List String) : List Cond := (Bundle.ownAtoms own ic X names).filter vx_no
/-- a word that the tables alone decide, or a good one -/
def vx_ot (w : Cond) : Bool := w.onTables || goodWord w
theorem vx_ot_at {args a' : Array Value} {s U : State} {w : Cond} (hW : s.WarmedH U.vm) (hvm : s.vm = U.vm) (hg : vx_ot w = true) (h : w.before args s = true) : w.before a' U = true := by
  simp only [vx_ot, Bool.or_eq_true] at hg
  rcases hg with hg | hg
  · exact va_tabs hg hvm h
  · exact word_at hW (good_of_word hg) h
/-- a list's words: the good ones out of the method's own list, the others by premises of their own -/
theorem vx_hat {args : Array Value} {s : State} {L B : List Cond} (h1 : ∀ w ∈ L.filter goodWord, w.before args s = true) (h2 : ∀ w ∈ L.filter (fun w => !goodWord w), w ∈ B) (h3 : ∀ w ∈ B, w.before args s = true) : ∀ w ∈ L, w.before args s = true := by
  intro w hw
  by_cases g : goodWord w = true
  · exact h1 w (List.mem_filter.mpr ⟨hw, g⟩)
  · refine h3 w (h2 w (List.mem_filter.mpr ⟨hw, ?_⟩))
    show (!goodWord w) = true
    cases hgw : goodWord w
    · rfl
    · exact absurd hgw g
theorem vx_c {args : Array Value} {s : State} {w : Cond} {B : List Cond} (h : w.before args s = true) (t : ∀ w ∈ B, w.before args s = true) : ∀ w' ∈ w :: B, w'.before args s = true := fun w' h' => (List.mem_cons.mp h').elim (fun e => by rw [e]; exact h) (t w')
theorem vx_n {args : Array Value} {s : State} : ∀ w ∈ ([] : List Cond), w.before args s = true := fun _ h => nomatch h
theorem vx_own {args : Array Value} {s : State} {L : List Cond} (h1 : ∀ w ∈ L.filter vx_no, w.before args s = true)
    (hU : (Cond.isRef (.static Bundle.tN "UNASSIGNED_STACK" Bundle.steD)).before args s = true) (hN : (Cond.isRef (.static Bundle.tN "SUPPRESSED_SENTINEL" Bundle.listD)).before args s = true)
    (lU : (Cond.laysStatic Bundle.tN "UNASSIGNED_STACK" Bundle.steD).before args s = true) (lN : (Cond.laysStatic Bundle.tN "SUPPRESSED_SENTINEL" Bundle.listD).before args s = true) : ∀ w ∈ L, w.before args s = true := by
  intro w hw
  by_cases e1 : w = .isRef (.static Bundle.tN "UNASSIGNED_STACK" Bundle.steD)
  · rw [e1]; exact hU
  · by_cases e2 : w = .isRef (.static Bundle.tN "SUPPRESSED_SENTINEL" Bundle.listD)
    · rw [e2]; exact hN
    · by_cases e3 : w = .laysStatic Bundle.tN "UNASSIGNED_STACK" Bundle.steD
      · rw [e3]; exact lU
      · by_cases e4 : w = .laysStatic Bundle.tN "SUPPRESSED_SENTINEL" Bundle.listD
        · rw [e4]; exact lN
        · exact h1 w (List.mem_filter.mpr ⟨hw, by unfold vx_no; rw [decide_eq_true e1, decide_eq_true e2, decide_eq_true e3, decide_eq_true e4]; rfl⟩)
/-- where a static field lies, its class's statics cell in H -/
def vx_L (C n d : String) (A : Nat → Prop) (U : State) (H : Heap) : Prop := ∃ (c : ClassId) (k : Class) (i : Nat) (f : Field) (a : Nat) (cell : Cell), U.vm.findClass C = some c ∧ U.fieldFound? C n d = some (c, k, i, f) ∧ f.isStatic = true ∧ k.statics = some a ∧ H[a]? = some cell ∧ cell.vm.isStatics = true ∧ cell.cls = c ∧ f.slot < cell.slots.size ∧ k.staticTypes[f.slot]? = some f.type ∧ ¬ A a
theorem vx_L.moved {C n d : String} {A : Nat → Prop} {u U : State} {H : Heap} (hvm : u.vm.Alike U.vm) (h : vx_L C n d A u H) : vx_L C n d A U H := by
  obtain ⟨c, k, i, f, a, cell, h1, h2, h3, h4, h5, h6, h7, h8, h9, h10⟩ := h
  obtain ⟨k', hi', he⟩ := State.fieldFound?_setVm hvm h2
  exact ⟨c, k', i, f, a, cell, by rw [hvm.findClass]; exact h1, hi', h3, by rw [he]; exact h4, h5, h6, h7, h8, by rw [he]; exact h9, h10⟩
theorem vx_L.kept {C n d : String} {A : Nat → Prop} {U : State} {H H1 : Heap} (h : vx_L C n d A U H) (hq : ∀ a : Nat, a < H.size → ¬ A a → H1[a]? = H[a]?) : vx_L C n d A U H1 := by
  obtain ⟨c, k, i, f, a, cell, h1, h2, h3, h4, h5, h6, h7, h8, h9, h10⟩ := h
  exact ⟨c, k, i, f, a, cell, h1, h2, h3, h4, by rw [hq a (Array.getElem?_eq_some_iff.mp h5).1 h10]; exact h5, h6, h7, h8, h9, h10⟩
theorem vx_L.narrow {C n d : String} {A B : Nat → Prop} {U : State} {H : Heap} (h : vx_L C n d A U H) (hAB : ∀ q, B q → A q) : vx_L C n d B U H := by
  obtain ⟨c, k, i, f, a, cell, h1, h2, h3, h4, h5, h6, h7, h8, h9, h10⟩ := h
  exact ⟨c, k, i, f, a, cell, h1, h2, h3, h4, h5, h6, h7, h8, h9, fun z => h10 (hAB _ z)⟩
theorem vx_L.word {C n d : String} {A : Nat → Prop} {s : State} {args : Array Value} (h : vx_L C n d A s s.heap) : (Cond.laysStatic C n d).before args s = true := by
  obtain ⟨c, k, i, f, a, cell, h1, h2, h3, h4, h5, h6, h7, h8, h9, -⟩ := h
  show (Cond.laysStatic C n d).holds args s none s [] = true
  exact Cond.laysStatic_of h1 h2 h3 h4 h5 h6 h7 h8 h9
/-- .. and what it holds: null or some reference -/
def vx_Zq (C n d : String) (A : Nat → Prop) (U : State) (H : Heap) : Prop := va_Zq C n d A U H ∧ vx_L C n d A U H
theorem vx_Zq.moved {C n d : String} {A : Nat → Prop} {u U : State} {H : Heap} (hvm : u.vm.Alike U.vm) (h : vx_Zq C n d A u H) : vx_Zq C n d A U H := ⟨va_Zq.moved hvm h.1, vx_L.moved hvm h.2⟩
theorem vx_Zq.kept {C n d : String} {A : Nat → Prop} {U : State} {H H1 : Heap} (h : vx_Zq C n d A U H) (hq : ∀ a : Nat, a < H.size → ¬ A a → H1[a]? = H[a]?) : vx_Zq C n d A U H1 := ⟨va_Zq.kept h.1 hq, vx_L.kept h.2 hq⟩
theorem vx_Zq.narrow {C n d : String} {A B : Nat → Prop} {U : State} {H : Heap} (h : vx_Zq C n d A U H) (hAB : ∀ q, B q → A q) : vx_Zq C n d B U H := ⟨va_Zq.narrow h.1 hAB, vx_L.narrow h.2 hAB⟩
theorem vx_Zqof {args : Array Value} {s : State} {C n d : String} {A : Nat → Prop} (hl : (Cond.laysStatic C n d).before args s = true) (hini : (Cond.initialized C).before args s = true) (h : (Cond.isRef (.static C n d)).before args s = true) (hA : ∀ a : Nat, a < s.heap.size → ¬ A a) : vx_Zq C n d A s s.heap := by
  refine ⟨va_Zqof hl hini h hA, ?_⟩
  obtain ⟨c, k, i, f, a, cell, h1, h2, h3, h4, h5, h6, h7, h8, h9⟩ := Cond.laysStatic_spec hl
  exact ⟨c, k, i, f, a, cell, h1, h2, h3, h4, h5, h6, h7, h8, h9, hA a (Array.getElem?_eq_some_iff.mp h5).1⟩
theorem vx_isRef {C n d : String} {v : Value} {A : Nat → Prop} {s : State} {args : Array Value} (h : va_Z C n d v A s s.heap) (hv : v.isRef = true) : (Cond.isRef (.static C n d)).before args s = true := by
  obtain ⟨cf, kf, fi, f, a, cell, h1, h2, h3, h4, h5, h6, h7, -⟩ := h
  have he : (Term.static C n d).eval args s none [] s = some v := by
    simp [Term.eval, State.fieldNamed?, h1, h2, h4, h5, h6, h7]
  simp only [Cond.before, Cond.holds, Cond.value, he]
  cases v <;> simp_all [Value.isRef]
theorem vx_isRefq {C n d : String} {A : Nat → Prop} {s : State} {args : Array Value} (h : va_Zq C n d A s s.heap) : (Cond.isRef (.static C n d)).before args s = true := by
  rcases h with h | ⟨t, h⟩
  · exact vx_isRef h rfl
  · exact vx_isRef h rfl
/-- the same frame, seen from here: as if the method were called anew in this heap -/
theorem vx_rebase {T : State} (X : Stand p l e R s m args below meth c T locs cells slots) {R' : Room} (hf : R'.frames ≤ R.frames) (hl : R'.locals ≤ R.locals) (hc : cells + R'.cells ≤ R.cells) (hs : slots + R'.slots ≤ R.slots) :
    Stand p l e R' ((T.setVm s.vm).setFrames (.invoking m args :: below)) m args below meth c T [] 0 0 := by
  have htop : (T.setVm s.vm).topJava?.isSome := X.here.top
  have hF : ((T.setVm s.vm).setFrames (.invoking m args :: below)).frames = .invoking m args :: below := State.frames_setFrames _ (State.cur_lt_of_top htop)
  obtain ⟨g₀, hg0⟩ := Option.isSome_iff_exists.mp htop
  obtain ⟨r, hr⟩ := State.topJava?_eq_some.mp hg0
  have hl9 : e.platform.stackLimits (T.setVm s.vm).me = e.platform.stackLimits s.me := X.limits
  have hb9 : (T.setVm s.vm).me.stackBytes = s.me.stackBytes := X.bytes
  refine ⟨X.admits, X.cas, X.clock, hF, ?_, X.hears, X.method, X.code, X.here, X.tail, X.warmed, ?_, ?_, ?_⟩
  · have h := X.room
    have hU : ((T.setVm s.vm).setFrames (.invoking m args :: below)).localsInUse = s.localsInUse := by
      rw [State.localsInUse_invoking hF (meth := meth) (c := c) X.method X.code, State.localsInUse_invoking X.frames X.method X.code]
    simp only [State.hasRoom, Bool.and_eq_true, decide_eq_true_eq] at h ⊢
    obtain ⟨⟨⟨⟨h1, h2, h3, h4, h5, h6⟩, h7⟩, h8⟩, h9⟩ := h
    rw [X.frames, List.length_cons] at h2 h3
    have q1 := X.heapSize
    have q2 := X.used
    simp only [hF, hU, List.length_cons, State.stackLimits_setFrames, State.stackBytes_setFrames, hl9, hb9]
    refine ⟨⟨⟨⟨by omega, by omega, by omega, by omega, by omega, h6⟩, ?_⟩, ?_⟩, X.book⟩
    · show T.heap.size + R'.cells ≤ e.platform.maxCells
      omega
    · show T.slotsUsed + R'.slots ≤ e.platform.maxSlots
      omega
  · rw [State.stackLimits_setFrames]; rfl
  · rw [State.stackBytes_setFrames]; rfl
  · refine ⟨?_, Nat.le_refl _, Nat.le_refl _, ?_, ?_, fun a c9 h9 => ⟨c9, h9, rfl, rfl, fun _ _ => rfl⟩⟩
    · obtain ⟨t, ht, -⟩ := State.frames_cons hr
      show T.setVm s.vm = { ((T.setVm s.vm).setFrames (.invoking m args :: below)).setFrames (T.setVm s.vm).frames with heap := T.heap, slotsUsed := T.slotsUsed }
      rw [State.setFrames_setFrames, State.setFrames_self ht]
      rfl
    · show T.slotsUsed = T.slotsUsed + ((T.heap.toList.drop T.heap.size).map (·.slots.size)).sum
      rw [List.drop_eq_nil_of_le (Nat.le_of_eq Array.length_toList)]
      rfl
    · show ((T.heap.toList.drop T.heap.size).map (·.slots.size)).sum ≤ 0
      rw [List.drop_eq_nil_of_le (Nat.le_of_eq Array.length_toList)]
      exact Nat.le_refl _
/-- 'throw new E()': new; dup; invokespecial; athrow -/
theorem vx_throw0 {cc : ByteArray} {pc : Nat} (hexec : p.tables.exec = Jvm.exec) (hb : c.code = cc) (hl : l.stackTraces = false) {own cls : String} {names : List String} {ik ic mc ms : Nat} {A : Nat → Prop}
    (hown : s.vm.findClass own = some m.cls) (hcls : Bundle.fit cls = true) (hnames : ∀ n ∈ names, Bundle.fit n = true)
    (hk : (Cond.classLink own ik cls).before args s = true) (hini : (Cond.initialized cls).before args s = true) (hat : ∀ w ∈ vx_at0 own ic cls names, w.before args s = true)
    (hgood : ∀ w ∈ Cond.classLink own ik cls :: Cond.initialized cls :: vx_at0 own ic cls names, vx_ot w = true)
    (hU : vx_Zq Bundle.tN "UNASSIGNED_STACK" Bundle.steD A s s.heap) (hN : vx_Zq Bundle.tN "SUPPRESSED_SENTINEL" Bundle.listD A s s.heap) (hS : va_S A s.heap H locs) (hsize : ls.size = c.maxLocals)
    (d0 : decode cc pc = .ok (.new ik, 3)) (d3 : decode cc (pc + 3) = .ok (.dup, 1)) (d4 : decode cc (pc + 4) = .ok (.invokespecial ic, 3)) (d7 : decode cc (pc + 7) = .ok (.athrow, 1))
    (hout : ∀ x ∈ c.exceptionTable.toList, covers x (pc + 7) = false)
    (hRframes : names.length + 3 < R.frames) (hRlocals : (rest.map fun v => v.category).sum + (13 * (names.length + 1) + 42) ≤ R.locals) (hRcells : cells + 1 ≤ R.cells) (hRslots : slots + 6 ≤ R.slots) (hlocks : meth.locks = false)
    (hx : ∀ t : State, s.vm.Alike t.vm → H.size ≤ t.heap.size → (∀ q : Nat, q < H.size → t.heap[q]? = H[q]?) → XC cls s t)
    (hf : ∀ z ∈ locs, free z.base) (hc : cells + 1 ≤ mc) (hs : slots + 6 ≤ ms) :
    W p l e R s m args below meth c H locs cells slots (vx_MQ below Qc XC args s mc ms free) (F0 m pc ls rest) := by
  intro T hT X
  have htr : e.platform.stackTraces = false := (show e.platform.stackTraces = l.stackTraces by rw [X.admits.platform]).trans hl
  have Y := vx_rebase X (R' := { frames := R.frames, locals := R.locals, cells := 1, slots := 6 }) (Nat.le_refl _) (Nat.le_refl _) hRcells hRslots
  obtain ⟨s', hA⟩ : ∃ z, z = (T.setVm s.vm).setFrames (.invoking m args :: below) := ⟨_, rfl⟩
  rw [← hA] at Y
  have hvm : s'.vm = s.vm := by rw [hA]; rfl
  have hhp : s'.heap = H := by rw [hA]; exact hT
  have hW0 : s.WarmedH s'.vm := by rw [hvm]; exact State.WarmedH.refl s
  have hat' : ∀ w ∈ vx_at0 own ic cls names, w.before args s' = true := fun w hw => vx_ot_at hW0 hvm.symm (hgood w (List.mem_cons_of_mem _ (List.mem_cons_of_mem _ hw))) (hat w hw)
  have hk' : (Cond.classLink own ik cls).before args s' = true := vx_ot_at hW0 hvm.symm (hgood _ List.mem_cons_self) hk
  have hini' : (Cond.initialized cls).before args s' = true := vx_ot_at hW0 hvm.symm (hgood _ (List.mem_cons_of_mem _ List.mem_cons_self)) hini
  have hU' : vx_Zq Bundle.tN "UNASSIGNED_STACK" Bundle.steD A s' s'.heap := by rw [hhp]; exact vx_Zq.moved hW0.alike (hU.kept hS.2.1)
  have hN' : vx_Zq Bundle.tN "SUPPRESSED_SENTINEL" Bundle.listD A s' s'.heap := by rw [hhp]; exact vx_Zq.moved hW0.alike (hN.kept hS.2.1)
  have h : ∀ w ∈ Bundle.ownAtoms0 own ic cls names, w.before args s' = true := vx_own hat' (vx_isRefq hU'.1) (vx_isRefq hN'.1) hU'.2.word hN'.2.word
  have hown' : s'.vm.findClass own = some m.cls := by rw [hvm]; exact hown
  have hins : (Cond.instantiable cls 6).before args s' = true := h _ (by simp [Bundle.ownAtoms0])
  obtain ⟨vm₁, cX, kX, hfX, hkX, -, -, X₁, st1⟩ := Y.newCold hexec (own := own) (C := cls) (index := ik) (n := 6) hown' hk' hins hini'
    (g := F0 m pc ls rest) rfl (by rw [hb]; exact d0) (Nat.le_refl _) (Nat.le_refl _)
  generalize hT1 : (T.setVm vm₁).pushCell { cls := cX, slots := kX.instanceTypes.map defaultValue, vm := .none } = T1 at X₁ st1
  have hcat : (Value.ref T.heap.size).category = 1 := rfl
  have hcellA : T1.heap[T.heap.size]? = some (freshCell cX kX) := by rw [← hT1]; exact State.heap_pushCell_size _ _
  have d3' : decode c.code (pc + 3) = .ok (.dup, 1) := by rw [hb]; exact d3
  obtain ⟨U, hsteps, hrun, hend, hW, hsame, ce, hce, hO⟩ := X₁.ctorThrow0 hexec htr (own := own) (cls := cls) (names := names) (ic := ic) hown' hcls hnames h (fun x hx => nomatch hx) hfX hkX hcellA (by rw [hhp, hT]; exact Nat.le_refl _)
    (g := { method := m, pc := pc + 4, locals := ls, stack := .ref T.heap.size :: .ref T.heap.size :: rest, locked := none }) rfl hsize rfl rfl (rest := rest) rfl
    (by rw [hb]; exact d4) (by rw [hb]; exact d7) hout hRframes (by simp only [List.map_cons, List.sum_cons, hcat]; omega) hlocks
  obtain ⟨f1, f2⟩ := vx_frame hsame
  rw [hhp] at f1 f2
  have hWs : s.WarmedH U.vm := State.WarmedH.trans hW0 hW
  have hcl : s.vm.findClass cls = some ce.cls := by
    have h9 := hO.cls
    rw [hvm] at h9
    exact h9
  have hall : s.sameButNew ({ U with vm := s.vm } : State) locs mc ms := by
    subst hA
    obtain ⟨e1, e2⟩ := hsame
    rw [State.setFrames_setFrames] at e1
    have h2 : (T.setVm s.vm).sameButNew ({ U with vm := s.vm } : State) [] (0 + 1) (0 + 6) := ⟨e1, e2⟩
    have h3 := X.same.trans h2
    rw [List.append_nil] at h3
    exact h3.mono hc hs
  refine ⟨U, ?_, .threw T.heap.size, hrun, hend, Or.inr ⟨T.heap.size, rfl, cls, ce, locs, hx U hWs.alike f1 (fun q hq => f2 q hq (fun z hz => nomatch hz)), hce, hO.vm, hcl, hWs, hall, hf⟩⟩
  refine st1 _ ?_
  show Steps p.tables e below (T1.setTop { method := m, pc := pc + 3, locals := ls, stack := .ref T.heap.size :: rest, locked := none }) _
  jvm_step X₁.here [X₁.here.top, hexec, d3', Value.category]
  exact hsteps
/-- 'throw new E("text")': new; dup; ldc; invokespecial; athrow -/
theorem vx_throwS {cc : ByteArray} {pc : Nat} (hexec : p.tables.exec = Jvm.exec) (hb : c.code = cc) (hl : l.stackTraces = false) {own cls text : String} {names : List String} {ik is ic mc ms sa : Nat} {A : Nat → Prop}
    (hown : s.vm.findClass own = some m.cls) (hcls : Bundle.fit cls = true) (hnames : ∀ n ∈ names, Bundle.fit n = true)
    (hk : (Cond.classLink own ik cls).before args s = true) (hini : (Cond.initialized cls).before args s = true) (hstr : vk_R own is text sa s) (hat : ∀ w ∈ vx_atS own ic cls names, w.before args s = true)
    (hgood : ∀ w ∈ Cond.classLink own ik cls :: Cond.initialized cls :: vx_atS own ic cls names, vx_ot w = true)
    (hU : vx_Zq Bundle.tN "UNASSIGNED_STACK" Bundle.steD A s s.heap) (hN : vx_Zq Bundle.tN "SUPPRESSED_SENTINEL" Bundle.listD A s s.heap) (hS : va_S A s.heap H locs) (hsize : ls.size = c.maxLocals)
    (d0 : decode cc pc = .ok (.new ik, 3)) (d3 : decode cc (pc + 3) = .ok (.dup, 1)) (d4 : decode cc (pc + 4) = .ok (.ldc is, 2)) (d6 : decode cc (pc + 6) = .ok (.invokespecial ic, 3)) (d9 : decode cc (pc + 9) = .ok (.athrow, 1))
    (hout : ∀ x ∈ c.exceptionTable.toList, covers x (pc + 9) = false)
    (hRframes : names.length + 3 < R.frames) (hRlocals : (rest.map fun v => v.category).sum + (13 * (names.length + 1) + 43) ≤ R.locals) (hRcells : cells + 1 ≤ R.cells) (hRslots : slots + 6 ≤ R.slots) (hlocks : meth.locks = false)
    (hx : ∀ t : State, s.vm.Alike t.vm → H.size ≤ t.heap.size → (∀ q : Nat, q < H.size → t.heap[q]? = H[q]?) → XC cls s t)
    (hf : ∀ z ∈ locs, free z.base) (hc : cells + 1 ≤ mc) (hs : slots + 6 ≤ ms) :
    W p l e R s m args below meth c H locs cells slots (vx_MQ below Qc XC args s mc ms free) (F0 m pc ls rest) := by
  intro T hT X
  have htr : e.platform.stackTraces = false := (show e.platform.stackTraces = l.stackTraces by rw [X.admits.platform]).trans hl
  have Y := vx_rebase X (R' := { frames := R.frames, locals := R.locals, cells := 1, slots := 6 }) (Nat.le_refl _) (Nat.le_refl _) hRcells hRslots
  obtain ⟨s', hA⟩ : ∃ z, z = (T.setVm s.vm).setFrames (.invoking m args :: below) := ⟨_, rfl⟩
  rw [← hA] at Y
  have hvm : s'.vm = s.vm := by rw [hA]; rfl
  have hhp : s'.heap = H := by rw [hA]; exact hT
  have hW0 : s.WarmedH s'.vm := by rw [hvm]; exact State.WarmedH.refl s
  have hat' : ∀ w ∈ vx_atS own ic cls names, w.before args s' = true := fun w hw => vx_ot_at hW0 hvm.symm (hgood w (List.mem_cons_of_mem _ (List.mem_cons_of_mem _ hw))) (hat w hw)
  have hk' : (Cond.classLink own ik cls).before args s' = true := vx_ot_at hW0 hvm.symm (hgood _ List.mem_cons_self) hk
  have hini' : (Cond.initialized cls).before args s' = true := vx_ot_at hW0 hvm.symm (hgood _ (List.mem_cons_of_mem _ List.mem_cons_self)) hini
  have hU' : vx_Zq Bundle.tN "UNASSIGNED_STACK" Bundle.steD A s' s'.heap := by rw [hhp]; exact vx_Zq.moved hW0.alike (hU.kept hS.2.1)
  have hN' : vx_Zq Bundle.tN "SUPPRESSED_SENTINEL" Bundle.listD A s' s'.heap := by rw [hhp]; exact vx_Zq.moved hW0.alike (hN.kept hS.2.1)
  have h : ∀ w ∈ Bundle.ownAtoms own ic cls names, w.before args s' = true := vx_own hat' (vx_isRefq hU'.1) (vx_isRefq hN'.1) hU'.2.word hN'.2.word
  have hown' : s'.vm.findClass own = some m.cls := by rw [hvm]; exact hown
  have hins : (Cond.instantiable cls 6).before args s' = true := h _ (by simp [Bundle.ownAtoms])
  obtain ⟨vm₁, cX, kX, hfX, hkX, -, -, X₁, st1⟩ := Y.newCold hexec (own := own) (C := cls) (index := ik) (n := 6) hown' hk' hins hini'
    (g := F0 m pc ls rest) rfl (by rw [hb]; exact d0) (Nat.le_refl _) (Nat.le_refl _)
  generalize hT1 : (T.setVm vm₁).pushCell { cls := cX, slots := kX.instanceTypes.map defaultValue, vm := .none } = T1 at X₁ st1
  have hcat : (Value.ref T.heap.size).category = 1 := rfl
  have hcellA : T1.heap[T.heap.size]? = some (freshCell cX kX) := by rw [← hT1]; exact State.heap_pushCell_size _ _
  have d3' : decode c.code (pc + 3) = .ok (.dup, 1) := by rw [hb]; exact d3
  have d4' : decode c.code (pc + 4) = .ok (.ldc is, 2) := by rw [hb]; exact d4
  have hstr' : vk_R own is text sa s' := vk_R.warm hW0 hstr
  obtain ⟨U, hsteps, hrun, hend, hW, hsame, ce, hce, hO⟩ := X₁.ctorThrowS hexec htr (own := own) (cls := cls) (names := names) (ic := ic) hown' hcls hnames h (fun x hx => nomatch hx) hfX hkX hcellA (by rw [hhp, hT]; exact Nat.le_refl _) (msg := .ref sa) rfl
    (g := { method := m, pc := pc + 6, locals := ls, stack := .ref sa :: .ref T.heap.size :: .ref T.heap.size :: rest, locked := none }) rfl hsize rfl rfl (rest := rest) rfl
    (by rw [hb]; exact d6) (by rw [hb]; exact d9) hout hRframes (by simp only [List.map_cons, List.sum_cons, hcat]; omega) hlocks
  obtain ⟨f1, f2⟩ := vx_frame hsame
  rw [hhp] at f1 f2
  have hWs : s.WarmedH U.vm := State.WarmedH.trans hW0 hW
  have hcl : s.vm.findClass cls = some ce.cls := by
    have h9 := hO.cls
    rw [hvm] at h9
    exact h9
  have hall : s.sameButNew ({ U with vm := s.vm } : State) locs mc ms := by
    subst hA
    obtain ⟨e1, e2⟩ := hsame
    rw [State.setFrames_setFrames] at e1
    have h2 : (T.setVm s.vm).sameButNew ({ U with vm := s.vm } : State) [] (0 + 1) (0 + 6) := ⟨e1, e2⟩
    have h3 := X.same.trans h2
    rw [List.append_nil] at h3
    exact h3.mono hc hs
  refine ⟨U, ?_, .threw T.heap.size, hrun, hend, Or.inr ⟨T.heap.size, rfl, cls, ce, locs, hx U hWs.alike f1 (fun q hq => f2 q hq (fun z hz => nomatch hz)), hce, hO.vm, hcl, hWs, hall, hf⟩⟩
  refine st1 _ ?_
  show Steps p.tables e below (T1.setTop { method := m, pc := pc + 3, locals := ls, stack := .ref T.heap.size :: rest, locked := none }) _
  jvm_step X₁.here [X₁.here.top, hexec, d3', Value.category]
  exact X₁.ldcString hexec (own := own) (text := text) (index := is) (a := sa) hown' hstr'.1 hstr'.2
    (g := { method := m, pc := pc + 4, locals := ls, stack := .ref T.heap.size :: .ref T.heap.size :: rest, locked := none }) rfl d4' _ hsteps
/-- 'throw new E("text")', the text by a wide index -/
theorem vx_throwSW {cc : ByteArray} {pc : Nat} (hexec : p.tables.exec = Jvm.exec) (hb : c.code = cc) (hl : l.stackTraces = false) {own cls text : String} {names : List String} {ik is ic mc ms sa : Nat} {A : Nat → Prop}
    (hown : s.vm.findClass own = some m.cls) (hcls : Bundle.fit cls = true) (hnames : ∀ n ∈ names, Bundle.fit n = true)
    (hk : (Cond.classLink own ik cls).before args s = true) (hini : (Cond.initialized cls).before args s = true) (hstr : vk_R own is text sa s) (hat : ∀ w ∈ vx_atS own ic cls names, w.before args s = true)
    (hgood : ∀ w ∈ Cond.classLink own ik cls :: Cond.initialized cls :: vx_atS own ic cls names, vx_ot w = true)
    (hU : vx_Zq Bundle.tN "UNASSIGNED_STACK" Bundle.steD A s s.heap) (hN : vx_Zq Bundle.tN "SUPPRESSED_SENTINEL" Bundle.listD A s s.heap) (hS : va_S A s.heap H locs) (hsize : ls.size = c.maxLocals)
    (d0 : decode cc pc = .ok (.new ik, 3)) (d3 : decode cc (pc + 3) = .ok (.dup, 1)) (d4 : decode cc (pc + 4) = .ok (.ldc_w is, 3)) (d7 : decode cc (pc + 7) = .ok (.invokespecial ic, 3)) (d10 : decode cc (pc + 10) = .ok (.athrow, 1))
    (hout : ∀ x ∈ c.exceptionTable.toList, covers x (pc + 10) = false)
    (hRframes : names.length + 3 < R.frames) (hRlocals : (rest.map fun v => v.category).sum + (13 * (names.length + 1) + 43) ≤ R.locals) (hRcells : cells + 1 ≤ R.cells) (hRslots : slots + 6 ≤ R.slots) (hlocks : meth.locks = false)
    (hx : ∀ t : State, s.vm.Alike t.vm → H.size ≤ t.heap.size → (∀ q : Nat, q < H.size → t.heap[q]? = H[q]?) → XC cls s t)
    (hf : ∀ z ∈ locs, free z.base) (hc : cells + 1 ≤ mc) (hs : slots + 6 ≤ ms) :
    W p l e R s m args below meth c H locs cells slots (vx_MQ below Qc XC args s mc ms free) (F0 m pc ls rest) := by
  intro T hT X
  have htr : e.platform.stackTraces = false := (show e.platform.stackTraces = l.stackTraces by rw [X.admits.platform]).trans hl
  have Y := vx_rebase X (R' := { frames := R.frames, locals := R.locals, cells := 1, slots := 6 }) (Nat.le_refl _) (Nat.le_refl _) hRcells hRslots
  obtain ⟨s', hA⟩ : ∃ z, z = (T.setVm s.vm).setFrames (.invoking m args :: below) := ⟨_, rfl⟩
  rw [← hA] at Y
  have hvm : s'.vm = s.vm := by rw [hA]; rfl
  have hhp : s'.heap = H := by rw [hA]; exact hT
  have hW0 : s.WarmedH s'.vm := by rw [hvm]; exact State.WarmedH.refl s
  have hat' : ∀ w ∈ vx_atS own ic cls names, w.before args s' = true := fun w hw => vx_ot_at hW0 hvm.symm (hgood w (List.mem_cons_of_mem _ (List.mem_cons_of_mem _ hw))) (hat w hw)
  have hk' : (Cond.classLink own ik cls).before args s' = true := vx_ot_at hW0 hvm.symm (hgood _ List.mem_cons_self) hk
  have hini' : (Cond.initialized cls).before args s' = true := vx_ot_at hW0 hvm.symm (hgood _ (List.mem_cons_of_mem _ List.mem_cons_self)) hini
  have hU' : vx_Zq Bundle.tN "UNASSIGNED_STACK" Bundle.steD A s' s'.heap := by rw [hhp]; exact vx_Zq.moved hW0.alike (hU.kept hS.2.1)
  have hN' : vx_Zq Bundle.tN "SUPPRESSED_SENTINEL" Bundle.listD A s' s'.heap := by rw [hhp]; exact vx_Zq.moved hW0.alike (hN.kept hS.2.1)
  have h : ∀ w ∈ Bundle.ownAtoms own ic cls names, w.before args s' = true := vx_own hat' (vx_isRefq hU'.1) (vx_isRefq hN'.1) hU'.2.word hN'.2.word
  have hown' : s'.vm.findClass own = some m.cls := by rw [hvm]; exact hown
  have hins : (Cond.instantiable cls 6).before args s' = true := h _ (by simp [Bundle.ownAtoms])
  obtain ⟨vm₁, cX, kX, hfX, hkX, -, -, X₁, st1⟩ := Y.newCold hexec (own := own) (C := cls) (index := ik) (n := 6) hown' hk' hins hini'
    (g := F0 m pc ls rest) rfl (by rw [hb]; exact d0) (Nat.le_refl _) (Nat.le_refl _)
  generalize hT1 : (T.setVm vm₁).pushCell { cls := cX, slots := kX.instanceTypes.map defaultValue, vm := .none } = T1 at X₁ st1
  have hcat : (Value.ref T.heap.size).category = 1 := rfl
  have hcellA : T1.heap[T.heap.size]? = some (freshCell cX kX) := by rw [← hT1]; exact State.heap_pushCell_size _ _
  have d3' : decode c.code (pc + 3) = .ok (.dup, 1) := by rw [hb]; exact d3
  have d4' : decode c.code (pc + 4) = .ok (.ldc_w is, 3) := by rw [hb]; exact d4
  have hstr' : vk_R own is text sa s' := vk_R.warm hW0 hstr
  obtain ⟨U, hsteps, hrun, hend, hW, hsame, ce, hce, hO⟩ := X₁.ctorThrowS hexec htr (own := own) (cls := cls) (names := names) (ic := ic) hown' hcls hnames h (fun x hx => nomatch hx) hfX hkX hcellA (by rw [hhp, hT]; exact Nat.le_refl _) (msg := .ref sa) rfl
    (g := { method := m, pc := pc + 7, locals := ls, stack := .ref sa :: .ref T.heap.size :: .ref T.heap.size :: rest, locked := none }) rfl hsize rfl rfl (rest := rest) rfl
    (by rw [hb]; exact d7) (by rw [hb]; exact d10) hout hRframes (by simp only [List.map_cons, List.sum_cons, hcat]; omega) hlocks
  obtain ⟨f1, f2⟩ := vx_frame hsame
  rw [hhp] at f1 f2
  have hWs : s.WarmedH U.vm := State.WarmedH.trans hW0 hW
  have hcl : s.vm.findClass cls = some ce.cls := by
    have h9 := hO.cls
    rw [hvm] at h9
    exact h9
  have hall : s.sameButNew ({ U with vm := s.vm } : State) locs mc ms := by
    subst hA
    obtain ⟨e1, e2⟩ := hsame
    rw [State.setFrames_setFrames] at e1
    have h2 : (T.setVm s.vm).sameButNew ({ U with vm := s.vm } : State) [] (0 + 1) (0 + 6) := ⟨e1, e2⟩
    have h3 := X.same.trans h2
    rw [List.append_nil] at h3
    exact h3.mono hc hs
  refine ⟨U, ?_, .threw T.heap.size, hrun, hend, Or.inr ⟨T.heap.size, rfl, cls, ce, locs, hx U hWs.alike f1 (fun q hq => f2 q hq (fun z hz => nomatch hz)), hce, hO.vm, hcl, hWs, hall, hf⟩⟩
  refine st1 _ ?_
  show Steps p.tables e below (T1.setTop { method := m, pc := pc + 3, locals := ls, stack := .ref T.heap.size :: rest, locked := none }) _
  jvm_step X₁.here [X₁.here.top, hexec, d3', Value.category]
  exact X₁.ldcStringW hexec (own := own) (text := text) (index := is) (a := sa) hown' hstr'.1 hstr'.2
    (g := { method := m, pc := pc + 4, locals := ls, stack := .ref T.heap.size :: .ref T.heap.size :: rest, locked := none }) rfl d4' _ hsteps
end Ends
section Bodies
variable {l : Launch}
theorem vx_ofW {y : MethodName} {ws ws' : List Cond} {rm : Room} {Pc : Array Value → State → Prop} {Qc : Array Value → State → Outcome → State → Prop} {XC : String → State → State → Prop} {mc ms : Nat} {free : Addr → Prop} {cc : ByteArray} {maxL : Nat} {ret : Option FieldType}
    (hy : plainName y.cls = true) (hw : ws = Cond.code y cc maxL ret :: ws')
    (body : ∀ p e s m args below meth c s₁, BodyLoose p l y (headSpec ws rm) cc maxL ret e s m args below meth c s₁ → c.maxLocals = maxL → (∀ x ∈ c.exceptionTable.toList, False) → Pc args s →
      W p l e (headSpec ws rm).room s m args below meth c s.heap [] 0 0 (vx_MQ below Qc XC args s mc ms free) (entryFrame m args maxL)) : vx_Met l y ws rm Pc Qc XC mc ms free := by
  refine MetFree.of_bodyS (code := cc) (maxLocals := maxL) (ret := ret) hy ?_ ?_
  · intro args s m h hn
    obtain ⟨meth, c, h1, h2, h3, h4, h5, h6, -, -⟩ := Cond.code_spec hn (atoms_spec (ws := ws) h _ (by rw [hw]; exact List.mem_cons_self))
    exact ⟨meth, c, h1, h2, h3, h4, h5, h6⟩
  · intro p e s m args below meth c s₁ B hml hP _
    have hh0 : s₁.heap = s.heap := by rw [B.state]; rfl
    have ht : ∀ x ∈ c.exceptionTable.toList, False := by
      obtain ⟨meth9, c9, h1, h2, -, -, -, -, h7, -⟩ := Cond.code_spec B.named (atoms_spec (ws := ws) B.pre _ (by rw [hw]; exact List.mem_cons_self))
      cases Option.some.inj (h1.symm.trans B.method)
      cases Option.some.inj (h2.symm.trans (Stand.of_body B).code)
      intro x hx
      rw [Array.isEmpty_iff.mp h7] at hx
      cases hx
    obtain ⟨t, a1, o, b1, b2, b3⟩ := body p e s m args below meth c s₁ B hml ht hP s₁ hh0 (Stand.of_body B)
    exact ⟨t, o, a1, b1, b2, b3⟩
/-- the table of a body with handlers -/
theorem vx_table {p : Program} {x y : MethodName} {S : Spec} {cc bytes : ByteArray} {maxL maxL' : Nat} {ret ret' : Option FieldType} {e : Env} {s s₁ : State} {m : MethodId} {args : Array Value} {below : List Frame} {meth : Method} {c : Code} {hh : List (Nat × Nat × Nat × Nat)}
    (B : BodyLoose p l y S cc maxL ret e s m args below meth c s₁) (h : (Cond.codeWith y bytes maxL' ret' hh).before args s = true) : c.exceptionTable.toList = tableOf hh := by
  obtain ⟨m9, meth9, c9, hn9, h1, h2, -, -, h6, -⟩ := Cond.codeWith_spec h
  cases Option.some.inj (hn9.symm.trans B.named)
  cases Option.some.inj (h1.symm.trans B.method)
  cases Option.some.inj (h2.symm.trans (Stand.of_body B).code)
  rw [← h6, table_eq]
end Bodies
end VXA
/-! ===== END ===== -/
/-! ===== BEGIN a static call of a method with an exception table ===== -/
section VXS
variable {p : Program} {l : Launch} {e : Env} {R : Room} {s : State} {m : MethodId} {args : Array Value} {below : List Frame} {meth : Method} {c : Code} {T : State} {H : Heap} {locs : List Loc} {cells slots : Nat}
abbrev vx_CSW (R : Room) (s : State) (args : Array Value) (own : String) (index : Nat) (y : MethodName) (bytes : ByteArray) (maxL : Nat) (ret : Option FieldType) (hh : List (Nat × Nat × Nat × Nat)) (ws : List Cond) (rm : Room) (mc ms n : Nat) : Prop :=
  (rm.cells = mc ∧ rm.slots = ms ∧ rm.frames + 1 ≤ R.frames ∧ 8 + (maxL + 11) + rm.locals ≤ R.locals ∧ (∀ w ∈ ws, ∀ (a' : Array Value) (U : State), s.WarmedH U.vm → w.before a' U = true) ∧ Cond.codeWith y bytes maxL ret hh ∈ ws) ∧
  (Cond.codeWith y bytes maxL ret hh).before args s = true ∧ (Cond.initialized y.cls).before args s = true ∧ (y.cls ≠ "java/lang/invoke/MethodHandle" ∧ y.cls ≠ "java/lang/invoke/VarHandle") ∧
  (∀ sig, parseMethodDescriptor y.desc = some sig → n = sig.parameters.length) ∧ (Cond.methodLink own index y).before args s = true ∧ (Cond.static y).before args s = true
theorem vx_cwSW {own : String} {index maxL mc ms : Nat} {y : MethodName} {bytes : ByteArray} {ret : Option FieldType} {hh : List (Nat × Nat × Nat × Nat)} {Ts ws ws' : List Cond} {rm : Room} (n : Nat) (ht : ∀ w ∈ Ts, w.before args s = true) (hT : GoodIn Ts (va_wsS own index y ws)) (hw : ws = Cond.codeWith y bytes maxL ret hh :: ws') (hrc : rm.cells = mc) (hrs : rm.slots = ms)
    (hd : y.cls ≠ "java/lang/invoke/MethodHandle" ∧ y.cls ≠ "java/lang/invoke/VarHandle" ∧ (parseMethodDescriptor y.desc).map (fun d => d.parameters.length) = some n) (hR : rm.frames + 1 ≤ R.frames ∧ 8 + (maxL + 11) + rm.locals ≤ R.locals) :
    vx_CSW R s args own index y bytes maxL ret hh ws rm mc ms n := by
  have ok : ∀ w ∈ va_wsS own index y ws, w.before args s = true := fun w h => ht w (hT w h).1
  have hG : GoodIn Ts ws := fun w h => hT w (by unfold va_wsS; exact List.mem_append_right _ h)
  have hc : Cond.codeWith y bytes maxL ret hh ∈ ws := by rw [hw]; exact List.mem_cons_self
  refine ⟨⟨hrc, hrs, hR.1, hR.2, pay_in ht hG, hc⟩, ht _ (hG _ hc).1, ok _ (by simp [va_wsS]), ⟨hd.1, hd.2.1⟩, fun sig h => ?_, ok _ (by simp [va_wsS]), ok _ (by simp [va_wsS])⟩
  have h2 := hd.2.2
  rw [h] at h2
  exact (Option.some.inj h2).symm
theorem vx_callSW (X : Stand p l e R s m args below meth c T locs cells slots) (hexec : p.tables.exec = Jvm.exec) {own : String} {index : Nat} {y : MethodName} {bytes : ByteArray} {maxL : Nat} {ret : Option FieldType} {hh : List (Nat × Nat × Nat × Nat)}
    (hown : s.vm.findClass own = some m.cls) (hlink : (Cond.methodLink own index y).before args s = true) (hstat : (Cond.static y).before args s = true) (hinit : (Cond.initialized y.cls).before args s = true)
    (hcode : (Cond.codeWith y bytes maxL ret hh).before args s = true) (hy : y.cls ≠ "java/lang/invoke/MethodHandle" ∧ y.cls ≠ "java/lang/invoke/VarHandle")
    {W9 : Nat} {Pre : Pt → Array Value → Prop} {Post : Pt → Array Value → Option Value → Pt → Prop} (hK : Back l R p e below s args y 3 W9 Pre Post)
    {g : JFrame} (hg : g.method = m) (hsize : g.locals.size = c.maxLocals) {argsL rest : List Value} (hlen : ∀ sig, parseMethodDescriptor y.desc = some sig → argsL.length = sig.parameters.length)
    (hstack : g.stack = argsL.reverse ++ rest) (hW : 2 * g.monitorRoom + (rest.map fun v => v.category).sum ≤ W9) (hdg : decode c.code g.pc = .ok (.invokestatic index, 3))
    (hpre : ∀ vm₁, s.WarmedH vm₁ → Pre ⟨T.setVm vm₁, locs, cells, slots⟩ argsL.toArray) :
    ∃ (v : Option Value) (vm₁ : Vm) (B : Pt), s.WarmedH vm₁ ∧ Stand p l e R s m args below meth c B.U B.locs B.cells B.slots ∧ Post ⟨T.setVm vm₁, locs, cells, slots⟩ argsL.toArray v B ∧
      ∀ target, Steps p.tables e below (B.U.setTop { g with pc := g.pc + 3, stack := v.toList ++ rest }) target → Steps p.tables e below (T.setTop g) target := by
  obtain ⟨mk, methM, cM, hnamed, hmethM, -, -, -, -, -, -, hsigM⟩ := Cond.codeWith_spec hcode
  have hstatic : methM.isStatic = true := Cond.static_spec hnamed hmethM hstat
  obtain ⟨kP, hkP, -⟩ := className_of_methodNamed hnamed
  have hinitP : kP.init = .initialized := Cond.initialized_spec (findClass_of_methodNamed hnamed) hkP hinit
  obtain ⟨vm₁, X₁, hstep₁⟩ := X.invokestatic hexec hown hlink hnamed hmethM hstatic hkP hinitP hy (g := g) hg (argsL := argsL) (rest := rest) (hlen _ hsigM) hstack hdg
  obtain ⟨v, B, X', hpost, hsteps⟩ := hK m meth c ⟨T.setVm vm₁, locs, cells, slots⟩ { g with stack := rest } (.invokestatic index) mk argsL.toArray X₁ hg hsize hdg hW (X₁.named hnamed) (hpre vm₁ X₁.warmed)
  exact ⟨v, vm₁, B, X₁.warmed, X', hpost, fun target h => hstep₁ _ fun acts => by rw [doInvoke_state]; exact hsteps.trans h⟩
theorem vx_runSW {y : MethodName} {bytes cc : ByteArray} {maxL nL mc ms n index : Nat} {ret : Option FieldType} {hh : List (Nat × Nat × Nat × Nat)} {ws : List Cond} {rm : Room} {Pc : Array Value → State → Prop} {Qc : Array Value → State → Outcome → State → Prop} {free : Addr → Prop} {Ts : List Cond} {own : String} {As rest : List Value} {g : JFrame}
    (S : CallFix p m c cc nL s args Ts own) (hM : Met l y ws rm Pc Qc mc ms free) (cw : vx_CSW R s args own index y bytes maxL ret hh ws rm mc ms n) (hp : PreS s H Pc As)
    (hg : g.method = m) (hn : As.length = n) (hsize : g.locals.size = nL) (hstack : g.stack = As.reverse ++ rest) (hW : 2 * g.monitorRoom + (rest.map fun v => v.category).sum ≤ 8) (hdg : decode cc g.pc = .ok (.invokestatic index, 3)) (hf : cells + mc ≤ R.cells ∧ slots + ms ≤ R.slots) :
    va_Run p l e R s m args below meth c H locs cells slots mc ms g rest (Qc As.toArray) (free) := by
  obtain ⟨⟨hrc, hrs, hfr, hlo, hws, hcw⟩, hcode, hini, hy, hlen, hl, hstt⟩ := cw
  have hK : Back l R p e below s args y 3 8 (PreOf R mc ms Pc) (PostOf Qc mc ms free) := va_backW (hh := hh) (bytes := bytes) (maxL := maxL) (ret := ret) hM hp.1 hrc hrs hfr hlo hws hcw (fun a' U hW => word_at hW (Or.inl (by first | rfl | simp [Cond.onTables, Cond.keeps, Cond.steady])) hini)
  obtain ⟨hx, hb, hml, ho, -⟩ := S
  intro T hT X
  obtain ⟨v, vm₁, ⟨U', l2, c2, s2⟩, hW₁, X', ⟨g', mk, t, L, e1, e2, hq, h1, hL, h2, h3⟩, st⟩ := vx_callSW X hx (hh := hh) (bytes := bytes) (maxL := maxL) (ret := ret) ho hl hstt hini hcode hy hK hg (hsize.trans hml.symm) (argsL := As) (rest := rest) (fun sig h => hn.trans (hlen sig h)) hstack hW (by rw [hb]; exact hdg)
    (fun vm₁ hW₁ => ⟨hf.1, hf.2, hp.2 (T.setVm vm₁) hT hW₁⟩)
  dsimp only [Pt.U, Pt.locs, Pt.cells, Pt.slots] at X' e1 e2 h1 h2 h3 st
  subst h1; subst h2; subst h3
  exact ⟨v, (T.setVm vm₁).calling g' mk As.toArray, t, U', L, hT, X', hL, e1, e2, hq, st⟩
/-- a thing of a world lies in the heap -/
theorem vx_lt {D : va_G} {cl : List vw_C} {ws : va_W} {H1 : Heap} (h : va_P D cl ws H1) {k : Nat} {q : Nat × va_E} (hk : ws[k]? = some q) : q.1 < H1.size := (h k q hk).lt
end VXS
/-! ===== END ===== -/
/-! ===== BEGIN methods with a table of their own: called by a name, returning or throwing ===== -/
section VXH
/-! vx_backW, vx_callVX, vx_callSX, vx_callVW, vx_runVW, vx_runVX, vx_runSX, vx_ofWH follow the same proofs as their sisters above (Free/Laws.lean, Shelf42/LK1.lean); vx_outP calls Shelf42/NT130.lean (outThrough). -/
section
variable {l : Launch} {R : Room} {p : Program} {e : Env} {below : List Frame} {s : State} {sargs : Array Value} {y : MethodName} {len W9 : Nat}
theorem vx_backW {ws : List Cond} {rm : Room} {Pc : Array Value → State → Prop} {Qc : Array Value → State → Outcome → State → Prop} {XC : String → State → State → Prop} {mc ms : Nat} {free : Addr → Prop} {bytes : ByteArray} {maxL : Nat} {ret : Option FieldType} {hh : List (Nat × Nat × Nat × Nat)}
    (hM : vx_Met l y ws rm Pc Qc XC mc ms free) (hblind : FrameBlind Pc) (hrc : rm.cells = mc) (hrs : rm.slots = ms)
    (hframes : rm.frames + 1 ≤ R.frames) (hlocals : W9 + (maxL + 11) + rm.locals ≤ R.locals)
    (hws : ∀ w ∈ ws, ∀ a' U, s.WarmedH U.vm → w.before a' U = true) (hcode : Cond.codeWith y bytes maxL ret hh ∈ ws) (hinit : ∀ a' U, s.WarmedH U.vm → (Cond.initialized y.cls).before a' U = true) :
    vx_Back l R p e below s sargs y len W9 (PreOf R mc ms Pc) (PostOf Qc mc ms free) (vx_Post XC mc ms free) := by
  intro m meth c A g ig mk a X hg hsize hdg hW hn hp
  have h1 : (headSpec ws rm).pre.before a A.U = true := atoms_intro fun w hw => hws w hw _ _ X.warmed
  have h2 : (Cond.codeWith y bytes maxL ret hh).before a A.U = true := hws _ hcode _ _ X.warmed
  have h3 : (Cond.initialized y.cls).before a A.U = true := hinit _ _ X.warmed
  have h4 : A.cells + (headSpec ws rm).room.cells ≤ R.cells := by rw [show (headSpec ws rm).room.cells = mc from hrc]; exact hp.1
  have h5 : A.slots + (headSpec ws rm).room.slots ≤ R.slots := by rw [show (headSpec ws rm).room.slots = ms from hrs]; exact hp.2.1
  have hPc : Pc a (A.U.calling g mk a) := hblind _ _ _ _ hp.2.2
  obtain ⟨U, Ls, c0, s0⟩ := A
  dsimp only [Pt.U, Pt.locs, Pt.cells, Pt.slots] at h1 h2 h3 h4 h5 X hn hPc ⊢
  obtain ⟨m9, methY, cY, hn9, hmY, hcY, -, hlY, -⟩ := Cond.codeWith_spec h2
  cases Option.some.inj (hn9.symm.trans hn)
  obtain ⟨kY, hkY, -⟩ := className_of_methodNamed hn
  have hinitY : kY.init = .initialized := Cond.initialized_spec (findClass_of_methodNamed hn) hkY h3
  have h : At U g.method c below := by rw [hg]; exact X.here
  have hlocals9 : W9 + (maxL + 11) + (headSpec ws rm).room.locals ≤ R.locals := hlocals
  have happ : (headSpec ws rm).appliesLoose y e.platform (U.calling g mk a) = true :=
    Spec.appliesLoose_calling (g := g) h hdg hn hkY hinitY
      (X.room_calling (g := g) (R' := (headSpec ws rm).room) hsize hmY hcY hframes (by rw [hlY]; omega) h4 h5) h1
  obtain ⟨mid, hmid⟩ := h.above
  have hfr : (U.setTop g).frames = (.java g :: mid) ++ below := by rw [State.frames_setTop' g h.top, hmid]; rfl
  obtain ⟨o, s₂, hsteps, -, hend, hq⟩ := Steps.callFree hM p X.admits X.cas X.clock (acts := []) hfr happ hPc trivial
  have hq' : vx_Q Qc XC mc ms free a (U.calling g mk a) o s₂ := hq
  rw [State.frames_setTop' g h.top] at hend
  obtain ⟨g₀, hg0⟩ := Option.isSome_iff_exists.mp h.top
  obtain ⟨r, hr⟩ := State.topJava?_eq_some.mp hg0
  have hr' : (({ U with heap := s₂.heap, slotsUsed := s₂.slotsUsed } : State).setVm s₂.vm).frames = .java g₀ :: r := hr
  rcases hq' with ⟨hqc, L, hfe, hL⟩ | ⟨q, rfl, E, ce, L, hx, hce, hcv, hcl, hW₂, hsm, hL⟩
  · obtain ⟨⟨v, rfl⟩, hW₂, e2, q2, q3, q4, q5, q6⟩ := id hfe
    have e3 : s₂ = ({ (U.calling g mk a).setFrames s₂.frames with heap := s₂.heap, slotsUsed := s₂.slotsUsed } : State).setVm s₂.vm := by
      have : s₂ = ({ s₂ with vm := (U.calling g mk a).vm } : State).setVm s₂.vm := rfl
      rw [e2] at this
      exact this
    obtain ⟨c₂, i₂, len₂, hc₂, hd₂, hf₂⟩ := hend
    have hW' : U.WarmedH s₂.vm := hW₂
    have hcc : c₂ = c := by
      have h1 : s₂.code? g.method = U.code? g.method := by
        rw [State.code?_eq, State.code?_eq, hW'.alike.method?]
      exact Option.some.inj (hc₂.symm.trans (h1.trans h.code))
    subst hcc
    have hlen : len₂ = len := by rw [hdg] at hd₂; cases hd₂; rfl
    subst hlen
    have hs₂ : s₂ = (({ U with heap := s₂.heap, slotsUsed := s₂.slotsUsed } : State).setVm s₂.vm).setTop { g with pc := g.pc + len₂, stack := v.toList ++ g.stack } := by
      refine e3.trans ?_
      rw [hf₂, State.calling_eq h.top, State.setFrames_setFrames, State.setTop_of_frames _ hr', hr]
      rfl
    have hsame : U.sameButNew ({ U with heap := s₂.heap, slotsUsed := s₂.slotsUsed } : State) L mc ms := by
      refine ⟨?_, q2, q3, q4, q5, q6⟩
      obtain ⟨t, ht, -⟩ := State.frames_cons hr
      show ({ U with heap := s₂.heap, slotsUsed := s₂.slotsUsed } : State) = { U.setFrames U.frames with heap := s₂.heap, slotsUsed := s₂.slotsUsed }
      rw [State.setFrames_self ht]
    subst hg
    refine Or.inl ⟨v, ⟨(({ U with heap := s₂.heap, slotsUsed := s₂.slotsUsed } : State).setVm s₂.vm), Ls ++ L, c0 + mc, s0 + ms⟩,
      ⟨X.admits, X.cas, X.clock, X.frames, X.room, X.hears, X.method, X.code, (X.here.setHeapUsed s₂.heap s₂.slotsUsed).setVm hW'.alike, X.tail, State.WarmedH.trans X.warmed hW', X.limits, X.bytes, X.same.trans (hsame.setVm s.vm)⟩,
      ⟨g, mk, s₂, L, rfl, rfl, hqc, rfl, hL, rfl, rfl⟩, ?_⟩
    show Steps p.tables e below _ ((({ U with heap := s₂.heap, slotsUsed := s₂.slotsUsed } : State).setVm s₂.vm).setTop { g with pc := g.pc + len₂, stack := v.toList ++ g.stack })
    rw [← hs₂]
    exact hsteps
  · obtain ⟨e2, q2, q3, q4, q5, q6⟩ := id hsm
    have e3 : s₂ = ({ (U.calling g mk a).setFrames s₂.frames with heap := s₂.heap, slotsUsed := s₂.slotsUsed } : State).setVm s₂.vm := by
      have : s₂ = ({ s₂ with vm := (U.calling g mk a).vm } : State).setVm s₂.vm := rfl
      rw [e2] at this
      exact this
    have hf₂ : s₂.frames = .throwing q :: .java g :: U.frames.tail := hend
    have hW' : U.WarmedH s₂.vm := hW₂
    have hs₂ : s₂ = ((({ U with heap := s₂.heap, slotsUsed := s₂.slotsUsed } : State).setVm s₂.vm).setTop g).pushFrame (.throwing q) := by
      refine e3.trans ?_
      rw [hf₂, State.calling_eq h.top, State.setFrames_setFrames, State.pushFrame, State.frames_setTop _ hr', State.setTop_of_frames _ hr', State.setFrames_setFrames, hr]
      rfl
    have hsame : U.sameButNew ({ U with heap := s₂.heap, slotsUsed := s₂.slotsUsed } : State) L mc ms := by
      refine ⟨?_, q2, q3, q4, q5, q6⟩
      obtain ⟨t, ht, -⟩ := State.frames_cons hr
      show ({ U with heap := s₂.heap, slotsUsed := s₂.slotsUsed } : State) = { U.setFrames U.frames with heap := s₂.heap, slotsUsed := s₂.slotsUsed }
      rw [State.setFrames_self ht]
    subst hg
    refine Or.inr ⟨q, ⟨(({ U with heap := s₂.heap, slotsUsed := s₂.slotsUsed } : State).setVm s₂.vm), Ls ++ L, c0 + mc, s0 + ms⟩,
      ⟨X.admits, X.cas, X.clock, X.frames, X.room, X.hears, X.method, X.code, (X.here.setHeapUsed s₂.heap s₂.slotsUsed).setVm hW'.alike, X.tail, State.WarmedH.trans X.warmed hW', X.limits, X.bytes, X.same.trans (hsame.setVm s.vm)⟩,
      ⟨g, mk, s₂, L, E, ce, rfl, rfl, hx, hce, hcv, hcl, rfl, hL, rfl, rfl⟩, ?_⟩
    show Steps p.tables e below _ (((({ U with heap := s₂.heap, slotsUsed := s₂.slotsUsed } : State).setVm s₂.vm).setTop g).pushFrame (.throwing q))
    rw [← hs₂]
    exact hsteps
end
variable {p : Program} {l : Launch} {e : Env} {R : Room} {s : State} {m : MethodId} {args : Array Value} {below : List Frame} {meth : Method} {c : Code} {T : State} {H : Heap} {locs : List Loc} {cells slots : Nat}
theorem vx_callVX (X : Stand p l e R s m args below meth c T locs cells slots) (hexec : p.tables.exec = Jvm.exec) {own C : String} {index : Nat} {y : MethodName} {bytes : ByteArray} {maxL : Nat} {ret : Option FieldType} {hh : List (Nat × Nat × Nat × Nat)}
    (hown : s.vm.findClass own = some m.cls) (hlink : (Cond.methodLink own index y).before args s = true) (hinst : (Cond.instanceMethod y).before args s = true) (hsel : (Cond.selects C y y).before args s = true)
    (hcode : (Cond.codeWith y bytes maxL ret hh).before args s = true) (hy : y.cls ≠ "java/lang/invoke/MethodHandle" ∧ y.cls ≠ "java/lang/invoke/VarHandle")
    {W9 : Nat} {Pre : Pt → Array Value → Prop} {Post : Pt → Array Value → Option Value → Pt → Prop} {PostX : Pt → Array Value → Addr → Pt → Prop} (hK : vx_Back l R p e below s args y 3 W9 Pre Post PostX)
    {b : Addr} {cellB : Cell} (hcell : T.heap[b]? = some cellB) (hobj : cellB.vm.isStatics = false) (hcls : s.vm.findClass C = some cellB.cls)
    {g : JFrame} (hg : g.method = m) (hsize : g.locals.size = c.maxLocals) {argsL rest : List Value} (hlen : ∀ sig, parseMethodDescriptor y.desc = some sig → argsL.length = sig.parameters.length)
    (hstack : g.stack = argsL.reverse ++ .ref b :: rest) (hW : 2 * g.monitorRoom + (rest.map fun v => v.category).sum ≤ W9) (hdg : decode c.code g.pc = .ok (.invokevirtual index, 3))
    (hpre : ∀ vm₁, s.WarmedH vm₁ → Pre ⟨T.setVm vm₁, locs, cells, slots⟩ (Value.ref b :: argsL).toArray) :
    (∃ (v : Option Value) (vm₁ : Vm) (B : Pt), s.WarmedH vm₁ ∧ Stand p l e R s m args below meth c B.U B.locs B.cells B.slots ∧ Post ⟨T.setVm vm₁, locs, cells, slots⟩ (Value.ref b :: argsL).toArray v B ∧
      ∀ target, Steps p.tables e below (B.U.setTop { g with pc := g.pc + 3, stack := v.toList ++ rest }) target → Steps p.tables e below (T.setTop g) target) ∨
    (∃ (q : Addr) (vm₁ : Vm) (B : Pt), s.WarmedH vm₁ ∧ Stand p l e R s m args below meth c B.U B.locs B.cells B.slots ∧ PostX ⟨T.setVm vm₁, locs, cells, slots⟩ (Value.ref b :: argsL).toArray q B ∧
      Steps p.tables e below (T.setTop g) ((B.U.setTop { g with stack := rest }).pushFrame (.throwing q))) := by
  obtain ⟨mk, methM, hnamed, hmethM, hstM, habM⟩ := Cond.instanceMethod_spec hinst
  obtain ⟨m8, methM', cM, hn8, hmethM', -, -, -, -, -, -, hsigM⟩ := Cond.codeWith_spec hcode
  cases Option.some.inj (hn8.symm.trans hnamed)
  cases hmethM.symm.trans hmethM'
  obtain ⟨c2, r2, m2, q1, q2, q3, q4, kP, hkP, hkPi⟩ := Cond.selects_spec hsel
  cases hcls.symm.trans q1
  cases (State.methodFound?_of_named hnamed hy).symm.trans q2
  cases hnamed.symm.trans q3
  have hselP : selectMethod e.platform s.vm cellB.cls mk = .method mk := by rw [Launch.admits_selectMethod X.admits]; exact q4
  obtain ⟨vm₁, X₁, hstep₁⟩ := X.invokevirtual hexec hown hlink hnamed hmethM hstM hkP hkPi hy (a := b) (cell := cellB) hcell
    (fun z h => by rw [h] at hobj; cases hobj) hselP hmethM habM hkP hkPi (g := g) hg (argsL := argsL) (rest := rest) (hlen _ hsigM) hstack hdg
  rcases hK m meth c ⟨T.setVm vm₁, locs, cells, slots⟩ { g with stack := rest } (.invokevirtual index) mk (Value.ref b :: argsL).toArray X₁ hg hsize hdg hW (X₁.named hnamed) (hpre vm₁ X₁.warmed) with ⟨v, B, X', hpost, hsteps⟩ | ⟨q, B, X', hpost, hsteps⟩
  · exact Or.inl ⟨v, vm₁, B, X₁.warmed, X', hpost, fun target h => hstep₁ _ fun acts => by rw [doInvoke_state]; exact hsteps.trans h⟩
  · exact Or.inr ⟨q, vm₁, B, X₁.warmed, X', hpost, hstep₁ _ fun acts => by rw [doInvoke_state]; exact hsteps⟩
theorem vx_callSX (X : Stand p l e R s m args below meth c T locs cells slots) (hexec : p.tables.exec = Jvm.exec) {own : String} {index : Nat} {y : MethodName} {bytes : ByteArray} {maxL : Nat} {ret : Option FieldType} {hh : List (Nat × Nat × Nat × Nat)}
    (hown : s.vm.findClass own = some m.cls) (hlink : (Cond.methodLink own index y).before args s = true) (hstat : (Cond.static y).before args s = true) (hinit : (Cond.initialized y.cls).before args s = true)
    (hcode : (Cond.codeWith y bytes maxL ret hh).before args s = true) (hy : y.cls ≠ "java/lang/invoke/MethodHandle" ∧ y.cls ≠ "java/lang/invoke/VarHandle")
    {W9 : Nat} {Pre : Pt → Array Value → Prop} {Post : Pt → Array Value → Option Value → Pt → Prop} {PostX : Pt → Array Value → Addr → Pt → Prop} (hK : vx_Back l R p e below s args y 3 W9 Pre Post PostX)
    {g : JFrame} (hg : g.method = m) (hsize : g.locals.size = c.maxLocals) {argsL rest : List Value} (hlen : ∀ sig, parseMethodDescriptor y.desc = some sig → argsL.length = sig.parameters.length)
    (hstack : g.stack = argsL.reverse ++ rest) (hW : 2 * g.monitorRoom + (rest.map fun v => v.category).sum ≤ W9) (hdg : decode c.code g.pc = .ok (.invokestatic index, 3))
    (hpre : ∀ vm₁, s.WarmedH vm₁ → Pre ⟨T.setVm vm₁, locs, cells, slots⟩ argsL.toArray) :
    (∃ (v : Option Value) (vm₁ : Vm) (B : Pt), s.WarmedH vm₁ ∧ Stand p l e R s m args below meth c B.U B.locs B.cells B.slots ∧ Post ⟨T.setVm vm₁, locs, cells, slots⟩ argsL.toArray v B ∧
      ∀ target, Steps p.tables e below (B.U.setTop { g with pc := g.pc + 3, stack := v.toList ++ rest }) target → Steps p.tables e below (T.setTop g) target) ∨
    (∃ (q : Addr) (vm₁ : Vm) (B : Pt), s.WarmedH vm₁ ∧ Stand p l e R s m args below meth c B.U B.locs B.cells B.slots ∧ PostX ⟨T.setVm vm₁, locs, cells, slots⟩ argsL.toArray q B ∧
      Steps p.tables e below (T.setTop g) ((B.U.setTop { g with stack := rest }).pushFrame (.throwing q))) := by
  obtain ⟨mk, methM, cM, hnamed, hmethM, -, -, -, -, -, -, hsigM⟩ := Cond.codeWith_spec hcode
  have hstatic : methM.isStatic = true := Cond.static_spec hnamed hmethM hstat
  obtain ⟨kP, hkP, -⟩ := className_of_methodNamed hnamed
  have hinitP : kP.init = .initialized := Cond.initialized_spec (findClass_of_methodNamed hnamed) hkP hinit
  obtain ⟨vm₁, X₁, hstep₁⟩ := X.invokestatic hexec hown hlink hnamed hmethM hstatic hkP hinitP hy (g := g) hg (argsL := argsL) (rest := rest) (hlen _ hsigM) hstack hdg
  rcases hK m meth c ⟨T.setVm vm₁, locs, cells, slots⟩ { g with stack := rest } (.invokestatic index) mk argsL.toArray X₁ hg hsize hdg hW (X₁.named hnamed) (hpre vm₁ X₁.warmed) with ⟨v, B, X', hpost, hsteps⟩ | ⟨q, B, X', hpost, hsteps⟩
  · exact Or.inl ⟨v, vm₁, B, X₁.warmed, X', hpost, fun target h => hstep₁ _ fun acts => by rw [doInvoke_state]; exact hsteps.trans h⟩
  · exact Or.inr ⟨q, vm₁, B, X₁.warmed, X', hpost, hstep₁ _ fun acts => by rw [doInvoke_state]; exact hsteps⟩
theorem vx_callVW (X : Stand p l e R s m args below meth c T locs cells slots) (hexec : p.tables.exec = Jvm.exec) {own C : String} {index : Nat} {y : MethodName} {bytes : ByteArray} {maxL : Nat} {ret : Option FieldType} {hh : List (Nat × Nat × Nat × Nat)}
    (hown : s.vm.findClass own = some m.cls) (hlink : (Cond.methodLink own index y).before args s = true) (hinst : (Cond.instanceMethod y).before args s = true) (hsel : (Cond.selects C y y).before args s = true)
    (hcode : (Cond.codeWith y bytes maxL ret hh).before args s = true) (hy : y.cls ≠ "java/lang/invoke/MethodHandle" ∧ y.cls ≠ "java/lang/invoke/VarHandle")
    {W9 : Nat} {Pre : Pt → Array Value → Prop} {Post : Pt → Array Value → Option Value → Pt → Prop} (hK : Back l R p e below s args y 3 W9 Pre Post)
    {b : Addr} {cellB : Cell} (hcell : T.heap[b]? = some cellB) (hobj : cellB.vm.isStatics = false) (hcls : s.vm.findClass C = some cellB.cls)
    {g : JFrame} (hg : g.method = m) (hsize : g.locals.size = c.maxLocals) {argsL rest : List Value} (hlen : ∀ sig, parseMethodDescriptor y.desc = some sig → argsL.length = sig.parameters.length)
    (hstack : g.stack = argsL.reverse ++ .ref b :: rest) (hW : 2 * g.monitorRoom + (rest.map fun v => v.category).sum ≤ W9) (hdg : decode c.code g.pc = .ok (.invokevirtual index, 3))
    (hpre : ∀ vm₁, s.WarmedH vm₁ → Pre ⟨T.setVm vm₁, locs, cells, slots⟩ (Value.ref b :: argsL).toArray) :
    ∃ (v : Option Value) (vm₁ : Vm) (B : Pt), s.WarmedH vm₁ ∧ Stand p l e R s m args below meth c B.U B.locs B.cells B.slots ∧ Post ⟨T.setVm vm₁, locs, cells, slots⟩ (Value.ref b :: argsL).toArray v B ∧
      ∀ target, Steps p.tables e below (B.U.setTop { g with pc := g.pc + 3, stack := v.toList ++ rest }) target → Steps p.tables e below (T.setTop g) target := by
  obtain ⟨mk, methM, hnamed, hmethM, hstM, habM⟩ := Cond.instanceMethod_spec hinst
  obtain ⟨m8, methM', cM, hn8, hmethM', -, -, -, -, -, -, hsigM⟩ := Cond.codeWith_spec hcode
  cases Option.some.inj (hn8.symm.trans hnamed)
  cases hmethM.symm.trans hmethM'
  obtain ⟨c2, r2, m2, q1, q2, q3, q4, kP, hkP, hkPi⟩ := Cond.selects_spec hsel
  cases hcls.symm.trans q1
  cases (State.methodFound?_of_named hnamed hy).symm.trans q2
  cases hnamed.symm.trans q3
  have hselP : selectMethod e.platform s.vm cellB.cls mk = .method mk := by rw [Launch.admits_selectMethod X.admits]; exact q4
  obtain ⟨vm₁, X₁, hstep₁⟩ := X.invokevirtual hexec hown hlink hnamed hmethM hstM hkP hkPi hy (a := b) (cell := cellB) hcell
    (fun z h => by rw [h] at hobj; cases hobj) hselP hmethM habM hkP hkPi (g := g) hg (argsL := argsL) (rest := rest) (hlen _ hsigM) hstack hdg
  obtain ⟨v, B, X', hpost, hsteps⟩ := hK m meth c ⟨T.setVm vm₁, locs, cells, slots⟩ { g with stack := rest } (.invokevirtual index) mk (Value.ref b :: argsL).toArray X₁ hg hsize hdg hW (X₁.named hnamed) (hpre vm₁ X₁.warmed)
  exact ⟨v, vm₁, B, X₁.warmed, X', hpost, fun target h => hstep₁ _ fun acts => by rw [doInvoke_state]; exact hsteps.trans h⟩
abbrev vx_CVW (R : Room) (s : State) (args : Array Value) (own C : String) (index : Nat) (y : MethodName) (bytes : ByteArray) (maxL : Nat) (ret : Option FieldType) (hh : List (Nat × Nat × Nat × Nat)) (ws : List Cond) (rm : Room) (mc ms n : Nat) : Prop :=
  (rm.cells = mc ∧ rm.slots = ms ∧ rm.frames + 1 ≤ R.frames ∧ 8 + (maxL + 11) + rm.locals ≤ R.locals ∧ (∀ w ∈ ws, ∀ (a' : Array Value) (U : State), s.WarmedH U.vm → w.before a' U = true) ∧ Cond.codeWith y bytes maxL ret hh ∈ ws) ∧
  (Cond.codeWith y bytes maxL ret hh).before args s = true ∧ (Cond.initialized y.cls).before args s = true ∧ (y.cls ≠ "java/lang/invoke/MethodHandle" ∧ y.cls ≠ "java/lang/invoke/VarHandle") ∧
  (∀ sig, parseMethodDescriptor y.desc = some sig → n = sig.parameters.length) ∧ (Cond.methodLink own index y).before args s = true ∧ (Cond.instanceMethod y).before args s = true ∧ (Cond.selects C y y).before args s = true
theorem vx_cwVW {own C : String} {index maxL mc ms : Nat} {y : MethodName} {bytes : ByteArray} {ret : Option FieldType} {hh : List (Nat × Nat × Nat × Nat)} {Ts ws ws' : List Cond} {rm : Room} (n : Nat) (ht : ∀ w ∈ Ts, w.before args s = true) (hT : GoodIn Ts (wsV own index C y ws)) (hw : ws = Cond.codeWith y bytes maxL ret hh :: ws') (hrc : rm.cells = mc) (hrs : rm.slots = ms)
    (hd : y.cls = C ∧ y.cls ≠ "java/lang/invoke/MethodHandle" ∧ y.cls ≠ "java/lang/invoke/VarHandle" ∧ (parseMethodDescriptor y.desc).map (fun d => d.parameters.length) = some n) (hR : rm.frames + 1 ≤ R.frames ∧ 8 + (maxL + 11) + rm.locals ≤ R.locals) :
    vx_CVW R s args own C index y bytes maxL ret hh ws rm mc ms n := by
  obtain ⟨hC, hd⟩ := hd
  subst hC
  have ok : ∀ w ∈ wsV own index y.cls y ws, w.before args s = true := fun w h => ht w (hT w h).1
  have hG : GoodIn Ts ws := fun w h => hT w (by unfold wsV; exact List.mem_append_right _ h)
  have hc : Cond.codeWith y bytes maxL ret hh ∈ ws := by rw [hw]; exact List.mem_cons_self
  refine ⟨⟨hrc, hrs, hR.1, hR.2, pay_in ht hG, hc⟩, ht _ (hG _ hc).1, ok _ (by simp [wsV]), ⟨hd.1, hd.2.1⟩, fun sig h => ?_, ok _ (by simp [wsV]), ok _ (by simp [wsV]), ok _ (by simp [wsV])⟩
  have h2 := hd.2.2
  rw [h] at h2
  exact (Option.some.inj h2).symm
theorem vx_runVW {y : MethodName} {bytes cc : ByteArray} {maxL nL mc ms n index : Nat} {ret : Option FieldType} {hh : List (Nat × Nat × Nat × Nat)} {ws : List Cond} {rm : Room} {Pc : Array Value → State → Prop} {Qc : Array Value → State → Outcome → State → Prop} {free : Addr → Prop} {Ts : List Cond} {own C : String} {b : Addr} {As rest : List Value} {g : JFrame}
    (S : CallFix p m c cc nL s args Ts own) (hM : Met l y ws rm Pc Qc mc ms free) (cw : vx_CVW R s args own C index y bytes maxL ret hh ws rm mc ms n) (hp : PreV s H C b Pc As)
    (hg : g.method = m) (hn : As.length = n) (hsize : g.locals.size = nL) (hstack : g.stack = As.reverse ++ .ref b :: rest) (hW : 2 * g.monitorRoom + (rest.map fun v => v.category).sum ≤ 8) (hdg : decode cc g.pc = .ok (.invokevirtual index, 3)) (hf : cells + mc ≤ R.cells ∧ slots + ms ≤ R.slots) :
    va_Run p l e R s m args below meth c H locs cells slots mc ms g rest (Qc (Value.ref b :: As).toArray) free := by
  obtain ⟨⟨hrc, hrs, hfr, hlo, hws, hcw⟩, hcode, hini, hy, hlen, hl, hin, hse⟩ := cw
  have hK : Back l R p e below s args y 3 8 (PreOf R mc ms Pc) (PostOf Qc mc ms free) := va_backW (hh := hh) (bytes := bytes) (maxL := maxL) (ret := ret) hM hp.1 hrc hrs hfr hlo hws hcw (fun a' U hW => word_at hW (Or.inl (by first | rfl | simp [Cond.onTables, Cond.keeps, Cond.steady])) hini)
  obtain ⟨hx, hb, hml, ho, -⟩ := S
  obtain ⟨-, ⟨cellB, hcB, hoB, hclB⟩, hPc⟩ := hp
  intro T hT X
  obtain ⟨v, vm₁, ⟨U', l2, c2, s2⟩, hW₁, X', ⟨g', mk, t, L, e1, e2, hq, h1, hL, h2, h3⟩, st⟩ := vx_callVW X hx (C := C) (hh := hh) (bytes := bytes) (maxL := maxL) (ret := ret) ho hl hin hse hcode hy hK (by rw [hT]; exact hcB) hoB hclB hg (hsize.trans hml.symm) (argsL := As) (rest := rest) (fun sig h => hn.trans (hlen sig h)) hstack hW (by rw [hb]; exact hdg)
    (fun vm₁ hW₁ => ⟨hf.1, hf.2, hPc (T.setVm vm₁) hT hW₁⟩)
  dsimp only [Pt.U, Pt.locs, Pt.cells, Pt.slots] at X' e1 e2 h1 h2 h3 st
  subst h1; subst h2; subst h3
  exact ⟨v, (T.setVm vm₁).calling g' mk (Value.ref b :: As).toArray, t, U', L, hT, X', hL, e1, e2, hq, st⟩
section
variable {y : MethodName} {bytes cc : ByteArray} {maxL nL mc ms n index : Nat} {ret : Option FieldType} {ws : List Cond} {rm : Room} {Pc : Array Value → State → Prop} {Qc : Array Value → State → Outcome → State → Prop} {XC : String → State → State → Prop} {free : Addr → Prop} {Ts : List Cond} {own C : String} {b : Addr} {As rest : List Value} {g : JFrame}
theorem vx_runVX {hh : List (Nat × Nat × Nat × Nat)} (S : CallFix p m c cc nL s args Ts own) (hM : vx_Met l y ws rm Pc Qc XC mc ms free) (cw : vx_CVW R s args own C index y bytes maxL ret hh ws rm mc ms n) (hp : PreV s H C b Pc As)
    (hg : g.method = m) (hn : As.length = n) (hsize : g.locals.size = nL) (hstack : g.stack = As.reverse ++ .ref b :: rest) (hW : 2 * g.monitorRoom + (rest.map fun v => v.category).sum ≤ 8) (hdg : decode cc g.pc = .ok (.invokevirtual index, 3)) (hf : cells + mc ≤ R.cells ∧ slots + ms ≤ R.slots) :
    vx_Run p l e R s m args below meth c H locs cells slots mc ms g rest (Qc (Value.ref b :: As).toArray) XC free := by
  obtain ⟨⟨hrc, hrs, hfr, hlo, hws, hcw⟩, hcode, hini, hy, hlen, hl, hin, hse⟩ := cw
  have hK : vx_Back l R p e below s args y 3 8 (PreOf R mc ms Pc) (PostOf Qc mc ms free) (vx_Post XC mc ms free) := vx_backW (hh := hh) (bytes := bytes) (maxL := maxL) (ret := ret) hM hp.1 hrc hrs hfr hlo hws hcw (fun a' U hW => word_at hW (Or.inl (by first | rfl | simp [Cond.onTables, Cond.keeps, Cond.steady])) hini)
  obtain ⟨hx, hb, hml, ho, -⟩ := S
  obtain ⟨-, ⟨cellB, hcB, hoB, hclB⟩, hPc⟩ := hp
  intro T hT X
  rcases vx_callVX X hx (C := C) (hh := hh) (bytes := bytes) (maxL := maxL) (ret := ret) ho hl hin hse hcode hy hK (by rw [hT]; exact hcB) hoB hclB hg (hsize.trans hml.symm) (argsL := As) (rest := rest) (fun sig h => hn.trans (hlen sig h)) hstack hW (by rw [hb]; exact hdg)
    (fun vm₁ hW₁ => ⟨hf.1, hf.2, hPc (T.setVm vm₁) hT hW₁⟩) with ⟨v, vm₁, ⟨U', l2, c2, s2⟩, hW₁, X', ⟨g', mk, t, L, e1, e2, hq, h1, hL, h2, h3⟩, st⟩ | ⟨q, vm₁, ⟨U', l2, c2, s2⟩, hW₁, X', ⟨g', mk, t, L, E, ce, e1, e2, hq, hce, hcv, hcl, h1, hL, h2, h3⟩, st⟩
  · dsimp only [Pt.U, Pt.locs, Pt.cells, Pt.slots] at X' e1 e2 h1 h2 h3 st
    subst h1; subst h2; subst h3
    exact Or.inl ⟨v, (T.setVm vm₁).calling g' mk (Value.ref b :: As).toArray, t, U', L, hT, X', hL, e1, e2, hq, st⟩
  · dsimp only [Pt.U, Pt.locs, Pt.cells, Pt.slots] at X' e1 e2 h1 h2 h3 st hcl
    subst h1; subst h2; subst h3
    exact Or.inr ⟨q, (T.setVm vm₁).calling g' mk (Value.ref b :: As).toArray, t, U', L, E, ce, hT, X', hL, e1, e2, hq, hce, hcv, vx_cls hW₁ hcl, st⟩
theorem vx_runSX {hh : List (Nat × Nat × Nat × Nat)} (S : CallFix p m c cc nL s args Ts own) (hM : vx_Met l y ws rm Pc Qc XC mc ms free) (cw : vx_CSW R s args own index y bytes maxL ret hh ws rm mc ms n) (hp : PreS s H Pc As)
    (hg : g.method = m) (hn : As.length = n) (hsize : g.locals.size = nL) (hstack : g.stack = As.reverse ++ rest) (hW : 2 * g.monitorRoom + (rest.map fun v => v.category).sum ≤ 8) (hdg : decode cc g.pc = .ok (.invokestatic index, 3)) (hf : cells + mc ≤ R.cells ∧ slots + ms ≤ R.slots) :
    vx_Run p l e R s m args below meth c H locs cells slots mc ms g rest (Qc As.toArray) XC free := by
  obtain ⟨⟨hrc, hrs, hfr, hlo, hws, hcw⟩, hcode, hini, hy, hlen, hl, hstt⟩ := cw
  have hK : vx_Back l R p e below s args y 3 8 (PreOf R mc ms Pc) (PostOf Qc mc ms free) (vx_Post XC mc ms free) := vx_backW (hh := hh) (bytes := bytes) (maxL := maxL) (ret := ret) hM hp.1 hrc hrs hfr hlo hws hcw (fun a' U hW => word_at hW (Or.inl (by first | rfl | simp [Cond.onTables, Cond.keeps, Cond.steady])) hini)
  obtain ⟨hx, hb, hml, ho, -⟩ := S
  intro T hT X
  rcases vx_callSX X hx (hh := hh) (bytes := bytes) (maxL := maxL) (ret := ret) ho hl hstt hini hcode hy hK hg (hsize.trans hml.symm) (argsL := As) (rest := rest) (fun sig h => hn.trans (hlen sig h)) hstack hW (by rw [hb]; exact hdg)
    (fun vm₁ hW₁ => ⟨hf.1, hf.2, hp.2 (T.setVm vm₁) hT hW₁⟩) with ⟨v, vm₁, ⟨U', l2, c2, s2⟩, hW₁, X', ⟨g', mk, t, L, e1, e2, hq, h1, hL, h2, h3⟩, st⟩ | ⟨q, vm₁, ⟨U', l2, c2, s2⟩, hW₁, X', ⟨g', mk, t, L, E, ce, e1, e2, hq, hce, hcv, hcl, h1, hL, h2, h3⟩, st⟩
  · dsimp only [Pt.U, Pt.locs, Pt.cells, Pt.slots] at X' e1 e2 h1 h2 h3 st
    subst h1; subst h2; subst h3
    exact Or.inl ⟨v, (T.setVm vm₁).calling g' mk As.toArray, t, U', L, hT, X', hL, e1, e2, hq, st⟩
  · dsimp only [Pt.U, Pt.locs, Pt.cells, Pt.slots] at X' e1 e2 h1 h2 h3 st hcl
    subst h1; subst h2; subst h3
    exact Or.inr ⟨q, (T.setVm vm₁).calling g' mk As.toArray, t, U', L, E, ce, hT, X', hL, e1, e2, hq, hce, hcv, vx_cls hW₁ hcl, st⟩
end
end VXH
theorem vx_ofWH {l : Launch} {y : MethodName} {ws ws' : List Cond} {rm : Room} {Pc : Array Value → State → Prop} {Qc : Array Value → State → Outcome → State → Prop} {XC : String → State → State → Prop} {mc ms : Nat} {free : Addr → Prop} {cc : ByteArray} {maxL : Nat} {ret : Option FieldType} {hh : List (Nat × Nat × Nat × Nat)}
    (hy : plainName y.cls = true) (hw : ws = Cond.codeWith y cc maxL ret hh :: ws')
    (body : ∀ p e s m args below meth c s₁, BodyLoose p l y (headSpec ws rm) cc maxL ret e s m args below meth c s₁ → c.maxLocals = maxL → Pc args s →
      W p l e (headSpec ws rm).room s m args below meth c s.heap [] 0 0 (vx_MQ below Qc XC args s mc ms free) (entryFrame m args maxL)) : vx_Met l y ws rm Pc Qc XC mc ms free := by
  refine MetFree.of_bodyS (code := cc) (maxLocals := maxL) (ret := ret) hy ?_ ?_
  · intro args s m h hn
    obtain ⟨m9, meth, c, hn9, h1, h2, h3, h4, -, h5, h6, -⟩ := Cond.codeWith_spec (atoms_spec (ws := ws) h _ (by rw [hw]; exact List.mem_cons_self))
    cases hn.symm.trans hn9
    exact ⟨meth, c, h1, h2, h3, h4, h5, h6⟩
  · intro p e s m args below meth c s₁ B hml hP _
    have hh0 : s₁.heap = s.heap := by rw [B.state]; rfl
    obtain ⟨t, a1, o, b1, b2, b3⟩ := body p e s m args below meth c s₁ B hml hP s₁ hh0 (Stand.of_body B)
    exact ⟨t, o, a1, b1, b2, b3⟩
/-! ===== END ===== -/
end
section
/-! ===== BEGIN printed: names, fields, word lists, decode rows ===== -/
def RX0 : String := "CrowdDesk$Atom"
def TX0 : u_T := fun k => match k with
  | 0 => ("CrowdDesk$Atom", "coefficients", "[I", true)
  | 1 => ("CrowdDesk$Atom", "modulus", "I", false)
  | 2 => ("CrowdDesk$Atom", "target", "I", false)
  | 3 => ("CrowdDesk$Atom", "bound", "I", false)
  | 4 => ("CrowdDesk$Atom", "codes", "[I", true)
  | 5 => ("CrowdDesk$Atom", "numbers", "[I", true)
  | 6 => ("CrowdDesk$Atom", "firstRules", "[I", true)
  | _ => ("CrowdDesk$Atom", "states", "I", false)
def tyX0 : Nat → FieldType := fun k => match k with
  | 0 => .array .int
  | 1 => .int
  | 2 => .int
  | 3 => .int
  | 4 => .array .int
  | 5 => .array .int
  | 6 => .array .int
  | _ => .int
abbrev wsX00 : List Cond := u_ws RX0 TX0 8
theorem nmX0 : ∀ a, a < 8 → ∀ b, b < 8 → a ≠ b → (TX0 a).2.1 ≠ (TX0 b).2.1 := by decide +kernel
theorem tyX0_ok : ∀ k, k < 8 → parseFieldDescriptor (TX0 k).2.2.1 = some (tyX0 k) := by decide +kernel
abbrev cX0_init : ByteArray := prog_2_method_1_code
def yX0_init : MethodName := ⟨RX0, "<init>", "()V"⟩
abbrev cX0_become : ByteArray := prog_2_method_2_code
def yX0_become : MethodName := ⟨RX0, "become", "(II[I)V"⟩
abbrev cX0_isTrueOf : ByteArray := prog_2_method_3_code
def yX0_isTrueOf : MethodName := ⟨RX0, "isTrueOf", "([I)Z"⟩
abbrev cX0_beginning : ByteArray := prog_2_method_4_code
def yX0_beginning : MethodName := ⟨RX0, "beginning", "(I)I"⟩
abbrev cX0_afterMeeting : ByteArray := prog_2_method_5_code
def yX0_afterMeeting : MethodName := ⟨RX0, "afterMeeting", "(II)I"⟩
abbrev cX0_reduce : ByteArray := prog_2_method_6_code
def yX0_reduce : MethodName := ⟨RX0, "reduce", "(I)I"⟩
abbrev cX0_opinionOf : ByteArray := prog_2_method_7_code
def yX0_opinionOf : MethodName := ⟨RX0, "opinionOf", "(I)Z"⟩
abbrev cX0_makeTable : ByteArray := prog_2_method_8_code
def yX0_makeTable : MethodName := ⟨RX0, "makeTable", "()V"⟩
abbrev cX0_findStates : ByteArray := prog_2_method_9_code
def yX0_findStates : MethodName := ⟨RX0, "findStates", "()V"⟩
abbrev cX0_learnBoth : ByteArray := prog_2_method_10_code
def yX0_learnBoth : MethodName := ⟨RX0, "learnBoth", "(I)V"⟩
abbrev cX0_learn : ByteArray := prog_2_method_11_code
def yX0_learn : MethodName := ⟨RX0, "learn", "(I)V"⟩
abbrev cX0_numberStates : ByteArray := prog_2_method_12_code
def yX0_numberStates : MethodName := ⟨RX0, "numberStates", "()V"⟩
abbrev cX0_countRules : ByteArray := prog_2_method_13_code
def yX0_countRules : MethodName := ⟨RX0, "countRules", "()V"⟩
abbrev cX0_isRule : ByteArray := prog_2_method_14_code
def yX0_isRule : MethodName := ⟨RX0, "isRule", "(II)Z"⟩
abbrev cX0_stateCount : ByteArray := prog_2_method_15_code
def yX0_stateCount : MethodName := ⟨RX0, "stateCount", "()I"⟩
abbrev cX0_ruleCount : ByteArray := prog_2_method_16_code
def yX0_ruleCount : MethodName := ⟨RX0, "ruleCount", "()I"⟩
abbrev cX0_codeOf : ByteArray := prog_2_method_17_code
def yX0_codeOf : MethodName := ⟨RX0, "codeOf", "(I)I"⟩
abbrev cX0_ruleFact : ByteArray := prog_2_method_18_code
def yX0_ruleFact : MethodName := ⟨RX0, "ruleFact", "(II)I"⟩
abbrev cX0_firstOfRule : ByteArray := prog_2_method_19_code
def yX0_firstOfRule : MethodName := ⟨RX0, "firstOfRule", "(I)I"⟩
abbrev cX0_secondOfRule : ByteArray := prog_2_method_20_code
def yX0_secondOfRule : MethodName := ⟨RX0, "secondOfRule", "(II)I"⟩
def RX1 : String := "CrowdDesk$Code"
def TX1 : u_T := fun k => match k with
  | _ => ("", "", "", false)
def tyX1 : Nat → FieldType := fun k => match k with
  | _ => .int
abbrev wsX10 : List Cond := u_ws RX1 TX1 0
theorem nmX1 : ∀ a, a < 0 → ∀ b, b < 0 → a ≠ b → (TX1 a).2.1 ≠ (TX1 b).2.1 := by decide +kernel
theorem tyX1_ok : ∀ k, k < 0 → parseFieldDescriptor (TX1 k).2.2.1 = some (tyX1 k) := by decide +kernel
abbrev cX1_of : ByteArray := prog_3_method_2_code
def yX1_of : MethodName := ⟨RX1, "of", "(ZIZ)I"⟩
abbrev cX1_value : ByteArray := prog_3_method_3_code
def yX1_value : MethodName := ⟨RX1, "value", "(I)I"⟩
abbrev cX1_leads : ByteArray := prog_3_method_4_code
def yX1_leads : MethodName := ⟨RX1, "leads", "(I)Z"⟩
abbrev cX1_opinion : ByteArray := prog_3_method_5_code
def yX1_opinion : MethodName := ⟨RX1, "opinion", "(I)I"⟩
abbrev cX1_fact : ByteArray := prog_3_method_6_code
def yX1_fact : MethodName := ⟨RX1, "fact", "(II)I"⟩
abbrev cX1_pair : ByteArray := prog_3_method_7_code
def yX1_pair : MethodName := ⟨RX1, "pair", "(II)I"⟩
abbrev cX1_first : ByteArray := prog_3_method_8_code
def yX1_first : MethodName := ⟨RX1, "first", "(I)I"⟩
abbrev cX1_second : ByteArray := prog_3_method_9_code
def yX1_second : MethodName := ⟨RX1, "second", "(I)I"⟩
abbrev cX1_ofAtom : ByteArray := prog_3_method_10_code
def yX1_ofAtom : MethodName := ⟨RX1, "ofAtom", "(JI)I"⟩
abbrev cX1_atAtom : ByteArray := prog_3_method_11_code
def yX1_atAtom : MethodName := ⟨RX1, "atAtom", "(II)J"⟩
abbrev cX1_leadsSomewhere : ByteArray := prog_3_method_12_code
def yX1_leadsSomewhere : MethodName := ⟨RX1, "leadsSomewhere", "(J)Z"⟩
def RX2 : String := "CrowdDesk$Crowd"
def TX2 : u_T := fun k => match k with
  | 0 => ("CrowdDesk$Crowd", "formula", "LCrowdDesk$Formula;", true)
  | 1 => ("CrowdDesk$Crowd", "meeting", "LCrowdDesk$Meeting;", true)
  | 2 => ("CrowdDesk$Crowd", "agents", "[J", true)
  | 3 => ("CrowdDesk$Crowd", "letterCounts", "[I", true)
  | _ => ("CrowdDesk$Crowd", "count", "I", false)
def tyX2 : Nat → FieldType := fun k => match k with
  | 0 => .object "CrowdDesk$Formula"
  | 1 => .object "CrowdDesk$Meeting"
  | 2 => .array .long
  | 3 => .array .int
  | _ => .int
abbrev wsX20 : List Cond := u_ws RX2 TX2 5
theorem nmX2 : ∀ a, a < 5 → ∀ b, b < 5 → a ≠ b → (TX2 a).2.1 ≠ (TX2 b).2.1 := by decide +kernel
theorem tyX2_ok : ∀ k, k < 5 → parseFieldDescriptor (TX2 k).2.2.1 = some (tyX2 k) := by decide +kernel
abbrev cX2_init : ByteArray := prog_4_method_1_code
def yX2_init : MethodName := ⟨RX2, "<init>", "(LCrowdDesk$Formula;)V"⟩
abbrev cX2_reset : ByteArray := prog_4_method_2_code
def yX2_reset : MethodName := ⟨RX2, "reset", "()V"⟩
abbrev cX2_count : ByteArray := prog_4_method_3_code
def yX2_count : MethodName := ⟨RX2, "count", "()I"⟩
abbrev cX2_hasAgent : ByteArray := prog_4_method_4_code
def yX2_hasAgent : MethodName := ⟨RX2, "hasAgent", "(I)Z"⟩
abbrev cX2_agent : ByteArray := prog_4_method_5_code
def yX2_agent : MethodName := ⟨RX2, "agent", "(I)J"⟩
abbrev cX2_letterCounts : ByteArray := prog_4_method_6_code
def yX2_letterCounts : MethodName := ⟨RX2, "letterCounts", "()[I"⟩
abbrev cX2_admit : ByteArray := prog_4_method_7_code
def yX2_admit : MethodName := ⟨RX2, "admit", "(II)V"⟩
abbrev cX2_bringTogether : ByteArray := prog_4_method_8_code
def yX2_bringTogether : MethodName := ⟨RX2, "bringTogether", "(II)Z"⟩
abbrev cX2_sweepOften : ByteArray := prog_4_method_9_code
def yX2_sweepOften : MethodName := ⟨RX2, "sweepOften", "(I)I"⟩
abbrev cX2_sweepOnce : ByteArray := prog_4_method_10_code
def yX2_sweepOnce : MethodName := ⟨RX2, "sweepOnce", "()I"⟩
abbrev cX2_behindLastLeader : ByteArray := prog_4_method_11_code
def yX2_behindLastLeader : MethodName := ⟨RX2, "behindLastLeader", "()I"⟩
abbrev cX2_isQuiet : ByteArray := prog_4_method_12_code
def yX2_isQuiet : MethodName := ⟨RX2, "isQuiet", "()Z"⟩
abbrev cX2_isOfOneMind : ByteArray := prog_4_method_13_code
def yX2_isOfOneMind : MethodName := ⟨RX2, "isOfOneMind", "()Z"⟩
def RX3 : String := "CrowdDesk$Formula"
def TX3 : u_T := fun k => match k with
  | 0 => ("CrowdDesk$Formula", "pending", "[I", true)
  | 1 => ("CrowdDesk$Formula", "ops", "[I", true)
  | 2 => ("CrowdDesk$Formula", "lefts", "[I", true)
  | 3 => ("CrowdDesk$Formula", "rights", "[I", true)
  | 4 => ("CrowdDesk$Formula", "atoms", "[LCrowdDesk$Atom;", true)
  | 5 => ("CrowdDesk$Formula", "nodeCount", "I", false)
  | 6 => ("CrowdDesk$Formula", "atomCount", "I", false)
  | _ => ("CrowdDesk$Formula", "compiled", "Z", false)
def tyX3 : Nat → FieldType := fun k => match k with
  | 0 => .array .int
  | 1 => .array .int
  | 2 => .array .int
  | 3 => .array .int
  | 4 => .array (.object "CrowdDesk$Atom")
  | 5 => .int
  | 6 => .int
  | _ => .boolean
abbrev wsX30 : List Cond := u_ws RX3 TX3 8
theorem nmX3 : ∀ a, a < 8 → ∀ b, b < 8 → a ≠ b → (TX3 a).2.1 ≠ (TX3 b).2.1 := by decide +kernel
theorem tyX3_ok : ∀ k, k < 8 → parseFieldDescriptor (TX3 k).2.2.1 = some (tyX3 k) := by decide +kernel
abbrev cX3_init : ByteArray := prog_5_method_1_code
def yX3_init : MethodName := ⟨RX3, "<init>", "()V"⟩
abbrev cX3_reset : ByteArray := prog_5_method_2_code
def yX3_reset : MethodName := ⟨RX3, "reset", "()V"⟩
abbrev cX3_setPending : ByteArray := prog_5_method_3_code
def yX3_setPending : MethodName := ⟨RX3, "setPending", "(II)I"⟩
abbrev cX3_takesNode : ByteArray := prog_5_method_4_code
def yX3_takesNode : MethodName := ⟨RX3, "takesNode", "()Z"⟩
abbrev cX3_takesAtom : ByteArray := prog_5_method_5_code
def yX3_takesAtom : MethodName := ⟨RX3, "takesAtom", "()Z"⟩
abbrev cX3_hasNode : ByteArray := prog_5_method_6_code
def yX3_hasNode : MethodName := ⟨RX3, "hasNode", "(I)Z"⟩
abbrev cX3_hasAtom : ByteArray := prog_5_method_7_code
def yX3_hasAtom : MethodName := ⟨RX3, "hasAtom", "(I)Z"⟩
abbrev cX3_isCompiled : ByteArray := prog_5_method_8_code
def yX3_isCompiled : MethodName := ⟨RX3, "isCompiled", "()Z"⟩
abbrev cX3_isEmpty : ByteArray := prog_5_method_9_code
def yX3_isEmpty : MethodName := ⟨RX3, "isEmpty", "()Z"⟩
abbrev cX3_atom : ByteArray := prog_5_method_10_code
def yX3_atom : MethodName := ⟨RX3, "atom", "(I)LCrowdDesk$Atom;"⟩
abbrev cX3_atomCount : ByteArray := prog_5_method_11_code
def yX3_atomCount : MethodName := ⟨RX3, "atomCount", "()I"⟩
abbrev cX3_addAtom : ByteArray := prog_5_method_12_code
def yX3_addAtom : MethodName := ⟨RX3, "addAtom", "(II)I"⟩
abbrev cX3_addNode : ByteArray := prog_5_method_13_code
def yX3_addNode : MethodName := ⟨RX3, "addNode", "(III)I"⟩
abbrev cX3_hasSharedNode : ByteArray := prog_5_method_14_code
def yX3_hasSharedNode : MethodName := ⟨RX3, "hasSharedNode", "()Z"⟩
abbrev cX3_makeRules : ByteArray := prog_5_method_15_code
def yX3_makeRules : MethodName := ⟨RX3, "makeRules", "()I"⟩
abbrev cX3_beginning : ByteArray := prog_5_method_16_code
def yX3_beginning : MethodName := ⟨RX3, "beginning", "(I)J"⟩
abbrev cX3_isTrueOf : ByteArray := prog_5_method_17_code
def yX3_isTrueOf : MethodName := ⟨RX3, "isTrueOf", "([I)Z"⟩
abbrev cX3_outputOf : ByteArray := prog_5_method_18_code
def yX3_outputOf : MethodName := ⟨RX3, "outputOf", "(J)Z"⟩
abbrev cX3_allOutputsAre : ByteArray := prog_5_method_19_code
def yX3_allOutputsAre : MethodName := ⟨RX3, "allOutputsAre", "(Z[JII)Z"⟩
abbrev cX3_evaluate : ByteArray := prog_5_method_20_code
def yX3_evaluate : MethodName := ⟨RX3, "evaluate", "(I)Z"⟩
abbrev cX3_nodeTruth : ByteArray := prog_5_method_21_code
def yX3_nodeTruth : MethodName := ⟨RX3, "nodeTruth", "(III)I"⟩
abbrev cX3_bit : ByteArray := prog_5_method_22_code
def yX3_bit : MethodName := ⟨RX3, "bit", "(II)I"⟩
def RX4 : String := "CrowdDesk$Meeting"
def TX4 : u_T := fun k => match k with
  | 0 => ("CrowdDesk$Meeting", "formula", "LCrowdDesk$Formula;", true)
  | 1 => ("CrowdDesk$Meeting", "first", "J", false)
  | _ => ("CrowdDesk$Meeting", "second", "J", false)
def tyX4 : Nat → FieldType := fun k => match k with
  | 0 => .object "CrowdDesk$Formula"
  | 1 => .long
  | _ => .long
abbrev wsX40 : List Cond := u_ws RX4 TX4 3
theorem nmX4 : ∀ a, a < 3 → ∀ b, b < 3 → a ≠ b → (TX4 a).2.1 ≠ (TX4 b).2.1 := by decide +kernel
theorem tyX4_ok : ∀ k, k < 3 → parseFieldDescriptor (TX4 k).2.2.1 = some (tyX4 k) := by decide +kernel
abbrev cX4_init : ByteArray := prog_6_method_1_code
def yX4_init : MethodName := ⟨RX4, "<init>", "(LCrowdDesk$Formula;)V"⟩
abbrev cX4_changes : ByteArray := prog_6_method_2_code
def yX4_changes : MethodName := ⟨RX4, "changes", "(JJ)Z"⟩
abbrev cX4_first : ByteArray := prog_6_method_3_code
def yX4_first : MethodName := ⟨RX4, "first", "()J"⟩
abbrev cX4_second : ByteArray := prog_6_method_4_code
def yX4_second : MethodName := ⟨RX4, "second", "()J"⟩
abbrev cX4_changesNone : ByteArray := prog_6_method_5_code
def yX4_changesNone : MethodName := ⟨RX4, "changesNone", "([JII)Z"⟩
def RX5 : String := "CrowdDesk$Search"
def TX5 : u_T := fun k => match k with
  | 0 => ("CrowdDesk$Search", "formula", "LCrowdDesk$Formula;", true)
  | 1 => ("CrowdDesk$Search", "meeting", "LCrowdDesk$Meeting;", true)
  | 2 => ("CrowdDesk$Search", "rows", "[J", true)
  | 3 => ("CrowdDesk$Search", "slots", "[I", true)
  | 4 => ("CrowdDesk$Search", "endsRight", "[Z", true)
  | 5 => ("CrowdDesk$Search", "next", "[J", true)
  | 6 => ("CrowdDesk$Search", "width", "I", false)
  | _ => ("CrowdDesk$Search", "found", "I", false)
def tyX5 : Nat → FieldType := fun k => match k with
  | 0 => .object "CrowdDesk$Formula"
  | 1 => .object "CrowdDesk$Meeting"
  | 2 => .array .long
  | 3 => .array .int
  | 4 => .array .boolean
  | 5 => .array .long
  | 6 => .int
  | _ => .int
abbrev wsX50 : List Cond := u_ws RX5 TX5 8
theorem nmX5 : ∀ a, a < 8 → ∀ b, b < 8 → a ≠ b → (TX5 a).2.1 ≠ (TX5 b).2.1 := by decide +kernel
theorem tyX5_ok : ∀ k, k < 8 → parseFieldDescriptor (TX5 k).2.2.1 = some (tyX5 k) := by decide +kernel
abbrev cX5_init : ByteArray := prog_7_method_1_code
def yX5_init : MethodName := ⟨RX5, "<init>", "(LCrowdDesk$Formula;)V"⟩
abbrev cX5_findAll : ByteArray := prog_7_method_2_code
def yX5_findAll : MethodName := ⟨RX5, "findAll", "(LCrowdDesk$Crowd;I)I"⟩
abbrev cX5_keepAllAfter : ByteArray := prog_7_method_3_code
def yX5_keepAllAfter : MethodName := ⟨RX5, "keepAllAfter", "(II)Z"⟩
abbrev cX5_stepToNext : ByteArray := prog_7_method_4_code
def yX5_stepToNext : MethodName := ⟨RX5, "stepToNext", "(III)Z"⟩
abbrev cX5_sortNext : ByteArray := prog_7_method_5_code
def yX5_sortNext : MethodName := ⟨RX5, "sortNext", "()V"⟩
abbrev cX5_keepNext : ByteArray := prog_7_method_6_code
def yX5_keepNext : MethodName := ⟨RX5, "keepNext", "(I)V"⟩
abbrev cX5_slotOfNext : ByteArray := prog_7_method_7_code
def yX5_slotOfNext : MethodName := ⟨RX5, "slotOfNext", "()I"⟩
abbrev cX5_isNext : ByteArray := prog_7_method_8_code
def yX5_isNext : MethodName := ⟨RX5, "isNext", "(I)Z"⟩
abbrev cX5_allCanEndRight : ByteArray := prog_7_method_9_code
def yX5_allCanEndRight : MethodName := ⟨RX5, "allCanEndRight", "(Z)Z"⟩
abbrev cX5_isRightEnd : ByteArray := prog_7_method_10_code
def yX5_isRightEnd : MethodName := ⟨RX5, "isRightEnd", "(IZ)Z"⟩
abbrev cX5_leadsToRightEnd : ByteArray := prog_7_method_11_code
def yX5_leadsToRightEnd : MethodName := ⟨RX5, "leadsToRightEnd", "(I)Z"⟩
def RX6 : String := "CrowdDesk"
def TX6 : u_T := fun k => match k with
  | 0 => ("CrowdDesk", "formula", "LCrowdDesk$Formula;", true)
  | 1 => ("CrowdDesk", "crowd", "LCrowdDesk$Crowd;", true)
  | 2 => ("CrowdDesk", "search", "LCrowdDesk$Search;", false)
  | _ => ("CrowdDesk", "explored", "Z", false)
def tyX6 : Nat → FieldType := fun k => match k with
  | 0 => .object "CrowdDesk$Formula"
  | 1 => .object "CrowdDesk$Crowd"
  | 2 => .object "CrowdDesk$Search"
  | _ => .boolean
abbrev wsX60 : List Cond := u_ws RX6 TX6 4
theorem nmX6 : ∀ a, a < 4 → ∀ b, b < 4 → a ≠ b → (TX6 a).2.1 ≠ (TX6 b).2.1 := by decide +kernel
theorem tyX6_ok : ∀ k, k < 4 → parseFieldDescriptor (TX6 k).2.2.1 = some (tyX6 k) := by decide +kernel
abbrev cX6_init : ByteArray := prog_1_method_1_code
def yX6_init : MethodName := ⟨RX6, "<init>", "()V"⟩
abbrev cX6_clear : ByteArray := prog_1_method_2_code
def yX6_clear : MethodName := ⟨RX6, "clear", "()V"⟩
abbrev cX6_coef : ByteArray := prog_1_method_3_code
def yX6_coef : MethodName := ⟨RX6, "coef", "(II)I"⟩
abbrev cX6_sum : ByteArray := prog_1_method_4_code
def yX6_sum : MethodName := ⟨RX6, "sum", "(I)I"⟩
abbrev cX6_mod : ByteArray := prog_1_method_5_code
def yX6_mod : MethodName := ⟨RX6, "mod", "(II)I"⟩
abbrev cX6_combine : ByteArray := prog_1_method_6_code
def yX6_combine : MethodName := ⟨RX6, "combine", "(III)I"⟩
abbrev cX6_compile : ByteArray := prog_1_method_7_code
def yX6_compile : MethodName := ⟨RX6, "compile", "()I"⟩
abbrev cX6_add : ByteArray := prog_1_method_8_code
def yX6_add : MethodName := ⟨RX6, "add", "(II)I"⟩
abbrev cX6_size : ByteArray := prog_1_method_9_code
def yX6_size : MethodName := ⟨RX6, "size", "()I"⟩
abbrev cX6_meet : ByteArray := prog_1_method_10_code
def yX6_meet : MethodName := ⟨RX6, "meet", "(II)Z"⟩
abbrev cX6_sweep : ByteArray := prog_1_method_11_code
def yX6_sweep : MethodName := ⟨RX6, "sweep", "(I)I"⟩
abbrev cX6_output : ByteArray := prog_1_method_12_code
def yX6_output : MethodName := ⟨RX6, "output", "(I)Z"⟩
abbrev cX6_state : ByteArray := prog_1_method_13_code
def yX6_state : MethodName := ⟨RX6, "state", "(III)I"⟩
abbrev cX6_truth : ByteArray := prog_1_method_14_code
def yX6_truth : MethodName := ⟨RX6, "truth", "()Z"⟩
abbrev cX6_silent : ByteArray := prog_1_method_15_code
def yX6_silent : MethodName := ⟨RX6, "silent", "()Z"⟩
abbrev cX6_agree : ByteArray := prog_1_method_16_code
def yX6_agree : MethodName := ⟨RX6, "agree", "()Z"⟩
abbrev cX6_explore : ByteArray := prog_1_method_17_code
def yX6_explore : MethodName := ⟨RX6, "explore", "(I)I"⟩
abbrev cX6_recovers : ByteArray := prog_1_method_18_code
def yX6_recovers : MethodName := ⟨RX6, "recovers", "()Z"⟩
abbrev cX6_table : ByteArray := prog_1_method_19_code
def yX6_table : MethodName := ⟨RX6, "table", "(II)I"⟩
abbrev cX6_rule : ByteArray := prog_1_method_20_code
def yX6_rule : MethodName := ⟨RX6, "rule", "(III)I"⟩
abbrev cX6_kind : ByteArray := prog_1_method_21_code
def yX6_kind : MethodName := ⟨RX6, "kind", "(III)I"⟩
abbrev cX6_checkTable : ByteArray := prog_1_method_22_code
def yX6_checkTable : MethodName := ⟨RX6, "checkTable", "(III)V"⟩
abbrev cX6_isLetter : ByteArray := prog_1_method_23_code
def yX6_isLetter : MethodName := ⟨RX6, "isLetter", "(I)Z"⟩
abbrev cX6_isCoefficient : ByteArray := prog_1_method_24_code
def yX6_isCoefficient : MethodName := ⟨RX6, "isCoefficient", "(I)Z"⟩
abbrev cX6_isFact : ByteArray := prog_1_method_25_code
def yX6_isFact : MethodName := ⟨RX6, "isFact", "(II)Z"⟩
def RX7 : String := "CrowdDeskModel"
def TX7 : u_T := fun k => match k with
  | 0 => ("CrowdDeskModel", "thrownCode", "I", false)
  | 1 => ("CrowdDeskModel", "pending", "[I", true)
  | 2 => ("CrowdDeskModel", "nodes", "I", false)
  | 3 => ("CrowdDeskModel", "op", "[I", true)
  | 4 => ("CrowdDeskModel", "left", "[I", true)
  | 5 => ("CrowdDeskModel", "right", "[I", true)
  | 6 => ("CrowdDeskModel", "truths", "[Z", true)
  | 7 => ("CrowdDeskModel", "atoms", "I", false)
  | 8 => ("CrowdDeskModel", "coefs", "[I", true)
  | 9 => ("CrowdDeskModel", "bound", "[I", true)
  | 10 => ("CrowdDeskModel", "modulus", "[I", true)
  | 11 => ("CrowdDeskModel", "edge", "[I", true)
  | 12 => ("CrowdDeskModel", "compiled", "Z", false)
  | 13 => ("CrowdDeskModel", "there", "[Z", true)
  | 14 => ("CrowdDeskModel", "agents", "I", false)
  | 15 => ("CrowdDeskModel", "agent", "[I", true)
  | 16 => ("CrowdDeskModel", "letters", "[I", true)
  | 17 => ("CrowdDeskModel", "newOne", "I", false)
  | 18 => ("CrowdDeskModel", "newOther", "I", false)
  | 19 => ("CrowdDeskModel", "crowds", "I", false)
  | 20 => ("CrowdDeskModel", "crowd", "[J", true)
  | 21 => ("CrowdDeskModel", "place", "[I", true)
  | 22 => ("CrowdDeskModel", "good", "[Z", true)
  | 23 => ("CrowdDeskModel", "explored", "Z", false)
  | _ => ("CrowdDeskModel", "work", "[J", true)
def tyX7 : Nat → FieldType := fun k => match k with
  | 0 => .int
  | 1 => .array .int
  | 2 => .int
  | 3 => .array .int
  | 4 => .array .int
  | 5 => .array .int
  | 6 => .array .boolean
  | 7 => .int
  | 8 => .array .int
  | 9 => .array .int
  | 10 => .array .int
  | 11 => .array .int
  | 12 => .boolean
  | 13 => .array .boolean
  | 14 => .int
  | 15 => .array .int
  | 16 => .array .int
  | 17 => .int
  | 18 => .int
  | 19 => .int
  | 20 => .array .long
  | 21 => .array .int
  | 22 => .array .boolean
  | 23 => .boolean
  | _ => .array .long
abbrev wsX70 : List Cond := u_ws RX7 TX7 25
theorem nmX7 : ∀ a, a < 25 → ∀ b, b < 25 → a ≠ b → (TX7 a).2.1 ≠ (TX7 b).2.1 := by decide +kernel
theorem tyX7_ok : ∀ k, k < 25 → parseFieldDescriptor (TX7 k).2.2.1 = some (tyX7 k) := by decide +kernel
abbrev cX7_init : ByteArray := prog_9_method_1_code
def yX7_init : MethodName := ⟨RX7, "<init>", "()V"⟩
abbrev cX7_thrown : ByteArray := prog_9_method_2_code
def yX7_thrown : MethodName := ⟨RX7, "thrown", "()I"⟩
abbrev cX7_opinionOf : ByteArray := prog_9_method_3_code
def yX7_opinionOf : MethodName := ⟨RX7, "opinionOf", "(II)Z"⟩
abbrev cX7_stateOf : ByteArray := prog_9_method_4_code
def yX7_stateOf : MethodName := ⟨RX7, "stateOf", "(IZIZ)I"⟩
abbrev cX7_valueOf : ByteArray := prog_9_method_5_code
def yX7_valueOf : MethodName := ⟨RX7, "valueOf", "(I)I"⟩
abbrev cX7_firstState : ByteArray := prog_9_method_6_code
def yX7_firstState : MethodName := ⟨RX7, "firstState", "(II)I"⟩
abbrev cX7_meeting : ByteArray := prog_9_method_7_code
def yX7_meeting : MethodName := ⟨RX7, "meeting", "(III)V"⟩
abbrev cX7_findStates : ByteArray := prog_9_method_8_code
def yX7_findStates : MethodName := ⟨RX7, "findStates", "(I)V"⟩
abbrev cX7_stateCount : ByteArray := prog_9_method_9_code
def yX7_stateCount : MethodName := ⟨RX7, "stateCount", "(I)I"⟩
abbrev cX7_numberOf : ByteArray := prog_9_method_10_code
def yX7_numberOf : MethodName := ⟨RX7, "numberOf", "(II)I"⟩
abbrev cX7_findRule : ByteArray := prog_9_method_11_code
def yX7_findRule : MethodName := ⟨RX7, "findRule", "(II)I"⟩
abbrev cX7_formula : ByteArray := prog_9_method_12_code
def yX7_formula : MethodName := ⟨RX7, "formula", "()Z"⟩
abbrev cX7_truthNow : ByteArray := prog_9_method_13_code
def yX7_truthNow : MethodName := ⟨RX7, "truthNow", "()Z"⟩
abbrev cX7_outputOf : ByteArray := prog_9_method_14_code
def yX7_outputOf : MethodName := ⟨RX7, "outputOf", "(I)Z"⟩
abbrev cX7_meets : ByteArray := prog_9_method_15_code
def yX7_meets : MethodName := ⟨RX7, "meets", "(IIZ)Z"⟩
abbrev cX7_stateIn : ByteArray := prog_9_method_16_code
def yX7_stateIn : MethodName := ⟨RX7, "stateIn", "(JI)I"⟩
abbrev cX7_sort : ByteArray := prog_9_method_17_code
def yX7_sort : MethodName := ⟨RX7, "sort", "()V"⟩
abbrev cX7_after : ByteArray := prog_9_method_18_code
def yX7_after : MethodName := ⟨RX7, "after", "(III)Z"⟩
abbrev cX7_find : ByteArray := prog_9_method_19_code
def yX7_find : MethodName := ⟨RX7, "find", "(Z)I"⟩
abbrev cX7_silentCrowd : ByteArray := prog_9_method_20_code
def yX7_silentCrowd : MethodName := ⟨RX7, "silentCrowd", "(I)Z"⟩
abbrev cX7_rightCrowd : ByteArray := prog_9_method_21_code
def yX7_rightCrowd : MethodName := ⟨RX7, "rightCrowd", "(IZ)Z"⟩
abbrev cX7_leadsToGood : ByteArray := prog_9_method_22_code
def yX7_leadsToGood : MethodName := ⟨RX7, "leadsToGood", "(I)Z"⟩
abbrev cX7_clear : ByteArray := prog_9_method_23_code
def yX7_clear : MethodName := ⟨RX7, "clear", "()V"⟩
abbrev cX7_coef : ByteArray := prog_9_method_24_code
def yX7_coef : MethodName := ⟨RX7, "coef", "(II)I"⟩
abbrev cX7_atom : ByteArray := prog_9_method_25_code
def yX7_atom : MethodName := ⟨RX7, "atom", "(II)I"⟩
abbrev cX7_node : ByteArray := prog_9_method_26_code
def yX7_node : MethodName := ⟨RX7, "node", "(III)I"⟩
abbrev cX7_full : ByteArray := prog_9_method_27_code
def yX7_full : MethodName := ⟨RX7, "full", "()Z"⟩
abbrev cX7_sum : ByteArray := prog_9_method_28_code
def yX7_sum : MethodName := ⟨RX7, "sum", "(I)I"⟩
abbrev cX7_mod : ByteArray := prog_9_method_29_code
def yX7_mod : MethodName := ⟨RX7, "mod", "(II)I"⟩
abbrev cX7_combine : ByteArray := prog_9_method_30_code
def yX7_combine : MethodName := ⟨RX7, "combine", "(III)I"⟩
abbrev cX7_compile : ByteArray := prog_9_method_31_code
def yX7_compile : MethodName := ⟨RX7, "compile", "()I"⟩
abbrev cX7_add : ByteArray := prog_9_method_32_code
def yX7_add : MethodName := ⟨RX7, "add", "(II)I"⟩
abbrev cX7_size : ByteArray := prog_9_method_33_code
def yX7_size : MethodName := ⟨RX7, "size", "()I"⟩
abbrev cX7_noAgent : ByteArray := prog_9_method_34_code
def yX7_noAgent : MethodName := ⟨RX7, "noAgent", "(I)Z"⟩
abbrev cX7_meet : ByteArray := prog_9_method_35_code
def yX7_meet : MethodName := ⟨RX7, "meet", "(II)Z"⟩
abbrev cX7_sweep : ByteArray := prog_9_method_36_code
def yX7_sweep : MethodName := ⟨RX7, "sweep", "(I)I"⟩
abbrev cX7_output : ByteArray := prog_9_method_37_code
def yX7_output : MethodName := ⟨RX7, "output", "(I)Z"⟩
abbrev cX7_partOf : ByteArray := prog_9_method_38_code
def yX7_partOf : MethodName := ⟨RX7, "partOf", "(II)I"⟩
abbrev cX7_state : ByteArray := prog_9_method_39_code
def yX7_state : MethodName := ⟨RX7, "state", "(III)I"⟩
abbrev cX7_truth : ByteArray := prog_9_method_40_code
def yX7_truth : MethodName := ⟨RX7, "truth", "()Z"⟩
abbrev cX7_silent : ByteArray := prog_9_method_41_code
def yX7_silent : MethodName := ⟨RX7, "silent", "()Z"⟩
abbrev cX7_agree : ByteArray := prog_9_method_42_code
def yX7_agree : MethodName := ⟨RX7, "agree", "()Z"⟩
abbrev cX7_explore : ByteArray := prog_9_method_43_code
def yX7_explore : MethodName := ⟨RX7, "explore", "(I)I"⟩
abbrev cX7_recovers : ByteArray := prog_9_method_44_code
def yX7_recovers : MethodName := ⟨RX7, "recovers", "()Z"⟩
abbrev cX7_tableFault : ByteArray := prog_9_method_45_code
def yX7_tableFault : MethodName := ⟨RX7, "tableFault", "(III)I"⟩
abbrev cX7_table : ByteArray := prog_9_method_46_code
def yX7_table : MethodName := ⟨RX7, "table", "(II)I"⟩
abbrev cX7_rule : ByteArray := prog_9_method_47_code
def yX7_rule : MethodName := ⟨RX7, "rule", "(III)I"⟩
abbrev cX7_kind : ByteArray := prog_9_method_48_code
def yX7_kind : MethodName := ⟨RX7, "kind", "(III)I"⟩
def RJ9 : String := "java/lang/Math"
def TJ9 : u_T := fun k => match k with
  | _ => ("", "", "", false)
def tyJ9 : Nat → FieldType := fun k => match k with
  | _ => .int
abbrev wsJ90 : List Cond := u_ws RJ9 TJ9 0
theorem nmJ9 : ∀ a, a < 0 → ∀ b, b < 0 → a ≠ b → (TJ9 a).2.1 ≠ (TJ9 b).2.1 := by decide +kernel
theorem tyJ9_ok : ∀ k, k < 0 → parseFieldDescriptor (TJ9 k).2.2.1 = some (tyJ9 k) := by decide +kernel
abbrev cJ9_floorMod_7cf53 : ByteArray := prog_14_method_50_code
def yJ9_floorMod_7cf53 : MethodName := ⟨RJ9, "floorMod", "(II)I"⟩
abbrev cJ9_abs_0f7a4 : ByteArray := prog_14_method_59_code
def yJ9_abs_0f7a4 : MethodName := ⟨RJ9, "abs", "(I)I"⟩
abbrev cJ9_max_7cf53 : ByteArray := prog_14_method_65_code
def yJ9_max_7cf53 : MethodName := ⟨RJ9, "max", "(II)I"⟩
abbrev cJ9_min_7cf53 : ByteArray := prog_14_method_69_code
def yJ9_min_7cf53 : MethodName := ⟨RJ9, "min", "(II)I"⟩
def RJ0 : String := "java/lang/String"
def TJ0 : u_T := fun k => match k with
  | _ => ("", "", "", false)
def tyJ0 : Nat → FieldType := fun k => match k with
  | _ => .int
abbrev wsJ00 : List Cond := u_ws RJ0 TJ0 0
theorem nmJ0 : ∀ a, a < 0 → ∀ b, b < 0 → a ≠ b → (TJ0 a).2.1 ≠ (TJ0 b).2.1 := by decide +kernel
theorem tyJ0_ok : ∀ k, k < 0 → parseFieldDescriptor (TJ0 k).2.2.1 = some (tyJ0 k) := by decide +kernel
def RJ7 : String := "java/util/Arrays"
def TJ7 : u_T := fun k => match k with
  | _ => ("", "", "", false)
def tyJ7 : Nat → FieldType := fun k => match k with
  | _ => .int
abbrev wsJ70 : List Cond := u_ws RJ7 TJ7 0
theorem nmJ7 : ∀ a, a < 0 → ∀ b, b < 0 → a ≠ b → (TJ7 a).2.1 ≠ (TJ7 b).2.1 := by decide +kernel
theorem tyJ7_ok : ∀ k, k < 0 → parseFieldDescriptor (TJ7 k).2.2.1 = some (tyJ7 k) := by decide +kernel
abbrev cJ7_fill_53178 : ByteArray := prog_18_method_103_code
def yJ7_fill_53178 : MethodName := ⟨RJ7, "fill", "([II)V"⟩
def RL : String := "CrowdDeskLaw"
abbrev cL_coef : ByteArray := method_3_code
def yL_coef : MethodName := ⟨RL, "coef", "(LCrowdDesk;II[J)I"⟩
abbrev cL_sum : ByteArray := method_4_code
def yL_sum : MethodName := ⟨RL, "sum", "(LCrowdDesk;I[J)I"⟩
abbrev cL_mod : ByteArray := method_5_code
def yL_mod : MethodName := ⟨RL, "mod", "(LCrowdDesk;II[J)I"⟩
abbrev cL_combine : ByteArray := method_6_code
def yL_combine : MethodName := ⟨RL, "combine", "(LCrowdDesk;III[J)I"⟩
abbrev cL_compile : ByteArray := method_7_code
def yL_compile : MethodName := ⟨RL, "compile", "(LCrowdDesk;[J)I"⟩
abbrev cL_add : ByteArray := method_8_code
def yL_add : MethodName := ⟨RL, "add", "(LCrowdDesk;II[J)I"⟩
abbrev cL_meet : ByteArray := method_9_code
def yL_meet : MethodName := ⟨RL, "meet", "(LCrowdDesk;II[J)I"⟩
abbrev cL_sweep : ByteArray := method_10_code
def yL_sweep : MethodName := ⟨RL, "sweep", "(LCrowdDesk;I[J)I"⟩
abbrev cL_output : ByteArray := method_11_code
def yL_output : MethodName := ⟨RL, "output", "(LCrowdDesk;I[J)I"⟩
abbrev cL_state : ByteArray := method_12_code
def yL_state : MethodName := ⟨RL, "state", "(LCrowdDesk;III[J)I"⟩
abbrev cL_truth : ByteArray := method_13_code
def yL_truth : MethodName := ⟨RL, "truth", "(LCrowdDesk;[J)I"⟩
abbrev cL_explore : ByteArray := method_14_code
def yL_explore : MethodName := ⟨RL, "explore", "(LCrowdDesk;I[J)I"⟩
abbrev cL_recovers : ByteArray := method_15_code
def yL_recovers : MethodName := ⟨RL, "recovers", "(LCrowdDesk;[J)I"⟩
abbrev cL_table : ByteArray := method_16_code
def yL_table : MethodName := ⟨RL, "table", "(LCrowdDesk;II[J)I"⟩
abbrev cL_rule : ByteArray := method_17_code
def yL_rule : MethodName := ⟨RL, "rule", "(LCrowdDesk;III[J)I"⟩
abbrev cL_kind : ByteArray := method_18_code
def yL_kind : MethodName := ⟨RL, "kind", "(LCrowdDesk;III[J)I"⟩
abbrev cL_law : ByteArray := code
def yL_law : MethodName := ⟨RL, "law", "([I)Z"⟩
def wsJ9_floorMod_7cf53 : List Cond := .code yJ9_floorMod_7cf53 cJ9_floorMod_7cf53 3 (some .int) :: ([])
def wsJ7_fill_53178 : List Cond := .code yJ7_fill_53178 cJ7_fill_53178 4 none :: ([])
def wsJ9_abs_0f7a4 : List Cond := .code yJ9_abs_0f7a4 cJ9_abs_0f7a4 1 (some .int) :: ([])
def wsJ9_max_7cf53 : List Cond := .code yJ9_max_7cf53 cJ9_max_7cf53 2 (some .int) :: ([])
def wsJ9_min_7cf53 : List Cond := .code yJ9_min_7cf53 cJ9_min_7cf53 2 (some .int) :: ([])
abbrev vwCl : List vw_C := [(RX0, TX0, 8), (RX2, TX2, 5), (RX3, TX3, 8), (RX4, TX4, 3), (RX5, TX5, 8), (RX6, TX6, 4), (RX7, TX7, 25)]
end
section
/-- the words of the tables that are good in every method -/
def WT : List Cond := lw_tbl.filter goodWord
theorem WT_of {w : Cond} (h : w ∈ lw_tbl) (g : goodWord w = true) : w ∈ WT := List.mem_filter.mpr ⟨h, g⟩
theorem WT_in {w : Cond} (h : w ∈ WT) : w ∈ lw_tbl := (List.mem_filter.mp h).1
theorem WT_good : GoodIn WT WT := fun w h => ⟨h, good_of_word (List.mem_filter.mp h).2⟩
theorem lw_t {w : Cond} (h : w ∈ tables_1) : w ∈ lw_tbl := List.mem_append_right _ h
theorem inW1 (k : Nat) {w : Cond} (h : tables_1_1[k]? = some w) (g : goodWord w = true) : w ∈ WT := WT_of (lw_t (List.mem_append_left _ (List.mem_of_getElem? h))) g
theorem inW2 (k : Nat) {w : Cond} (h : tables_1_2[k]? = some w) (g : goodWord w = true) : w ∈ WT := WT_of (lw_t (List.mem_append_right _ (List.mem_append_left _ (List.mem_of_getElem? h)))) g
theorem inW3 (k : Nat) {w : Cond} (h : tables_1_3[k]? = some w) (g : goodWord w = true) : w ∈ WT := WT_of (lw_t (List.mem_append_right _ (List.mem_append_right _ (List.mem_append_left _ (List.mem_of_getElem? h))))) g
theorem inW4 (k : Nat) {w : Cond} (h : tables_1_4[k]? = some w) (g : goodWord w = true) : w ∈ WT := WT_of (lw_t (List.mem_append_right _ (List.mem_append_right _ (List.mem_append_right _ (List.mem_append_left _ (List.mem_of_getElem? h)))))) g
theorem inW5 (k : Nat) {w : Cond} (h : tables_1_5[k]? = some w) (g : goodWord w = true) : w ∈ WT := WT_of (lw_t (List.mem_append_right _ (List.mem_append_right _ (List.mem_append_right _ (List.mem_append_right _ (List.mem_of_getElem? h)))))) g
theorem inWp (k : Nat) {w : Cond} (h : (k2_sels lw_privs)[k]? = some w) (g : goodWord w = true) : w ∈ WT := WT_of (List.mem_append_left _ (List.mem_of_getElem? h)) g
def Cls (ci : Nat) (C : String) (Tt : u_T) (N : Nat) (ty0 : Nat → FieldType) : Prop := vwCl[ci]? = some (C, Tt, N) ∧ (∀ w ∈ u_ws C Tt N, w ∈ WT) ∧ (∀ k, k < N → parseFieldDescriptor (Tt k).2.2.1 = some (ty0 k)) ∧ (∀ a, a < N → ∀ b, b < N → a ≠ b → (Tt a).2.1 ≠ (Tt b).2.1)
def MV (own : String) (idx : Nat) (y : MethodName) (cc : ByteArray) (nL : Nat) (ret : Option FieldType) (n : Nat) : Prop := (Cond.methodLink own idx y ∈ WT ∧ Cond.instanceMethod y ∈ WT ∧ Cond.selects y.cls y y ∈ WT ∧ Cond.initialized y.cls ∈ WT ∧ Cond.code y cc nL ret ∈ WT) ∧ y.cls ≠ "java/lang/invoke/MethodHandle" ∧ y.cls ≠ "java/lang/invoke/VarHandle" ∧ (parseMethodDescriptor y.desc).map (fun d => d.parameters.length) = some n
def MS (own : String) (idx : Nat) (y : MethodName) (cc : ByteArray) (nL : Nat) (ret : Option FieldType) (n : Nat) : Prop := (Cond.methodLink own idx y ∈ WT ∧ Cond.static y ∈ WT ∧ Cond.initialized y.cls ∈ WT ∧ Cond.code y cc nL ret ∈ WT) ∧ y.cls ≠ "java/lang/invoke/MethodHandle" ∧ y.cls ≠ "java/lang/invoke/VarHandle" ∧ (parseMethodDescriptor y.desc).map (fun d => d.parameters.length) = some n
def MSW (own : String) (idx : Nat) (y : MethodName) (cc : ByteArray) (nL : Nat) (ret : Option FieldType) (hh : List (Nat × Nat × Nat × Nat)) (n : Nat) : Prop := (Cond.methodLink own idx y ∈ WT ∧ Cond.static y ∈ WT ∧ Cond.initialized y.cls ∈ WT ∧ Cond.codeWith y cc nL ret hh ∈ WT) ∧ y.cls ≠ "java/lang/invoke/MethodHandle" ∧ y.cls ≠ "java/lang/invoke/VarHandle" ∧ (parseMethodDescriptor y.desc).map (fun d => d.parameters.length) = some n
def MI (own : String) (idx : Nat) (y : MethodName) (cc : ByteArray) (nL : Nat) (n : Nat) : Prop := (Cond.methodLink own idx y ∈ WT ∧ Cond.instanceMethod y ∈ WT ∧ Cond.initialized y.cls ∈ WT ∧ Cond.code y cc nL none ∈ WT ∧ y.name = "<init>") ∧ y.cls ≠ "java/lang/invoke/MethodHandle" ∧ y.cls ≠ "java/lang/invoke/VarHandle" ∧ (parseMethodDescriptor y.desc).map (fun d => d.parameters.length) = some n
set_option maxRecDepth 20000 in
theorem cls0 : Cls 0 RX0 TX0 8 tyX0 := ⟨rfl, List.forall_mem_cons.mpr ⟨inW1 46 rfl rfl, List.forall_mem_cons.mpr ⟨inW1 48 rfl rfl, List.forall_mem_cons.mpr ⟨inW1 50 rfl rfl, List.forall_mem_cons.mpr ⟨inW1 52 rfl rfl, List.forall_mem_cons.mpr ⟨inW1 54 rfl rfl, List.forall_mem_cons.mpr ⟨inW1 56 rfl rfl, List.forall_mem_cons.mpr ⟨inW1 58 rfl rfl, List.forall_mem_cons.mpr ⟨inW1 60 rfl rfl, fun _ h => absurd h List.not_mem_nil⟩⟩⟩⟩⟩⟩⟩⟩, tyX0_ok, nmX0⟩
set_option maxRecDepth 20000 in
theorem cls1 : Cls 1 RX2 TX2 5 tyX2 := ⟨rfl, List.forall_mem_cons.mpr ⟨inW1 117 rfl rfl, List.forall_mem_cons.mpr ⟨inW1 119 rfl rfl, List.forall_mem_cons.mpr ⟨inW1 121 rfl rfl, List.forall_mem_cons.mpr ⟨inW1 123 rfl rfl, List.forall_mem_cons.mpr ⟨inW1 125 rfl rfl, fun _ h => absurd h List.not_mem_nil⟩⟩⟩⟩⟩, tyX2_ok, nmX2⟩
set_option maxRecDepth 20000 in
theorem cls2 : Cls 2 RX3 TX3 8 tyX3 := ⟨rfl, List.forall_mem_cons.mpr ⟨inW1 72 rfl rfl, List.forall_mem_cons.mpr ⟨inW1 74 rfl rfl, List.forall_mem_cons.mpr ⟨inW1 76 rfl rfl, List.forall_mem_cons.mpr ⟨inW1 78 rfl rfl, List.forall_mem_cons.mpr ⟨inW1 80 rfl rfl, List.forall_mem_cons.mpr ⟨inW1 82 rfl rfl, List.forall_mem_cons.mpr ⟨inW1 84 rfl rfl, List.forall_mem_cons.mpr ⟨inW1 86 rfl rfl, fun _ h => absurd h List.not_mem_nil⟩⟩⟩⟩⟩⟩⟩⟩, tyX3_ok, nmX3⟩
set_option maxRecDepth 20000 in
theorem cls3 : Cls 3 RX4 TX4 3 tyX4 := ⟨rfl, List.forall_mem_cons.mpr ⟨inW1 104 rfl rfl, List.forall_mem_cons.mpr ⟨inW1 106 rfl rfl, List.forall_mem_cons.mpr ⟨inW1 108 rfl rfl, fun _ h => absurd h List.not_mem_nil⟩⟩⟩, tyX4_ok, nmX4⟩
set_option maxRecDepth 20000 in
theorem cls4 : Cls 4 RX5 TX5 8 tyX5 := ⟨rfl, List.forall_mem_cons.mpr ⟨inW3 178 rfl rfl, List.forall_mem_cons.mpr ⟨inW3 180 rfl rfl, List.forall_mem_cons.mpr ⟨inW3 182 rfl rfl, List.forall_mem_cons.mpr ⟨inW3 184 rfl rfl, List.forall_mem_cons.mpr ⟨inW3 186 rfl rfl, List.forall_mem_cons.mpr ⟨inW3 188 rfl rfl, List.forall_mem_cons.mpr ⟨inW3 190 rfl rfl, List.forall_mem_cons.mpr ⟨inW3 192 rfl rfl, fun _ h => absurd h List.not_mem_nil⟩⟩⟩⟩⟩⟩⟩⟩, tyX5_ok, nmX5⟩
set_option maxRecDepth 20000 in
theorem cls5 : Cls 5 RX6 TX6 4 tyX6 := ⟨rfl, List.forall_mem_cons.mpr ⟨inW1 132 rfl rfl, List.forall_mem_cons.mpr ⟨inW1 134 rfl rfl, List.forall_mem_cons.mpr ⟨inW1 136 rfl rfl, List.forall_mem_cons.mpr ⟨inW1 138 rfl rfl, fun _ h => absurd h List.not_mem_nil⟩⟩⟩⟩, tyX6_ok, nmX6⟩
set_option maxRecDepth 20000 in
theorem cls6 : Cls 6 RX7 TX7 25 tyX7 := ⟨rfl, List.forall_mem_cons.mpr ⟨inW4 94 rfl rfl, List.forall_mem_cons.mpr ⟨inW4 96 rfl rfl, List.forall_mem_cons.mpr ⟨inW4 98 rfl rfl, List.forall_mem_cons.mpr ⟨inW4 100 rfl rfl, List.forall_mem_cons.mpr ⟨inW4 102 rfl rfl, List.forall_mem_cons.mpr ⟨inW4 104 rfl rfl, List.forall_mem_cons.mpr ⟨inW4 106 rfl rfl, List.forall_mem_cons.mpr ⟨inW4 108 rfl rfl, List.forall_mem_cons.mpr ⟨inW4 110 rfl rfl, List.forall_mem_cons.mpr ⟨inW4 112 rfl rfl, List.forall_mem_cons.mpr ⟨inW4 114 rfl rfl, List.forall_mem_cons.mpr ⟨inW4 116 rfl rfl, List.forall_mem_cons.mpr ⟨inW4 118 rfl rfl, List.forall_mem_cons.mpr ⟨inW4 120 rfl rfl, List.forall_mem_cons.mpr ⟨inW4 122 rfl rfl, List.forall_mem_cons.mpr ⟨inW4 124 rfl rfl, List.forall_mem_cons.mpr ⟨inW4 126 rfl rfl, List.forall_mem_cons.mpr ⟨inW4 128 rfl rfl, List.forall_mem_cons.mpr ⟨inW4 130 rfl rfl, List.forall_mem_cons.mpr ⟨inW4 132 rfl rfl, List.forall_mem_cons.mpr ⟨inW4 134 rfl rfl, List.forall_mem_cons.mpr ⟨inW4 136 rfl rfl, List.forall_mem_cons.mpr ⟨inW4 138 rfl rfl, List.forall_mem_cons.mpr ⟨inW4 140 rfl rfl, List.forall_mem_cons.mpr ⟨inW4 142 rfl rfl, fun _ h => absurd h List.not_mem_nil⟩⟩⟩⟩⟩⟩⟩⟩⟩⟩⟩⟩⟩⟩⟩⟩⟩⟩⟩⟩⟩⟩⟩⟩⟩, tyX7_ok, nmX7⟩
theorem in_CrowdDeskLaw : Cond.initialized "CrowdDeskLaw" ∈ WT := inW1 0 rfl rfl
theorem in_CrowdDesk : Cond.initialized "CrowdDesk" ∈ WT := inW1 1 rfl rfl
theorem in_CrowdDesk_Formula : Cond.initialized "CrowdDesk$Formula" ∈ WT := inW1 2 rfl rfl
theorem in_CrowdDesk_Atom : Cond.initialized "CrowdDesk$Atom" ∈ WT := inW1 3 rfl rfl
theorem in_CrowdDesk_Crowd : Cond.initialized "CrowdDesk$Crowd" ∈ WT := inW1 4 rfl rfl
theorem in_CrowdDesk_Meeting : Cond.initialized "CrowdDesk$Meeting" ∈ WT := inW1 5 rfl rfl
theorem in_CrowdDeskModel : Cond.initialized "CrowdDeskModel" ∈ WT := inW1 6 rfl rfl
theorem in_Arrays : Cond.initialized "java/util/Arrays" ∈ WT := inW1 7 rfl rfl
theorem in_Throwable : Cond.initialized "java/lang/Throwable" ∈ WT := inW1 8 rfl rfl
theorem in_Exception : Cond.initialized "java/lang/Exception" ∈ WT := inW1 9 rfl rfl
theorem in_RuntimeException : Cond.initialized "java/lang/RuntimeException" ∈ WT := inW1 10 rfl rfl
theorem in_IllegalArgumentException : Cond.initialized "java/lang/IllegalArgumentException" ∈ WT := inW1 11 rfl rfl
theorem in_IllegalStateException : Cond.initialized "java/lang/IllegalStateException" ∈ WT := inW1 12 rfl rfl
theorem in_Math : Cond.initialized "java/lang/Math" ∈ WT := inW1 13 rfl rfl
theorem in_CrowdDesk_Code : Cond.initialized "CrowdDesk$Code" ∈ WT := inW1 14 rfl rfl
theorem in_IndexOutOfBoundsException : Cond.initialized "java/lang/IndexOutOfBoundsException" ∈ WT := inW1 15 rfl rfl
theorem in_CrowdDesk_Search : Cond.initialized "CrowdDesk$Search" ∈ WT := inW1 16 rfl rfl
theorem clL_8 : Cond.classLink RL 8 "CrowdDesk" ∈ WT := inW1 17 rfl rfl
theorem itX6 : Cond.instantiable RX6 4 ∈ WT := inW1 18 rfl rfl
theorem mL_70 : MI RL 70 yX6_init cX6_init 1 0 := ⟨⟨inW1 19 rfl rfl, inW1 20 rfl rfl, inW1 1 rfl rfl, inW1 21 rfl rfl, rfl⟩, by decide +kernel, by decide +kernel, by decide +kernel⟩
theorem clX6_7 : Cond.classLink RX6 7 "CrowdDesk$Formula" ∈ WT := inW1 25 rfl rfl
theorem itX3 : Cond.instantiable RX3 8 ∈ WT := inW1 26 rfl rfl
theorem mX6_9 : MI RX6 9 yX3_init cX3_init 2 0 := ⟨⟨inW1 27 rfl rfl, inW1 28 rfl rfl, inW1 2 rfl rfl, inW1 29 rfl rfl, rfl⟩, by decide +kernel, by decide +kernel, by decide +kernel⟩
theorem clX3_24 : Cond.classLink RX3 24 "CrowdDesk$Atom" ∈ WT := inW1 31 rfl rfl
theorem itX0 : Cond.instantiable RX0 8 ∈ WT := inW1 33 rfl rfl
theorem flX0_9 : Cond.fieldLink RX0 9 RX0 "coefficients" "[I" ∈ WT := inW1 38 rfl rfl
theorem flX0_26 : Cond.fieldLink RX0 26 RX0 "modulus" "I" ∈ WT := inW1 39 rfl rfl
theorem flX0_30 : Cond.fieldLink RX0 30 RX0 "target" "I" ∈ WT := inW1 40 rfl rfl
theorem flX0_39 : Cond.fieldLink RX0 39 RX0 "bound" "I" ∈ WT := inW1 41 rfl rfl
theorem flX0_17 : Cond.fieldLink RX0 17 RX0 "codes" "[I" ∈ WT := inW1 42 rfl rfl
theorem flX0_20 : Cond.fieldLink RX0 20 RX0 "numbers" "[I" ∈ WT := inW1 43 rfl rfl
theorem flX0_23 : Cond.fieldLink RX0 23 RX0 "firstRules" "[I" ∈ WT := inW1 44 rfl rfl
theorem flX0_42 : Cond.fieldLink RX0 42 RX0 "states" "I" ∈ WT := inW1 45 rfl rfl
theorem flX3_9 : Cond.fieldLink RX3 9 RX3 "pending" "[I" ∈ WT := inW1 64 rfl rfl
theorem flX3_15 : Cond.fieldLink RX3 15 RX3 "ops" "[I" ∈ WT := inW1 65 rfl rfl
theorem flX3_18 : Cond.fieldLink RX3 18 RX3 "lefts" "[I" ∈ WT := inW1 66 rfl rfl
theorem flX3_21 : Cond.fieldLink RX3 21 RX3 "rights" "[I" ∈ WT := inW1 67 rfl rfl
theorem flX3_26 : Cond.fieldLink RX3 26 RX3 "atoms" "[LCrowdDesk$Atom;" ∈ WT := inW1 68 rfl rfl
theorem flX3_37 : Cond.fieldLink RX3 37 RX3 "nodeCount" "I" ∈ WT := inW1 69 rfl rfl
theorem flX3_41 : Cond.fieldLink RX3 41 RX3 "atomCount" "I" ∈ WT := inW1 70 rfl rfl
theorem flX3_44 : Cond.fieldLink RX3 44 RX3 "compiled" "Z" ∈ WT := inW1 71 rfl rfl
theorem clX6_16 : Cond.classLink RX6 16 "CrowdDesk$Crowd" ∈ WT := inW1 89 rfl rfl
theorem itX2 : Cond.instantiable RX2 5 ∈ WT := inW1 90 rfl rfl
theorem mX6_18 : MI RX6 18 yX2_init cX2_init 2 1 := ⟨⟨inW1 91 rfl rfl, inW1 92 rfl rfl, inW1 4 rfl rfl, inW1 93 rfl rfl, rfl⟩, by decide +kernel, by decide +kernel, by decide +kernel⟩
theorem clX2_23 : Cond.classLink RX2 23 "CrowdDesk$Meeting" ∈ WT := inW1 95 rfl rfl
theorem itX4 : Cond.instantiable RX4 3 ∈ WT := inW1 96 rfl rfl
theorem mX2_25 : MI RX2 25 yX4_init cX4_init 2 1 := ⟨⟨inW1 97 rfl rfl, inW1 98 rfl rfl, inW1 5 rfl rfl, inW1 99 rfl rfl, rfl⟩, by decide +kernel, by decide +kernel, by decide +kernel⟩
theorem flX4_7 : Cond.fieldLink RX4 7 RX4 "formula" "LCrowdDesk$Formula;" ∈ WT := inW1 101 rfl rfl
theorem flX4_13 : Cond.fieldLink RX4 13 RX4 "first" "J" ∈ WT := inW1 102 rfl rfl
theorem flX4_17 : Cond.fieldLink RX4 17 RX4 "second" "J" ∈ WT := inW1 103 rfl rfl
theorem flX2_19 : Cond.fieldLink RX2 19 RX2 "formula" "LCrowdDesk$Formula;" ∈ WT := inW1 112 rfl rfl
theorem flX2_28 : Cond.fieldLink RX2 28 RX2 "meeting" "LCrowdDesk$Meeting;" ∈ WT := inW1 113 rfl rfl
theorem flX2_9 : Cond.fieldLink RX2 9 RX2 "agents" "[J" ∈ WT := inW1 114 rfl rfl
theorem flX2_15 : Cond.fieldLink RX2 15 RX2 "letterCounts" "[I" ∈ WT := inW1 115 rfl rfl
theorem flX2_38 : Cond.fieldLink RX2 38 RX2 "count" "I" ∈ WT := inW1 116 rfl rfl
theorem flX6_10 : Cond.fieldLink RX6 10 RX6 "formula" "LCrowdDesk$Formula;" ∈ WT := inW1 128 rfl rfl
theorem flX6_21 : Cond.fieldLink RX6 21 RX6 "crowd" "LCrowdDesk$Crowd;" ∈ WT := inW1 129 rfl rfl
theorem flX6_25 : Cond.fieldLink RX6 25 RX6 "search" "LCrowdDesk$Search;" ∈ WT := inW1 130 rfl rfl
theorem flX6_29 : Cond.fieldLink RX6 29 RX6 "explored" "Z" ∈ WT := inW1 131 rfl rfl
theorem mL_74 : MV RL 74 yX6_clear cX6_clear 1 none 0 := ⟨⟨inW1 141 rfl rfl, inW1 142 rfl rfl, inW1 143 rfl rfl, inW1 1 rfl rfl, inW1 144 rfl rfl⟩, by decide +kernel, by decide +kernel, by decide +kernel⟩
theorem mX6_33 : MV RX6 33 yX3_reset cX3_reset 1 none 0 := ⟨⟨inW1 145 rfl rfl, inW1 146 rfl rfl, inW1 147 rfl rfl, inW1 2 rfl rfl, inW1 148 rfl rfl⟩, by decide +kernel, by decide +kernel, by decide +kernel⟩
theorem mX3_31 : MS RX3 31 yJ7_fill_53178 cJ7_fill_53178 4 none 2 := ⟨⟨inW1 149 rfl rfl, inW1 150 rfl rfl, inW1 7 rfl rfl, inW1 151 rfl rfl⟩, by decide +kernel, by decide +kernel, by decide +kernel⟩
theorem mX6_36 : MV RX6 36 yX2_reset cX2_reset 1 none 0 := ⟨⟨inW1 152 rfl rfl, inW1 153 rfl rfl, inW1 154 rfl rfl, inW1 4 rfl rfl, inW1 155 rfl rfl⟩, by decide +kernel, by decide +kernel, by decide +kernel⟩
theorem mX2_32 : MS RX2 32 yJ7_fill_53178 cJ7_fill_53178 4 none 2 := ⟨⟨inW1 156 rfl rfl, inW1 150 rfl rfl, inW1 7 rfl rfl, inW1 151 rfl rfl⟩, by decide +kernel, by decide +kernel, by decide +kernel⟩
theorem mL_105 : MV RL 105 yX6_size cX6_size 1 (some .int) 0 := ⟨⟨inW1 157 rfl rfl, inW1 158 rfl rfl, inW1 159 rfl rfl, inW1 1 rfl rfl, inW1 160 rfl rfl⟩, by decide +kernel, by decide +kernel, by decide +kernel⟩
theorem mX6_116 : MV RX6 116 yX2_count cX2_count 1 (some .int) 0 := ⟨⟨inW1 161 rfl rfl, inW1 162 rfl rfl, inW1 163 rfl rfl, inW1 4 rfl rfl, inW1 164 rfl rfl⟩, by decide +kernel, by decide +kernel, by decide +kernel⟩
theorem mL_124 : MV RL 124 yX6_silent cX6_silent 1 (some .boolean) 0 := ⟨⟨inW1 165 rfl rfl, inW1 166 rfl rfl, inW1 167 rfl rfl, inW1 1 rfl rfl, inW1 168 rfl rfl⟩, by decide +kernel, by decide +kernel, by decide +kernel⟩
theorem mX6_178 : MV RX6 178 yX2_isQuiet cX2_isQuiet 1 (some .boolean) 0 := ⟨⟨inW1 169 rfl rfl, inW1 170 rfl rfl, inW1 171 rfl rfl, inW1 4 rfl rfl, inW1 172 rfl rfl⟩, by decide +kernel, by decide +kernel, by decide +kernel⟩
theorem mX2_76 : MV RX2 76 yX4_changesNone cX4_changesNone 6 (some .boolean) 3 := ⟨⟨inW1 173 rfl rfl, inW1 174 rfl rfl, inW1 175 rfl rfl, inW1 5 rfl rfl, inW1 176 rfl rfl⟩, by decide +kernel, by decide +kernel, by decide +kernel⟩
theorem mX4_55 : MV RX4 55 yX4_changes cX4_changes 7 (some .boolean) 2 := ⟨⟨inW1 177 rfl rfl, inW1 178 rfl rfl, inW1 179 rfl rfl, inW1 5 rfl rfl, inW1 180 rfl rfl⟩, by decide +kernel, by decide +kernel, by decide +kernel⟩
theorem mX4_20 : MS RX4 20 yX1_leadsSomewhere cX1_leadsSomewhere 2 (some .boolean) 1 := ⟨⟨inW1 181 rfl rfl, inW1 182 rfl rfl, inW1 14 rfl rfl, inW1 183 rfl rfl⟩, by decide +kernel, by decide +kernel, by decide +kernel⟩
theorem ctX1_20 : Cond.constantLong RX1 20 (551911719040 : Int64) ∈ WT := inW1 184 rfl rfl
theorem mX4_26 : MV RX4 26 yX3_atomCount cX3_atomCount 1 (some .int) 0 := ⟨⟨inW1 185 rfl rfl, inW1 186 rfl rfl, inW1 187 rfl rfl, inW1 2 rfl rfl, inW1 188 rfl rfl⟩, by decide +kernel, by decide +kernel, by decide +kernel⟩
theorem mX4_32 : MV RX4 32 yX3_atom cX3_atom 2 (some (.object "CrowdDesk$Atom")) 1 := ⟨⟨inW1 189 rfl rfl, inW1 190 rfl rfl, inW1 191 rfl rfl, inW1 2 rfl rfl, inW1 192 rfl rfl⟩, by decide +kernel, by decide +kernel, by decide +kernel⟩
theorem mX4_36 : MS RX4 36 yX1_ofAtom cX1_ofAtom 3 (some .int) 2 := ⟨⟨inW1 193 rfl rfl, inW1 194 rfl rfl, inW1 14 rfl rfl, inW1 195 rfl rfl⟩, by decide +kernel, by decide +kernel, by decide +kernel⟩
theorem mX4_40 : MV RX4 40 yX0_afterMeeting cX0_afterMeeting 10 (some .int) 2 := ⟨⟨inW1 196 rfl rfl, inW1 197 rfl rfl, inW1 198 rfl rfl, inW1 3 rfl rfl, inW1 199 rfl rfl⟩, by decide +kernel, by decide +kernel, by decide +kernel⟩
theorem mX0_60 : MS RX0 60 yX1_leads cX1_leads 1 (some .boolean) 1 := ⟨⟨inW1 200 rfl rfl, inW1 201 rfl rfl, inW1 14 rfl rfl, inW1 202 rfl rfl⟩, by decide +kernel, by decide +kernel, by decide +kernel⟩
theorem mX0_63 : MS RX0 63 yX1_pair cX1_pair 2 (some .int) 2 := ⟨⟨inW1 203 rfl rfl, inW1 204 rfl rfl, inW1 14 rfl rfl, inW1 205 rfl rfl⟩, by decide +kernel, by decide +kernel, by decide +kernel⟩
theorem mX0_66 : MS RX0 66 yX1_value cX1_value 1 (some .int) 1 := ⟨⟨inW1 206 rfl rfl, inW1 207 rfl rfl, inW1 14 rfl rfl, inW1 208 rfl rfl⟩, by decide +kernel, by decide +kernel, by decide +kernel⟩
theorem mX0_49 : MV RX0 49 yX0_reduce cX0_reduce 2 (some .int) 1 := ⟨⟨inW1 209 rfl rfl, inW1 211 rfl rfl, inWp 0 rfl rfl, inW1 3 rfl rfl, inW1 212 rfl rfl⟩, by decide +kernel, by decide +kernel, by decide +kernel⟩
theorem mX0_72 : MS RX0 72 yJ9_floorMod_7cf53 cJ9_floorMod_7cf53 3 (some .int) 2 := ⟨⟨inW1 213 rfl rfl, inW1 214 rfl rfl, inW1 13 rfl rfl, inW1 215 rfl rfl⟩, by decide +kernel, by decide +kernel, by decide +kernel⟩
theorem mX0_69 : MS RX0 69 yJ9_min_7cf53 cJ9_min_7cf53 2 (some .int) 2 := ⟨⟨inW1 216 rfl rfl, inW1 217 rfl rfl, inW1 13 rfl rfl, inW1 218 rfl rfl⟩, by decide +kernel, by decide +kernel, by decide +kernel⟩
theorem mX0_45 : MS RX0 45 yJ9_max_7cf53 cJ9_max_7cf53 2 (some .int) 2 := ⟨⟨inW1 219 rfl rfl, inW1 220 rfl rfl, inW1 13 rfl rfl, inW1 221 rfl rfl⟩, by decide +kernel, by decide +kernel, by decide +kernel⟩
theorem mX0_52 : MV RX0 52 yX0_opinionOf cX0_opinionOf 2 (some .boolean) 1 := ⟨⟨inW1 222 rfl rfl, inW1 224 rfl rfl, inWp 1 rfl rfl, inW1 3 rfl rfl, inW1 225 rfl rfl⟩, by decide +kernel, by decide +kernel, by decide +kernel⟩
theorem mX0_56 : MS RX0 56 yX1_of cX1_of 4 (some .int) 3 := ⟨⟨inW1 226 rfl rfl, inW1 227 rfl rfl, inW1 14 rfl rfl, inW1 228 rfl rfl⟩, by decide +kernel, by decide +kernel, by decide +kernel⟩
theorem mX4_46 : MS RX4 46 yX1_first cX1_first 1 (some .int) 1 := ⟨⟨inW1 229 rfl rfl, inW1 230 rfl rfl, inW1 14 rfl rfl, inW1 231 rfl rfl⟩, by decide +kernel, by decide +kernel, by decide +kernel⟩
theorem mX4_49 : MS RX4 49 yX1_atAtom cX1_atAtom 2 (some .long) 2 := ⟨⟨inW1 232 rfl rfl, inW1 233 rfl rfl, inW1 14 rfl rfl, inW1 234 rfl rfl⟩, by decide +kernel, by decide +kernel, by decide +kernel⟩
theorem mX4_53 : MS RX4 53 yX1_second cX1_second 1 (some .int) 1 := ⟨⟨inW1 235 rfl rfl, inW1 236 rfl rfl, inW1 14 rfl rfl, inW1 237 rfl rfl⟩, by decide +kernel, by decide +kernel, by decide +kernel⟩
theorem mL_128 : MV RL 128 yX6_agree cX6_agree 1 (some .boolean) 0 := ⟨⟨inW1 238 rfl rfl, inW1 239 rfl rfl, inW2 0 rfl rfl, inW1 1 rfl rfl, inW2 1 rfl rfl⟩, by decide +kernel, by decide +kernel, by decide +kernel⟩
theorem mX6_181 : MV RX6 181 yX2_isOfOneMind cX2_isOfOneMind 1 (some .boolean) 0 := ⟨⟨inW2 2 rfl rfl, inW2 3 rfl rfl, inW2 4 rfl rfl, inW1 4 rfl rfl, inW2 5 rfl rfl⟩, by decide +kernel, by decide +kernel, by decide +kernel⟩
theorem mX2_80 : MV RX2 80 yX3_outputOf cX3_outputOf 5 (some .boolean) 1 := ⟨⟨inW2 6 rfl rfl, inW2 7 rfl rfl, inW2 8 rfl rfl, inW1 2 rfl rfl, inW2 9 rfl rfl⟩, by decide +kernel, by decide +kernel, by decide +kernel⟩
theorem mX3_85 : MS RX3 85 yX1_ofAtom cX1_ofAtom 3 (some .int) 2 := ⟨⟨inW2 10 rfl rfl, inW1 194 rfl rfl, inW1 14 rfl rfl, inW1 195 rfl rfl⟩, by decide +kernel, by decide +kernel, by decide +kernel⟩
theorem mX3_89 : MS RX3 89 yX1_opinion cX1_opinion 1 (some .int) 1 := ⟨⟨inW2 11 rfl rfl, inW2 12 rfl rfl, inW1 14 rfl rfl, inW2 13 rfl rfl⟩, by decide +kernel, by decide +kernel, by decide +kernel⟩
theorem mX3_81 : MV RX3 81 yX3_evaluate cX3_evaluate 4 (some .boolean) 1 := ⟨⟨inW2 14 rfl rfl, inW2 16 rfl rfl, inWp 2 rfl rfl, inW1 2 rfl rfl, inW2 17 rfl rfl⟩, by decide +kernel, by decide +kernel, by decide +kernel⟩
theorem mX3_96 : MV RX3 96 yX3_nodeTruth cX3_nodeTruth 4 (some .int) 3 := ⟨⟨inW2 18 rfl rfl, inW2 20 rfl rfl, inWp 3 rfl rfl, inW1 2 rfl rfl, inW2 21 rfl rfl⟩, by decide +kernel, by decide +kernel, by decide +kernel⟩
theorem mX3_99 : MS RX3 99 yX3_bit cX3_bit 2 (some .int) 2 := ⟨⟨inW2 22 rfl rfl, inW2 23 rfl rfl, inW1 2 rfl rfl, inW2 24 rfl rfl⟩, by decide +kernel, by decide +kernel, by decide +kernel⟩
theorem mX2_83 : MV RX2 83 yX3_allOutputsAre cX3_allOutputsAre 6 (some .boolean) 4 := ⟨⟨inW2 25 rfl rfl, inW2 26 rfl rfl, inW2 27 rfl rfl, inW1 2 rfl rfl, inW2 28 rfl rfl⟩, by decide +kernel, by decide +kernel, by decide +kernel⟩
theorem mX3_92 : MV RX3 92 yX3_outputOf cX3_outputOf 5 (some .boolean) 1 := ⟨⟨inW2 29 rfl rfl, inW2 7 rfl rfl, inW2 8 rfl rfl, inW1 2 rfl rfl, inW2 9 rfl rfl⟩, by decide +kernel, by decide +kernel, by decide +kernel⟩
theorem mL_78 : MSW RL 78 yL_coef cL_coef 5 (some .int) [(0, 10, 13, 13)] 4 := ⟨⟨inW2 30 rfl rfl, inW2 31 rfl rfl, inW1 0 rfl rfl, inW2 32 rfl rfl⟩, by decide +kernel, by decide +kernel, by decide +kernel⟩
theorem clL_13 : Cond.classLink RL 13 "java/lang/IllegalArgumentException" ∈ WT := inW2 33 rfl rfl
theorem mL_7 : MV RL 7 yX6_coef cX6_coef 3 (some .int) 2 := ⟨⟨inW2 34 rfl rfl, inW2 35 rfl rfl, inW2 36 rfl rfl, inW1 1 rfl rfl, inW2 37 rfl rfl⟩, by decide +kernel, by decide +kernel, by decide +kernel⟩
theorem mX6_37 : MS RX6 37 yX6_isLetter cX6_isLetter 1 (some .boolean) 1 := ⟨⟨inW2 38 rfl rfl, inW2 39 rfl rfl, inW1 1 rfl rfl, inW2 40 rfl rfl⟩, by decide +kernel, by decide +kernel, by decide +kernel⟩
theorem clX6_41 : Cond.classLink RX6 41 "java/lang/IllegalArgumentException" ∈ WT := inW2 41 rfl rfl
theorem mX6_48 : MS RX6 48 yX6_isCoefficient cX6_isCoefficient 1 (some .boolean) 1 := ⟨⟨inW2 109 rfl rfl, inW2 110 rfl rfl, inW1 1 rfl rfl, inW2 111 rfl rfl⟩, by decide +kernel, by decide +kernel, by decide +kernel⟩
theorem mX6_53 : MV RX6 53 yX3_setPending cX3_setPending 4 (some .int) 2 := ⟨⟨inW2 113 rfl rfl, inW2 114 rfl rfl, inW2 115 rfl rfl, inW1 2 rfl rfl, inW2 116 rfl rfl⟩, by decide +kernel, by decide +kernel, by decide +kernel⟩
theorem mL_87 : MSW RL 87 yL_sum cL_sum 4 (some .int) [(0, 9, 12, 13), (0, 9, 15, 19)] 3 := ⟨⟨inW2 117 rfl rfl, inW2 118 rfl rfl, inW1 0 rfl rfl, inW2 119 rfl rfl⟩, by decide +kernel, by decide +kernel, by decide +kernel⟩
theorem clL_19 : Cond.classLink RL 19 "java/lang/IllegalStateException" ∈ WT := inW2 120 rfl rfl
theorem mL_15 : MV RL 15 yX6_sum cX6_sum 2 (some .int) 1 := ⟨⟨inW2 121 rfl rfl, inW2 122 rfl rfl, inW2 123 rfl rfl, inW1 1 rfl rfl, inW2 124 rfl rfl⟩, by decide +kernel, by decide +kernel, by decide +kernel⟩
theorem mX6_59 : MV RX6 59 yX3_takesAtom cX3_takesAtom 1 (some .boolean) 0 := ⟨⟨inW2 126 rfl rfl, inW2 127 rfl rfl, inW2 128 rfl rfl, inW1 2 rfl rfl, inW2 129 rfl rfl⟩, by decide +kernel, by decide +kernel, by decide +kernel⟩
theorem mX3_48 : MV RX3 48 yX3_takesNode cX3_takesNode 1 (some .boolean) 0 := ⟨⟨inW2 130 rfl rfl, inW2 131 rfl rfl, inW2 132 rfl rfl, inW1 2 rfl rfl, inW2 133 rfl rfl⟩, by decide +kernel, by decide +kernel, by decide +kernel⟩
theorem clX6_63 : Cond.classLink RX6 63 "java/lang/IllegalStateException" ∈ WT := inW2 134 rfl rfl
theorem mX6_70 : MV RX6 70 yX3_addAtom cX3_addAtom 4 (some .int) 2 := ⟨⟨inW2 150 rfl rfl, inW2 151 rfl rfl, inW2 152 rfl rfl, inW1 2 rfl rfl, inW2 153 rfl rfl⟩, by decide +kernel, by decide +kernel, by decide +kernel⟩
theorem mX3_52 : MV RX3 52 yX0_become cX0_become 5 none 3 := ⟨⟨inW2 154 rfl rfl, inW2 155 rfl rfl, inW2 156 rfl rfl, inW1 3 rfl rfl, inW2 157 rfl rfl⟩, by decide +kernel, by decide +kernel, by decide +kernel⟩
theorem mX0_33 : MS RX0 33 yJ9_abs_0f7a4 cJ9_abs_0f7a4 1 (some .int) 1 := ⟨⟨inW2 158 rfl rfl, inW2 159 rfl rfl, inW1 13 rfl rfl, inW2 160 rfl rfl⟩, by decide +kernel, by decide +kernel, by decide +kernel⟩
theorem mX3_56 : MV RX3 56 yX3_addNode cX3_addNode 5 (some .int) 3 := ⟨⟨inW2 161 rfl rfl, inW2 162 rfl rfl, inW2 163 rfl rfl, inW1 2 rfl rfl, inW2 164 rfl rfl⟩, by decide +kernel, by decide +kernel, by decide +kernel⟩
theorem mL_91 : MSW RL 91 yL_mod cL_mod 5 (some .int) [(0, 10, 13, 13), (0, 10, 17, 19)] 4 := ⟨⟨inW2 165 rfl rfl, inW2 166 rfl rfl, inW1 0 rfl rfl, inW2 167 rfl rfl⟩, by decide +kernel, by decide +kernel, by decide +kernel⟩
theorem mL_21 : MV RL 21 yX6_mod cX6_mod 3 (some .int) 2 := ⟨⟨inW2 168 rfl rfl, inW2 169 rfl rfl, inW2 170 rfl rfl, inW1 1 rfl rfl, inW2 171 rfl rfl⟩, by decide +kernel, by decide +kernel, by decide +kernel⟩
theorem mL_94 : MSW RL 94 yL_combine cL_combine 6 (some .int) [(0, 12, 15, 13), (0, 12, 19, 19)] 5 := ⟨⟨inW2 174 rfl rfl, inW2 175 rfl rfl, inW1 0 rfl rfl, inW2 176 rfl rfl⟩, by decide +kernel, by decide +kernel, by decide +kernel⟩
theorem mL_24 : MV RL 24 yX6_combine cX6_combine 4 (some .int) 3 := ⟨⟨inW2 177 rfl rfl, inW2 178 rfl rfl, inW2 179 rfl rfl, inW1 1 rfl rfl, inW2 180 rfl rfl⟩, by decide +kernel, by decide +kernel, by decide +kernel⟩
theorem mX6_79 : MV RX6 79 yX3_hasNode cX3_hasNode 2 (some .boolean) 1 := ⟨⟨inW2 182 rfl rfl, inW2 183 rfl rfl, inW2 184 rfl rfl, inW1 2 rfl rfl, inW2 185 rfl rfl⟩, by decide +kernel, by decide +kernel, by decide +kernel⟩
theorem mX6_84 : MV RX6 84 yX3_takesNode cX3_takesNode 1 (some .boolean) 0 := ⟨⟨inW2 187 rfl rfl, inW2 131 rfl rfl, inW2 132 rfl rfl, inW1 2 rfl rfl, inW2 133 rfl rfl⟩, by decide +kernel, by decide +kernel, by decide +kernel⟩
theorem mX6_89 : MV RX6 89 yX3_addNode cX3_addNode 5 (some .int) 3 := ⟨⟨inW2 189 rfl rfl, inW2 162 rfl rfl, inW2 163 rfl rfl, inW1 2 rfl rfl, inW2 164 rfl rfl⟩, by decide +kernel, by decide +kernel, by decide +kernel⟩
theorem mL_98 : MSW RL 98 yL_compile cL_compile 3 (some .int) [(0, 8, 11, 19)] 2 := ⟨⟨inW2 190 rfl rfl, inW2 191 rfl rfl, inW1 0 rfl rfl, inW2 192 rfl rfl⟩, by decide +kernel, by decide +kernel, by decide +kernel⟩
theorem mL_28 : MV RL 28 yX6_compile cX6_compile 1 (some .int) 0 := ⟨⟨inW2 193 rfl rfl, inW2 194 rfl rfl, inW2 195 rfl rfl, inW1 1 rfl rfl, inW2 196 rfl rfl⟩, by decide +kernel, by decide +kernel, by decide +kernel⟩
theorem mX6_93 : MV RX6 93 yX3_isCompiled cX3_isCompiled 1 (some .boolean) 0 := ⟨⟨inW2 197 rfl rfl, inW2 198 rfl rfl, inW2 199 rfl rfl, inW1 2 rfl rfl, inW2 200 rfl rfl⟩, by decide +kernel, by decide +kernel, by decide +kernel⟩
theorem mX6_98 : MV RX6 98 yX3_isEmpty cX3_isEmpty 1 (some .boolean) 0 := ⟨⟨inW2 202 rfl rfl, inW2 203 rfl rfl, inW2 204 rfl rfl, inW1 2 rfl rfl, inW2 205 rfl rfl⟩, by decide +kernel, by decide +kernel, by decide +kernel⟩
theorem mX6_103 : MV RX6 103 yX3_hasSharedNode cX3_hasSharedNode 5 (some .boolean) 0 := ⟨⟨inW2 207 rfl rfl, inW2 208 rfl rfl, inW2 209 rfl rfl, inW1 2 rfl rfl, inW2 210 rfl rfl⟩, by decide +kernel, by decide +kernel, by decide +kernel⟩
theorem mX6_108 : MV RX6 108 yX3_makeRules cX3_makeRules 3 (some .int) 0 := ⟨⟨inW2 212 rfl rfl, inW2 213 rfl rfl, inW2 214 rfl rfl, inW1 2 rfl rfl, inW2 215 rfl rfl⟩, by decide +kernel, by decide +kernel, by decide +kernel⟩
theorem mX3_60 : MV RX3 60 yX0_makeTable cX0_makeTable 1 none 0 := ⟨⟨inW2 216 rfl rfl, inW2 217 rfl rfl, inW2 218 rfl rfl, inW1 3 rfl rfl, inW2 219 rfl rfl⟩, by decide +kernel, by decide +kernel, by decide +kernel⟩
theorem mX0_75 : MV RX0 75 yX0_findStates cX0_findStates 3 none 0 := ⟨⟨inW2 220 rfl rfl, inW2 222 rfl rfl, inWp 5 rfl rfl, inW1 3 rfl rfl, inW2 223 rfl rfl⟩, by decide +kernel, by decide +kernel, by decide +kernel⟩
theorem mX0_84 : MS RX0 84 yJ7_fill_53178 cJ7_fill_53178 4 none 2 := ⟨⟨inW2 224 rfl rfl, inW1 150 rfl rfl, inW1 7 rfl rfl, inW1 151 rfl rfl⟩, by decide +kernel, by decide +kernel, by decide +kernel⟩
theorem mX0_90 : MV RX0 90 yX0_beginning cX0_beginning 3 (some .int) 1 := ⟨⟨inW2 225 rfl rfl, inW2 226 rfl rfl, inW2 227 rfl rfl, inW1 3 rfl rfl, inW2 228 rfl rfl⟩, by decide +kernel, by decide +kernel, by decide +kernel⟩
theorem mX0_93 : MV RX0 93 yX0_learn cX0_learn 2 none 1 := ⟨⟨inW2 229 rfl rfl, inW2 231 rfl rfl, inWp 6 rfl rfl, inW1 3 rfl rfl, inW2 232 rfl rfl⟩, by decide +kernel, by decide +kernel, by decide +kernel⟩
theorem mX0_97 : MV RX0 97 yX0_afterMeeting cX0_afterMeeting 10 (some .int) 2 := ⟨⟨inW2 233 rfl rfl, inW1 197 rfl rfl, inW1 198 rfl rfl, inW1 3 rfl rfl, inW1 199 rfl rfl⟩, by decide +kernel, by decide +kernel, by decide +kernel⟩
theorem mX0_100 : MV RX0 100 yX0_learnBoth cX0_learnBoth 2 none 1 := ⟨⟨inW2 234 rfl rfl, inW2 236 rfl rfl, inWp 7 rfl rfl, inW1 3 rfl rfl, inW2 237 rfl rfl⟩, by decide +kernel, by decide +kernel, by decide +kernel⟩
theorem mX0_103 : MS RX0 103 yX1_first cX1_first 1 (some .int) 1 := ⟨⟨inW2 238 rfl rfl, inW1 230 rfl rfl, inW1 14 rfl rfl, inW1 231 rfl rfl⟩, by decide +kernel, by decide +kernel, by decide +kernel⟩
theorem mX0_106 : MS RX0 106 yX1_second cX1_second 1 (some .int) 1 := ⟨⟨inW2 239 rfl rfl, inW1 236 rfl rfl, inW1 14 rfl rfl, inW1 237 rfl rfl⟩, by decide +kernel, by decide +kernel, by decide +kernel⟩
theorem mX0_78 : MV RX0 78 yX0_numberStates cX0_numberStates 3 none 0 := ⟨⟨inW3 0 rfl rfl, inW3 2 rfl rfl, inWp 8 rfl rfl, inW1 3 rfl rfl, inW3 3 rfl rfl⟩, by decide +kernel, by decide +kernel, by decide +kernel⟩
theorem mX0_81 : MV RX0 81 yX0_countRules cX0_countRules 4 none 0 := ⟨⟨inW3 4 rfl rfl, inW3 6 rfl rfl, inWp 9 rfl rfl, inW1 3 rfl rfl, inW3 7 rfl rfl⟩, by decide +kernel, by decide +kernel, by decide +kernel⟩
theorem mX0_109 : MV RX0 109 yX0_isRule cX0_isRule 3 (some .boolean) 2 := ⟨⟨inW3 8 rfl rfl, inW3 10 rfl rfl, inWp 10 rfl rfl, inW1 3 rfl rfl, inW3 11 rfl rfl⟩, by decide +kernel, by decide +kernel, by decide +kernel⟩
theorem mX3_63 : MV RX3 63 yX0_stateCount cX0_stateCount 1 (some .int) 0 := ⟨⟨inW3 12 rfl rfl, inW3 13 rfl rfl, inW3 14 rfl rfl, inW1 3 rfl rfl, inW3 15 rfl rfl⟩, by decide +kernel, by decide +kernel, by decide +kernel⟩
theorem mL_102 : MSW RL 102 yL_add cL_add 5 (some .int) [(0, 10, 13, 13), (0, 10, 17, 19)] 4 := ⟨⟨inW3 16 rfl rfl, inW3 17 rfl rfl, inW1 0 rfl rfl, inW3 18 rfl rfl⟩, by decide +kernel, by decide +kernel, by decide +kernel⟩
theorem mL_32 : MV RL 32 yX6_add cX6_add 3 (some .int) 2 := ⟨⟨inW3 19 rfl rfl, inW3 20 rfl rfl, inW3 21 rfl rfl, inW1 1 rfl rfl, inW3 22 rfl rfl⟩, by decide +kernel, by decide +kernel, by decide +kernel⟩
theorem mX6_121 : MV RX6 121 yX2_admit cX2_admit 6 none 2 := ⟨⟨inW3 26 rfl rfl, inW3 27 rfl rfl, inW3 28 rfl rfl, inW1 4 rfl rfl, inW3 29 rfl rfl⟩, by decide +kernel, by decide +kernel, by decide +kernel⟩
theorem mX2_42 : MV RX2 42 yX3_beginning cX3_beginning 5 (some .long) 1 := ⟨⟨inW3 30 rfl rfl, inW3 31 rfl rfl, inW3 32 rfl rfl, inW1 2 rfl rfl, inW3 33 rfl rfl⟩, by decide +kernel, by decide +kernel, by decide +kernel⟩
theorem mX3_67 : MV RX3 67 yX0_beginning cX0_beginning 3 (some .int) 1 := ⟨⟨inW3 34 rfl rfl, inW2 226 rfl rfl, inW2 227 rfl rfl, inW1 3 rfl rfl, inW2 228 rfl rfl⟩, by decide +kernel, by decide +kernel, by decide +kernel⟩
theorem mX3_71 : MS RX3 71 yX1_atAtom cX1_atAtom 2 (some .long) 2 := ⟨⟨inW3 35 rfl rfl, inW1 233 rfl rfl, inW1 14 rfl rfl, inW1 234 rfl rfl⟩, by decide +kernel, by decide +kernel, by decide +kernel⟩
theorem mL_109 : MSW RL 109 yL_meet cL_meet 5 (some .int) [(0, 17, 20, 13), (0, 17, 24, 39)] 4 := ⟨⟨inW3 36 rfl rfl, inW3 37 rfl rfl, inW1 0 rfl rfl, inW3 38 rfl rfl⟩, by decide +kernel, by decide +kernel, by decide +kernel⟩
theorem clL_39 : Cond.classLink RL 39 "java/lang/IndexOutOfBoundsException" ∈ WT := inW3 39 rfl rfl
theorem mL_35 : MV RL 35 yX6_meet cX6_meet 4 (some .boolean) 2 := ⟨⟨inW3 40 rfl rfl, inW3 41 rfl rfl, inW3 42 rfl rfl, inW1 1 rfl rfl, inW3 43 rfl rfl⟩, by decide +kernel, by decide +kernel, by decide +kernel⟩
theorem mX6_127 : MV RX6 127 yX2_hasAgent cX2_hasAgent 2 (some .boolean) 1 := ⟨⟨inW3 45 rfl rfl, inW3 46 rfl rfl, inW3 47 rfl rfl, inW1 4 rfl rfl, inW3 48 rfl rfl⟩, by decide +kernel, by decide +kernel, by decide +kernel⟩
theorem clX6_130 : Cond.classLink RX6 130 "java/lang/IndexOutOfBoundsException" ∈ WT := inW3 49 rfl rfl
theorem mX6_135 : MV RX6 135 yX2_bringTogether cX2_bringTogether 4 (some .boolean) 2 := ⟨⟨inW3 65 rfl rfl, inW3 66 rfl rfl, inW3 67 rfl rfl, inW1 4 rfl rfl, inW3 68 rfl rfl⟩, by decide +kernel, by decide +kernel, by decide +kernel⟩
theorem mX2_48 : MV RX2 48 yX4_changes cX4_changes 7 (some .boolean) 2 := ⟨⟨inW3 69 rfl rfl, inW1 178 rfl rfl, inW1 179 rfl rfl, inW1 5 rfl rfl, inW1 180 rfl rfl⟩, by decide +kernel, by decide +kernel, by decide +kernel⟩
theorem mX2_52 : MV RX2 52 yX4_first cX4_first 1 (some .long) 0 := ⟨⟨inW3 70 rfl rfl, inW3 71 rfl rfl, inW3 72 rfl rfl, inW1 5 rfl rfl, inW3 73 rfl rfl⟩, by decide +kernel, by decide +kernel, by decide +kernel⟩
theorem mX2_56 : MV RX2 56 yX4_second cX4_second 1 (some .long) 0 := ⟨⟨inW3 74 rfl rfl, inW3 75 rfl rfl, inW3 76 rfl rfl, inW1 5 rfl rfl, inW3 77 rfl rfl⟩, by decide +kernel, by decide +kernel, by decide +kernel⟩
theorem mL_112 : MSW RL 112 yL_sweep cL_sweep 4 (some .int) [(0, 9, 12, 13)] 3 := ⟨⟨inW3 78 rfl rfl, inW3 79 rfl rfl, inW1 0 rfl rfl, inW3 80 rfl rfl⟩, by decide +kernel, by decide +kernel, by decide +kernel⟩
theorem mL_41 : MV RL 41 yX6_sweep cX6_sweep 3 (some .int) 1 := ⟨⟨inW3 81 rfl rfl, inW3 82 rfl rfl, inW3 83 rfl rfl, inW1 1 rfl rfl, inW3 84 rfl rfl⟩, by decide +kernel, by decide +kernel, by decide +kernel⟩
theorem mX6_141 : MV RX6 141 yX2_sweepOften cX2_sweepOften 5 (some .int) 1 := ⟨⟨inW3 86 rfl rfl, inW3 87 rfl rfl, inW3 88 rfl rfl, inW1 4 rfl rfl, inW3 89 rfl rfl⟩, by decide +kernel, by decide +kernel, by decide +kernel⟩
theorem mX2_59 : MV RX2 59 yX2_sweepOnce cX2_sweepOnce 6 (some .int) 0 := ⟨⟨inW3 90 rfl rfl, inW3 92 rfl rfl, inWp 11 rfl rfl, inW1 4 rfl rfl, inW3 93 rfl rfl⟩, by decide +kernel, by decide +kernel, by decide +kernel⟩
theorem mX2_63 : MV RX2 63 yX2_behindLastLeader cX2_behindLastLeader 2 (some .int) 0 := ⟨⟨inW3 94 rfl rfl, inW3 96 rfl rfl, inWp 12 rfl rfl, inW1 4 rfl rfl, inW3 97 rfl rfl⟩, by decide +kernel, by decide +kernel, by decide +kernel⟩
theorem mX2_66 : MS RX2 66 yX1_leadsSomewhere cX1_leadsSomewhere 2 (some .boolean) 1 := ⟨⟨inW3 98 rfl rfl, inW1 182 rfl rfl, inW1 14 rfl rfl, inW1 183 rfl rfl⟩, by decide +kernel, by decide +kernel, by decide +kernel⟩
theorem mX2_72 : MV RX2 72 yX2_bringTogether cX2_bringTogether 4 (some .boolean) 2 := ⟨⟨inW3 99 rfl rfl, inW3 66 rfl rfl, inW3 67 rfl rfl, inW1 4 rfl rfl, inW3 68 rfl rfl⟩, by decide +kernel, by decide +kernel, by decide +kernel⟩
theorem mL_115 : MSW RL 115 yL_output cL_output 4 (some .int) [(0, 16, 19, 39)] 3 := ⟨⟨inW3 100 rfl rfl, inW3 101 rfl rfl, inW1 0 rfl rfl, inW3 102 rfl rfl⟩, by decide +kernel, by decide +kernel, by decide +kernel⟩
theorem mL_44 : MV RL 44 yX6_output cX6_output 2 (some .boolean) 1 := ⟨⟨inW3 103 rfl rfl, inW3 104 rfl rfl, inW3 105 rfl rfl, inW1 1 rfl rfl, inW3 106 rfl rfl⟩, by decide +kernel, by decide +kernel, by decide +kernel⟩
theorem mX6_145 : MV RX6 145 yX2_agent cX2_agent 2 (some .long) 1 := ⟨⟨inW3 107 rfl rfl, inW3 108 rfl rfl, inW3 109 rfl rfl, inW1 4 rfl rfl, inW3 110 rfl rfl⟩, by decide +kernel, by decide +kernel, by decide +kernel⟩
theorem mX6_149 : MV RX6 149 yX3_outputOf cX3_outputOf 5 (some .boolean) 1 := ⟨⟨inW3 111 rfl rfl, inW2 7 rfl rfl, inW2 8 rfl rfl, inW1 2 rfl rfl, inW2 9 rfl rfl⟩, by decide +kernel, by decide +kernel, by decide +kernel⟩
theorem mL_118 : MSW RL 118 yL_state cL_state 6 (some .int) [(0, 12, 15, 39)] 5 := ⟨⟨inW3 112 rfl rfl, inW3 113 rfl rfl, inW1 0 rfl rfl, inW3 114 rfl rfl⟩, by decide +kernel, by decide +kernel, by decide +kernel⟩
theorem mL_48 : MV RL 48 yX6_state cX6_state 4 (some .int) 3 := ⟨⟨inW3 115 rfl rfl, inW3 116 rfl rfl, inW3 117 rfl rfl, inW1 1 rfl rfl, inW3 118 rfl rfl⟩, by decide +kernel, by decide +kernel, by decide +kernel⟩
theorem mX6_153 : MV RX6 153 yX3_hasAtom cX3_hasAtom 2 (some .boolean) 1 := ⟨⟨inW3 119 rfl rfl, inW3 120 rfl rfl, inW3 121 rfl rfl, inW1 2 rfl rfl, inW3 122 rfl rfl⟩, by decide +kernel, by decide +kernel, by decide +kernel⟩
theorem mX6_156 : MS RX6 156 yX6_isFact cX6_isFact 2 (some .boolean) 2 := ⟨⟨inW3 123 rfl rfl, inW3 124 rfl rfl, inW1 1 rfl rfl, inW3 125 rfl rfl⟩, by decide +kernel, by decide +kernel, by decide +kernel⟩
theorem mX6_161 : MS RX6 161 yX1_ofAtom cX1_ofAtom 3 (some .int) 2 := ⟨⟨inW3 127 rfl rfl, inW1 194 rfl rfl, inW1 14 rfl rfl, inW1 195 rfl rfl⟩, by decide +kernel, by decide +kernel, by decide +kernel⟩
theorem mX6_167 : MS RX6 167 yX1_fact cX1_fact 2 (some .int) 2 := ⟨⟨inW3 128 rfl rfl, inW3 129 rfl rfl, inW1 14 rfl rfl, inW3 130 rfl rfl⟩, by decide +kernel, by decide +kernel, by decide +kernel⟩
theorem mX1_9 : MS RX1 9 yX1_value cX1_value 1 (some .int) 1 := ⟨⟨inW3 131 rfl rfl, inW1 207 rfl rfl, inW1 14 rfl rfl, inW1 208 rfl rfl⟩, by decide +kernel, by decide +kernel, by decide +kernel⟩
theorem mX1_13 : MS RX1 13 yX1_leads cX1_leads 1 (some .boolean) 1 := ⟨⟨inW3 132 rfl rfl, inW1 201 rfl rfl, inW1 14 rfl rfl, inW1 202 rfl rfl⟩, by decide +kernel, by decide +kernel, by decide +kernel⟩
theorem mX1_17 : MS RX1 17 yX1_opinion cX1_opinion 1 (some .int) 1 := ⟨⟨inW3 133 rfl rfl, inW2 12 rfl rfl, inW1 14 rfl rfl, inW2 13 rfl rfl⟩, by decide +kernel, by decide +kernel, by decide +kernel⟩
theorem mL_121 : MSW RL 121 yL_truth cL_truth 3 (some .int) [(0, 15, 18, 19)] 2 := ⟨⟨inW3 134 rfl rfl, inW3 135 rfl rfl, inW1 0 rfl rfl, inW3 136 rfl rfl⟩, by decide +kernel, by decide +kernel, by decide +kernel⟩
theorem mL_51 : MV RL 51 yX6_truth cX6_truth 1 (some .boolean) 0 := ⟨⟨inW3 137 rfl rfl, inW3 138 rfl rfl, inW3 139 rfl rfl, inW1 1 rfl rfl, inW3 140 rfl rfl⟩, by decide +kernel, by decide +kernel, by decide +kernel⟩
theorem mX6_170 : MV RX6 170 yX2_letterCounts cX2_letterCounts 1 (some (.array .int)) 0 := ⟨⟨inW3 141 rfl rfl, inW3 142 rfl rfl, inW3 143 rfl rfl, inW1 4 rfl rfl, inW3 144 rfl rfl⟩, by decide +kernel, by decide +kernel, by decide +kernel⟩
theorem mX6_174 : MV RX6 174 yX3_isTrueOf cX3_isTrueOf 4 (some .boolean) 1 := ⟨⟨inW3 145 rfl rfl, inW3 146 rfl rfl, inW3 147 rfl rfl, inW1 2 rfl rfl, inW3 148 rfl rfl⟩, by decide +kernel, by decide +kernel, by decide +kernel⟩
theorem mX3_77 : MV RX3 77 yX0_isTrueOf cX0_isTrueOf 4 (some .boolean) 1 := ⟨⟨inW3 149 rfl rfl, inW3 150 rfl rfl, inW3 151 rfl rfl, inW1 3 rfl rfl, inW3 152 rfl rfl⟩, by decide +kernel, by decide +kernel, by decide +kernel⟩
theorem mL_132 : MSW RL 132 yL_explore cL_explore 4 (some .int) [(0, 9, 12, 13), (0, 9, 15, 19)] 3 := ⟨⟨inW3 153 rfl rfl, inW3 154 rfl rfl, inW1 0 rfl rfl, inW3 155 rfl rfl⟩, by decide +kernel, by decide +kernel, by decide +kernel⟩
theorem mL_55 : MV RL 55 yX6_explore cX6_explore 3 (some .int) 1 := ⟨⟨inW3 156 rfl rfl, inW3 157 rfl rfl, inW3 158 rfl rfl, inW1 1 rfl rfl, inW3 159 rfl rfl⟩, by decide +kernel, by decide +kernel, by decide +kernel⟩
theorem clX6_188 : Cond.classLink RX6 188 "CrowdDesk$Search" ∈ WT := inW3 162 rfl rfl
theorem itX5 : Cond.instantiable RX5 8 ∈ WT := inW3 163 rfl rfl
theorem mX6_190 : MI RX6 190 yX5_init cX5_init 2 1 := ⟨⟨inW3 164 rfl rfl, inW3 165 rfl rfl, inW1 16 rfl rfl, inW3 166 rfl rfl, rfl⟩, by decide +kernel, by decide +kernel, by decide +kernel⟩
theorem clX5_30 : Cond.classLink RX5 30 "CrowdDesk$Meeting" ∈ WT := inW3 168 rfl rfl
theorem mX5_32 : MI RX5 32 yX4_init cX4_init 2 1 := ⟨⟨inW3 169 rfl rfl, inW1 98 rfl rfl, inW1 5 rfl rfl, inW1 99 rfl rfl, rfl⟩, by decide +kernel, by decide +kernel, by decide +kernel⟩
theorem flX5_26 : Cond.fieldLink RX5 26 RX5 "formula" "LCrowdDesk$Formula;" ∈ WT := inW3 170 rfl rfl
theorem flX5_35 : Cond.fieldLink RX5 35 RX5 "meeting" "LCrowdDesk$Meeting;" ∈ WT := inW3 171 rfl rfl
theorem flX5_9 : Cond.fieldLink RX5 9 RX5 "rows" "[J" ∈ WT := inW3 172 rfl rfl
theorem flX5_15 : Cond.fieldLink RX5 15 RX5 "slots" "[I" ∈ WT := inW3 173 rfl rfl
theorem flX5_19 : Cond.fieldLink RX5 19 RX5 "endsRight" "[Z" ∈ WT := inW3 174 rfl rfl
theorem flX5_23 : Cond.fieldLink RX5 23 RX5 "next" "[J" ∈ WT := inW3 175 rfl rfl
theorem flX5_51 : Cond.fieldLink RX5 51 RX5 "width" "I" ∈ WT := inW3 176 rfl rfl
theorem flX5_55 : Cond.fieldLink RX5 55 RX5 "found" "I" ∈ WT := inW3 177 rfl rfl
theorem mX6_191 : MV RX6 191 yX5_findAll cX5_findAll 4 (some .int) 2 := ⟨⟨inW3 196 rfl rfl, inW3 197 rfl rfl, inW3 198 rfl rfl, inW1 16 rfl rfl, inW3 199 rfl rfl⟩, by decide +kernel, by decide +kernel, by decide +kernel⟩
theorem mX5_39 : MS RX5 39 yJ7_fill_53178 cJ7_fill_53178 4 none 2 := ⟨⟨inW3 200 rfl rfl, inW1 150 rfl rfl, inW1 7 rfl rfl, inW1 151 rfl rfl⟩, by decide +kernel, by decide +kernel, by decide +kernel⟩
theorem mX5_45 : MV RX5 45 yX2_count cX2_count 1 (some .int) 0 := ⟨⟨inW3 201 rfl rfl, inW1 162 rfl rfl, inW1 163 rfl rfl, inW1 4 rfl rfl, inW1 164 rfl rfl⟩, by decide +kernel, by decide +kernel, by decide +kernel⟩
theorem mX5_58 : MV RX5 58 yX2_agent cX2_agent 2 (some .long) 1 := ⟨⟨inW3 202 rfl rfl, inW3 108 rfl rfl, inW3 109 rfl rfl, inW1 4 rfl rfl, inW3 110 rfl rfl⟩, by decide +kernel, by decide +kernel, by decide +kernel⟩
theorem mX5_62 : MV RX5 62 yX5_sortNext cX5_sortNext 5 none 0 := ⟨⟨inW3 203 rfl rfl, inW3 205 rfl rfl, inWp 13 rfl rfl, inW1 16 rfl rfl, inW3 206 rfl rfl⟩, by decide +kernel, by decide +kernel, by decide +kernel⟩
theorem mX5_65 : MV RX5 65 yX5_slotOfNext cX5_slotOfNext 5 (some .int) 0 := ⟨⟨inW3 207 rfl rfl, inW3 209 rfl rfl, inWp 14 rfl rfl, inW1 16 rfl rfl, inW3 210 rfl rfl⟩, by decide +kernel, by decide +kernel, by decide +kernel⟩
theorem ctX5_91 : Cond.constantLong RX5 91 (-7046029254386353131 : Int64) ∈ WT := inW3 211 rfl rfl
theorem mX5_93 : MV RX5 93 yX5_isNext cX5_isNext 3 (some .boolean) 1 := ⟨⟨inW3 212 rfl rfl, inW3 214 rfl rfl, inWp 15 rfl rfl, inW1 16 rfl rfl, inW3 215 rfl rfl⟩, by decide +kernel, by decide +kernel, by decide +kernel⟩
theorem mX5_68 : MV RX5 68 yX5_keepNext cX5_keepNext 3 none 1 := ⟨⟨inW3 216 rfl rfl, inW3 218 rfl rfl, inWp 16 rfl rfl, inW1 16 rfl rfl, inW3 219 rfl rfl⟩, by decide +kernel, by decide +kernel, by decide +kernel⟩
theorem mX5_72 : MV RX5 72 yX5_keepAllAfter cX5_keepAllAfter 6 (some .boolean) 2 := ⟨⟨inW3 220 rfl rfl, inW3 222 rfl rfl, inWp 17 rfl rfl, inW1 16 rfl rfl, inW3 223 rfl rfl⟩, by decide +kernel, by decide +kernel, by decide +kernel⟩
theorem mX5_76 : MV RX5 76 yX5_stepToNext cX5_stepToNext 6 (some .boolean) 3 := ⟨⟨inW3 224 rfl rfl, inW3 226 rfl rfl, inWp 18 rfl rfl, inW1 16 rfl rfl, inW3 227 rfl rfl⟩, by decide +kernel, by decide +kernel, by decide +kernel⟩
theorem mX5_80 : MV RX5 80 yX4_changes cX4_changes 7 (some .boolean) 2 := ⟨⟨inW3 228 rfl rfl, inW1 178 rfl rfl, inW1 179 rfl rfl, inW1 5 rfl rfl, inW1 180 rfl rfl⟩, by decide +kernel, by decide +kernel, by decide +kernel⟩
theorem mX5_84 : MV RX5 84 yX4_first cX4_first 1 (some .long) 0 := ⟨⟨inW3 229 rfl rfl, inW3 71 rfl rfl, inW3 72 rfl rfl, inW1 5 rfl rfl, inW3 73 rfl rfl⟩, by decide +kernel, by decide +kernel, by decide +kernel⟩
theorem mX5_88 : MV RX5 88 yX4_second cX4_second 1 (some .long) 0 := ⟨⟨inW3 230 rfl rfl, inW3 75 rfl rfl, inW3 76 rfl rfl, inW1 5 rfl rfl, inW3 77 rfl rfl⟩, by decide +kernel, by decide +kernel, by decide +kernel⟩
theorem mL_135 : MSW RL 135 yL_recovers cL_recovers 3 (some .int) [(0, 15, 18, 19)] 2 := ⟨⟨inW3 231 rfl rfl, inW3 232 rfl rfl, inW1 0 rfl rfl, inW3 233 rfl rfl⟩, by decide +kernel, by decide +kernel, by decide +kernel⟩
theorem mL_58 : MV RL 58 yX6_recovers cX6_recovers 1 (some .boolean) 0 := ⟨⟨inW3 234 rfl rfl, inW3 235 rfl rfl, inW3 236 rfl rfl, inW1 1 rfl rfl, inW3 237 rfl rfl⟩, by decide +kernel, by decide +kernel, by decide +kernel⟩
theorem mX6_197 : MV RX6 197 yX5_allCanEndRight cX5_allCanEndRight 6 (some .boolean) 1 := ⟨⟨inW3 239 rfl rfl, inW4 0 rfl rfl, inW4 1 rfl rfl, inW1 16 rfl rfl, inW4 2 rfl rfl⟩, by decide +kernel, by decide +kernel, by decide +kernel⟩
theorem mX5_97 : MV RX5 97 yX5_isRightEnd cX5_isRightEnd 4 (some .boolean) 2 := ⟨⟨inW4 3 rfl rfl, inW4 5 rfl rfl, inWp 19 rfl rfl, inW1 16 rfl rfl, inW4 6 rfl rfl⟩, by decide +kernel, by decide +kernel, by decide +kernel⟩
theorem mX5_104 : MV RX5 104 yX3_allOutputsAre cX3_allOutputsAre 6 (some .boolean) 4 := ⟨⟨inW4 7 rfl rfl, inW2 26 rfl rfl, inW2 27 rfl rfl, inW1 2 rfl rfl, inW2 28 rfl rfl⟩, by decide +kernel, by decide +kernel, by decide +kernel⟩
theorem mX5_110 : MV RX5 110 yX4_changesNone cX4_changesNone 6 (some .boolean) 3 := ⟨⟨inW4 8 rfl rfl, inW1 174 rfl rfl, inW1 175 rfl rfl, inW1 5 rfl rfl, inW1 176 rfl rfl⟩, by decide +kernel, by decide +kernel, by decide +kernel⟩
theorem mX5_101 : MV RX5 101 yX5_leadsToRightEnd cX5_leadsToRightEnd 5 (some .boolean) 1 := ⟨⟨inW4 9 rfl rfl, inW4 11 rfl rfl, inWp 20 rfl rfl, inW1 16 rfl rfl, inW4 12 rfl rfl⟩, by decide +kernel, by decide +kernel, by decide +kernel⟩
theorem mL_138 : MSW RL 138 yL_table cL_table 5 (some .int) [(0, 10, 13, 39), (0, 10, 17, 19)] 4 := ⟨⟨inW4 13 rfl rfl, inW4 14 rfl rfl, inW1 0 rfl rfl, inW4 15 rfl rfl⟩, by decide +kernel, by decide +kernel, by decide +kernel⟩
theorem mL_61 : MV RL 61 yX6_table cX6_table 4 (some .int) 2 := ⟨⟨inW4 16 rfl rfl, inW4 17 rfl rfl, inW4 18 rfl rfl, inW1 1 rfl rfl, inW4 19 rfl rfl⟩, by decide +kernel, by decide +kernel, by decide +kernel⟩
theorem mX6_201 : MV RX6 201 yX6_checkTable cX6_checkTable 4 none 3 := ⟨⟨inW4 20 rfl rfl, inW4 22 rfl rfl, inWp 21 rfl rfl, inW1 1 rfl rfl, inW4 23 rfl rfl⟩, by decide +kernel, by decide +kernel, by decide +kernel⟩
theorem mX6_205 : MV RX6 205 yX3_atom cX3_atom 2 (some (.object "CrowdDesk$Atom")) 1 := ⟨⟨inW4 25 rfl rfl, inW1 190 rfl rfl, inW1 191 rfl rfl, inW1 2 rfl rfl, inW1 192 rfl rfl⟩, by decide +kernel, by decide +kernel, by decide +kernel⟩
theorem mX6_209 : MV RX6 209 yX0_stateCount cX0_stateCount 1 (some .int) 0 := ⟨⟨inW4 26 rfl rfl, inW3 13 rfl rfl, inW3 14 rfl rfl, inW1 3 rfl rfl, inW3 15 rfl rfl⟩, by decide +kernel, by decide +kernel, by decide +kernel⟩
theorem mX6_212 : MV RX6 212 yX0_ruleCount cX0_ruleCount 1 (some .int) 0 := ⟨⟨inW4 27 rfl rfl, inW4 28 rfl rfl, inW4 29 rfl rfl, inW1 3 rfl rfl, inW4 30 rfl rfl⟩, by decide +kernel, by decide +kernel, by decide +kernel⟩
theorem mL_141 : MSW RL 141 yL_rule cL_rule 6 (some .int) [(0, 12, 15, 39), (0, 12, 19, 19)] 5 := ⟨⟨inW4 31 rfl rfl, inW4 32 rfl rfl, inW1 0 rfl rfl, inW4 33 rfl rfl⟩, by decide +kernel, by decide +kernel, by decide +kernel⟩
theorem mL_64 : MV RL 64 yX6_rule cX6_rule 5 (some .int) 3 := ⟨⟨inW4 34 rfl rfl, inW4 35 rfl rfl, inW4 36 rfl rfl, inW1 1 rfl rfl, inW4 37 rfl rfl⟩, by decide +kernel, by decide +kernel, by decide +kernel⟩
theorem mX6_217 : MV RX6 217 yX0_ruleFact cX0_ruleFact 6 (some .int) 2 := ⟨⟨inW4 39 rfl rfl, inW4 40 rfl rfl, inW4 41 rfl rfl, inW1 3 rfl rfl, inW4 42 rfl rfl⟩, by decide +kernel, by decide +kernel, by decide +kernel⟩
theorem mX0_113 : MV RX0 113 yX0_firstOfRule cX0_firstOfRule 3 (some .int) 1 := ⟨⟨inW4 43 rfl rfl, inW4 45 rfl rfl, inWp 22 rfl rfl, inW1 3 rfl rfl, inW4 46 rfl rfl⟩, by decide +kernel, by decide +kernel, by decide +kernel⟩
theorem mX0_116 : MV RX0 116 yX0_secondOfRule cX0_secondOfRule 5 (some .int) 2 := ⟨⟨inW4 47 rfl rfl, inW4 49 rfl rfl, inWp 23 rfl rfl, inW1 3 rfl rfl, inW4 50 rfl rfl⟩, by decide +kernel, by decide +kernel, by decide +kernel⟩
theorem mL_144 : MSW RL 144 yL_kind cL_kind 6 (some .int) [(0, 12, 15, 39), (0, 12, 19, 19)] 5 := ⟨⟨inW4 51 rfl rfl, inW4 52 rfl rfl, inW1 0 rfl rfl, inW4 53 rfl rfl⟩, by decide +kernel, by decide +kernel, by decide +kernel⟩
theorem mL_67 : MV RL 67 yX6_kind cX6_kind 5 (some .int) 3 := ⟨⟨inW4 54 rfl rfl, inW4 55 rfl rfl, inW4 56 rfl rfl, inW1 1 rfl rfl, inW4 57 rfl rfl⟩, by decide +kernel, by decide +kernel, by decide +kernel⟩
theorem mX6_222 : MV RX6 222 yX0_codeOf cX0_codeOf 2 (some .int) 1 := ⟨⟨inW4 59 rfl rfl, inW4 60 rfl rfl, inW4 61 rfl rfl, inW1 3 rfl rfl, inW4 62 rfl rfl⟩, by decide +kernel, by decide +kernel, by decide +kernel⟩
theorem clL_71 : Cond.classLink RL 71 "CrowdDeskModel" ∈ WT := inW4 63 rfl rfl
theorem itX7 : Cond.instantiable RX7 25 ∈ WT := inW4 64 rfl rfl
theorem mL_73 : MI RL 73 yX7_init cX7_init 1 0 := ⟨⟨inW4 65 rfl rfl, inW4 66 rfl rfl, inW1 6 rfl rfl, inW4 67 rfl rfl, rfl⟩, by decide +kernel, by decide +kernel, by decide +kernel⟩
theorem flX7_7 : Cond.fieldLink RX7 7 RX7 "thrownCode" "I" ∈ WT := inW4 69 rfl rfl
theorem flX7_13 : Cond.fieldLink RX7 13 RX7 "pending" "[I" ∈ WT := inW4 70 rfl rfl
theorem flX7_17 : Cond.fieldLink RX7 17 RX7 "nodes" "I" ∈ WT := inW4 71 rfl rfl
theorem flX7_20 : Cond.fieldLink RX7 20 RX7 "op" "[I" ∈ WT := inW4 72 rfl rfl
theorem flX7_23 : Cond.fieldLink RX7 23 RX7 "left" "[I" ∈ WT := inW4 73 rfl rfl
theorem flX7_26 : Cond.fieldLink RX7 26 RX7 "right" "[I" ∈ WT := inW4 74 rfl rfl
theorem flX7_29 : Cond.fieldLink RX7 29 RX7 "truths" "[Z" ∈ WT := inW4 75 rfl rfl
theorem flX7_33 : Cond.fieldLink RX7 33 RX7 "atoms" "I" ∈ WT := inW4 76 rfl rfl
theorem flX7_36 : Cond.fieldLink RX7 36 RX7 "coefs" "[I" ∈ WT := inW4 77 rfl rfl
theorem flX7_39 : Cond.fieldLink RX7 39 RX7 "bound" "[I" ∈ WT := inW4 78 rfl rfl
theorem flX7_42 : Cond.fieldLink RX7 42 RX7 "modulus" "[I" ∈ WT := inW4 79 rfl rfl
theorem flX7_45 : Cond.fieldLink RX7 45 RX7 "edge" "[I" ∈ WT := inW4 80 rfl rfl
theorem flX7_48 : Cond.fieldLink RX7 48 RX7 "compiled" "Z" ∈ WT := inW4 81 rfl rfl
theorem flX7_52 : Cond.fieldLink RX7 52 RX7 "there" "[Z" ∈ WT := inW4 82 rfl rfl
theorem flX7_55 : Cond.fieldLink RX7 55 RX7 "agents" "I" ∈ WT := inW4 83 rfl rfl
theorem flX7_58 : Cond.fieldLink RX7 58 RX7 "agent" "[I" ∈ WT := inW4 84 rfl rfl
theorem flX7_61 : Cond.fieldLink RX7 61 RX7 "letters" "[I" ∈ WT := inW4 85 rfl rfl
theorem flX7_64 : Cond.fieldLink RX7 64 RX7 "newOne" "I" ∈ WT := inW4 86 rfl rfl
theorem flX7_67 : Cond.fieldLink RX7 67 RX7 "newOther" "I" ∈ WT := inW4 87 rfl rfl
theorem flX7_70 : Cond.fieldLink RX7 70 RX7 "crowds" "I" ∈ WT := inW4 88 rfl rfl
theorem flX7_73 : Cond.fieldLink RX7 73 RX7 "crowd" "[J" ∈ WT := inW4 89 rfl rfl
theorem flX7_77 : Cond.fieldLink RX7 77 RX7 "place" "[I" ∈ WT := inW4 90 rfl rfl
theorem flX7_80 : Cond.fieldLink RX7 80 RX7 "good" "[Z" ∈ WT := inW4 91 rfl rfl
theorem flX7_83 : Cond.fieldLink RX7 83 RX7 "explored" "Z" ∈ WT := inW4 92 rfl rfl
theorem flX7_86 : Cond.fieldLink RX7 86 RX7 "work" "[J" ∈ WT := inW4 93 rfl rfl
theorem mL_84 : MV RL 84 yX7_thrown cX7_thrown 1 (some .int) 0 := ⟨⟨inW4 145 rfl rfl, inW4 146 rfl rfl, inW4 147 rfl rfl, inW1 6 rfl rfl, inW4 148 rfl rfl⟩, by decide +kernel, by decide +kernel, by decide +kernel⟩
theorem mL_77 : MV RL 77 yX7_clear cX7_clear 2 none 0 := ⟨⟨inW4 149 rfl rfl, inW4 150 rfl rfl, inW4 151 rfl rfl, inW1 6 rfl rfl, inW4 152 rfl rfl⟩, by decide +kernel, by decide +kernel, by decide +kernel⟩
theorem mL_83 : MV RL 83 yX7_coef cX7_coef 4 (some .int) 2 := ⟨⟨inW4 153 rfl rfl, inW4 154 rfl rfl, inW4 155 rfl rfl, inW1 6 rfl rfl, inW4 156 rfl rfl⟩, by decide +kernel, by decide +kernel, by decide +kernel⟩
theorem mL_90 : MV RL 90 yX7_sum cX7_sum 2 (some .int) 1 := ⟨⟨inW4 157 rfl rfl, inW4 158 rfl rfl, inW4 159 rfl rfl, inW1 6 rfl rfl, inW4 160 rfl rfl⟩, by decide +kernel, by decide +kernel, by decide +kernel⟩
theorem mX7_136 : MV RX7 136 yX7_full cX7_full 1 (some .boolean) 0 := ⟨⟨inW4 161 rfl rfl, inW4 163 rfl rfl, inWp 24 rfl rfl, inW1 6 rfl rfl, inW4 164 rfl rfl⟩, by decide +kernel, by decide +kernel, by decide +kernel⟩
theorem mX7_139 : MV RX7 139 yX7_atom cX7_atom 6 (some .int) 2 := ⟨⟨inW4 165 rfl rfl, inW4 167 rfl rfl, inWp 25 rfl rfl, inW1 6 rfl rfl, inW4 168 rfl rfl⟩, by decide +kernel, by decide +kernel, by decide +kernel⟩
theorem mX7_132 : MV RX7 132 yX7_node cX7_node 4 (some .int) 3 := ⟨⟨inW4 169 rfl rfl, inW4 171 rfl rfl, inWp 26 rfl rfl, inW1 6 rfl rfl, inW4 172 rfl rfl⟩, by decide +kernel, by decide +kernel, by decide +kernel⟩
theorem mL_93 : MV RL 93 yX7_mod cX7_mod 3 (some .int) 2 := ⟨⟨inW4 173 rfl rfl, inW4 174 rfl rfl, inW4 175 rfl rfl, inW1 6 rfl rfl, inW4 176 rfl rfl⟩, by decide +kernel, by decide +kernel, by decide +kernel⟩
theorem mL_97 : MV RL 97 yX7_combine cX7_combine 5 (some .int) 3 := ⟨⟨inW4 177 rfl rfl, inW4 178 rfl rfl, inW4 179 rfl rfl, inW1 6 rfl rfl, inW4 180 rfl rfl⟩, by decide +kernel, by decide +kernel, by decide +kernel⟩
theorem mL_101 : MV RL 101 yX7_compile cX7_compile 5 (some .int) 0 := ⟨⟨inW4 181 rfl rfl, inW4 182 rfl rfl, inW4 183 rfl rfl, inW1 6 rfl rfl, inW4 184 rfl rfl⟩, by decide +kernel, by decide +kernel, by decide +kernel⟩
theorem mX7_142 : MV RX7 142 yX7_findStates cX7_findStates 6 none 1 := ⟨⟨inW4 185 rfl rfl, inW4 187 rfl rfl, inWp 27 rfl rfl, inW1 6 rfl rfl, inW4 188 rfl rfl⟩, by decide +kernel, by decide +kernel, by decide +kernel⟩
theorem mX7_101 : MV RX7 101 yX7_firstState cX7_firstState 4 (some .int) 2 := ⟨⟨inW4 189 rfl rfl, inW4 191 rfl rfl, inWp 28 rfl rfl, inW1 6 rfl rfl, inW4 192 rfl rfl⟩, by decide +kernel, by decide +kernel, by decide +kernel⟩
theorem mX7_89 : MV RX7 89 yX7_opinionOf cX7_opinionOf 3 (some .boolean) 2 := ⟨⟨inW4 193 rfl rfl, inW4 195 rfl rfl, inWp 29 rfl rfl, inW1 6 rfl rfl, inW4 196 rfl rfl⟩, by decide +kernel, by decide +kernel, by decide +kernel⟩
theorem mX7_93 : MV RX7 93 yX7_stateOf cX7_stateOf 5 (some .int) 4 := ⟨⟨inW4 197 rfl rfl, inW4 199 rfl rfl, inWp 30 rfl rfl, inW1 6 rfl rfl, inW4 200 rfl rfl⟩, by decide +kernel, by decide +kernel, by decide +kernel⟩
theorem mX7_105 : MV RX7 105 yX7_meeting cX7_meeting 9 none 3 := ⟨⟨inW4 201 rfl rfl, inW4 203 rfl rfl, inWp 31 rfl rfl, inW1 6 rfl rfl, inW4 204 rfl rfl⟩, by decide +kernel, by decide +kernel, by decide +kernel⟩
theorem mX7_97 : MS RX7 97 yX7_valueOf cX7_valueOf 1 (some .int) 1 := ⟨⟨inW4 205 rfl rfl, inW4 206 rfl rfl, inW1 6 rfl rfl, inW4 207 rfl rfl⟩, by decide +kernel, by decide +kernel, by decide +kernel⟩
theorem mX7_146 : MV RX7 146 yX7_stateCount cX7_stateCount 4 (some .int) 1 := ⟨⟨inW4 208 rfl rfl, inW4 210 rfl rfl, inWp 32 rfl rfl, inW1 6 rfl rfl, inW4 211 rfl rfl⟩, by decide +kernel, by decide +kernel, by decide +kernel⟩
theorem mL_104 : MV RL 104 yX7_add cX7_add 5 (some .int) 2 := ⟨⟨inW4 212 rfl rfl, inW4 213 rfl rfl, inW4 214 rfl rfl, inW1 6 rfl rfl, inW4 215 rfl rfl⟩, by decide +kernel, by decide +kernel, by decide +kernel⟩
theorem mL_108 : MV RL 108 yX7_size cX7_size 1 (some .int) 0 := ⟨⟨inW4 216 rfl rfl, inW4 217 rfl rfl, inW4 218 rfl rfl, inW1 6 rfl rfl, inW4 219 rfl rfl⟩, by decide +kernel, by decide +kernel, by decide +kernel⟩
theorem mL_111 : MV RL 111 yX7_meet cX7_meet 3 (some .boolean) 2 := ⟨⟨inW4 220 rfl rfl, inW4 221 rfl rfl, inW4 222 rfl rfl, inW1 6 rfl rfl, inW4 223 rfl rfl⟩, by decide +kernel, by decide +kernel, by decide +kernel⟩
theorem mX7_149 : MV RX7 149 yX7_noAgent cX7_noAgent 2 (some .boolean) 1 := ⟨⟨inW4 224 rfl rfl, inW4 226 rfl rfl, inWp 33 rfl rfl, inW1 6 rfl rfl, inW4 227 rfl rfl⟩, by decide +kernel, by decide +kernel, by decide +kernel⟩
theorem mX7_153 : MV RX7 153 yX7_meets cX7_meets 6 (some .boolean) 3 := ⟨⟨inW4 228 rfl rfl, inW4 230 rfl rfl, inWp 34 rfl rfl, inW1 6 rfl rfl, inW4 231 rfl rfl⟩, by decide +kernel, by decide +kernel, by decide +kernel⟩
theorem mL_114 : MV RL 114 yX7_sweep cX7_sweep 7 (some .int) 1 := ⟨⟨inW4 232 rfl rfl, inW4 233 rfl rfl, inW4 234 rfl rfl, inW1 6 rfl rfl, inW4 235 rfl rfl⟩, by decide +kernel, by decide +kernel, by decide +kernel⟩
theorem mL_117 : MV RL 117 yX7_output cX7_output 2 (some .boolean) 1 := ⟨⟨inW4 236 rfl rfl, inW4 237 rfl rfl, inW4 238 rfl rfl, inW1 6 rfl rfl, inW4 239 rfl rfl⟩, by decide +kernel, by decide +kernel, by decide +kernel⟩
theorem mX7_157 : MV RX7 157 yX7_outputOf cX7_outputOf 3 (some .boolean) 1 := ⟨⟨inW5 0 rfl rfl, inW5 2 rfl rfl, inWp 35 rfl rfl, inW1 6 rfl rfl, inW5 3 rfl rfl⟩, by decide +kernel, by decide +kernel, by decide +kernel⟩
theorem mX7_109 : MV RX7 109 yX7_formula cX7_formula 2 (some .boolean) 0 := ⟨⟨inW5 4 rfl rfl, inW5 6 rfl rfl, inWp 36 rfl rfl, inW1 6 rfl rfl, inW5 7 rfl rfl⟩, by decide +kernel, by decide +kernel, by decide +kernel⟩
theorem mL_120 : MV RL 120 yX7_state cX7_state 4 (some .int) 3 := ⟨⟨inW5 8 rfl rfl, inW5 9 rfl rfl, inW5 10 rfl rfl, inW1 6 rfl rfl, inW5 11 rfl rfl⟩, by decide +kernel, by decide +kernel, by decide +kernel⟩
theorem mX7_160 : MS RX7 160 yX7_partOf cX7_partOf 2 (some .int) 2 := ⟨⟨inW5 12 rfl rfl, inW5 13 rfl rfl, inW1 6 rfl rfl, inW5 14 rfl rfl⟩, by decide +kernel, by decide +kernel, by decide +kernel⟩
theorem mL_123 : MV RL 123 yX7_truth cX7_truth 1 (some .boolean) 0 := ⟨⟨inW5 15 rfl rfl, inW5 16 rfl rfl, inW5 17 rfl rfl, inW1 6 rfl rfl, inW5 18 rfl rfl⟩, by decide +kernel, by decide +kernel, by decide +kernel⟩
theorem mX7_163 : MV RX7 163 yX7_truthNow cX7_truthNow 5 (some .boolean) 0 := ⟨⟨inW5 19 rfl rfl, inW5 21 rfl rfl, inWp 37 rfl rfl, inW1 6 rfl rfl, inW5 22 rfl rfl⟩, by decide +kernel, by decide +kernel, by decide +kernel⟩
theorem mL_127 : MV RL 127 yX7_silent cX7_silent 3 (some .boolean) 0 := ⟨⟨inW5 23 rfl rfl, inW5 24 rfl rfl, inW5 25 rfl rfl, inW1 6 rfl rfl, inW5 26 rfl rfl⟩, by decide +kernel, by decide +kernel, by decide +kernel⟩
theorem mL_131 : MV RL 131 yX7_agree cX7_agree 2 (some .boolean) 0 := ⟨⟨inW5 27 rfl rfl, inW5 28 rfl rfl, inW5 29 rfl rfl, inW1 6 rfl rfl, inW5 30 rfl rfl⟩, by decide +kernel, by decide +kernel, by decide +kernel⟩
theorem mL_134 : MV RL 134 yX7_explore cX7_explore 5 (some .int) 1 := ⟨⟨inW5 31 rfl rfl, inW5 32 rfl rfl, inW5 33 rfl rfl, inW1 6 rfl rfl, inW5 34 rfl rfl⟩, by decide +kernel, by decide +kernel, by decide +kernel⟩
theorem mX7_125 : MV RX7 125 yX7_sort cX7_sort 5 none 0 := ⟨⟨inW5 35 rfl rfl, inW5 37 rfl rfl, inWp 38 rfl rfl, inW1 6 rfl rfl, inW5 38 rfl rfl⟩, by decide +kernel, by decide +kernel, by decide +kernel⟩
theorem mX7_128 : MV RX7 128 yX7_find cX7_find 8 (some .int) 1 := ⟨⟨inW5 39 rfl rfl, inW5 41 rfl rfl, inWp 39 rfl rfl, inW1 6 rfl rfl, inW5 42 rfl rfl⟩, by decide +kernel, by decide +kernel, by decide +kernel⟩
theorem ctX7_117 : Cond.constantLong RX7 117 (17 : Int64) ∈ WT := inW5 43 rfl rfl
theorem ctX7_119 : Cond.constantLong RX7 119 (1000003 : Int64) ∈ WT := inW5 44 rfl rfl
theorem mX7_121 : MV RX7 121 yX7_after cX7_after 9 (some .boolean) 3 := ⟨⟨inW5 45 rfl rfl, inW5 47 rfl rfl, inWp 40 rfl rfl, inW1 6 rfl rfl, inW5 48 rfl rfl⟩, by decide +kernel, by decide +kernel, by decide +kernel⟩
theorem mX7_113 : MS RX7 113 yX7_stateIn cX7_stateIn 3 (some .int) 2 := ⟨⟨inW5 49 rfl rfl, inW5 50 rfl rfl, inW1 6 rfl rfl, inW5 51 rfl rfl⟩, by decide +kernel, by decide +kernel, by decide +kernel⟩
theorem mL_137 : MV RL 137 yX7_recovers cX7_recovers 4 (some .boolean) 0 := ⟨⟨inW5 52 rfl rfl, inW5 53 rfl rfl, inW5 54 rfl rfl, inW1 6 rfl rfl, inW5 55 rfl rfl⟩, by decide +kernel, by decide +kernel, by decide +kernel⟩
theorem mX7_166 : MV RX7 166 yX7_silentCrowd cX7_silentCrowd 4 (some .boolean) 1 := ⟨⟨inW5 56 rfl rfl, inW5 58 rfl rfl, inWp 41 rfl rfl, inW1 6 rfl rfl, inW5 59 rfl rfl⟩, by decide +kernel, by decide +kernel, by decide +kernel⟩
theorem mX7_169 : MV RX7 169 yX7_rightCrowd cX7_rightCrowd 5 (some .boolean) 2 := ⟨⟨inW5 60 rfl rfl, inW5 62 rfl rfl, inWp 42 rfl rfl, inW1 6 rfl rfl, inW5 63 rfl rfl⟩, by decide +kernel, by decide +kernel, by decide +kernel⟩
theorem mX7_173 : MV RX7 173 yX7_leadsToGood cX7_leadsToGood 4 (some .boolean) 1 := ⟨⟨inW5 64 rfl rfl, inW5 66 rfl rfl, inWp 43 rfl rfl, inW1 6 rfl rfl, inW5 67 rfl rfl⟩, by decide +kernel, by decide +kernel, by decide +kernel⟩
theorem mL_140 : MV RL 140 yX7_table cX7_table 3 (some .int) 2 := ⟨⟨inW5 68 rfl rfl, inW5 69 rfl rfl, inW5 70 rfl rfl, inW1 6 rfl rfl, inW5 71 rfl rfl⟩, by decide +kernel, by decide +kernel, by decide +kernel⟩
theorem mX7_176 : MV RX7 176 yX7_tableFault cX7_tableFault 4 (some .int) 3 := ⟨⟨inW5 72 rfl rfl, inW5 74 rfl rfl, inWp 44 rfl rfl, inW1 6 rfl rfl, inW5 75 rfl rfl⟩, by decide +kernel, by decide +kernel, by decide +kernel⟩
theorem mX7_179 : MV RX7 179 yX7_findRule cX7_findRule 6 (some .int) 2 := ⟨⟨inW5 76 rfl rfl, inW5 78 rfl rfl, inWp 45 rfl rfl, inW1 6 rfl rfl, inW5 79 rfl rfl⟩, by decide +kernel, by decide +kernel, by decide +kernel⟩
theorem mL_143 : MV RL 143 yX7_rule cX7_rule 5 (some .int) 3 := ⟨⟨inW5 80 rfl rfl, inW5 81 rfl rfl, inW5 82 rfl rfl, inW1 6 rfl rfl, inW5 83 rfl rfl⟩, by decide +kernel, by decide +kernel, by decide +kernel⟩
theorem mX7_182 : MV RX7 182 yX7_numberOf cX7_numberOf 5 (some .int) 2 := ⟨⟨inW5 84 rfl rfl, inW5 86 rfl rfl, inWp 46 rfl rfl, inW1 6 rfl rfl, inW5 87 rfl rfl⟩, by decide +kernel, by decide +kernel, by decide +kernel⟩
theorem mL_146 : MV RL 146 yX7_kind cX7_kind 5 (some .int) 3 := ⟨⟨inW5 88 rfl rfl, inW5 89 rfl rfl, inW5 90 rfl rfl, inW1 6 rfl rfl, inW5 91 rfl rfl⟩, by decide +kernel, by decide +kernel, by decide +kernel⟩
end
section
/-! PURE WORLDS: a world sends names (numbers) to pure cells; references in pure values are names. 'ad' sends names to addresses. -/
abbrev pArr : Type := (Nat → Int32) ⊕ (Nat → Int64) ⊕ (Nat → Option Nat)
abbrev pCell : Type := (Nat × Nat × pArr) ⊕ (Nat × List Value)
abbrev Wd : Type := Nat → Option pCell
def aTy (k : Nat) : FieldType := match k with
  | 0 => .int
  | 1 => .long
  | 2 => .boolean
  | _ => .object RX0
abbrev tysOf (dA : Nat → ClassId) : List (ClassId × FieldType) := [(dA 0, .int), (dA 1, .long), (dA 2, .boolean), (dA 3, .object RX0)]
def vmv (ad : Nat → Nat) (v : Value) : Value := match v with
  | .ref n => .ref (ad n)
  | v => v
def pa (dA : Nat → ClassId) (ad : Nat → Nat) (c : pCell) : va_E := match c with
  | .inl (k, n, .inl f) => .inl (dA k, n, .inl f)
  | .inl (k, n, .inr (.inl f)) => .inl (dA k, n, .inr (.inl f))
  | .inl (k, n, .inr (.inr g)) => .inl (dA k, n, .inr (.inr (.inr (.inr (fun j => (g j).map ad)))))
  | .inr (ci, fs) => .inr (ci, fs.map (vmv ad))
def inD (σ : Wd) (v : Value) : Prop := ∀ n, v = .ref n → σ n ≠ none
def clS (σ : Wd) (st : List Value) : Prop := ∀ v ∈ st, inD σ v
def clC (σ : Wd) (c : pCell) : Prop := match c with
  | .inl (_, _, .inr (.inr g)) => ∀ j m, g j = some m → σ m ≠ none
  | .inl _ => True
  | .inr (_, fs) => clS σ fs
def up (σ : Wd) (n : Nat) (c : pCell) : Wd := fun j => bif Nat.beq j n then some c else σ j
theorem up_self (σ : Wd) (n : Nat) (c : pCell) : up σ n c n = some c := by simp [up]
theorem up_ne (σ : Wd) {n j : Nat} (c : pCell) (h : j ≠ n) : up σ n c j = σ j := by
  have : Nat.beq j n = false := by
    cases hb : Nat.beq j n with
    | true => exact absurd (Nat.eq_of_beq_eq_true hb) h
    | false => rfl
  simp [up, this]
theorem up_dom {σ : Wd} {n j : Nat} {c : pCell} (h : σ j ≠ none) : up σ n c j ≠ none := by
  by_cases e : j = n
  · subst e; rw [up_self]; exact fun h => by cases h
  · rw [up_ne σ c e]; exact h
theorem up_in {σ : Wd} {n : Nat} {c : pCell} {v : Value} (h : inD σ v) : inD (up σ n c) v := fun m e => up_dom (h m e)
theorem up_clS {σ : Wd} {n : Nat} {c : pCell} {st : List Value} (h : clS σ st) : clS (up σ n c) st := fun v hv => up_in (h v hv)
theorem up_clC {σ : Wd} {n : Nat} {c d : pCell} (h : clC σ d) : clC (up σ n c) d := by
  match d, h with
  | .inl (_, _, .inl _), _ => exact trivial
  | .inl (_, _, .inr (.inl _)), _ => exact trivial
  | .inl (_, _, .inr (.inr g)), h => exact fun j m e => up_dom (h j m e)
  | .inr (_, fs), h => exact up_clS (σ := σ) h
theorem cl_i {σ : Wd} {st : List Value} {x : Int32} (h : clS σ st) : clS σ (.int x :: st) := fun v hv => by
  rcases List.mem_cons.mp hv with rfl | hv
  · exact fun n e => by cases e
  · exact h v hv
theorem cl_l {σ : Wd} {st : List Value} {x : Int64} (h : clS σ st) : clS σ (.long x :: st) := fun v hv => by
  rcases List.mem_cons.mp hv with rfl | hv
  · exact fun n e => by cases e
  · exact h v hv
theorem cl_n {σ : Wd} {st : List Value} (h : clS σ st) : clS σ (.null :: st) := fun v hv => by
  rcases List.mem_cons.mp hv with rfl | hv
  · exact fun n e => by cases e
  · exact h v hv
theorem cl_c {σ : Wd} {st : List Value} {v : Value} (hv : inD σ v) (h : clS σ st) : clS σ (v :: st) := fun u hu => by
  rcases List.mem_cons.mp hu with rfl | hu
  · exact hv
  · exact h u hu
theorem cl_h {σ : Wd} {st : List Value} {v : Value} (h : clS σ (v :: st)) : inD σ v := h v List.mem_cons_self
theorem cl_t {σ : Wd} {st : List Value} {v : Value} (h : clS σ (v :: st)) : clS σ st := fun u hu => h u (List.mem_cons_of_mem _ hu)
theorem cl_r {σ : Wd} {n : Nat} (h : σ n ≠ none) : inD σ (.ref n) := fun m e => by cases e; exact h
theorem cl_app {σ : Wd} {a b : List Value} : clS σ (a ++ b) ↔ clS σ a ∧ clS σ b := by
  constructor
  · exact fun h => ⟨fun v hv => h v (List.mem_append_left _ hv), fun v hv => h v (List.mem_append_right _ hv)⟩
  · rintro ⟨h1, h2⟩ v hv
    rcases List.mem_append.mp hv with h | h
    · exact h1 v h
    · exact h2 v h
theorem cl_rev {σ : Wd} {a : List Value} (h : clS σ a.reverse) : clS σ a := fun v hv => h v (List.mem_reverse.mpr hv)
/-- the heap holds the world -/
def Rp (D : va_G) (dA : Nat → ClassId) (ad : Nat → Nat) (σ : Wd) (H : Heap) : Prop :=
  (∀ n c, σ n = some c → va_at D vwCl (ad n, pa dA ad c) H) ∧ (∀ n m, σ n ≠ none → σ m ≠ none → ad n = ad m → n = m) ∧ ∀ n c, σ n = some c → clC σ c
def AA (ad : Nat → Nat) (σ : Wd) (sz : Nat) : Nat → Prop := fun q => (∃ n, σ n ≠ none ∧ q = ad n) ∨ sz ≤ q
/-- .. and goes on from the world σ0 at ad0, in a heap of sz cells -/
def Sr (D : va_G) (dA : Nat → ClassId) (ad0 : Nat → Nat) (σ0 : Wd) (sz : Nat) (ad : Nat → Nat) (σ : Wd) (H : Heap) : Prop :=
  Rp D dA ad σ H ∧ (∀ n, σ0 n ≠ none → σ n ≠ none ∧ ad n = ad0 n) ∧ ∀ n, σ n ≠ none → AA ad0 σ0 sz (ad n)
theorem Rp.lt {D : va_G} {dA : Nat → ClassId} {ad : Nat → Nat} {σ : Wd} {H : Heap} (h : Rp D dA ad σ H) {n : Nat} (hn : σ n ≠ none) : ad n < H.size := by
  cases hc : σ n with
  | none => exact absurd hc hn
  | some c => exact (h.1 n c hc).lt
theorem Rp.put {D : va_G} {dA : Nat → ClassId} {ad : Nat → Nat} {σ : Wd} {H H1 : Heap} (h : Rp D dA ad σ H) {n : Nat} {c : pCell} (hn : σ n ≠ none) (hc : clC σ c) (hv : va_at D vwCl (ad n, pa dA ad c) H1) (hq : ∀ q, q ≠ ad n → H1[q]? = H[q]?) : Rp D dA ad (up σ n c) H1 := by
  refine ⟨fun m d hd => ?_, fun a b ha hb e => ?_, fun m d hd => ?_⟩
  · by_cases e : m = n
    · subst e; rw [up_self] at hd; cases hd; exact hv
    · rw [up_ne σ c e] at hd
      refine (h.1 m d hd).kept (hq _ fun z => e (h.2.1 m n (by rw [hd]; exact fun h => by cases h) hn z))
  · have k : ∀ z, up σ n c z ≠ none → σ z ≠ none := fun z hz => by
      by_cases e : z = n
      · subst e; exact hn
      · rw [up_ne σ c e] at hz; exact hz
    exact h.2.1 a b (k a ha) (k b hb) e
  · by_cases e : m = n
    · subst e; rw [up_self] at hd; cases hd; exact up_clC hc
    · rw [up_ne σ c e] at hd; exact up_clC (h.2.2 m d hd)
theorem vmv_up {ad : Nat → Nat} {σ : Wd} {n a : Nat} {v : Value} (hn : σ n = none) (h : inD σ v) : vmv (va_up ad n a) v = vmv ad v := by
  cases v with
  | ref m => show Value.ref _ = Value.ref _; rw [va_up_ne ad a (fun e : m = n => h m rfl (by rw [e]; exact hn))]
  | _ => rfl
theorem vmv_ups {ad : Nat → Nat} {σ : Wd} {n a : Nat} {st : List Value} (hn : σ n = none) (h : clS σ st) : st.map (vmv (va_up ad n a)) = st.map (vmv ad) := List.map_congr_left fun v hv => vmv_up hn (h v hv)
theorem pa_up {dA : Nat → ClassId} {ad : Nat → Nat} {σ : Wd} {n a : Nat} {c : pCell} (hn : σ n = none) (h : clC σ c) : pa dA (va_up ad n a) c = pa dA ad c := by
  match c, h with
  | .inl (_, _, .inl _), _ => rfl
  | .inl (_, _, .inr (.inl _)), _ => rfl
  | .inl (k, z, .inr (.inr g)), h =>
    show (Sum.inl (dA k, z, .inr (.inr (.inr (.inr (fun j => (g j).map (va_up ad n a)))))) : va_E) = Sum.inl (dA k, z, .inr (.inr (.inr (.inr (fun j => (g j).map ad)))))
    have e : (fun j => (g j).map (va_up ad n a)) = fun j => (g j).map ad := by
      funext j
      cases hg : g j with
      | none => rfl
      | some m => exact congrArg some (va_up_ne ad a fun e : m = n => h j m hg (by rw [e]; exact hn))
    rw [e]
  | .inr (ci, fs), h =>
    show (Sum.inr (ci, fs.map (vmv (va_up ad n a))) : va_E) = Sum.inr (ci, fs.map (vmv ad))
    rw [vmv_ups hn h]
theorem Rp.new {D : va_G} {dA : Nat → ClassId} {ad : Nat → Nat} {σ : Wd} {H H1 : Heap} (h : Rp D dA ad σ H) {n : Nat} {c : pCell} (hn : σ n = none) (hc : clC σ c) (hv : va_at D vwCl (H.size, pa dA ad c) H1) (hq : ∀ q, q < H.size → H1[q]? = H[q]?) : Rp D dA (va_up ad n H.size) (up σ n c) H1 := by
  have k : ∀ z, up σ n c z ≠ none → z ≠ n → σ z ≠ none := fun z hz e => by rw [up_ne σ c e] at hz; exact hz
  refine ⟨fun m d hd => ?_, fun a b ha hb e => ?_, fun m d hd => ?_⟩
  · by_cases e : m = n
    · subst e; rw [up_self] at hd; cases hd
      rw [va_up_self, pa_up hn hc]; exact hv
    · rw [up_ne σ c e] at hd
      rw [va_up_ne _ _ e, pa_up hn (h.2.2 m d hd)]
      exact (h.1 m d hd).kept (hq _ (h.1 m d hd).lt)
  · by_cases ea : a = n
    · by_cases eb : b = n
      · rw [ea, eb]
      · exfalso
        rw [ea, va_up_self, va_up_ne _ _ eb] at e
        have := h.lt (k b hb eb)
        omega
    · by_cases eb : b = n
      · exfalso
        rw [eb, va_up_self, va_up_ne _ _ ea] at e
        have := h.lt (k a ha ea)
        omega
      · rw [va_up_ne _ _ ea, va_up_ne _ _ eb] at e
        exact h.2.1 a b (k a ha ea) (k b hb eb) e
  · by_cases e : m = n
    · subst e; rw [up_self] at hd; cases hd; exact up_clC hc
    · rw [up_ne σ c e] at hd; exact up_clC (h.2.2 m d hd)
theorem Sr.put {D : va_G} {dA : Nat → ClassId} {ad0 ad : Nat → Nat} {σ0 σ : Wd} {sz : Nat} {H H1 : Heap} (h : Sr D dA ad0 σ0 sz ad σ H) {n : Nat} {c : pCell} (hn : σ n ≠ none) (hc : clC σ c) (hv : va_at D vwCl (ad n, pa dA ad c) H1) (hq : ∀ q, q ≠ ad n → H1[q]? = H[q]?) : Sr D dA ad0 σ0 sz ad (up σ n c) H1 :=
  ⟨h.1.put hn hc hv hq, fun m hm => ⟨up_dom (h.2.1 m hm).1, (h.2.1 m hm).2⟩, fun m hm => h.2.2 m (by
    by_cases e : m = n
    · subst e; exact hn
    · rw [up_ne σ c e] at hm; exact hm)⟩
theorem Sr.new {D : va_G} {dA : Nat → ClassId} {ad0 ad : Nat → Nat} {σ0 σ : Wd} {sz : Nat} {H H1 : Heap} (h : Sr D dA ad0 σ0 sz ad σ H) (hs : sz ≤ H.size) {n : Nat} {c : pCell} (hn : σ n = none) (hc : clC σ c) (hv : va_at D vwCl (H.size, pa dA ad c) H1) (hq : ∀ q, q < H.size → H1[q]? = H[q]?) : Sr D dA ad0 σ0 sz (va_up ad n H.size) (up σ n c) H1 := by
  refine ⟨h.1.new hn hc hv hq, fun m hm => ?_, fun m hm => ?_⟩
  · have hmn : m ≠ n := fun e => (h.2.1 m hm).1 (by rw [e]; exact hn)
    exact ⟨up_dom (h.2.1 m hm).1, by rw [va_up_ne _ _ hmn]; exact (h.2.1 m hm).2⟩
  · by_cases e : m = n
    · subst e; rw [va_up_self]; exact Or.inr hs
    · rw [up_ne σ c e] at hm; rw [va_up_ne _ _ e]; exact h.2.2 m hm
def strTab : List (String × Nat × String) := [("CrowdDesk", 43, "no such letter"), ("CrowdDesk", 51, "v is not -20 .. 20"), ("CrowdDesk", 57, "c is not -20 .. 20"), ("CrowdDesk", 65, "compiled, or too many atoms or nodes"), ("CrowdDesk", 73, "m is not 2 .. 16"), ("CrowdDesk", 75, "r is not 0 .. m - 1"), ("CrowdDesk", 77, "no such op"), ("CrowdDesk", 82, "no such node"), ("CrowdDesk", 87, "compiled, or too many nodes"), ("CrowdDesk", 96, "compiled already"), ("CrowdDesk", 101, "no nodes"), ("CrowdDesk", 106, "a node is a part twice"), ("CrowdDesk", 112, "n is below 0"), ("CrowdDesk", 114, "not compiled"), ("CrowdDesk", 119, "more than 200 agents"), ("CrowdDesk", 125, "an agent does not meet itself"), ("CrowdDesk", 132, "no such agent"), ("CrowdDesk", 139, "times is not 1 .. 500"), ("CrowdDesk", 159, "no such agent, atom or what"), ("CrowdDesk", 184, "limit is not 1 .. 3000"), ("CrowdDesk", 186, "no agents, or more than 6"), ("CrowdDesk", 195, "the present crowd is not explored"), ("CrowdDesk", 215, "no such rule"), ("CrowdDesk", 220, "no such state"), ("CrowdDesk", 225, "no such atom or what")]
def ncTab : List (String × String) := [("java/lang/IllegalStateException", "java/lang/IllegalArgumentException"), ("java/lang/IndexOutOfBoundsException", "java/lang/IllegalArgumentException"), ("java/lang/IllegalStateException", "java/lang/IndexOutOfBoundsException")]
def fcTab : List Cond := [.castable "java/lang/IllegalArgumentException" "java/lang/IllegalArgumentException", .castable "java/lang/IllegalStateException" "java/lang/IllegalStateException", .castable "java/lang/IndexOutOfBoundsException" "java/lang/IndexOutOfBoundsException", .declares ⟨"java/lang/RuntimeException", "<init>", "(Ljava/lang/String;)V"⟩, .declares ⟨"java/lang/Exception", "<init>", "(Ljava/lang/String;)V"⟩, .declares ⟨"java/lang/Throwable", "<init>", "(Ljava/lang/String;)V"⟩]
theorem fc_ok : ∀ w ∈ fcTab, w.onTables = true ∧ w.faceAtom = true := by decide +kernel
theorem fc_warm {w : Cond} (hw : w ∈ fcTab) {s U : State} (hW : s.WarmedH U.vm) (h : va_Nw w s) : va_Nw w U := va_tabs (fc_ok w hw).1 (rfl : (s.setVm U.vm).vm = U.vm) (Cond.faceAtom_setVm hW.alike w (fc_ok w hw).2 h)
/-- what is known of the tables and of the heap's old part -/
def Kx (D : va_G) (dA : Nat → ClassId) (A : Nat → Prop) (U : State) (H : Heap) : Prop :=
  va_K D vwCl (tysOf dA) U ∧ va_AO RX0 U ∧ va_Nw (.methodLinkNest RX3 30 yX0_init RX6) U ∧ (∀ q ∈ strTab, ∃ a, vk_R q.1 q.2.1 q.2.2 a U) ∧ (∀ q ∈ ncTab, va_Nc q.1 q.2 U) ∧ (∀ w ∈ fcTab, va_Nw w U) ∧
  vx_Zq Bundle.tN "UNASSIGNED_STACK" Bundle.steD A U H ∧ vx_Zq Bundle.tN "SUPPRESSED_SENTINEL" Bundle.listD A U H
theorem Kx.moved {D : va_G} {dA : Nat → ClassId} {A : Nat → Prop} {u U : State} {H : Heap} (hvm : u.vm.Alike U.vm) (hW : u.WarmedH U.vm) (h : Kx D dA A u H) : Kx D dA A U H :=
  ⟨h.1.moved hvm, va_AO.moved hvm h.2.1, va_Nw.warmM hW h.2.2.1, fun q hq => (h.2.2.2.1 q hq).imp fun a ha => vk_R.warm hW ha, fun q hq => (h.2.2.2.2.1 q hq).moved hvm, fun q hq => fc_warm hq hW (h.2.2.2.2.2.1 q hq), h.2.2.2.2.2.2.1.moved hvm, h.2.2.2.2.2.2.2.moved hvm⟩
theorem Kx.kept {D : va_G} {dA : Nat → ClassId} {A : Nat → Prop} {U : State} {H H1 : Heap} (h : Kx D dA A U H) (hq : ∀ a : Nat, a < H.size → ¬ A a → H1[a]? = H[a]?) : Kx D dA A U H1 :=
  ⟨h.1, h.2.1, h.2.2.1, h.2.2.2.1, h.2.2.2.2.1, h.2.2.2.2.2.1, h.2.2.2.2.2.2.1.kept hq, h.2.2.2.2.2.2.2.kept hq⟩
theorem Kx.narrow {D : va_G} {dA : Nat → ClassId} {A B : Nat → Prop} {U : State} {H : Heap} (h : Kx D dA A U H) (hAB : ∀ q, B q → A q) : Kx D dA B U H :=
  ⟨h.1, h.2.1, h.2.2.1, h.2.2.2.1, h.2.2.2.2.1, h.2.2.2.2.2.1, h.2.2.2.2.2.2.1.narrow hAB, h.2.2.2.2.2.2.2.narrow hAB⟩
end
section
/-! THE JUDGEMENT T: method y (its code cc, nL locals, return type ret, exception table hh, room R) stands at pc with locals L, operand stack st, in the pure world σ, having made 'cells' cells of 'slots' slots: it comes to its end with Q (answer, world) or throws with QX (class, world) -/
def Cx (l : Launch) (y : MethodName) (cc : ByteArray) (nL : Nat) (ret : Option FieldType) (hh : List (Nat × Nat × Nat × Nat)) (p : Program) (s : State) (m : MethodId) (args : Array Value) (meth : Method) (c : Code) : Prop :=
  p.tables.exec = Jvm.exec ∧ c.code = cc ∧ c.maxLocals = nL ∧ meth.sig.returnType = ret ∧ meth.locks = false ∧ meth.name = y.name ∧ s.vm.findClass y.cls = some m.cls ∧ (∀ w ∈ WT, w.before args s = true) ∧ c.exceptionTable.toList = tableOf hh ∧ l.stackTraces = false
def Po (D : va_G) (dA : Nat → ClassId) (ad0 : Nat → Nat) (σ0 : Wd) (Q : Option Value → Wd → Prop) : Array Value → State → Outcome → State → Prop := fun _ st oc t =>
  (∃ (ad : Nat → Nat) (σ : Wd) (r : Option Value), oc = .returned (r.map (vmv ad)) ∧ Q r σ ∧ Sr D dA ad0 σ0 st.heap.size ad σ t.heap ∧ ∀ v, r = some v → inD σ v) ∧ va_F (AA ad0 σ0 st.heap.size) st t
def PoX (D : va_G) (dA : Nat → ClassId) (ad0 : Nat → Nat) (σ0 : Wd) (QX : String → Wd → Prop) : String → State → State → Prop := fun E st t =>
  (∃ (ad : Nat → Nat) (σ : Wd), QX E σ ∧ Sr D dA ad0 σ0 st.heap.size ad σ t.heap) ∧ va_F (AA ad0 σ0 st.heap.size) st t
/-- the locals -/
def lget (L : List (Option Value)) (i : Nat) : Option Value := match L[i]? with
  | some (some v) => some v
  | _ => none
def lcl (L : List (Option Value)) (i : Nat) : List (Option Value) := match i with
  | 0 => L
  | k + 1 => match lget L k with
    | some v => bif Nat.beq v.category 2 then L.set k none else L
    | none => L
def lset (L : List (Option Value)) (i : Nat) (v : Value) : List (Option Value) := (lcl L i).set i (some v)
def lset2 (L : List (Option Value)) (i : Nat) (v : Value) : List (Option Value) := ((lcl L i).set i (some v)).set (i + 1) none
def Lr (ad : Nat → Nat) (ls : Array Slot) (nL : Nat) (L : List (Option Value)) : Prop := ls.size = nL ∧ lv_wf ls ∧ ∀ i v, lget L i = some v → ls[i]? = some (.val (vmv ad v))
def clL (σ : Wd) (L : List (Option Value)) : Prop := ∀ i v, lget L i = some v → inD σ v
def T (y : MethodName) (cc : ByteArray) (nL : Nat) (ret : Option FieldType) (hh : List (Nat × Nat × Nat × Nat)) (R : Room) (Q : Option Value → Wd → Prop) (QX : String → Wd → Prop) (pc : Nat) (L : List (Option Value)) (st : List Value) (σ : Wd) (cells slots : Nat) : Prop :=
  ∀ (l : Launch) (p : Program) (e : Env) (s : State) (m : MethodId) (args : Array Value) (below : List Frame) (meth : Method) (c : Code), Cx l y cc nL ret hh p s m args meth c →
  ∀ (D : va_G) (dA : Nat → ClassId) (ad0 : Nat → Nat) (σ0 : Wd), Kx D dA (AA ad0 σ0 s.heap.size) s s.heap →
  ∀ (ad : Nat → Nat) (H : Heap) (locs : List Loc) (ls : Array Slot), Sr D dA ad0 σ0 s.heap.size ad σ H → va_S (AA ad0 σ0 s.heap.size) s.heap H locs → Lr ad ls nL L → clL σ L → clS σ st →
  W p l e R s m args below meth c H locs cells slots (vx_MQ below (Po D dA ad0 σ0 Q) (PoX D dA ad0 σ0 QX) args s R.cells R.slots (AA ad0 σ0 s.heap.size)) (F0 m pc ls (st.map (vmv ad)))
/-- .. and where an exception of class E has come out of a call at pc -/
def TX (y : MethodName) (cc : ByteArray) (nL : Nat) (ret : Option FieldType) (hh : List (Nat × Nat × Nat × Nat)) (R : Room) (Q : Option Value → Wd → Prop) (QX : String → Wd → Prop) (pc : Nat) (L : List (Option Value)) (E : String) (σ : Wd) (cells slots : Nat) : Prop :=
  ∀ (l : Launch) (p : Program) (e : Env) (s : State) (m : MethodId) (args : Array Value) (below : List Frame) (meth : Method) (c : Code), Cx l y cc nL ret hh p s m args meth c →
  ∀ (D : va_G) (dA : Nat → ClassId) (ad0 : Nat → Nat) (σ0 : Wd), Kx D dA (AA ad0 σ0 s.heap.size) s s.heap →
  ∀ (ad : Nat → Nat) (H : Heap) (locs : List Loc) (ls : Array Slot) (rest : List Value) (q : Addr) (ce : Cell), Sr D dA ad0 σ0 s.heap.size ad σ H → va_S (AA ad0 σ0 s.heap.size) s.heap H locs → Lr ad ls nL L → clL σ L → H[q]? = some ce → ce.vm = .none → s.vm.findClass E = some ce.cls →
  vx_W p l e R s m args below meth c H locs cells slots (vx_MQ below (Po D dA ad0 σ0 Q) (PoX D dA ad0 σ0 QX) args s R.cells R.slots (AA ad0 σ0 s.heap.size)) (F0 m pc ls rest) q
theorem lget_set {L : List (Option Value)} {i j : Nat} {o : Option Value} {v : Value} (h : lget (L.set i o) j = some v) : (j = i ∧ o = some v) ∨ (j ≠ i ∧ lget L j = some v) := by
  unfold lget at h ⊢
  by_cases e : j = i
  · subst e
    by_cases hl : j < L.length
    · rw [List.getElem?_set_self hl] at h
      cases o with
      | none => cases h
      | some u => exact Or.inl ⟨rfl, h⟩
    · rw [List.getElem?_eq_none (by rw [List.length_set]; omega)] at h
      cases h
  · rw [List.getElem?_set_ne (Ne.symm e)] at h
    exact Or.inr ⟨e, h⟩
theorem lget_lcl {L : List (Option Value)} {i j : Nat} {v : Value} (h : lget (lcl L i) j = some v) : lget L j = some v ∧ ¬ (j + 1 = i ∧ v.category = 2) := by
  cases i with
  | zero => exact ⟨h, fun e => by omega⟩
  | succ k =>
    unfold lcl at h
    cases hg : lget L k with
    | none =>
      simp only [hg] at h
      refine ⟨h, fun e => ?_⟩
      have : j = k := by omega
      subst this
      rw [hg] at h; cases h
    | some u =>
      simp only [hg] at h
      cases hc : Nat.beq u.category 2 with
      | true =>
        rw [hc] at h
        rcases lget_set h with ⟨-, h2⟩ | ⟨h1, h2⟩
        · cases h2
        · exact ⟨h2, fun e => h1 (by omega)⟩
      | false =>
        rw [hc] at h
        refine ⟨h, fun e => ?_⟩
        have : j = k := by omega
        subst this
        have h : lget L j = some v := h
        rw [hg] at h
        cases h
        rw [e.2] at hc
        cases hc
theorem vmv_cat (ad : Nat → Nat) (v : Value) : (vmv ad v).category = v.category := by cases v <;> rfl
/-- the listed pairs of the locals, as the kit has them -/
def lpairs (ad : Nat → Nat) (L : List (Option Value)) : List (Nat × Value) := (List.range L.length).filterMap fun i => (lget L i).map fun v => (i, vmv ad v)
theorem lpairs_mem {ad : Nat → Nat} {L : List (Option Value)} {q : Nat × Value} : q ∈ lpairs ad L ↔ ∃ v, lget L q.1 = some v ∧ q.2 = vmv ad v := by
  unfold lpairs
  rw [List.mem_filterMap]
  constructor
  · rintro ⟨i, -, h⟩
    cases hg : lget L i with
    | none => rw [hg] at h; cases h
    | some v => rw [hg] at h; cases h; exact ⟨v, hg, rfl⟩
  · rintro ⟨v, hv, e⟩
    refine ⟨q.1, List.mem_range.mpr ?_, by rw [hv]; exact congrArg some (Prod.ext rfl e.symm)⟩
    by_cases hl : q.1 < L.length
    · exact hl
    · unfold lget at hv
      rw [List.getElem?_eq_none (by omega)] at hv
      cases hv
theorem Lr.has {ad : Nat → Nat} {ls : Array Slot} {nL : Nat} {L : List (Option Value)} (h : Lr ad ls nL L) : lv_has ls nL (lpairs ad L) :=
  ⟨h.1, h.2.1, fun q hq => by obtain ⟨v, h1, h2⟩ := lpairs_mem.mp hq; rw [h2]; exact h.2.2 _ _ h1⟩
theorem Lr.st1 {ad : Nat → Nat} {ls : Array Slot} {nL i : Nat} {L : List (Option Value)} {v w : Value} (hw : w = vmv ad v) (h : lv_has ls nL ((i, w) :: (lpairs ad L).filter (fun q => !(q.1 == i) && !(q.1 + 1 == i && q.2.category == 2)))) : Lr ad ls nL (lset L i v) := by
  refine ⟨h.1, h.2.1, fun j u hu => ?_⟩
  rcases lget_set hu with ⟨h1, h2⟩ | ⟨h1, h2⟩
  · cases h2; rw [h1, ← hw]; exact h.2.2 (i, w) List.mem_cons_self
  · obtain ⟨h3, h4⟩ := lget_lcl h2
    refine h.2.2 (j, vmv ad u) (List.mem_cons_of_mem _ (List.mem_filter.mpr ⟨lpairs_mem.mpr ⟨u, h3, rfl⟩, ?_⟩))
    simp only [Bool.and_eq_true, Bool.not_eq_true', beq_eq_false_iff_ne, ne_eq, Bool.and_eq_false_iff, vmv_cat]
    refine ⟨h1, ?_⟩
    by_cases e : j + 1 = i
    · exact Or.inr fun z => h4 ⟨e, z⟩
    · exact Or.inl e
theorem Lr.st2 {ad : Nat → Nat} {ls : Array Slot} {nL i : Nat} {L : List (Option Value)} {v w : Value} (hw : w = vmv ad v) (h : lv_has ls nL ((i, w) :: (lpairs ad L).filter (fun q => !(q.1 == i) && (!(q.1 == i + 1) && !(q.1 + 1 == i && q.2.category == 2))))) : Lr ad ls nL (lset2 L i v) := by
  refine ⟨h.1, h.2.1, fun j u hu => ?_⟩
  rcases lget_set hu with ⟨h1, h2⟩ | ⟨h0, hu⟩
  · cases h2
  · rcases lget_set hu with ⟨h1, h2⟩ | ⟨h1, h2⟩
    · cases h2; rw [h1, ← hw]; exact h.2.2 (i, w) List.mem_cons_self
    · obtain ⟨h3, h4⟩ := lget_lcl h2
      refine h.2.2 (j, vmv ad u) (List.mem_cons_of_mem _ (List.mem_filter.mpr ⟨lpairs_mem.mpr ⟨u, h3, rfl⟩, ?_⟩))
      simp only [Bool.and_eq_true, Bool.not_eq_true', beq_eq_false_iff_ne, ne_eq, Bool.and_eq_false_iff, vmv_cat]
      refine ⟨h1, h0, ?_⟩
      by_cases e : j + 1 = i
      · exact Or.inr fun z => h4 ⟨e, z⟩
      · exact Or.inl e
theorem clL_set {σ : Wd} {L : List (Option Value)} {i : Nat} {v : Value} (h : clL σ L) (hv : inD σ v) : clL σ (lset L i v) := fun j u hu => by
  rcases lget_set hu with ⟨-, h2⟩ | ⟨-, h2⟩
  · cases h2; exact hv
  · exact h j u (lget_lcl h2).1
theorem clL_set2 {σ : Wd} {L : List (Option Value)} {i : Nat} {v : Value} (h : clL σ L) (hv : inD σ v) : clL σ (lset2 L i v) := fun j u hu => by
  rcases lget_set hu with ⟨-, h2⟩ | ⟨-, h2⟩
  · cases h2
  · rcases lget_set h2 with ⟨-, h2⟩ | ⟨-, h2⟩
    · cases h2; exact hv
    · exact h j u (lget_lcl h2).1
theorem in_i {σ : Wd} {x : Int32} : inD σ (.int x) := fun n e => by cases e
theorem in_l {σ : Wd} {x : Int64} : inD σ (.long x) := fun n e => by cases e
section TR
variable {y : MethodName} {cc : ByteArray} {nL : Nat} {ret : Option FieldType} {hh : List (Nat × Nat × Nat × Nat)} {R : Room} {Q : Option Value → Wd → Prop} {QX : String → Wd → Prop} {pc : Nat} {L : List (Option Value)} {st : List Value} {σ : Wd} {cells slots : Nat}

theorem z_iconst {n : Int} {v : Int32} (d : decode cc pc = .ok (.iconst n, 1)) (hv : Int32.ofInt n = v) (k : T y cc nL ret hh R Q QX (pc + 1) L (.int v :: st) σ cells slots) : T y cc nL ret hh R Q QX pc L st σ cells slots := by
  intro l p e s m args below meth c C D dA ad0 σ0 K ad H locs ls S hS hl hL hst
  refine lv_iconst C.1 C.2.1 d hv ?_
  exact k l p e s m args below meth c C D dA ad0 σ0 K ad H locs ls S hS hl hL (cl_i hst)
theorem z_bipush {n : Int} {v : Int32} (d : decode cc pc = .ok (.bipush n, 2)) (hv : (Int8.ofInt n).toInt32 = v) (k : T y cc nL ret hh R Q QX (pc + 2) L (.int v :: st) σ cells slots) : T y cc nL ret hh R Q QX pc L st σ cells slots := by
  intro l p e s m args below meth c C D dA ad0 σ0 K ad H locs ls S hS hl hL hst
  refine lv_bipush C.1 C.2.1 d hv ?_
  exact k l p e s m args below meth c C D dA ad0 σ0 K ad H locs ls S hS hl hL (cl_i hst)
theorem z_sipush {n : Int} {v : Int32} (d : decode cc pc = .ok (.sipush n, 3)) (hv : (Int16.ofInt n).toInt32 = v) (k : T y cc nL ret hh R Q QX (pc + 3) L (.int v :: st) σ cells slots) : T y cc nL ret hh R Q QX pc L st σ cells slots := by
  intro l p e s m args below meth c C D dA ad0 σ0 K ad H locs ls S hS hl hL hst
  refine lv_sipush C.1 C.2.1 d hv ?_
  exact k l p e s m args below meth c C D dA ad0 σ0 K ad H locs ls S hS hl hL (cl_i hst)
theorem z_lconst {n : Fin 2} {v : Int64} (d : decode cc pc = .ok (.lconst n, 1)) (hv : Int64.ofNat n = v) (k : T y cc nL ret hh R Q QX (pc + 1) L (.long v :: st) σ cells slots) : T y cc nL ret hh R Q QX pc L st σ cells slots := by
  intro l p e s m args below meth c C D dA ad0 σ0 K ad H locs ls S hS hl hL hst
  refine lv_lconst C.1 C.2.1 d hv ?_
  exact k l p e s m args below meth c C D dA ad0 σ0 K ad H locs ls S hS hl hL (cl_l hst)
theorem z_iload_n {k : Fin 4} {x : Int32} (d : decode cc pc = .ok (.iload_n k, 1)) (h : lget L k = some (.int x)) (k : T y cc nL ret hh R Q QX (pc + 1) L (.int x :: st) σ cells slots) : T y cc nL ret hh R Q QX pc L st σ cells slots := by
  intro l p e s m args below meth c C D dA ad0 σ0 K ad H locs ls S hS hl hL hst
  refine lv_iload_n C.1 C.2.1 d rfl (hl.2.2 _ _ h) ?_
  exact k l p e s m args below meth c C D dA ad0 σ0 K ad H locs ls S hS hl hL (cl_i hst)
theorem z_iload {i : Nat} {x : Int32} (d : decode cc pc = .ok (.iload i, 2)) (h : lget L i = some (.int x)) (k : T y cc nL ret hh R Q QX (pc + 2) L (.int x :: st) σ cells slots) : T y cc nL ret hh R Q QX pc L st σ cells slots := by
  intro l p e s m args below meth c C D dA ad0 σ0 K ad H locs ls S hS hl hL hst
  refine lv_iload C.1 C.2.1 d (hl.2.2 _ _ h) ?_
  exact k l p e s m args below meth c C D dA ad0 σ0 K ad H locs ls S hS hl hL (cl_i hst)
theorem z_lload_n {k : Fin 4} {x : Int64} (d : decode cc pc = .ok (.lload_n k, 1)) (h : lget L k = some (.long x)) (k : T y cc nL ret hh R Q QX (pc + 1) L (.long x :: st) σ cells slots) : T y cc nL ret hh R Q QX pc L st σ cells slots := by
  intro l p e s m args below meth c C D dA ad0 σ0 K ad H locs ls S hS hl hL hst
  refine lv_lload_n C.1 C.2.1 d rfl (hl.2.2 _ _ h) ?_
  exact k l p e s m args below meth c C D dA ad0 σ0 K ad H locs ls S hS hl hL (cl_l hst)
theorem z_lload {i : Nat} {x : Int64} (d : decode cc pc = .ok (.lload i, 2)) (h : lget L i = some (.long x)) (k : T y cc nL ret hh R Q QX (pc + 2) L (.long x :: st) σ cells slots) : T y cc nL ret hh R Q QX pc L st σ cells slots := by
  intro l p e s m args below meth c C D dA ad0 σ0 K ad H locs ls S hS hl hL hst
  refine lv_lload C.1 C.2.1 d (hl.2.2 _ _ h) ?_
  exact k l p e s m args below meth c C D dA ad0 σ0 K ad H locs ls S hS hl hL (cl_l hst)
theorem z_aload_n {k : Fin 4} {x : Nat} (d : decode cc pc = .ok (.aload_n k, 1)) (h : lget L k = some (.ref x)) (k : T y cc nL ret hh R Q QX (pc + 1) L (.ref x :: st) σ cells slots) : T y cc nL ret hh R Q QX pc L st σ cells slots := by
  intro l p e s m args below meth c C D dA ad0 σ0 K ad H locs ls S hS hl hL hst
  refine lv_aload_n C.1 C.2.1 d rfl (hl.2.2 _ _ h) ?_
  exact k l p e s m args below meth c C D dA ad0 σ0 K ad H locs ls S hS hl hL (cl_c (hL _ _ h) hst)
theorem z_aload {i : Nat} {x : Nat} (d : decode cc pc = .ok (.aload i, 2)) (h : lget L i = some (.ref x)) (k : T y cc nL ret hh R Q QX (pc + 2) L (.ref x :: st) σ cells slots) : T y cc nL ret hh R Q QX pc L st σ cells slots := by
  intro l p e s m args below meth c C D dA ad0 σ0 K ad H locs ls S hS hl hL hst
  refine lv_aload C.1 C.2.1 d (hl.2.2 _ _ h) ?_
  exact k l p e s m args below meth c C D dA ad0 σ0 K ad H locs ls S hS hl hL (cl_c (hL _ _ h) hst)
theorem z_istore_n {k : Fin 4} {x : Int32} (d : decode cc pc = .ok (.istore_n k, 1)) (hn : (k : Nat) < nL) (k' : T y cc nL ret hh R Q QX (pc + 1) (lset L k (.int x)) st σ cells slots) : T y cc nL ret hh R Q QX pc L (.int x :: st) σ cells slots := by
  intro l p e s m args below meth c C D dA ad0 σ0 K ad H locs ls S hS hl hL hst
  refine lv_istore_n C.1 C.2.1 d rfl hl.has hn rfl (fun ls hl => ?_)
  exact k' l p e s m args below meth c C D dA ad0 σ0 K ad H locs ls S hS (Lr.st1 rfl hl) (clL_set hL in_i) (cl_t hst)
theorem z_istore {i : Nat} {x : Int32} (d : decode cc pc = .ok (.istore i, 2)) (hn : i < nL) (k' : T y cc nL ret hh R Q QX (pc + 2) (lset L i (.int x)) st σ cells slots) : T y cc nL ret hh R Q QX pc L (.int x :: st) σ cells slots := by
  intro l p e s m args below meth c C D dA ad0 σ0 K ad H locs ls S hS hl hL hst
  refine lv_istore C.1 C.2.1 d hl.has hn rfl (fun ls hl => ?_)
  exact k' l p e s m args below meth c C D dA ad0 σ0 K ad H locs ls S hS (Lr.st1 rfl hl) (clL_set hL in_i) (cl_t hst)
theorem z_astore_n {k : Fin 4} {x : Nat} (d : decode cc pc = .ok (.astore_n k, 1)) (hn : (k : Nat) < nL) (k' : T y cc nL ret hh R Q QX (pc + 1) (lset L k (.ref x)) st σ cells slots) : T y cc nL ret hh R Q QX pc L (.ref x :: st) σ cells slots := by
  intro l p e s m args below meth c C D dA ad0 σ0 K ad H locs ls S hS hl hL hst
  refine lv_astore_n C.1 C.2.1 d rfl hl.has hn rfl (fun ls hl => ?_)
  exact k' l p e s m args below meth c C D dA ad0 σ0 K ad H locs ls S hS (Lr.st1 rfl hl) (clL_set hL (cl_h hst)) (cl_t hst)
theorem z_astore {i : Nat} {x : Nat} (d : decode cc pc = .ok (.astore i, 2)) (hn : i < nL) (k' : T y cc nL ret hh R Q QX (pc + 2) (lset L i (.ref x)) st σ cells slots) : T y cc nL ret hh R Q QX pc L (.ref x :: st) σ cells slots := by
  intro l p e s m args below meth c C D dA ad0 σ0 K ad H locs ls S hS hl hL hst
  refine lv_astore C.1 C.2.1 d hl.has hn rfl (fun ls hl => ?_)
  exact k' l p e s m args below meth c C D dA ad0 σ0 K ad H locs ls S hS (Lr.st1 rfl hl) (clL_set hL (cl_h hst)) (cl_t hst)
theorem z_lstore_n {k : Fin 4} {x : Int64} (d : decode cc pc = .ok (.lstore_n k, 1)) (hn : (k : Nat) + 1 < nL) (k' : T y cc nL ret hh R Q QX (pc + 1) (lset2 L k (.long x)) st σ cells slots) : T y cc nL ret hh R Q QX pc L (.long x :: st) σ cells slots := by
  intro l p e s m args below meth c C D dA ad0 σ0 K ad H locs ls S hS hl hL hst
  refine lv_lstore_n C.1 C.2.1 d rfl hl.has hn rfl (fun ls hl => ?_)
  exact k' l p e s m args below meth c C D dA ad0 σ0 K ad H locs ls S hS (Lr.st2 rfl hl) (clL_set2 hL in_l) (cl_t hst)
theorem z_lstore {i : Nat} {x : Int64} (d : decode cc pc = .ok (.lstore i, 2)) (hn : i + 1 < nL) (k' : T y cc nL ret hh R Q QX (pc + 2) (lset2 L i (.long x)) st σ cells slots) : T y cc nL ret hh R Q QX pc L (.long x :: st) σ cells slots := by
  intro l p e s m args below meth c C D dA ad0 σ0 K ad H locs ls S hS hl hL hst
  refine lv_lstore C.1 C.2.1 d hl.has hn rfl (fun ls hl => ?_)
  exact k' l p e s m args below meth c C D dA ad0 σ0 K ad H locs ls S hS (Lr.st2 rfl hl) (clL_set2 hL in_l) (cl_t hst)
theorem z_iinc {i : Nat} {n : Int} {x v : Int32} (d : decode cc pc = .ok (.iinc i n, 3)) (h : lget L i = some (.int x)) (hv : x + Int32.ofInt n = v) (hn : i < nL) (k : T y cc nL ret hh R Q QX (pc + 3) (lset L i (.int v)) st σ cells slots) : T y cc nL ret hh R Q QX pc L st σ cells slots := by
  intro l p e s m args below meth c C D dA ad0 σ0 K ad H locs ls S hS hl hL hst
  obtain ⟨z, hz⟩ := List.getElem?_of_mem (lpairs_mem (ad := ad) (q := (i, .int x)) |>.mpr ⟨_, h, rfl⟩)
  refine lv_iinc C.1 C.2.1 d hl.has hz hv hn rfl (fun ls hl => ?_)
  exact k l p e s m args below meth c C D dA ad0 σ0 K ad H locs ls S hS (Lr.st1 rfl hl) (clL_set hL in_i) hst
theorem z_iadd {x y' : Int32} (d : decode cc pc = .ok (.iadd, 1)) (k : T y cc nL ret hh R Q QX (pc + 1) L (.int (x + y') :: st) σ cells slots) : T y cc nL ret hh R Q QX pc L (.int y' :: .int x :: st) σ cells slots := by
  intro l p e s m args below meth c C D dA ad0 σ0 K ad H locs ls S hS hl hL hst
  refine lv_iadd C.1 C.2.1 d ?_
  exact k l p e s m args below meth c C D dA ad0 σ0 K ad H locs ls S hS hl hL (cl_i (cl_t (cl_t hst)))
theorem z_isub {x y' : Int32} (d : decode cc pc = .ok (.isub, 1)) (k : T y cc nL ret hh R Q QX (pc + 1) L (.int (x - y') :: st) σ cells slots) : T y cc nL ret hh R Q QX pc L (.int y' :: .int x :: st) σ cells slots := by
  intro l p e s m args below meth c C D dA ad0 σ0 K ad H locs ls S hS hl hL hst
  refine lv_isub C.1 C.2.1 d ?_
  exact k l p e s m args below meth c C D dA ad0 σ0 K ad H locs ls S hS hl hL (cl_i (cl_t (cl_t hst)))
theorem z_imul {x y' : Int32} (d : decode cc pc = .ok (.imul, 1)) (k : T y cc nL ret hh R Q QX (pc + 1) L (.int (x * y') :: st) σ cells slots) : T y cc nL ret hh R Q QX pc L (.int y' :: .int x :: st) σ cells slots := by
  intro l p e s m args below meth c C D dA ad0 σ0 K ad H locs ls S hS hl hL hst
  refine lv_imul C.1 C.2.1 d ?_
  exact k l p e s m args below meth c C D dA ad0 σ0 K ad H locs ls S hS hl hL (cl_i (cl_t (cl_t hst)))
theorem z_iand {x y' : Int32} (d : decode cc pc = .ok (.iand, 1)) (k : T y cc nL ret hh R Q QX (pc + 1) L (.int (x &&& y') :: st) σ cells slots) : T y cc nL ret hh R Q QX pc L (.int y' :: .int x :: st) σ cells slots := by
  intro l p e s m args below meth c C D dA ad0 σ0 K ad H locs ls S hS hl hL hst
  refine lv_iand C.1 C.2.1 d ?_
  exact k l p e s m args below meth c C D dA ad0 σ0 K ad H locs ls S hS hl hL (cl_i (cl_t (cl_t hst)))
theorem z_ior {x y' : Int32} (d : decode cc pc = .ok (.ior, 1)) (k : T y cc nL ret hh R Q QX (pc + 1) L (.int (x ||| y') :: st) σ cells slots) : T y cc nL ret hh R Q QX pc L (.int y' :: .int x :: st) σ cells slots := by
  intro l p e s m args below meth c C D dA ad0 σ0 K ad H locs ls S hS hl hL hst
  refine lv_ior C.1 C.2.1 d ?_
  exact k l p e s m args below meth c C D dA ad0 σ0 K ad H locs ls S hS hl hL (cl_i (cl_t (cl_t hst)))
theorem z_ixor {x y' : Int32} (d : decode cc pc = .ok (.ixor, 1)) (k : T y cc nL ret hh R Q QX (pc + 1) L (.int (x ^^^ y') :: st) σ cells slots) : T y cc nL ret hh R Q QX pc L (.int y' :: .int x :: st) σ cells slots := by
  intro l p e s m args below meth c C D dA ad0 σ0 K ad H locs ls S hS hl hL hst
  refine lv_ixor C.1 C.2.1 d ?_
  exact k l p e s m args below meth c C D dA ad0 σ0 K ad H locs ls S hS hl hL (cl_i (cl_t (cl_t hst)))
theorem z_ishl {x y' : Int32} (d : decode cc pc = .ok (.ishl, 1)) (k : T y cc nL ret hh R Q QX (pc + 1) L (.int (x <<< (y' &&& 31)) :: st) σ cells slots) : T y cc nL ret hh R Q QX pc L (.int y' :: .int x :: st) σ cells slots := by
  intro l p e s m args below meth c C D dA ad0 σ0 K ad H locs ls S hS hl hL hst
  refine lv_ishl C.1 C.2.1 d ?_
  exact k l p e s m args below meth c C D dA ad0 σ0 K ad H locs ls S hS hl hL (cl_i (cl_t (cl_t hst)))
theorem z_ishr {x y' : Int32} (d : decode cc pc = .ok (.ishr, 1)) (k : T y cc nL ret hh R Q QX (pc + 1) L (.int (x >>> (y' &&& 31)) :: st) σ cells slots) : T y cc nL ret hh R Q QX pc L (.int y' :: .int x :: st) σ cells slots := by
  intro l p e s m args below meth c C D dA ad0 σ0 K ad H locs ls S hS hl hL hst
  refine lv_ishr C.1 C.2.1 d ?_
  exact k l p e s m args below meth c C D dA ad0 σ0 K ad H locs ls S hS hl hL (cl_i (cl_t (cl_t hst)))
theorem z_idiv {x y' : Int32} (d : decode cc pc = .ok (.idiv, 1)) (hne : ¬ y' = 0) (k : T y cc nL ret hh R Q QX (pc + 1) L (.int (x / y') :: st) σ cells slots) : T y cc nL ret hh R Q QX pc L (.int y' :: .int x :: st) σ cells slots := by
  intro l p e s m args below meth c C D dA ad0 σ0 K ad H locs ls S hS hl hL hst
  refine lv_idiv C.1 C.2.1 d hne ?_
  exact k l p e s m args below meth c C D dA ad0 σ0 K ad H locs ls S hS hl hL (cl_i (cl_t (cl_t hst)))
theorem z_irem {x y' : Int32} (d : decode cc pc = .ok (.irem, 1)) (hne : ¬ y' = 0) (k : T y cc nL ret hh R Q QX (pc + 1) L (.int (x - x / y' * y') :: st) σ cells slots) : T y cc nL ret hh R Q QX pc L (.int y' :: .int x :: st) σ cells slots := by
  intro l p e s m args below meth c C D dA ad0 σ0 K ad H locs ls S hS hl hL hst
  refine lv_irem C.1 C.2.1 d hne ?_
  exact k l p e s m args below meth c C D dA ad0 σ0 K ad H locs ls S hS hl hL (cl_i (cl_t (cl_t hst)))
theorem z_ineg {x : Int32} (d : decode cc pc = .ok (.ineg, 1)) (k : T y cc nL ret hh R Q QX (pc + 1) L (.int (-x) :: st) σ cells slots) : T y cc nL ret hh R Q QX pc L (.int x :: st) σ cells slots := by
  intro l p e s m args below meth c C D dA ad0 σ0 K ad H locs ls S hS hl hL hst
  refine lv_ineg C.1 C.2.1 d ?_
  exact k l p e s m args below meth c C D dA ad0 σ0 K ad H locs ls S hS hl hL (cl_i (cl_t hst))
theorem z_ladd {x y' : Int64} (d : decode cc pc = .ok (.ladd, 1)) (k : T y cc nL ret hh R Q QX (pc + 1) L (.long (x + y') :: st) σ cells slots) : T y cc nL ret hh R Q QX pc L (.long y' :: .long x :: st) σ cells slots := by
  intro l p e s m args below meth c C D dA ad0 σ0 K ad H locs ls S hS hl hL hst
  refine lv_ladd C.1 C.2.1 d ?_
  exact k l p e s m args below meth c C D dA ad0 σ0 K ad H locs ls S hS hl hL (cl_l (cl_t (cl_t hst)))
theorem z_lsub {x y' : Int64} (d : decode cc pc = .ok (.lsub, 1)) (k : T y cc nL ret hh R Q QX (pc + 1) L (.long (x - y') :: st) σ cells slots) : T y cc nL ret hh R Q QX pc L (.long y' :: .long x :: st) σ cells slots := by
  intro l p e s m args below meth c C D dA ad0 σ0 K ad H locs ls S hS hl hL hst
  refine lv_lsub C.1 C.2.1 d ?_
  exact k l p e s m args below meth c C D dA ad0 σ0 K ad H locs ls S hS hl hL (cl_l (cl_t (cl_t hst)))
theorem z_lmul {x y' : Int64} (d : decode cc pc = .ok (.lmul, 1)) (k : T y cc nL ret hh R Q QX (pc + 1) L (.long (x * y') :: st) σ cells slots) : T y cc nL ret hh R Q QX pc L (.long y' :: .long x :: st) σ cells slots := by
  intro l p e s m args below meth c C D dA ad0 σ0 K ad H locs ls S hS hl hL hst
  refine lv_lmul C.1 C.2.1 d ?_
  exact k l p e s m args below meth c C D dA ad0 σ0 K ad H locs ls S hS hl hL (cl_l (cl_t (cl_t hst)))
theorem z_land {x y' : Int64} (d : decode cc pc = .ok (.land, 1)) (k : T y cc nL ret hh R Q QX (pc + 1) L (.long (x &&& y') :: st) σ cells slots) : T y cc nL ret hh R Q QX pc L (.long y' :: .long x :: st) σ cells slots := by
  intro l p e s m args below meth c C D dA ad0 σ0 K ad H locs ls S hS hl hL hst
  refine lv_land C.1 C.2.1 d ?_
  exact k l p e s m args below meth c C D dA ad0 σ0 K ad H locs ls S hS hl hL (cl_l (cl_t (cl_t hst)))
theorem z_lor {x y' : Int64} (d : decode cc pc = .ok (.lor, 1)) (k : T y cc nL ret hh R Q QX (pc + 1) L (.long (x ||| y') :: st) σ cells slots) : T y cc nL ret hh R Q QX pc L (.long y' :: .long x :: st) σ cells slots := by
  intro l p e s m args below meth c C D dA ad0 σ0 K ad H locs ls S hS hl hL hst
  refine lv_lor C.1 C.2.1 d ?_
  exact k l p e s m args below meth c C D dA ad0 σ0 K ad H locs ls S hS hl hL (cl_l (cl_t (cl_t hst)))
theorem z_lxor {x y' : Int64} (d : decode cc pc = .ok (.lxor, 1)) (k : T y cc nL ret hh R Q QX (pc + 1) L (.long (x ^^^ y') :: st) σ cells slots) : T y cc nL ret hh R Q QX pc L (.long y' :: .long x :: st) σ cells slots := by
  intro l p e s m args below meth c C D dA ad0 σ0 K ad H locs ls S hS hl hL hst
  refine lv_lxor C.1 C.2.1 d ?_
  exact k l p e s m args below meth c C D dA ad0 σ0 K ad H locs ls S hS hl hL (cl_l (cl_t (cl_t hst)))
theorem z_lshlx {x : Int64} {y' : Int32} (d : decode cc pc = .ok (.lshl, 1)) (k : T y cc nL ret hh R Q QX (pc + 1) L (.long (x <<< (y'.toInt64 &&& 63)) :: st) σ cells slots) : T y cc nL ret hh R Q QX pc L (.int y' :: .long x :: st) σ cells slots := by
  intro l p e s m args below meth c C D dA ad0 σ0 K ad H locs ls S hS hl hL hst
  refine lv_lshl C.1 C.2.1 d rfl ?_
  exact k l p e s m args below meth c C D dA ad0 σ0 K ad H locs ls S hS hl hL (cl_l (cl_t (cl_t hst)))
theorem z_lshrx {x : Int64} {y' : Int32} (d : decode cc pc = .ok (.lshr, 1)) (k : T y cc nL ret hh R Q QX (pc + 1) L (.long (x >>> (y'.toInt64 &&& 63)) :: st) σ cells slots) : T y cc nL ret hh R Q QX pc L (.int y' :: .long x :: st) σ cells slots := by
  intro l p e s m args below meth c C D dA ad0 σ0 K ad H locs ls S hS hl hL hst
  refine lv_lshr C.1 C.2.1 d rfl ?_
  exact k l p e s m args below meth c C D dA ad0 σ0 K ad H locs ls S hS hl hL (cl_l (cl_t (cl_t hst)))
theorem z_lushrx {x : Int64} {y' : Int32} (d : decode cc pc = .ok (.lushr, 1)) (k : T y cc nL ret hh R Q QX (pc + 1) L (.long ((x.toUInt64 >>> (y'.toInt64.toUInt64 &&& Int64.toUInt64 63)).toInt64) :: st) σ cells slots) : T y cc nL ret hh R Q QX pc L (.int y' :: .long x :: st) σ cells slots := by
  intro l p e s m args below meth c C D dA ad0 σ0 K ad H locs ls S hS hl hL hst
  refine lv_lushr C.1 C.2.1 d rfl ?_
  exact k l p e s m args below meth c C D dA ad0 σ0 K ad H locs ls S hS hl hL (cl_l (cl_t (cl_t hst)))
theorem z_i2lx {x : Int32} (d : decode cc pc = .ok (.i2l, 1)) (k : T y cc nL ret hh R Q QX (pc + 1) L (.long x.toInt64 :: st) σ cells slots) : T y cc nL ret hh R Q QX pc L (.int x :: st) σ cells slots := by
  intro l p e s m args below meth c C D dA ad0 σ0 K ad H locs ls S hS hl hL hst
  refine lv_i2l C.1 C.2.1 d rfl ?_
  exact k l p e s m args below meth c C D dA ad0 σ0 K ad H locs ls S hS hl hL (cl_l (cl_t hst))
theorem z_l2ix {x : Int64} (d : decode cc pc = .ok (.l2i, 1)) (k : T y cc nL ret hh R Q QX (pc + 1) L (.int x.toInt32 :: st) σ cells slots) : T y cc nL ret hh R Q QX pc L (.long x :: st) σ cells slots := by
  intro l p e s m args below meth c C D dA ad0 σ0 K ad H locs ls S hS hl hL hst
  refine lv_l2i C.1 C.2.1 d rfl ?_
  exact k l p e s m args below meth c C D dA ad0 σ0 K ad H locs ls S hS hl hL (cl_i (cl_t hst))
theorem z_lcmp {x y' : Int64} (d : decode cc pc = .ok (.lcmp, 1)) (k : T y cc nL ret hh R Q QX (pc + 1) L (.int (lg_cmp x y') :: st) σ cells slots) : T y cc nL ret hh R Q QX pc L (.long y' :: .long x :: st) σ cells slots := by
  intro l p e s m args below meth c C D dA ad0 σ0 K ad H locs ls S hS hl hL hst
  refine W.lcmp C.1 C.2.1 d ?_
  exact k l p e s m args below meth c C D dA ad0 σ0 K ad H locs ls S hS hl hL (cl_i (cl_t (cl_t hst)))
theorem z_dup {v : Value} (d : decode cc pc = .ok (.dup, 1)) (hv : v.category = 1) (k : T y cc nL ret hh R Q QX (pc + 1) L (v :: v :: st) σ cells slots) : T y cc nL ret hh R Q QX pc L (v :: st) σ cells slots := by
  intro l p e s m args below meth c C D dA ad0 σ0 K ad H locs ls S hS hl hL hst
  refine lv_dup C.1 C.2.1 d ((vmv_cat ad v).trans hv) ?_
  exact k l p e s m args below meth c C D dA ad0 σ0 K ad H locs ls S hS hl hL (cl_c (cl_h hst) hst)
theorem z_pop {v : Value} (d : decode cc pc = .ok (.pop, 1)) (hv : v.category = 1) (k : T y cc nL ret hh R Q QX (pc + 1) L st σ cells slots) : T y cc nL ret hh R Q QX pc L (v :: st) σ cells slots := by
  intro l p e s m args below meth c C D dA ad0 σ0 K ad H locs ls S hS hl hL hst
  refine lv_pop C.1 C.2.1 d ((vmv_cat ad v).trans hv) ?_
  exact k l p e s m args below meth c C D dA ad0 σ0 K ad H locs ls S hS hl hL (cl_t hst)
theorem z_dup2 {v u : Value} (d : decode cc pc = .ok (.dup2, 1)) (hv : v.category = 1) (hu : u.category = 1) (k : T y cc nL ret hh R Q QX (pc + 1) L (v :: u :: v :: u :: st) σ cells slots) : T y cc nL ret hh R Q QX pc L (v :: u :: st) σ cells slots := by
  intro l p e s m args below meth c C D dA ad0 σ0 K ad H locs ls S hS hl hL hst
  refine lv_dup2_11 C.1 C.2.1 d ((vmv_cat ad v).trans hv) ((vmv_cat ad u).trans hu) ?_
  exact k l p e s m args below meth c C D dA ad0 σ0 K ad H locs ls S hS hl hL (cl_c (cl_h hst) (cl_c (cl_h (cl_t hst)) hst))
theorem z_null (d : decode cc pc = .ok (.aconst_null, 1)) (k : T y cc nL ret hh R Q QX (pc + 1) L (.null :: st) σ cells slots) : T y cc nL ret hh R Q QX pc L st σ cells slots := by
  intro l p e s m args below meth c C D dA ad0 σ0 K ad H locs ls S hS hl hL hst
  refine lv_null C.1 C.2.1 d ?_
  exact k l p e s m args below meth c C D dA ad0 σ0 K ad H locs ls S hS hl hL (cl_n hst)
theorem z_if_eq {x : Int32} {off : Int} {tgt : Nat} (d : decode cc pc = .ok (.ifCond .eq off, 3)) (ht : (pc : Int) + off = (tgt : Int)) (kt : x = 0 → T y cc nL ret hh R Q QX tgt L st σ cells slots) (kf : ¬ x = 0 → T y cc nL ret hh R Q QX (pc + 3) L st σ cells slots) : T y cc nL ret hh R Q QX pc L (.int x :: st) σ cells slots := by
  intro l p e s m args below meth c C D dA ad0 σ0 K ad H locs ls S hS hl hL hst
  refine lv_if_eq C.1 C.2.1 d ht (fun q => ?_) (fun q => ?_)
  · exact kt q l p e s m args below meth c C D dA ad0 σ0 K ad H locs ls S hS hl hL (cl_t hst)
  · exact kf q l p e s m args below meth c C D dA ad0 σ0 K ad H locs ls S hS hl hL (cl_t hst)
theorem z_icmp_eq {x y' : Int32} {off : Int} {tgt : Nat} (d : decode cc pc = .ok (.if_icmp .eq off, 3)) (ht : (pc : Int) + off = (tgt : Int)) (kt : x = y' → T y cc nL ret hh R Q QX tgt L st σ cells slots) (kf : ¬ x = y' → T y cc nL ret hh R Q QX (pc + 3) L st σ cells slots) : T y cc nL ret hh R Q QX pc L (.int y' :: .int x :: st) σ cells slots := by
  intro l p e s m args below meth c C D dA ad0 σ0 K ad H locs ls S hS hl hL hst
  refine lv_icmp_eq C.1 C.2.1 d ht (fun q => ?_) (fun q => ?_)
  · exact kt q l p e s m args below meth c C D dA ad0 σ0 K ad H locs ls S hS hl hL (cl_t (cl_t hst))
  · exact kf q l p e s m args below meth c C D dA ad0 σ0 K ad H locs ls S hS hl hL (cl_t (cl_t hst))
theorem z_if_ne {x : Int32} {off : Int} {tgt : Nat} (d : decode cc pc = .ok (.ifCond .ne off, 3)) (ht : (pc : Int) + off = (tgt : Int)) (kt : ¬ x = 0 → T y cc nL ret hh R Q QX tgt L st σ cells slots) (kf : x = 0 → T y cc nL ret hh R Q QX (pc + 3) L st σ cells slots) : T y cc nL ret hh R Q QX pc L (.int x :: st) σ cells slots := by
  intro l p e s m args below meth c C D dA ad0 σ0 K ad H locs ls S hS hl hL hst
  refine lv_if_ne C.1 C.2.1 d ht (fun q => ?_) (fun q => ?_)
  · exact kt q l p e s m args below meth c C D dA ad0 σ0 K ad H locs ls S hS hl hL (cl_t hst)
  · exact kf q l p e s m args below meth c C D dA ad0 σ0 K ad H locs ls S hS hl hL (cl_t hst)
theorem z_icmp_ne {x y' : Int32} {off : Int} {tgt : Nat} (d : decode cc pc = .ok (.if_icmp .ne off, 3)) (ht : (pc : Int) + off = (tgt : Int)) (kt : ¬ x = y' → T y cc nL ret hh R Q QX tgt L st σ cells slots) (kf : x = y' → T y cc nL ret hh R Q QX (pc + 3) L st σ cells slots) : T y cc nL ret hh R Q QX pc L (.int y' :: .int x :: st) σ cells slots := by
  intro l p e s m args below meth c C D dA ad0 σ0 K ad H locs ls S hS hl hL hst
  refine lv_icmp_ne C.1 C.2.1 d ht (fun q => ?_) (fun q => ?_)
  · exact kt q l p e s m args below meth c C D dA ad0 σ0 K ad H locs ls S hS hl hL (cl_t (cl_t hst))
  · exact kf q l p e s m args below meth c C D dA ad0 σ0 K ad H locs ls S hS hl hL (cl_t (cl_t hst))
theorem z_if_lt {x : Int32} {off : Int} {tgt : Nat} (d : decode cc pc = .ok (.ifCond .lt off, 3)) (ht : (pc : Int) + off = (tgt : Int)) (kt : x < 0 → T y cc nL ret hh R Q QX tgt L st σ cells slots) (kf : ¬ x < 0 → T y cc nL ret hh R Q QX (pc + 3) L st σ cells slots) : T y cc nL ret hh R Q QX pc L (.int x :: st) σ cells slots := by
  intro l p e s m args below meth c C D dA ad0 σ0 K ad H locs ls S hS hl hL hst
  refine lv_if_lt C.1 C.2.1 d ht (fun q => ?_) (fun q => ?_)
  · exact kt q l p e s m args below meth c C D dA ad0 σ0 K ad H locs ls S hS hl hL (cl_t hst)
  · exact kf q l p e s m args below meth c C D dA ad0 σ0 K ad H locs ls S hS hl hL (cl_t hst)
theorem z_icmp_lt {x y' : Int32} {off : Int} {tgt : Nat} (d : decode cc pc = .ok (.if_icmp .lt off, 3)) (ht : (pc : Int) + off = (tgt : Int)) (kt : x < y' → T y cc nL ret hh R Q QX tgt L st σ cells slots) (kf : ¬ x < y' → T y cc nL ret hh R Q QX (pc + 3) L st σ cells slots) : T y cc nL ret hh R Q QX pc L (.int y' :: .int x :: st) σ cells slots := by
  intro l p e s m args below meth c C D dA ad0 σ0 K ad H locs ls S hS hl hL hst
  refine lv_icmp_lt C.1 C.2.1 d ht (fun q => ?_) (fun q => ?_)
  · exact kt q l p e s m args below meth c C D dA ad0 σ0 K ad H locs ls S hS hl hL (cl_t (cl_t hst))
  · exact kf q l p e s m args below meth c C D dA ad0 σ0 K ad H locs ls S hS hl hL (cl_t (cl_t hst))
theorem z_if_ge {x : Int32} {off : Int} {tgt : Nat} (d : decode cc pc = .ok (.ifCond .ge off, 3)) (ht : (pc : Int) + off = (tgt : Int)) (kt : 0 ≤ x → T y cc nL ret hh R Q QX tgt L st σ cells slots) (kf : ¬ 0 ≤ x → T y cc nL ret hh R Q QX (pc + 3) L st σ cells slots) : T y cc nL ret hh R Q QX pc L (.int x :: st) σ cells slots := by
  intro l p e s m args below meth c C D dA ad0 σ0 K ad H locs ls S hS hl hL hst
  refine lv_if_ge C.1 C.2.1 d ht (fun q => ?_) (fun q => ?_)
  · exact kt q l p e s m args below meth c C D dA ad0 σ0 K ad H locs ls S hS hl hL (cl_t hst)
  · exact kf q l p e s m args below meth c C D dA ad0 σ0 K ad H locs ls S hS hl hL (cl_t hst)
theorem z_icmp_ge {x y' : Int32} {off : Int} {tgt : Nat} (d : decode cc pc = .ok (.if_icmp .ge off, 3)) (ht : (pc : Int) + off = (tgt : Int)) (kt : y' ≤ x → T y cc nL ret hh R Q QX tgt L st σ cells slots) (kf : ¬ y' ≤ x → T y cc nL ret hh R Q QX (pc + 3) L st σ cells slots) : T y cc nL ret hh R Q QX pc L (.int y' :: .int x :: st) σ cells slots := by
  intro l p e s m args below meth c C D dA ad0 σ0 K ad H locs ls S hS hl hL hst
  refine lv_icmp_ge C.1 C.2.1 d ht (fun q => ?_) (fun q => ?_)
  · exact kt q l p e s m args below meth c C D dA ad0 σ0 K ad H locs ls S hS hl hL (cl_t (cl_t hst))
  · exact kf q l p e s m args below meth c C D dA ad0 σ0 K ad H locs ls S hS hl hL (cl_t (cl_t hst))
theorem z_if_gt {x : Int32} {off : Int} {tgt : Nat} (d : decode cc pc = .ok (.ifCond .gt off, 3)) (ht : (pc : Int) + off = (tgt : Int)) (kt : 0 < x → T y cc nL ret hh R Q QX tgt L st σ cells slots) (kf : ¬ 0 < x → T y cc nL ret hh R Q QX (pc + 3) L st σ cells slots) : T y cc nL ret hh R Q QX pc L (.int x :: st) σ cells slots := by
  intro l p e s m args below meth c C D dA ad0 σ0 K ad H locs ls S hS hl hL hst
  refine lv_if_gt C.1 C.2.1 d ht (fun q => ?_) (fun q => ?_)
  · exact kt q l p e s m args below meth c C D dA ad0 σ0 K ad H locs ls S hS hl hL (cl_t hst)
  · exact kf q l p e s m args below meth c C D dA ad0 σ0 K ad H locs ls S hS hl hL (cl_t hst)
theorem z_icmp_gt {x y' : Int32} {off : Int} {tgt : Nat} (d : decode cc pc = .ok (.if_icmp .gt off, 3)) (ht : (pc : Int) + off = (tgt : Int)) (kt : y' < x → T y cc nL ret hh R Q QX tgt L st σ cells slots) (kf : ¬ y' < x → T y cc nL ret hh R Q QX (pc + 3) L st σ cells slots) : T y cc nL ret hh R Q QX pc L (.int y' :: .int x :: st) σ cells slots := by
  intro l p e s m args below meth c C D dA ad0 σ0 K ad H locs ls S hS hl hL hst
  refine lv_icmp_gt C.1 C.2.1 d ht (fun q => ?_) (fun q => ?_)
  · exact kt q l p e s m args below meth c C D dA ad0 σ0 K ad H locs ls S hS hl hL (cl_t (cl_t hst))
  · exact kf q l p e s m args below meth c C D dA ad0 σ0 K ad H locs ls S hS hl hL (cl_t (cl_t hst))
theorem z_if_le {x : Int32} {off : Int} {tgt : Nat} (d : decode cc pc = .ok (.ifCond .le off, 3)) (ht : (pc : Int) + off = (tgt : Int)) (kt : x ≤ 0 → T y cc nL ret hh R Q QX tgt L st σ cells slots) (kf : ¬ x ≤ 0 → T y cc nL ret hh R Q QX (pc + 3) L st σ cells slots) : T y cc nL ret hh R Q QX pc L (.int x :: st) σ cells slots := by
  intro l p e s m args below meth c C D dA ad0 σ0 K ad H locs ls S hS hl hL hst
  refine lv_if_le C.1 C.2.1 d ht (fun q => ?_) (fun q => ?_)
  · exact kt q l p e s m args below meth c C D dA ad0 σ0 K ad H locs ls S hS hl hL (cl_t hst)
  · exact kf q l p e s m args below meth c C D dA ad0 σ0 K ad H locs ls S hS hl hL (cl_t hst)
theorem z_icmp_le {x y' : Int32} {off : Int} {tgt : Nat} (d : decode cc pc = .ok (.if_icmp .le off, 3)) (ht : (pc : Int) + off = (tgt : Int)) (kt : x ≤ y' → T y cc nL ret hh R Q QX tgt L st σ cells slots) (kf : ¬ x ≤ y' → T y cc nL ret hh R Q QX (pc + 3) L st σ cells slots) : T y cc nL ret hh R Q QX pc L (.int y' :: .int x :: st) σ cells slots := by
  intro l p e s m args below meth c C D dA ad0 σ0 K ad H locs ls S hS hl hL hst
  refine lv_icmp_le C.1 C.2.1 d ht (fun q => ?_) (fun q => ?_)
  · exact kt q l p e s m args below meth c C D dA ad0 σ0 K ad H locs ls S hS hl hL (cl_t (cl_t hst))
  · exact kf q l p e s m args below meth c C D dA ad0 σ0 K ad H locs ls S hS hl hL (cl_t (cl_t hst))
theorem z_goto {off : Int} {tgt : Nat} (d : decode cc pc = .ok (.goto off, 3)) (ht : (pc : Int) + off = (tgt : Int)) (k : T y cc nL ret hh R Q QX tgt L st σ cells slots) : T y cc nL ret hh R Q QX pc L st σ cells slots := by
  intro l p e s m args below meth c C D dA ad0 σ0 K ad H locs ls S hS hl hL hst
  refine lv_goto C.1 C.2.1 d ht ?_
  exact k l p e s m args below meth c C D dA ad0 σ0 K ad H locs ls S hS hl hL hst
theorem z_ifnull {x : Nat} {off : Int} (d : decode cc pc = .ok (.ifnull off, 3)) (k : T y cc nL ret hh R Q QX (pc + 3) L st σ cells slots) : T y cc nL ret hh R Q QX pc L (.ref x :: st) σ cells slots := by
  intro l p e s m args below meth c C D dA ad0 σ0 K ad H locs ls S hS hl hL hst
  refine lv_ifnull C.1 C.2.1 d ?_
  exact k l p e s m args below meth c C D dA ad0 σ0 K ad H locs ls S hS hl hL (cl_t hst)
theorem z_ifnullN {off : Int} {tgt : Nat} (d : decode cc pc = .ok (.ifnull off, 3)) (ht : (pc : Int) + off = (tgt : Int)) (k : T y cc nL ret hh R Q QX tgt L st σ cells slots) : T y cc nL ret hh R Q QX pc L (.null :: st) σ cells slots := by
  intro l p e s m args below meth c C D dA ad0 σ0 K ad H locs ls S hS hl hL hst
  refine lv_ifnullN C.1 C.2.1 d ht ?_
  exact k l p e s m args below meth c C D dA ad0 σ0 K ad H locs ls S hS hl hL (cl_t hst)
theorem z_ifnonnull {x : Nat} {off : Int} {tgt : Nat} (d : decode cc pc = .ok (.ifnonnull off, 3)) (ht : (pc : Int) + off = (tgt : Int)) (k : T y cc nL ret hh R Q QX tgt L st σ cells slots) : T y cc nL ret hh R Q QX pc L (.ref x :: st) σ cells slots := by
  intro l p e s m args below meth c C D dA ad0 σ0 K ad H locs ls S hS hl hL hst
  refine lv_ifnonnull C.1 C.2.1 d ht ?_
  exact k l p e s m args below meth c C D dA ad0 σ0 K ad H locs ls S hS hl hL (cl_t hst)
theorem z_ifnonnullN {off : Int} (d : decode cc pc = .ok (.ifnonnull off, 3)) (k : T y cc nL ret hh R Q QX (pc + 3) L st σ cells slots) : T y cc nL ret hh R Q QX pc L (.null :: st) σ cells slots := by
  intro l p e s m args below meth c C D dA ad0 σ0 K ad H locs ls S hS hl hL hst
  refine lv_ifnonnullN C.1 C.2.1 d ?_
  exact k l p e s m args below meth c C D dA ad0 σ0 K ad H locs ls S hS hl hL (cl_t hst)
theorem z_ldc {index : Nat} {v : Int32} (d : decode cc pc = .ok (.ldc index, 2)) (hc : Jvm.Cond.constant y.cls index v ∈ WT) (k : T y cc nL ret hh R Q QX (pc + 2) L (.int v :: st) σ cells slots) : T y cc nL ret hh R Q QX pc L st σ cells slots := by
  intro l p e s m args below meth c C D dA ad0 σ0 K ad H locs ls S hS hl hL hst
  refine lv_ldc C.1 C.2.1 C.2.2.2.2.2.2.1 (C.2.2.2.2.2.2.2.1 _ hc) d ?_
  exact k l p e s m args below meth c C D dA ad0 σ0 K ad H locs ls S hS hl hL (cl_i hst)
theorem z_ldc2 {index : Nat} {v : Int64} (d : decode cc pc = .ok (.ldc2_w index, 3)) (hc : Jvm.Cond.constantLong y.cls index v ∈ WT) (k : T y cc nL ret hh R Q QX (pc + 3) L (.long v :: st) σ cells slots) : T y cc nL ret hh R Q QX pc L st σ cells slots := by
  intro l p e s m args below meth c C D dA ad0 σ0 K ad H locs ls S hS hl hL hst
  refine lv_ldc2 C.1 C.2.1 C.2.2.2.2.2.2.1 (C.2.2.2.2.2.2.2.1 _ hc) d ?_
  exact k l p e s m args below meth c C D dA ad0 σ0 K ad H locs ls S hS hl hL (cl_l hst)
theorem z_tableIn {dflt lo hi : Int} {offs : Array Int} {len : Nat} {x : Int32} {off : Int} {tgt : Nat} (d : decode cc pc = .ok (.tableswitch dflt lo hi offs, len)) (h1 : ¬ x.toInt < lo) (h2 : ¬ hi < x.toInt) (ho : offs[(x.toInt - lo).toNat]? = some off) (ht : (pc : Int) + off = (tgt : Int)) (k : T y cc nL ret hh R Q QX tgt L st σ cells slots) : T y cc nL ret hh R Q QX pc L (.int x :: st) σ cells slots := by
  intro l p e s m args below meth c C D dA ad0 σ0 K ad H locs ls S hS hl hL hst
  refine lv_tableIn C.1 C.2.1 d h1 h2 ho ht ?_
  exact k l p e s m args below meth c C D dA ad0 σ0 K ad H locs ls S hS hl hL (cl_t hst)
theorem z_tableOut {dflt lo hi : Int} {offs : Array Int} {len : Nat} {x : Int32} {tgt : Nat} (d : decode cc pc = .ok (.tableswitch dflt lo hi offs, len)) (h : x.toInt < lo ∨ hi < x.toInt) (ht : (pc : Int) + dflt = (tgt : Int)) (k : T y cc nL ret hh R Q QX tgt L st σ cells slots) : T y cc nL ret hh R Q QX pc L (.int x :: st) σ cells slots := by
  intro l p e s m args below meth c C D dA ad0 σ0 K ad H locs ls S hS hl hL hst
  refine lv_tableOut C.1 C.2.1 d h ht ?_
  exact k l p e s m args below meth c C D dA ad0 σ0 K ad H locs ls S hS hl hL (cl_t hst)
theorem z_lookup {dflt : Int} {ps : Array (Int × Int)} {len : Nat} {x : Int32} {off : Int} {tgt : Nat} (d : decode cc pc = .ok (.lookupswitch dflt ps, len)) (hp : (ps.toList.zip (ps.toList.drop 1)).all (fun (a, next) => a.1 < next.1) = true) (ho : Op.lookupswitch.offset ps.toList dflt x.toInt = off) (ht : (pc : Int) + off = (tgt : Int)) (k : T y cc nL ret hh R Q QX tgt L st σ cells slots) : T y cc nL ret hh R Q QX pc L (.int x :: st) σ cells slots := by
  intro l p e s m args below meth c C D dA ad0 σ0 K ad H locs ls S hS hl hL hst
  refine lv_lookup C.1 C.2.1 d hp ho ht ?_
  exact k l p e s m args below meth c C D dA ad0 σ0 K ad H locs ls S hS hl hL (cl_t hst)
theorem z_widen {cells' slots' : Nat} (h1 : cells ≤ cells') (h2 : slots ≤ slots') (k : T y cc nL ret hh R Q QX pc L st σ cells' slots') : T y cc nL ret hh R Q QX pc L st σ cells slots := by
  intro l p e s m args below meth c C D dA ad0 σ0 K ad H locs ls S hS hl hL hst
  exact W.widen h1 h2 (k l p e s m args below meth c C D dA ad0 σ0 K ad H locs ls S hS hl hL hst)
/-- fewer locals known -/
def lsub : List (Option Value) → List (Option Value) → Prop
  | [], _ => True
  | none :: a, _ :: b => lsub a b
  | none :: a, [] => lsub a []
  | some v :: a, o :: b => o = some v ∧ lsub a b
  | some _ :: _, [] => False
theorem lsub_get : ∀ {A B : List (Option Value)}, lsub A B → ∀ {i : Nat} {v : Value}, lget A i = some v → lget B i = some v
  | [], _, _, i, v, h => by simp [lget] at h
  | none :: a, x :: b, hs, i, v, h => by
    cases i with
    | zero => simp [lget] at h
    | succ i => exact lsub_get (A := a) (B := b) hs (i := i) (v := v) (by simpa [lget] using h) |> fun z => by simpa [lget] using z
  | none :: a, [], hs, i, v, h => by
    cases i with
    | zero => simp [lget] at h
    | succ i =>
      have := lsub_get (A := a) (B := []) hs (i := i) (v := v) (by simpa [lget] using h)
      simp [lget] at this
  | some u :: a, x :: b, hs, i, v, h => by
    cases i with
    | zero =>
      have e : u = v := by simpa [lget] using h
      subst e
      rw [hs.1]
      simp [lget]
    | succ i => exact lsub_get (A := a) (B := b) hs.2 (i := i) (v := v) (by simpa [lget] using h) |> fun z => by simpa [lget] using z
  | some _ :: _, [], hs, _, _, _ => hs.elim
theorem z_sub {L' : List (Option Value)} (h : lsub L' L) (k : T y cc nL ret hh R Q QX pc L' st σ cells slots) : T y cc nL ret hh R Q QX pc L st σ cells slots := by
  intro l p e s m args below meth c C D dA ad0 σ0 K ad H locs ls S hS hl hL hst
  exact k l p e s m args below meth c C D dA ad0 σ0 K ad H locs ls S hS ⟨hl.1, hl.2.1, fun i v q => hl.2.2 i v (lsub_get h q)⟩ (fun i v q => hL i v (lsub_get h q)) hst
theorem z_post {Q' : Option Value → Wd → Prop} {QX' : String → Wd → Prop} (h : ∀ r u, Q' r u → Q r u) (hx : ∀ E u, QX' E u → QX E u) (k : T y cc nL ret hh R Q' QX' pc L st σ cells slots) : T y cc nL ret hh R Q QX pc L st σ cells slots := by
  intro l p e s m args below meth c C D dA ad0 σ0 K ad H locs ls S hS hl hL hst
  intro T0 hT X
  obtain ⟨t, a1, o, b1, b2, b3⟩ := k l p e s m args below meth c C D dA ad0 σ0 K ad H locs ls S hS hl hL hst T0 hT X
  refine ⟨t, a1, o, b1, b2, ?_⟩
  rcases b3 with ⟨⟨⟨ad1, σ1, r1, e1, e2, e3, e4⟩, e5⟩, e6⟩ | ⟨q, e0, E, ce, L9, ⟨⟨ad1, σ1, e2, e3⟩, e5⟩, e6⟩
  · exact Or.inl ⟨⟨⟨ad1, σ1, r1, e1, h _ _ e2, e3, e4⟩, e5⟩, e6⟩
  · exact Or.inr ⟨q, e0, E, ce, L9, ⟨⟨ad1, σ1, hx _ _ e2, e3⟩, e5⟩, e6⟩
theorem z_iret {x : Int32} (d : decode cc pc = .ok (.ireturn, 1)) (hr : ret = some .int) (hc : cells ≤ R.cells) (hs : slots ≤ R.slots) (hq : Q (some (.int x)) σ) : T y cc nL ret hh R Q QX pc L [.int x] σ cells slots := by
  intro l p e s m args below meth c C D dA ad0 σ0 K ad H locs ls S hS hl hL hst
  refine W.widen hc hs (vx_ret ?_)
  exact W.iret C.1 C.2.1 (C.2.2.2.1.trans hr) (fun t ht hW => ⟨⟨ad, σ, some (.int x), rfl, hq, by rw [ht]; exact S, fun v e => by cases e; exact in_i⟩, hS.F ht⟩) hS.2.2 d C.2.2.2.2.1
theorem z_zret {x : Int32} (d : decode cc pc = .ok (.ireturn, 1)) (hr : ret = some .boolean) (hc : cells ≤ R.cells) (hs : slots ≤ R.slots) (hz : narrow .boolean (.int x) = .int x) (hq : Q (some (.int x)) σ) : T y cc nL ret hh R Q QX pc L [.int x] σ cells slots := by
  intro l p e s m args below meth c C D dA ad0 σ0 K ad H locs ls S hS hl hL hst
  refine W.widen hc hs (vx_ret ?_)
  exact W.zret C.1 C.2.1 (C.2.2.2.1.trans hr) hz (fun t ht hW => ⟨⟨ad, σ, some (.int x), rfl, hq, by rw [ht]; exact S, fun v e => by cases e; exact in_i⟩, hS.F ht⟩) hS.2.2 d C.2.2.2.2.1
theorem z_lret {x : Int64} (d : decode cc pc = .ok (.lreturn, 1)) (hr : ret = some .long) (hc : cells ≤ R.cells) (hs : slots ≤ R.slots) (hq : Q (some (.long x)) σ) : T y cc nL ret hh R Q QX pc L [.long x] σ cells slots := by
  intro l p e s m args below meth c C D dA ad0 σ0 K ad H locs ls S hS hl hL hst
  refine W.widen hc hs (vx_ret ?_)
  exact W.lret C.1 C.2.1 (C.2.2.2.1.trans hr) (fun t ht hW => ⟨⟨ad, σ, some (.long x), rfl, hq, by rw [ht]; exact S, fun v e => by cases e; exact in_l⟩, hS.F ht⟩) hS.2.2 d C.2.2.2.2.1
theorem z_vret (d : decode cc pc = .ok (.return_, 1)) (hr : ret = none) (hc : cells ≤ R.cells) (hs : slots ≤ R.slots) (hq : Q none σ) : T y cc nL ret hh R Q QX pc L [] σ cells slots := by
  intro l p e s m args below meth c C D dA ad0 σ0 K ad H locs ls S hS hl hL hst
  refine W.widen hc hs (vx_ret ?_)
  exact W.vret C.1 C.2.1 (C.2.2.2.1.trans hr) (fun t ht hW => ⟨⟨ad, σ, none, rfl, hq, by rw [ht]; exact S, fun v e => by cases e⟩, hS.F ht⟩) hS.2.2 d C.2.2.2.2.1
end TR
end
section
abbrev aI (n : Nat) (f : Nat → Int32) : pCell := .inl (0, n, .inl f)
abbrev aJ (n : Nat) (f : Nat → Int64) : pCell := .inl (1, n, .inr (.inl f))
abbrev aZ (n : Nat) (f : Nat → Int32) : pCell := .inl (2, n, .inl f)
abbrev aR (n : Nat) (g : Nat → Option Nat) : pCell := .inl (3, n, .inr (.inr g))
abbrev ob (ci : Nat) (fs : List Value) : pCell := .inr (ci, fs)
theorem Rp.one {D : va_G} {dA : Nat → ClassId} {ad : Nat → Nat} {σ : Wd} {H : Heap} (h : Rp D dA ad σ H) {n : Nat} {c : pCell} (hn : σ n = some c) : va_P D vwCl [(ad n, pa dA ad c)] H := by
  intro k q hk
  have hz : k < 1 := (List.getElem?_eq_some_iff.mp hk).1
  rw [show k = 0 by omega] at hk
  cases hk
  exact h.1 n c hn
theorem ne_of {σ : Wd} {n : Nat} {c : pCell} (h : σ n = some c) : σ n ≠ none := fun z => by rw [h] at z; cases z
section TH
variable {y : MethodName} {cc : ByteArray} {nL : Nat} {ret : Option FieldType} {hh : List (Nat × Nat × Nat × Nat)} {R : Room} {Q : Option Value → Wd → Prop} {QX : String → Wd → Prop} {pc : Nat} {L : List (Option Value)} {st : List Value} {σ : Wd} {cells slots : Nat}

theorem z_getf {o idx ci N : Nat} {Cn : String} {Tt : u_T} {ty0 : Nat → FieldType} {fs : List Value} {v : Value} (hc : Cls ci Cn Tt N ty0) (f : Nat) (hf : Cond.fieldLink y.cls idx (Tt f).1 (Tt f).2.1 (Tt f).2.2.1 ∈ WT) (d : decode cc pc = .ok (.getfield idx, 3)) (hk : f < N) (ho : σ o = some (.inr (ci, fs))) (hv : fs[f]? = some v) (k : T y cc nL ret hh R Q QX (pc + 3) L (v :: st) σ cells slots) : T y cc nL ret hh R Q QX pc L (.ref o :: st) σ cells slots := by
  intro l p e s m args below meth c C D dA ad0 σ0 K ad H locs ls S hS hl hL hst
  refine va_get (own := y.cls) C.1 C.2.1 C.2.2.2.2.2.2.2.1 hc.2.1 C.2.2.2.2.2.2.1 K.1 (S.1.one ho) 0 rfl hc.1 f hk (C.2.2.2.2.2.2.2.1 _ hf) (fun x h => h) (v := vmv ad v) (by rw [List.getElem?_map, hv]; rfl) d ?_
  exact k l p e s m args below meth c C D dA ad0 σ0 K ad H locs ls S hS hl hL (cl_c (S.1.2.2 o _ ho v (List.mem_of_getElem? hv)) (cl_t hst))
theorem z_putf {o idx ci N : Nat} {Cn : String} {Tt : u_T} {ty0 : Nat → FieldType} {fs : List Value} {v : Value} {ty : FieldType} (hc : Cls ci Cn Tt N ty0) (f : Nat) (hf : Cond.fieldLink y.cls idx (Tt f).1 (Tt f).2.1 (Tt f).2.2.1 ∈ WT) (d : decode cc pc = .ok (.putfield idx, 3)) (hk : f < N) (hfin : (Tt f).2.2.2 = false) (hd : parseFieldDescriptor (Tt f).2.2.1 = some ty) (hn : ∀ ad, narrow ty (vmv ad v) = vmv ad v ∧ fits ty (vmv ad v) = true) (ho : σ o = some (.inr (ci, fs))) (hlen : f < fs.length) (k : T y cc nL ret hh R Q QX (pc + 3) L st (up σ o (.inr (ci, fs.set f v))) cells slots) : T y cc nL ret hh R Q QX pc L (v :: .ref o :: st) σ cells slots := by
  intro l p e s m args below meth c C D dA ad0 σ0 K ad H locs ls S hS hl hL hst
  have hap := va_apart (own := y.cls) C.2.2.2.2.2.2.2.1 hc.2.1 ty0 hc.2.2.1 hc.2.2.2 K.1 hc.1
  obtain ⟨r, h1, cell, q1, q2, q3, q4⟩ := S.1.1 o _ ho
  have hr : r = (Cn, Tt, N) := Option.some.inj (h1.symm.trans hc.1)
  subst hr
  obtain ⟨hSl, hfc, kC, hkC, hkind⟩ := K.1.1 ci _ hc.1
  obtain ⟨cf, kf, fi, f9, hi, hsl⟩ := hSl f hk
  have hlay := C.2.2.2.2.2.2.2.1 _ (hc.2.1 _ (u_in_lay hk))
  unfold u_lay at hlay
  rw [if_neg (by rw [hfin]; decide)] at hlay
  have hst9 := (u_facts hfc hkC (u_lays C.2.2.2.2.2.2.2.1 hc.2.1 hk) hi).1
  have h6 := u_store hfc hkC hkind hlay hi hd (hn ad).1 (hn ad).2
  refine W.putK C.1 C.2.1 (f := f9) ⟨C.2.2.2.2.2.2.1, C.2.2.2.2.2.2.2.1 _ hf, ⟨_, _, _, hi⟩, hst9⟩ (by rw [q2]; exact h6) q1 q3 (by rw [hsl]; exact k2_hasslot (q4 f hk)) rfl rfl d fun H' e1 e2 e3 => ?_
  rw [hsl] at e1 ⊢
  have hcl : clC σ (.inr (ci, fs.set f v)) := fun u hu => by
    rcases List.mem_or_eq_of_mem_set hu with h | h
    · exact S.1.2.2 o _ ho u h
    · rw [h]; exact cl_h hst
  have hat : va_at D vwCl (ad o, pa dA ad (.inr (ci, fs.set f v))) H' := by
    refine ⟨_, hc.1, ?_⟩
    show t_OB (ad o) (D.1 ci) N (D.2 ci) H' (vp_V ((fs.set f v).map (vmv ad)))
    rw [List.map_set]
    exact t_OB.to (V := updV (vp_V (fs.map (vmv ad))) f (vmv ad v)) ⟨_, e1, q2, q3, t_set q4 hap hk _⟩ (fun j _ => vp_updV_set (by rw [List.length_map]; exact hlen) _ j)
  exact k l p e s m args below meth c C D dA ad0 σ0 K ad H' _ ls (S.put (ne_of ho) hcl hat e3) (hS.put e2 e3 (S.2.2 o (ne_of ho))) hl (fun i u hu => up_in (hL i u hu)) (up_clS (cl_t (cl_t hst)))
theorem z_putF {o idx ci N : Nat} {Cn : String} {Tt : u_T} {ty0 : Nat → FieldType} {fs : List Value} {v : Value} {ty : FieldType} (hc : Cls ci Cn Tt N ty0) (f : Nat) (hf : Cond.fieldLink y.cls idx (Tt f).1 (Tt f).2.1 (Tt f).2.2.1 ∈ WT) (d : decode cc pc = .ok (.putfield idx, 3)) (hk : f < N) (hfin : (Tt f).2.2.2 = true) (hin2 : y.name = "<init>") (hdecl : (Tt f).1 = y.cls) (hd : parseFieldDescriptor (Tt f).2.2.1 = some ty) (hn : ∀ ad, narrow ty (vmv ad v) = vmv ad v ∧ fits ty (vmv ad v) = true) (ho : σ o = some (.inr (ci, fs))) (hlen : f < fs.length) (k : T y cc nL ret hh R Q QX (pc + 3) L st (up σ o (.inr (ci, fs.set f v))) cells slots) : T y cc nL ret hh R Q QX pc L (v :: .ref o :: st) σ cells slots := by
  intro l p e s m args below meth c C D dA ad0 σ0 K ad H locs ls S hS hl hL hst
  have hap := va_apart (own := y.cls) C.2.2.2.2.2.2.2.1 hc.2.1 ty0 hc.2.2.1 hc.2.2.2 K.1 hc.1
  obtain ⟨r, h1, cell, q1, q2, q3, q4⟩ := S.1.1 o _ ho
  have hr : r = (Cn, Tt, N) := Option.some.inj (h1.symm.trans hc.1)
  subst hr
  obtain ⟨hSl, hfc, kC, hkC, hkind⟩ := K.1.1 ci _ hc.1
  obtain ⟨cf, kf, fi, f9, hi, hsl⟩ := hSl f hk
  have hlay := C.2.2.2.2.2.2.2.1 _ (hc.2.1 _ (u_in_lay hk))
  unfold u_lay at hlay
  rw [if_pos hfin] at hlay
  have hst9 := (u_facts hfc hkC (u_lays C.2.2.2.2.2.2.2.1 hc.2.1 hk) hi).1
  have hcf : m.cls = cf := by
    obtain ⟨_, _, c', _, _, _, -, -, hf', -, -, -, hown2, -⟩ := Cond.laysFinal_spec hlay
    have e1 : c' = cf := by have := hi.symm.trans hf'; simp at this; exact this.1.symm
    rw [hdecl] at hown2
    rw [← e1]; exact Option.some.inj (C.2.2.2.2.2.2.1.symm.trans hown2)
  have h6 := u_fits hfc hkC hkind (Or.inr hlay) hi hd (hn ad).1 (hn ad).2
  refine W.putFinK C.1 C.2.1 C.2.2.2.2.2.2.1 (C.2.2.2.2.2.2.2.1 _ hf) hi hst9 hcf (C.2.2.2.2.2.1.trans hin2) (by rw [q2]; exact h6) q1 q3 (by rw [hsl]; exact k2_hasslot (q4 f hk)) rfl rfl d fun H' e1 e2 e3 => ?_
  rw [hsl] at e1 ⊢
  have hcl : clC σ (.inr (ci, fs.set f v)) := fun u hu => by
    rcases List.mem_or_eq_of_mem_set hu with h | h
    · exact S.1.2.2 o _ ho u h
    · rw [h]; exact cl_h hst
  have hat : va_at D vwCl (ad o, pa dA ad (.inr (ci, fs.set f v))) H' := by
    refine ⟨_, hc.1, ?_⟩
    show t_OB (ad o) (D.1 ci) N (D.2 ci) H' (vp_V ((fs.set f v).map (vmv ad)))
    rw [List.map_set]
    exact t_OB.to (V := updV (vp_V (fs.map (vmv ad))) f (vmv ad v)) ⟨_, e1, q2, q3, t_set q4 hap hk _⟩ (fun j _ => vp_updV_set (by rw [List.length_map]; exact hlen) _ j)
  exact k l p e s m args below meth c C D dA ad0 σ0 K ad H' _ ls (S.put (ne_of ho) hcl hat e3) (hS.put e2 e3 (S.2.2 o (ne_of ho))) hl (fun i u hu => up_in (hL i u hu)) (up_clS (cl_t (cl_t hst)))
theorem z_iald {o n : Nat} {f : Nat → Int32} {i : Int32} (d : decode cc pc = .ok (.iaload, 1)) (ho : σ o = some (aI n f)) (j : Nat) (hi : i = nI j) (hj : j < n) (k : T y cc nL ret hh R Q QX (pc + 1) L (.int (f j) :: st) σ cells slots) (hn : n < 2147483648 := by decide) : T y cc nL ret hh R Q QX pc L (.int i :: .ref o :: st) σ cells slots := by
  intro l p e s m args below meth c C D dA ad0 σ0 K ad H locs ls S hS hl hL hst
  subst hi
  refine va_iald C.1 C.2.1 K.1 (S.1.one ho) 0 0 rfl rfl (vp_in_nI hj hn) d ?_
  rw [nI_clamp (Nat.lt_trans hj hn)]
  exact k l p e s m args below meth c C D dA ad0 σ0 K ad H locs ls S hS hl hL (cl_i (cl_t (cl_t hst)))
theorem z_zald {o n : Nat} {f : Nat → Int32} {i : Int32} (d : decode cc pc = .ok (.baload, 1)) (ho : σ o = some (aZ n f)) (j : Nat) (hi : i = nI j) (hj : j < n) (k : T y cc nL ret hh R Q QX (pc + 1) L (.int (f j) :: st) σ cells slots) (hn : n < 2147483648 := by decide) : T y cc nL ret hh R Q QX pc L (.int i :: .ref o :: st) σ cells slots := by
  intro l p e s m args below meth c C D dA ad0 σ0 K ad H locs ls S hS hl hL hst
  subst hi
  refine va_zald C.1 C.2.1 K.1 (S.1.one ho) 0 2 rfl rfl (vp_in_nI hj hn) d ?_
  rw [nI_clamp (Nat.lt_trans hj hn)]
  exact k l p e s m args below meth c C D dA ad0 σ0 K ad H locs ls S hS hl hL (cl_i (cl_t (cl_t hst)))
theorem z_lald {o n : Nat} {f : Nat → Int64} {i : Int32} (d : decode cc pc = .ok (.laload, 1)) (ho : σ o = some (aJ n f)) (j : Nat) (hi : i = nI j) (hj : j < n) (k : T y cc nL ret hh R Q QX (pc + 1) L (.long (f j) :: st) σ cells slots) (hn : n < 2147483648 := by decide) : T y cc nL ret hh R Q QX pc L (.int i :: .ref o :: st) σ cells slots := by
  intro l p e s m args below meth c C D dA ad0 σ0 K ad H locs ls S hS hl hL hst
  subst hi
  refine va_lald C.1 C.2.1 K.1 (S.1.one ho) 0 1 rfl rfl (vp_in_nI hj hn) d ?_
  rw [nI_clamp (Nat.lt_trans hj hn)]
  exact k l p e s m args below meth c C D dA ad0 σ0 K ad H locs ls S hS hl hL (cl_l (cl_t (cl_t hst)))
theorem z_aald {o n a : Nat} {g : Nat → Option Nat} {i : Int32} (d : decode cc pc = .ok (.aaload, 1)) (ho : σ o = some (aR n g)) (j : Nat) (hi : i = nI j) (hj : j < n) (ha : g j = some a) (k : T y cc nL ret hh R Q QX (pc + 1) L (.ref a :: st) σ cells slots) (hn : n < 2147483648 := by decide) : T y cc nL ret hh R Q QX pc L (.int i :: .ref o :: st) σ cells slots := by
  intro l p e s m args below meth c C D dA ad0 σ0 K ad H locs ls S hS hl hL hst
  subst hi
  refine va_aldq C.1 C.2.1 K.1 (S.1.one ho) 0 3 rfl rfl (vp_in_nI hj hn) d ?_
  rw [nI_clamp (Nat.lt_trans hj hn), ha]
  exact k l p e s m args below meth c C D dA ad0 σ0 K ad H locs ls S hS hl hL (cl_c (cl_r (S.1.2.2 o _ ho j a ha)) (cl_t (cl_t hst)))
theorem z_alen {o n t : Nat} {x : pArr} {v : Int32} (d : decode cc pc = .ok (.arraylength, 1)) (ho : σ o = some (.inl (t, n, x))) (ht : t < 4) (hv : Int32.ofNat n = v) (k : T y cc nL ret hh R Q QX (pc + 1) L (.int v :: st) σ cells slots) : T y cc nL ret hh R Q QX pc L (.ref o :: st) σ cells slots := by
  intro l p e s m args below meth c C D dA ad0 σ0 K ad H locs ls S hS hl hL hst
  have h9 : ∃ (ty : FieldType) (x9 : vp_A), (tysOf dA)[t]? = some (dA t, ty) ∧ pa dA ad (.inl (t, n, x)) = .inl (dA t, x9) ∧ x9.1 = n := by
    have a1 : ∃ ty : FieldType, (tysOf dA)[t]? = some (dA t, ty) := by
      match t, ht with
      | 0, _ => exact ⟨_, rfl⟩
      | 1, _ => exact ⟨_, rfl⟩
      | 2, _ => exact ⟨_, rfl⟩
      | 3, _ => exact ⟨_, rfl⟩
    obtain ⟨ty, hty⟩ := a1
    match x with
    | .inl f => exact ⟨ty, _, hty, rfl, rfl⟩
    | .inr (.inl f) => exact ⟨ty, _, hty, rfl, rfl⟩
    | .inr (.inr f) => exact ⟨ty, _, hty, rfl, rfl⟩
  obtain ⟨ty, x9, h1, h2, h3⟩ := h9
  have hP := S.1.one ho
  rw [h2] at hP
  refine va_alen C.1 C.2.1 K.1 hP 0 t (x := x9) (v := v) rfl h1 (by rw [h3]; exact hv) d ?_
  exact k l p e s m args below meth c C D dA ad0 σ0 K ad H locs ls S hS hl hL (cl_i (cl_t hst))
theorem z_iast {o n : Nat} {f : Nat → Int32} {i : Int32} {x : Int32} (d : decode cc pc = .ok (.iastore, 1))  (ho : σ o = some (aI n f)) (j : Nat) (hi : i = nI j) (hj : j < n) (k : T y cc nL ret hh R Q QX (pc + 1) L st (up σ o (aI n (upd f j x))) cells slots) (hn : n < 2147483648 := by decide) : T y cc nL ret hh R Q QX pc L (.int x :: .int i :: .ref o :: st) σ cells slots := by
  intro l p e s m args below meth c C D dA ad0 σ0 K ad H locs ls S hS hl hL hst
  subst hi
  have hin : vp_in (nI j) n := vp_in_nI hj hn
  have hcell : H[ad o]? = some (arrV (dA 0) n (fun q => .int (f q))) := S.1.1 o _ ho
  refine W.iast C.1 C.2.1 hcell ((K.1.2 0 _ rfl).1 n (fun q => .int (f q))) (fun q => by cases q) (by show ¬ (_ ∨ (arrV _ _ _).slots.size ≤ _); rw [arrV_size]; exact hin) rfl rfl d fun H1 e1 z1 oq => ?_
  rw [nI_clamp (Nat.lt_trans hj hn), arrV_store] at e1
  rw [nI_clamp (Nat.lt_trans hj hn)]
  have hat : va_at D vwCl (ad o, pa dA ad (aI n (upd f j x))) H1 := by
    show H1[ad o]? = some (arrV (dA 0) n (fun q => .int (upd f j x q)))
    rw [e1]
    congr 2
    funext q
    by_cases hq : q = j
    · subst hq
      simp [updV, upd]
    · simp [updV, upd, hq]
  exact k l p e s m args below meth c C D dA ad0 σ0 K ad H1 _ ls (S.put (ne_of ho) trivial hat oq) (hS.put z1 oq (S.2.2 o (ne_of ho))) hl (fun i u hu => up_in (hL i u hu)) (up_clS (cl_t (cl_t (cl_t hst))))
theorem z_last {o n : Nat} {f : Nat → Int64} {i : Int32} {x : Int64} (d : decode cc pc = .ok (.lastore, 1))  (ho : σ o = some (aJ n f)) (j : Nat) (hi : i = nI j) (hj : j < n) (k : T y cc nL ret hh R Q QX (pc + 1) L st (up σ o (aJ n (vp_updL f j x))) cells slots) (hn : n < 2147483648 := by decide) : T y cc nL ret hh R Q QX pc L (.long x :: .int i :: .ref o :: st) σ cells slots := by
  intro l p e s m args below meth c C D dA ad0 σ0 K ad H locs ls S hS hl hL hst
  subst hi
  have hin : vp_in (nI j) n := vp_in_nI hj hn
  have hcell : H[ad o]? = some (arrV (dA 1) n (fun q => .long (f q))) := S.1.1 o _ ho
  refine W.last C.1 C.2.1 hcell ((K.1.2 1 _ rfl).1 n (fun q => .long (f q))) (fun q => by cases q) (by show ¬ (_ ∨ (arrV _ _ _).slots.size ≤ _); rw [arrV_size]; exact hin) rfl rfl d fun H1 e1 z1 oq => ?_
  rw [nI_clamp (Nat.lt_trans hj hn), arrV_store] at e1
  rw [nI_clamp (Nat.lt_trans hj hn)]
  have hat : va_at D vwCl (ad o, pa dA ad (aJ n (vp_updL f j x))) H1 := by
    show H1[ad o]? = some (arrV (dA 1) n (fun q => .long (vp_updL f j x q)))
    rw [e1]
    congr 2
    funext q
    by_cases hq : q = j
    · subst hq
      simp [updV, vp_updL]
    · simp [updV, vp_updL, hq]
  exact k l p e s m args below meth c C D dA ad0 σ0 K ad H1 _ ls (S.put (ne_of ho) trivial hat oq) (hS.put z1 oq (S.2.2 o (ne_of ho))) hl (fun i u hu => up_in (hL i u hu)) (up_clS (cl_t (cl_t (cl_t hst))))
theorem z_zast {o n : Nat} {f : Nat → Int32} {i : Int32} {x : Int32} (d : decode cc pc = .ok (.bastore, 1)) (hz : narrow .boolean (.int x) = .int x) (ho : σ o = some (aZ n f)) (j : Nat) (hi : i = nI j) (hj : j < n) (k : T y cc nL ret hh R Q QX (pc + 1) L st (up σ o (aZ n (upd f j x))) cells slots) (hn : n < 2147483648 := by decide) : T y cc nL ret hh R Q QX pc L (.int x :: .int i :: .ref o :: st) σ cells slots := by
  intro l p e s m args below meth c C D dA ad0 σ0 K ad H locs ls S hS hl hL hst
  subst hi
  have hin : vp_in (nI j) n := vp_in_nI hj hn
  have hcell : H[ad o]? = some (arrV (dA 2) n (fun q => .int (f q))) := S.1.1 o _ ho
  refine W.zast C.1 C.2.1 hcell ((K.1.2 2 _ rfl).1 n (fun q => .int (f q))) (fun q => by cases q) (by show ¬ (_ ∨ (arrV _ _ _).slots.size ≤ _); rw [arrV_size]; exact hin) rfl rfl d fun H1 e1 z1 oq => ?_
  rw [nI_clamp (Nat.lt_trans hj hn), arrV_store] at e1
  rw [nI_clamp (Nat.lt_trans hj hn)]
  have hat : va_at D vwCl (ad o, pa dA ad (aZ n (upd f j x))) H1 := by
    show H1[ad o]? = some (arrV (dA 2) n (fun q => .int (upd f j x q)))
    rw [e1]
    congr 2
    funext q
    by_cases hq : q = j
    · subst hq
      simp [updV, upd, hz]
    · simp [updV, upd, hq]
  exact k l p e s m args below meth c C D dA ad0 σ0 K ad H1 _ ls (S.put (ne_of ho) trivial hat oq) (hS.put z1 oq (S.2.2 o (ne_of ho))) hl (fun i u hu => up_in (hL i u hu)) (up_clS (cl_t (cl_t (cl_t hst))))
end TH
end
section
/-! CONTRACTS -/
def CP (D : va_G) (dA : Nat → ClassId) (ad : Nat → Nat) (sz : Nat) (av : List Value) (σ : Wd) : Array Value → State → Prop := va_Pc (av.map (vmv ad)) (fun U => U.heap.size = sz ∧ Rp D dA ad σ U.heap ∧ clS σ av ∧ Kx D dA (AA ad σ sz) U U.heap)
/-- method y, called with av in the world σ, returns with Q or throws with QX, within the room R -/
def Ct (y : MethodName) (cc : ByteArray) (nL : Nat) (ret : Option FieldType) (R : Room) (av : List Value) (σ : Wd) (Q : Option Value → Wd → Prop) (QX : String → Wd → Prop) : Prop :=
  ∀ (l : Launch), l.stackTraces = false → ∀ (D : va_G) (dA : Nat → ClassId) (ad : Nat → Nat) (sz : Nat), vx_Met l y (Cond.code y cc nL ret :: WT) R (CP D dA ad sz av σ) (Po D dA ad σ Q) (PoX D dA ad σ QX) R.cells R.slots (AA ad σ sz)
/-- .. of a method with an exception table -/
def CtH (y : MethodName) (cc : ByteArray) (nL : Nat) (ret : Option FieldType) (hh : List (Nat × Nat × Nat × Nat)) (R : Room) (av : List Value) (σ : Wd) (Q : Option Value → Wd → Prop) (QX : String → Wd → Prop) : Prop :=
  ∀ (l : Launch), l.stackTraces = false → ∀ (D : va_G) (dA : Nat → ClassId) (ad : Nat → Nat) (sz : Nat), vx_Met l y (Cond.codeWith y cc nL ret hh :: WT) R (CP D dA ad sz av σ) (Po D dA ad σ Q) (PoX D dA ad σ QX) R.cells R.slots (AA ad σ sz)
def lent : List Value → List (Option Value)
  | [] => []
  | v :: r => some v :: (bif Nat.beq v.category 2 then none :: lent r else lent r)
def lent0 (nL : Nat) (av : List Value) : List (Option Value) := lent av ++ List.replicate (nL - (lent av).length) none
theorem lent_len (ad : Nat → Nat) : ∀ av : List Value, (lg_sl (av.map (vmv ad))).length = (lent av).length
  | [] => rfl
  | v :: r => by
    have ih := lent_len ad r
    unfold lg_sl at ih ⊢
    rw [List.map_cons, List.flatMap_cons, List.length_append, ih, vmv_cat, show lent (v :: r) = some v :: (bif Nat.beq v.category 2 then none :: lent r else lent r) from rfl]
    by_cases h : v.category = 2
    · rw [if_pos h]
      have : Nat.beq v.category 2 = true := by rw [h]; rfl
      rw [this]
      simp only [cond_true, List.length_cons, List.length_nil]
      omega
    · rw [if_neg h]
      have : Nat.beq v.category 2 = false := by
        cases hb : Nat.beq v.category 2 with
        | true => exact absurd (Nat.eq_of_beq_eq_true hb) h
        | false => rfl
      rw [this]
      simp only [cond_false, List.length_cons, List.length_nil]
      omega
theorem lget_app_none {A : List (Option Value)} {k i : Nat} {v : Value} (h : lget (A ++ List.replicate k none) i = some v) : lget A i = some v := by
  unfold lget at h ⊢
  by_cases hi : i < A.length
  · rw [List.getElem?_append_left hi] at h; exact h
  · rw [List.getElem?_append_right (by omega)] at h
    by_cases hk : i - A.length < k
    · rw [List.getElem?_replicate_of_lt hk] at h; cases h
    · rw [List.getElem?_eq_none (by rw [List.length_replicate]; omega)] at h; cases h
theorem lent_args (ad : Nat → Nat) : ∀ (av : List Value) (i j : Nat) (v : Value), lget (lent av) i = some v → (i + j, vmv ad v) ∈ lv_args j (av.map (vmv ad))
  | [], i, j, v, h => by simp [lent, lget] at h
  | u :: r, i, j, v, h => by
    rw [List.map_cons]
    unfold lv_args
    rw [vmv_cat]
    unfold lent at h
    cases i with
    | zero =>
      have e : u = v := by simpa [lget] using h
      subst e
      rw [Nat.zero_add]
      exact List.mem_cons_self
    | succ i =>
      refine List.mem_cons_of_mem _ ?_
      have h : lget (bif Nat.beq u.category 2 then none :: lent r else lent r) i = some v := by simpa [lget] using h
      by_cases hc : u.category = 2
      · rw [if_pos hc]
        have : Nat.beq u.category 2 = true := by rw [hc]; rfl
        rw [this] at h
        cases i with
        | zero => simp [lget] at h
        | succ i =>
          have h : lget (lent r) i = some v := by simpa [lget] using h
          have := lent_args ad r i (j + 2) v h
          rwa [show i + 1 + 1 + j = i + (j + 2) by omega]
      · rw [if_neg hc]
        have : Nat.beq u.category 2 = false := by
          cases hb : Nat.beq u.category 2 with
          | true => exact absurd (Nat.eq_of_beq_eq_true hb) hc
          | false => rfl
        rw [this] at h
        have := lent_args ad r i (j + 1) v h
        rwa [show i + 1 + j = i + (j + 1) by omega]
theorem lget_mem {σ : Wd} : ∀ {av : List Value} {i : Nat} {v : Value}, lget (lent av) i = some v → v ∈ av
  | [], i, v, h => by simp [lent, lget] at h
  | u :: r, i, v, h => by
    unfold lent at h
    cases i with
    | zero =>
      have e : u = v := by simpa [lget] using h
      subst e
      exact List.mem_cons_self
    | succ i =>
      have h : lget (bif Nat.beq u.category 2 then none :: lent r else lent r) i = some v := by simpa [lget] using h
      refine List.mem_cons_of_mem _ ?_
      cases hb : Nat.beq u.category 2 with
      | true =>
        rw [hb] at h
        cases i with
        | zero => simp [lget] at h
        | succ i => exact lget_mem (σ := σ) (i := i) (by simpa [lget] using h)
      | false =>
        rw [hb] at h
        exact lget_mem (σ := σ) h
theorem Ct.intro {y : MethodName} {cc : ByteArray} {nL : Nat} {ret : Option FieldType} {R : Room} {av : List Value} {σ : Wd} {Q : Option Value → Wd → Prop} {QX : String → Wd → Prop} (hy : plainName y.cls = true) (hlen : (lent av).length ≤ nL) (h : T y cc nL ret [] R Q QX 0 (lent0 nL av) [] σ 0 0) : Ct y cc nL ret R av σ Q QX := by
  intro l hl D dA ad sz
  refine vx_ofW hy rfl ?_
  intro p e s m args below meth c s₁ B hml ht hv
  obtain ⟨rfl, hsz, hP, hcl, hK⟩ := hv
  subst hsz
  have hts := atoms_spec (ws := Cond.code y cc nL ret :: WT) B.pre
  have hown : s.vm.findClass y.cls = some m.cls := findClass_of_methodNamed B.named
  have hnm : meth.name = y.name := (name_of_methodNamed B.named B.method).1
  have hent := lv_entry (av.map (vmv ad)) (n := nL) (by rw [lent_len]; exact hlen)
  rw [lg_entry_eq]
  generalize (lg_sl (av.map (vmv ad)) ++ List.replicate (nL - (lg_sl (av.map (vmv ad))).length) Slot.unset).toArray = ls at hent ⊢
  have htab : c.exceptionTable.toList = tableOf [] := List.eq_nil_iff_forall_not_mem.mpr ht
  refine h l p e s m _ below meth c ⟨B.exec, B.bytes, hml, B.returns, B.notSynchronized, hnm, hown, fun w hw => hts w (List.mem_cons_of_mem _ hw), htab, hl⟩ D dA ad σ hK ad s.heap [] ls ⟨hP, fun n hn => ⟨hn, rfl⟩, fun n hn => Or.inl ⟨n, hn, rfl⟩⟩ va_S.rf ⟨hent.1, hent.2.1, fun i v hi => hent.2.2 _ (lent_args ad av i 0 v (lget_app_none hi))⟩ (fun i v hi => hcl v (lget_mem (σ := σ) (lget_app_none hi))) (fun v hv => by cases hv)
theorem CtH.intro {y : MethodName} {cc : ByteArray} {nL : Nat} {ret : Option FieldType} {hh : List (Nat × Nat × Nat × Nat)} {R : Room} {av : List Value} {σ : Wd} {Q : Option Value → Wd → Prop} {QX : String → Wd → Prop} (hy : plainName y.cls = true) (hlen : (lent av).length ≤ nL) (h : T y cc nL ret hh R Q QX 0 (lent0 nL av) [] σ 0 0) : CtH y cc nL ret hh R av σ Q QX := by
  intro l hl D dA ad sz
  refine vx_ofWH hy rfl ?_
  intro p e s m args below meth c s₁ B hml hv
  obtain ⟨rfl, hsz, hP, hcl, hK⟩ := hv
  subst hsz
  have hts := atoms_spec (ws := Cond.codeWith y cc nL ret hh :: WT) B.pre
  have hown : s.vm.findClass y.cls = some m.cls := findClass_of_methodNamed B.named
  have hnm : meth.name = y.name := (name_of_methodNamed B.named B.method).1
  have hent := lv_entry (av.map (vmv ad)) (n := nL) (by rw [lent_len]; exact hlen)
  rw [lg_entry_eq]
  generalize (lg_sl (av.map (vmv ad)) ++ List.replicate (nL - (lg_sl (av.map (vmv ad))).length) Slot.unset).toArray = ls at hent ⊢
  have htab : c.exceptionTable.toList = tableOf hh := vx_table (x := y) B (hts _ List.mem_cons_self)
  refine h l p e s m _ below meth c ⟨B.exec, B.bytes, hml, B.returns, B.notSynchronized, hnm, hown, fun w hw => hts w (List.mem_cons_of_mem _ hw), htab, hl⟩ D dA ad σ hK ad s.heap [] ls ⟨hP, fun n hn => ⟨hn, rfl⟩, fun n hn => Or.inl ⟨n, hn, rfl⟩⟩ va_S.rf ⟨hent.1, hent.2.1, fun i v hi => hent.2.2 _ (lent_args ad av i 0 v (lget_app_none hi))⟩ (fun i v hi => hcl v (lget_mem (σ := σ) (lget_app_none hi))) (fun v hv => by cases hv)
theorem Sr.trans {D : va_G} {dA : Nat → ClassId} {ad0 ad ad' : Nat → Nat} {σ0 σ σ' : Wd} {sz sz' : Nat} {H H' : Heap} (h : Sr D dA ad0 σ0 sz ad σ H) (hz : sz ≤ sz') (h' : Sr D dA ad σ sz' ad' σ' H') : Sr D dA ad0 σ0 sz ad' σ' H' := by
  refine ⟨h'.1, fun n hn => ?_, fun n hn => ?_⟩
  · obtain ⟨a1, a2⟩ := h.2.1 n hn
    obtain ⟨b1, b2⟩ := h'.2.1 n a1
    exact ⟨b1, b2.trans a2⟩
  · rcases h'.2.2 n hn with ⟨q, h1, h2⟩ | h1
    · rw [h2]; exact h.2.2 q h1
    · exact Or.inr (Nat.le_trans hz h1)
theorem Sr.sub {D : va_G} {dA : Nat → ClassId} {ad0 ad : Nat → Nat} {σ0 σ : Wd} {sz sz' : Nat} {H : Heap} (h : Sr D dA ad0 σ0 sz ad σ H) (hz : sz ≤ sz') : ∀ q, AA ad σ sz' q → AA ad0 σ0 sz q := by
  rintro q (⟨n, h1, h2⟩ | h1)
  · rw [h2]; exact h.2.2 n h1
  · exact Or.inr (Nat.le_trans hz h1)
theorem vmv_agree {ad ad' : Nat → Nat} {σ : Wd} {v : Value} (h : ∀ n, σ n ≠ none → ad' n = ad n) (hv : inD σ v) : vmv ad' v = vmv ad v := by
  cases v with
  | ref n => show Value.ref _ = Value.ref _; rw [h n (hv n rfl)]
  | _ => rfl
theorem CP_blind {D : va_G} {dA : Nat → ClassId} {ad : Nat → Nat} {sz : Nat} {av : List Value} {σ : Wd} : FrameBlind (CP D dA ad sz av σ) := by
  rintro a U g mk ⟨q0, q1, q2, q3, q4⟩
  exact ⟨q0, q1, q2, q3, Kx.moved (u := U) (U := U.calling g mk a) (Vm.Alike.refl U.vm) (State.WarmedH.refl U) q4⟩
theorem goodV {own : String} {idx : Nat} {y : MethodName} {cc : ByteArray} {nL : Nat} {ret : Option FieldType} {n : Nat} (hm : MV own idx y cc nL ret n) : GoodIn WT (wsV own idx y.cls y (Cond.code y cc nL ret :: WT)) := by
  obtain ⟨⟨h1, h2, h3, h4, h5⟩, -⟩ := hm
  intro w hw
  refine WT_good w ?_
  simp only [wsV, List.cons_append, List.nil_append, List.mem_cons] at hw
  rcases hw with rfl | rfl | rfl | rfl | rfl | hw
  · exact h1
  · exact h2
  · exact h3
  · exact h4
  · exact h5
  · exact hw
theorem goodS {own : String} {idx : Nat} {y : MethodName} {cc : ByteArray} {nL : Nat} {ret : Option FieldType} {n : Nat} (hm : MS own idx y cc nL ret n) : GoodIn WT (va_wsS own idx y (Cond.code y cc nL ret :: WT)) := by
  obtain ⟨⟨h1, h2, h3, h4⟩, -⟩ := hm
  intro w hw
  refine WT_good w ?_
  simp only [va_wsS, List.cons_append, List.nil_append, List.mem_cons] at hw
  rcases hw with rfl | rfl | rfl | rfl | hw
  · exact h1
  · exact h2
  · exact h3
  · exact h4
  · exact hw
theorem goodSW {own : String} {idx : Nat} {y : MethodName} {cc : ByteArray} {nL : Nat} {ret : Option FieldType} {hh : List (Nat × Nat × Nat × Nat)} {n : Nat} (hm : MSW own idx y cc nL ret hh n) : GoodIn WT (va_wsS own idx y (Cond.codeWith y cc nL ret hh :: WT)) := by
  obtain ⟨⟨h1, h2, h3, h4⟩, -⟩ := hm
  intro w hw
  refine WT_good w ?_
  simp only [va_wsS, List.cons_append, List.nil_append, List.mem_cons] at hw
  rcases hw with rfl | rfl | rfl | rfl | hw
  · exact h1
  · exact h2
  · exact h3
  · exact h4
  · exact hw
section TC
variable {y : MethodName} {cc : ByteArray} {nL : Nat} {ret : Option FieldType} {hh : List (Nat × Nat × Nat × Nat)} {R : Room} {Q : Option Value → Wd → Prop} {QX : String → Wd → Prop} {pc : Nat} {L : List (Option Value)} {st : List Value} {σ : Wd} {cells slots : Nat}
/-- behind a call: what came back, or what was thrown -/
theorem z_run {Q' : Option Value → Wd → Prop} {QX' : String → Wd → Prop} {mc ms : Nat} (k : ∀ r u, Q' r u → T y cc nL ret hh R Q QX (pc + 3) L (r.toList ++ st) u (cells + mc) (slots + ms)) (kx : ∀ E u, QX' E u → TX y cc nL ret hh R Q QX pc L E u (cells + mc) (slots + ms))
    {l : Launch} {p : Program} {e : Env} {s : State} {m : MethodId} {args : Array Value} {below : List Frame} {meth : Method} {c : Code} (C : Cx l y cc nL ret hh p s m args meth c) {D : va_G} {dA : Nat → ClassId} {ad0 : Nat → Nat} {σ0 : Wd} (K : Kx D dA (AA ad0 σ0 s.heap.size) s s.heap)
    {ad : Nat → Nat} {H : Heap} {locs : List Loc} {ls : Array Slot} (S : Sr D dA ad0 σ0 s.heap.size ad σ H) (hS : va_S (AA ad0 σ0 s.heap.size) s.heap H locs) (hl : Lr ad ls nL L) (hL : clL σ L) (hst : clS σ st) {st0 : List Value} {a : Array Value}
    (hr : vx_Run p l e R s m args below meth c H locs cells slots mc ms (F0 m pc ls st0) (st.map (vmv ad)) (Po D dA ad σ Q' a) (PoX D dA ad σ QX') (AA ad σ H.size)) :
    W p l e R s m args below meth c H locs cells slots (vx_MQ below (Po D dA ad0 σ0 Q) (PoX D dA ad0 σ0 QX) args s R.cells R.slots (AA ad0 σ0 s.heap.size)) (F0 m pc ls st0) := by
  intro T0 hT X
  have hA := S.sub (sz' := H.size) hS.1
  rcases hr T0 hT X with ⟨v, st₀, t, T', L9, h0, X', hL9, e1, e2, ⟨⟨ad', σ', r, hv, hQ, hSr, hin⟩, hF⟩, go⟩ | ⟨q, st₀, t, T', L9, E, ce, h0, X', hL9, e1, e2, ⟨⟨ad', σ', hQ, hSr⟩, hF⟩, hce, hcv, hcl, go⟩
  · rw [h0] at hSr hF
    have hz : st₀.heap.size = H.size := by rw [h0]
    obtain ⟨-, -, hS'⟩ := vx_keep (A1 := AA ad σ H.size) h0 e1 hS (fun q _ h => hA q h) hA hL9 hF
    have hag : ∀ n, σ n ≠ none → ad' n = ad n := fun n hn => (hSr.2.1 n hn).2
    have hv : v = r.map (vmv ad') := by cases hv; rfl
    have hstk : v.toList ++ st.map (vmv ad) = (r.toList ++ st).map (vmv ad') := by
      rw [List.map_append, hv]
      congr 1
      · cases r <;> rfl
      · exact List.map_congr_left fun u hu => (vmv_agree hag (hst u hu)).symm
    obtain ⟨t2, a1, b1⟩ := k r σ' hQ l p e s m args below meth c C D dA ad0 σ0 K ad' T'.heap (locs ++ L9) ls (S.trans hS.1 (by rw [e1]; exact hSr)) hS' ⟨hl.1, hl.2.1, fun i u hu => by rw [vmv_agree hag (hL i u hu)]; exact hl.2.2 i u hu⟩ (fun i u hu n hn => (hSr.2.1 n (hL i u hu n hn)).1)
      (cl_app.mpr ⟨fun u hu => hin u (by cases r with | none => cases hu | some z => rw [List.mem_singleton.mp hu]), fun u hu n hn => (hSr.2.1 n (hst u hu n hn)).1⟩) T' rfl X'
    rw [← hstk] at a1
    exact ⟨t2, go t2 a1, b1⟩
  · rw [h0] at hSr hF
    have hz : st₀.heap.size = H.size := by rw [h0]
    obtain ⟨-, -, hS'⟩ := vx_keep (A1 := AA ad σ H.size) h0 e1 hS (fun q _ h => hA q h) hA hL9 hF
    have hag : ∀ n, σ n ≠ none → ad' n = ad n := fun n hn => (hSr.2.1 n hn).2
    obtain ⟨t2, a1, b1⟩ := kx E σ' hQ l p e s m args below meth c C D dA ad0 σ0 K ad' T'.heap (locs ++ L9) ls (st.map (vmv ad)) q ce (S.trans hS.1 (by rw [e1]; exact hSr)) hS' ⟨hl.1, hl.2.1, fun i u hu => by rw [vmv_agree hag (hL i u hu)]; exact hl.2.2 i u hu⟩ (fun i u hu n hn => (hSr.2.1 n (hL i u hu n hn)).1)
      (by rw [e1]; exact hce) hcv hcl T' rfl X'
    exact ⟨t2, go.trans a1, b1⟩
theorem z_pre {av : List Value} {s : State} {D : va_G} {dA : Nat → ClassId} {ad0 ad : Nat → Nat} {σ0 : Wd} {H : Heap} {locs : List Loc} (K : Kx D dA (AA ad0 σ0 s.heap.size) s s.heap) (S : Sr D dA ad0 σ0 s.heap.size ad σ H) (hS : va_S (AA ad0 σ0 s.heap.size) s.heap H locs) (hav : clS σ av) : ∀ U : State, U.heap = H → s.WarmedH U.vm → CP D dA ad H.size av σ (av.map (vmv ad)).toArray U := by
  intro U hU hW
  refine ⟨rfl, by rw [hU], by rw [hU]; exact S.1, hav, ?_⟩
  rw [hU]
  exact ((K.moved hW.alike hW).kept (fun a h1 h2 => hS.2.1 a h1 h2)).narrow (S.sub hS.1)
theorem z_sum {ad : Nat → Nat} {m : MethodId} {ls : Array Slot} {st0 : List Value} (hw : (st.map Value.category).sum ≤ 8) : 2 * (F0 m pc ls st0).monitorRoom + ((st.map (vmv ad)).map fun v => v.category).sum ≤ 8 := by
  have e : ((st.map (vmv ad)).map fun v => v.category) = st.map Value.category := by rw [List.map_map]; exact List.map_congr_left fun v _ => vmv_cat ad v
  rw [e]
  have h0 : (F0 m pc ls st0).monitorRoom = 0 := rfl
  rw [h0]
  omega

theorem z_callVX {y' : MethodName} {cc' : ByteArray} {nL' n idx : Nat} {ret' : Option FieldType} {R' : Room} {av : List Value} {Q' : Option Value → Wd → Prop} {QX' : String → Wd → Prop} {st0 : List Value} {o ci : Nat} {fs : List Value} (hc : Ct y' cc' nL' ret' R' (.ref o :: av) σ Q' QX') (hm : MV y.cls idx y' cc' nL' ret' n) (d : decode cc pc = .ok (.invokevirtual idx, 3)) (ho : σ o = some (.inr (ci, fs))) (hci : (vwCl[ci]?).map (·.1) = some y'.cls) (hst0 : st0 = av.reverse ++ .ref o :: st) (hn : av.length = n) (hR : R'.frames + 1 ≤ R.frames ∧ 8 + (nL' + 11) + R'.locals ≤ R.locals) (hw : (st.map Value.category).sum ≤ 8) (hcs : cells + R'.cells ≤ R.cells ∧ slots + R'.slots ≤ R.slots) (kx : ∀ E u, QX' E u → TX y cc nL ret hh R Q QX pc L E u (cells + R'.cells) (slots + R'.slots)) (k : ∀ r u, Q' r u → T y cc nL ret hh R Q QX (pc + 3) L (r.toList ++ st) u (cells + R'.cells) (slots + R'.slots)) : T y cc nL ret hh R Q QX pc L st0 σ cells slots := by
  intro l p e s m args below meth c C D dA ad0 σ0 K ad H locs ls S hS hl hL hst
  subst hst0
  obtain ⟨c1, c2⟩ := cl_app.mp hst
  have hav : clS σ (.ref o :: av) := cl_c (cl_h c2) (cl_rev c1)
  obtain ⟨q9, hq9, hq8⟩ := Option.map_eq_some_iff.mp hci
  have hrun := vx_runV (H := H) (b := ad o) (As := av.map (vmv ad)) (rest := st.map (vmv ad)) (g := F0 m pc ls ((av.reverse ++ .ref o :: st).map (vmv ad))) (below := below) (e := e) (locs := locs) (meth := meth) (cells := cells) (slots := slots) ⟨C.1, C.2.1, C.2.2.1, C.2.2.2.2.2.2.1, C.2.2.2.2.2.2.2.1⟩ (hc l C.2.2.2.2.2.2.2.2.2 D dA ad H.size) (cwV n C.2.2.2.2.2.2.2.1 (goodV hm) rfl rfl rfl ⟨rfl, hm.2⟩ hR) ⟨CP_blind, by
      obtain ⟨cell, e1, e2, e3⟩ := va_recv K.1 (S.1.one ho) (ci := ci) (q0 := 0) hq9 rfl
      exact ⟨cell, e1, e2, by rw [← hq8]; exact e3⟩, z_pre K S hS hav⟩ rfl (by rw [List.length_map]; exact hn) hl.1 (by simp [List.map_append, List.map_reverse, vmv]) (z_sum hw) d hcs
  exact z_run k kx C K S hS hl hL (cl_t c2) hrun
theorem z_callSX {y' : MethodName} {cc' : ByteArray} {nL' n idx : Nat} {ret' : Option FieldType} {R' : Room} {av : List Value} {Q' : Option Value → Wd → Prop} {QX' : String → Wd → Prop} {st0 : List Value} (hc : Ct y' cc' nL' ret' R' av σ Q' QX') (hm : MS y.cls idx y' cc' nL' ret' n) (d : decode cc pc = .ok (.invokestatic idx, 3)) (hst0 : st0 = av.reverse ++ st) (hn : av.length = n) (hR : R'.frames + 1 ≤ R.frames ∧ 8 + (nL' + 11) + R'.locals ≤ R.locals) (hw : (st.map Value.category).sum ≤ 8) (hcs : cells + R'.cells ≤ R.cells ∧ slots + R'.slots ≤ R.slots) (kx : ∀ E u, QX' E u → TX y cc nL ret hh R Q QX pc L E u (cells + R'.cells) (slots + R'.slots)) (k : ∀ r u, Q' r u → T y cc nL ret hh R Q QX (pc + 3) L (r.toList ++ st) u (cells + R'.cells) (slots + R'.slots)) : T y cc nL ret hh R Q QX pc L st0 σ cells slots := by
  intro l p e s m args below meth c C D dA ad0 σ0 K ad H locs ls S hS hl hL hst
  subst hst0
  obtain ⟨c1, c2⟩ := cl_app.mp hst
  have hrun := vx_runS (H := H) (As := av.map (vmv ad)) (rest := st.map (vmv ad)) (g := F0 m pc ls ((av.reverse ++ st).map (vmv ad))) (below := below) (e := e) (locs := locs) (meth := meth) (cells := cells) (slots := slots) ⟨C.1, C.2.1, C.2.2.1, C.2.2.2.2.2.2.1, C.2.2.2.2.2.2.2.1⟩ (hc l C.2.2.2.2.2.2.2.2.2 D dA ad H.size) (va_cwS n C.2.2.2.2.2.2.2.1 (goodS hm) rfl rfl rfl hm.2 hR) ⟨CP_blind, z_pre K S hS (cl_rev c1)⟩ rfl (by rw [List.length_map]; exact hn) hl.1 (by simp [List.map_append, List.map_reverse]) (z_sum hw) d hcs
  exact z_run k kx C K S hS hl hL c2 hrun
theorem z_callSW {y' : MethodName} {cc' : ByteArray} {nL' n idx : Nat} {ret' : Option FieldType} {R' : Room} {av : List Value} {Q' : Option Value → Wd → Prop} {QX' : String → Wd → Prop} {st0 : List Value} {hh' : List (Nat × Nat × Nat × Nat)} (hc : CtH y' cc' nL' ret' hh' R' av σ Q' QX') (hm : MSW y.cls idx y' cc' nL' ret' hh' n) (d : decode cc pc = .ok (.invokestatic idx, 3)) (hst0 : st0 = av.reverse ++ st) (hn : av.length = n) (hR : R'.frames + 1 ≤ R.frames ∧ 8 + (nL' + 11) + R'.locals ≤ R.locals) (hw : (st.map Value.category).sum ≤ 8) (hcs : cells + R'.cells ≤ R.cells ∧ slots + R'.slots ≤ R.slots) (kx : ∀ E u, QX' E u → TX y cc nL ret hh R Q QX pc L E u (cells + R'.cells) (slots + R'.slots)) (k : ∀ r u, Q' r u → T y cc nL ret hh R Q QX (pc + 3) L (r.toList ++ st) u (cells + R'.cells) (slots + R'.slots)) : T y cc nL ret hh R Q QX pc L st0 σ cells slots := by
  intro l p e s m args below meth c C D dA ad0 σ0 K ad H locs ls S hS hl hL hst
  subst hst0
  obtain ⟨c1, c2⟩ := cl_app.mp hst
  have hrun := vx_runSX (H := H) (As := av.map (vmv ad)) (rest := st.map (vmv ad)) (g := F0 m pc ls ((av.reverse ++ st).map (vmv ad))) (below := below) (e := e) (locs := locs) (meth := meth) (cells := cells) (slots := slots) ⟨C.1, C.2.1, C.2.2.1, C.2.2.2.2.2.2.1, C.2.2.2.2.2.2.2.1⟩ (hc l C.2.2.2.2.2.2.2.2.2 D dA ad H.size) (vx_cwSW n C.2.2.2.2.2.2.2.1 (goodSW hm) rfl rfl rfl hm.2 hR) ⟨CP_blind, z_pre K S hS (cl_rev c1)⟩ rfl (by rw [List.length_map]; exact hn) hl.1 (by simp [List.map_append, List.map_reverse]) (z_sum hw) d hcs
  exact z_run k kx C K S hS hl hL c2 hrun
end TC
end
section
section TN
variable {y : MethodName} {cc : ByteArray} {nL : Nat} {ret : Option FieldType} {hh : List (Nat × Nat × Nat × Nat)} {R : Room} {Q : Option Value → Wd → Prop} {QX : String → Wd → Prop} {pc : Nat} {L : List (Option Value)} {st : List Value} {σ : Wd} {cells slots : Nat}
theorem Ct.met {av : List Value} {Q : Option Value → Wd → Prop} (h : Ct y cc nL ret R av σ Q (fun _ _ => False)) {l : Launch} (hl : l.stackTraces = false) (D : va_G) (dA : Nat → ClassId) (ad : Nat → Nat) (sz : Nat) : Met l y (Cond.code y cc nL ret :: WT) R (CP D dA ad sz av σ) (Po D dA ad σ Q) R.cells R.slots (AA ad σ sz) := by
  intro p e a1 a2 a3 s m args below a4 a5 a6 a7
  obtain ⟨n, oc, b1, b2, b3, b4⟩ := h l hl D dA ad sz p e a1 a2 a3 s m args below a4 a5 a6 a7
  refine ⟨n, oc, b1, b2, b3, ?_⟩
  rcases b4 with b4 | ⟨q, -, E, ce, L9, ⟨⟨ad9, σ9, hf, -⟩, -⟩, -⟩
  · exact b4
  · exact hf.elim
theorem vx_of_va {p : Program} {l : Launch} {e : Env} {R : Room} {s : State} {m : MethodId} {args : Array Value} {below : List Frame} {meth : Method} {c : Code} {H : Heap} {locs : List Loc} {cells slots mc ms : Nat} {g : JFrame} {rest : List Value} {Qa : State → Outcome → State → Prop} {free : Addr → Prop} {XC : String → State → State → Prop} (h : va_Run p l e R s m args below meth c H locs cells slots mc ms g rest Qa free) : vx_Run p l e R s m args below meth c H locs cells slots mc ms g rest Qa XC free := fun T hT X => Or.inl (h T hT X)

theorem z_callI {y' : MethodName} {cc' : ByteArray} {nL' n idx : Nat} {R' : Room} {av : List Value} {Q' : Option Value → Wd → Prop} {st0 : List Value} {o : Nat} (hc : Ct y' cc' nL' none R' (.ref o :: av) σ Q' (fun _ _ => False)) (hm : MI y.cls idx y' cc' nL' n) (d : decode cc pc = .ok (.invokespecial idx, 3)) (hst0 : st0 = av.reverse ++ .ref o :: st) (hn : av.length = n) (hR : R'.frames + 1 ≤ R.frames ∧ 8 + (nL' + 11) + R'.locals ≤ R.locals) (hw : (st.map Value.category).sum ≤ 8) (hcs : cells + R'.cells ≤ R.cells ∧ slots + R'.slots ≤ R.slots) (k : ∀ r u, Q' r u → T y cc nL ret hh R Q QX (pc + 3) L (r.toList ++ st) u (cells + R'.cells) (slots + R'.slots)) : T y cc nL ret hh R Q QX pc L st0 σ cells slots := by
  intro l p e s m args below meth c C D dA ad0 σ0 K ad H locs ls S hS hl hL hst
  subst hst0
  obtain ⟨c1, c2⟩ := cl_app.mp hst
  have hts := C.2.2.2.2.2.2.2.1
  have hG : GoodIn WT (Cond.code y' cc' nL' none :: WT) := fun w hw => WT_good w (by
    rcases List.mem_cons.mp hw with rfl | hw
    · exact hm.1.2.2.2.1
    · exact hw)
  have hrun := va_runI (H := H) (b := ad o) (As := av.map (vmv ad)) (rest := st.map (vmv ad)) (g := F0 m pc ls ((av.reverse ++ .ref o :: st).map (vmv ad))) (below := below) (e := e) (locs := locs) (meth := meth) (cells := cells) (slots := slots) ⟨C.1, C.2.1, C.2.2.1, C.2.2.2.2.2.2.1, hts⟩ (hc.met C.2.2.2.2.2.2.2.2.2 D dA ad H.size) (cwI n hts hG rfl rfl rfl (hts _ hm.1.2.2.1) (hts _ hm.1.1) (hts _ hm.1.2.1) hm.1.2.2.2.2 hm.2 hR) ⟨CP_blind, z_pre K S hS (cl_c (cl_h c2) (cl_rev c1))⟩ rfl (by rw [List.length_map]; exact hn) hl.1 (by simp [List.map_append, List.map_reverse, vmv]) (z_sum hw) d hcs
  exact z_run (QX' := fun _ _ => False) k (fun _ _ h => h.elim) C K S hS hl hL (cl_t c2) (vx_of_va hrun)
/-- Atom's own constructor, private in the nest, called by Formula -/
theorem z_callIN {cc' : ByteArray} {nL' : Nat} {R' : Room} {Q' : Option Value → Wd → Prop} {st0 : List Value} {o : Nat} (hy : y.cls = RX3) (hc : Ct yX0_init cc' nL' none R' [.ref o] σ Q' (fun _ _ => False)) (hcode : Cond.code yX0_init cc' nL' none ∈ WT) (hin : Cond.instanceMethod yX0_init ∈ WT) (hini : Cond.initialized yX0_init.cls ∈ WT) (d : decode cc pc = .ok (.invokespecial 30, 3)) (hst0 : st0 = .ref o :: st) (hR : R'.frames + 1 ≤ R.frames ∧ 8 + (nL' + 11) + R'.locals ≤ R.locals) (hw : (st.map Value.category).sum ≤ 8) (hcs : cells + R'.cells ≤ R.cells ∧ slots + R'.slots ≤ R.slots) (k : ∀ r u, Q' r u → T y cc nL ret hh R Q QX (pc + 3) L (r.toList ++ st) u (cells + R'.cells) (slots + R'.slots)) : T y cc nL ret hh R Q QX pc L st0 σ cells slots := by
  intro l p e s m args below meth c C D dA ad0 σ0 K ad H locs ls S hS hl hL hst
  subst hst0
  have hts := C.2.2.2.2.2.2.2.1
  have hG : GoodIn WT (Cond.code yX0_init cc' nL' none :: WT) := fun w hw => WT_good w (by
    rcases List.mem_cons.mp hw with rfl | hw
    · exact hcode
    · exact hw)
  have hrun := va_runIN (H := H) (host := RX6) (index := 30) (own := RX3) (b := ad o) (As := []) (rest := st.map (vmv ad)) (g := F0 m pc ls ((.ref o :: st).map (vmv ad))) (below := below) (e := e) (locs := locs) (meth := meth) (cells := cells) (slots := slots) ⟨C.1, C.2.1, C.2.2.1, by rw [← hy]; exact C.2.2.2.2.2.2.1, hts⟩ (hc.met C.2.2.2.2.2.2.2.2.2 D dA ad H.size) ⟨va_cnB 0 hts hG rfl rfl rfl K.2.2.1 (hts _ hini) (by decide +kernel) hR, rfl, hts _ hin⟩ ⟨CP_blind, z_pre (av := [.ref o]) K S hS (cl_c (cl_h hst) (fun v hv => by cases hv))⟩ rfl rfl hl.1 rfl (z_sum hw) d hcs
  exact z_run (QX' := fun _ _ => False) k (fun _ _ h => h.elim) C K S hS hl hL (cl_t hst) (vx_of_va hrun)
theorem z_objInit {idx o : Nat} (hm : Cond.methodLink y.cls idx objectInit ∈ WT) (hi : Cond.instanceMethod objectInit ∈ WT) (hco : Cond.code objectInit ⟨#[0xb1]⟩ 1 none ∈ WT) (d : decode cc pc = .ok (.invokespecial idx, 3)) (hf : 1 ≤ R.frames) (hlo : (st.map Value.category).sum + 12 ≤ R.locals) (k : T y cc nL ret hh R Q QX (pc + 3) L st σ cells slots) : T y cc nL ret hh R Q QX pc L (.ref o :: st) σ cells slots := by
  intro l p e s m args below meth c C D dA ad0 σ0 K ad H locs ls S hS hl hL hst
  have hts := C.2.2.2.2.2.2.2.1
  have e9 : (((st.map (vmv ad)).map fun v => v.category)).sum = (st.map Value.category).sum := by rw [List.map_map]; exact congrArg List.sum (List.map_congr_left fun v _ => vmv_cat ad v)
  refine W.objInit C.1 C.2.1 C.2.2.2.2.2.2.1 (hts _ hm) (hts _ hi) (hts _ hco) (g := F0 m pc ls ((.ref o :: st).map (vmv ad))) (a := ad o) (rest := st.map (vmv ad)) rfl (hl.1.trans C.2.2.1.symm) rfl d hf (by rw [e9]; have h0 : (F0 m pc ls ((.ref o :: st).map (vmv ad))).monitorRoom = 0 := rfl; rw [h0]; omega) ?_
  exact k l p e s m args below meth c C D dA ad0 σ0 K ad H locs ls S hS hl hL (cl_t hst)
theorem z_new {idx ci N : Nat} {Cn : String} {Tt : u_T} {ty0 : Nat → FieldType} (hc : Cls ci Cn Tt N ty0) (hk : Cond.classLink y.cls idx Cn ∈ WT) (hi : Cond.instantiable Cn N ∈ WT) (hini : Cond.initialized Cn ∈ WT) (d : decode cc pc = .ok (.new idx, 3)) (q : Nat) (hq : σ q = none) (fs : List Value) (hfs : ∀ j, j < N → defaultValue (ty0 j) = vp_V fs j) (hfr : ∀ ad, fs.map (vmv ad) = fs) (hfc : ∀ v ∈ fs, ∀ n, v ≠ .ref n) (hcells : cells + 1 ≤ R.cells) (hslots : slots + N ≤ R.slots) (k : T y cc nL ret hh R Q QX (pc + 3) L (.ref q :: st) (up σ q (.inr (ci, fs))) (cells + 1) (slots + N)) : T y cc nL ret hh R Q QX pc L st σ cells slots := by
  intro l p e s m args below meth c C D dA ad0 σ0 K ad H locs ls S hS hl hL hst
  have hts := C.2.2.2.2.2.2.2.1
  have hKn := K.1.1 ci _ hc.1
  refine W.newcK C.1 C.2.1 C.2.2.2.2.2.2.1 (hts _ hk) (hts _ hi) (hts _ hini) rfl d hcells hslots hKn.2.1 rfl fun H1 kC hkC e1 z1 o1 => ?_
  have hat : va_at D vwCl (H.size, pa dA ad (.inr (ci, fs))) H1 := by
    refine ⟨_, hc.1, ?_⟩
    show t_OB H.size (D.1 ci) N (D.2 ci) H1 (vp_V (fs.map (vmv ad)))
    rw [hfr]
    exact (u_born ty0 hts hc.2.1 hKn hkC e1 hc.2.2.1).to hfs
  have hcl9 : clC σ (.inr (ci, fs)) := fun v hv n e => absurd e (hfc v hv n)
  have h9 := k l p e s m args below meth c C D dA ad0 σ0 K (va_up ad q H.size) H1 _ ls (S.new hS.1 hq hcl9 hat o1) ⟨Nat.le_trans hS.1 (by omega), fun x h1 h2 => (o1 x (Nat.lt_of_lt_of_le h1 hS.1)).trans (hS.2.1 x h1 h2), hS.2.2⟩ ⟨hl.1, hl.2.1, fun i u hu => by rw [vmv_up hq (hL i u hu)]; exact hl.2.2 i u hu⟩ (fun i u hu => up_in (hL i u hu)) (cl_c (cl_r (ne_of (up_self σ q _))) (up_clS hst))
  rw [List.map_cons, vmv_ups hq hst, show vmv (va_up ad q H.size) (.ref q) = .ref H.size from congrArg Value.ref (va_up_self ad q _)] at h9
  exact h9
theorem z_newaI {N : Nat} {n : Int32} (harr : Cond.arrayClass .int ∈ WT) (d : decode cc pc = .ok (.newarray .int, 2)) (q : Nat) (hq : σ q = none) (hn : n = nI N) (hN : N < 100000) (hcells : cells + 1 ≤ R.cells) (hslots : slots + N ≤ R.slots) (k : T y cc nL ret hh R Q QX (pc + 2) L (.ref q :: st) (up σ q (aI N (fun _ => 0))) (cells + 1) (slots + N)) : T y cc nL ret hh R Q QX pc L (.int n :: st) σ cells slots := by
  intro l p e s m args below meth c C D dA ad0 σ0 K ad H locs ls S hS hl hL hst
  have hts := C.2.2.2.2.2.2.2.1
  subst hn
  refine va_newaK C.1 C.2.1 (atype := .int) (hts _ harr) (g := F0 m pc ls ((.int (nI N) :: st).map (vmv ad))) rfl d rfl (nI_pos (by omega)) (nI_clamp (by omega)) (by show N * 4 ≤ 536870912; omega) hcells hslots rfl fun H1 cA e1 z1 o1 hAr hNm => ?_
  have hcA : cA = dA 0 := Option.some.inj (hNm.symm.trans (K.1.2 0 _ rfl).2)
  subst hcA
  have hat : va_at D vwCl (H.size, pa dA ad (aI N (fun _ => 0))) H1 := e1
  have h9 := k l p e s m args below meth c C D dA ad0 σ0 K (va_up ad q H.size) H1 _ ls (S.new hS.1 hq trivial hat o1) ⟨Nat.le_trans hS.1 (by omega), fun x h1 h2 => (o1 x (Nat.lt_of_lt_of_le h1 hS.1)).trans (hS.2.1 x h1 h2), hS.2.2⟩ ⟨hl.1, hl.2.1, fun i u hu => by rw [vmv_up hq (hL i u hu)]; exact hl.2.2 i u hu⟩ (fun i u hu => up_in (hL i u hu)) (cl_c (cl_r (ne_of (up_self σ q _))) (up_clS (cl_t hst)))
  rw [List.map_cons, vmv_ups hq (cl_t hst), show vmv (va_up ad q H.size) (.ref q) = .ref H.size from congrArg Value.ref (va_up_self ad q _)] at h9
  exact h9
theorem z_newaJ {N : Nat} {n : Int32} (harr : Cond.arrayClass .long ∈ WT) (d : decode cc pc = .ok (.newarray .long, 2)) (q : Nat) (hq : σ q = none) (hn : n = nI N) (hN : N < 100000) (hcells : cells + 1 ≤ R.cells) (hslots : slots + N ≤ R.slots) (k : T y cc nL ret hh R Q QX (pc + 2) L (.ref q :: st) (up σ q (aJ N (fun _ => 0))) (cells + 1) (slots + N)) : T y cc nL ret hh R Q QX pc L (.int n :: st) σ cells slots := by
  intro l p e s m args below meth c C D dA ad0 σ0 K ad H locs ls S hS hl hL hst
  have hts := C.2.2.2.2.2.2.2.1
  subst hn
  refine va_newaK C.1 C.2.1 (atype := .long) (hts _ harr) (g := F0 m pc ls ((.int (nI N) :: st).map (vmv ad))) rfl d rfl (nI_pos (by omega)) (nI_clamp (by omega)) (by show N * 8 ≤ 536870912; omega) hcells hslots rfl fun H1 cA e1 z1 o1 hAr hNm => ?_
  have hcA : cA = dA 1 := Option.some.inj (hNm.symm.trans (K.1.2 1 _ rfl).2)
  subst hcA
  have hat : va_at D vwCl (H.size, pa dA ad (aJ N (fun _ => 0))) H1 := e1
  have h9 := k l p e s m args below meth c C D dA ad0 σ0 K (va_up ad q H.size) H1 _ ls (S.new hS.1 hq trivial hat o1) ⟨Nat.le_trans hS.1 (by omega), fun x h1 h2 => (o1 x (Nat.lt_of_lt_of_le h1 hS.1)).trans (hS.2.1 x h1 h2), hS.2.2⟩ ⟨hl.1, hl.2.1, fun i u hu => by rw [vmv_up hq (hL i u hu)]; exact hl.2.2 i u hu⟩ (fun i u hu => up_in (hL i u hu)) (cl_c (cl_r (ne_of (up_self σ q _))) (up_clS (cl_t hst)))
  rw [List.map_cons, vmv_ups hq (cl_t hst), show vmv (va_up ad q H.size) (.ref q) = .ref H.size from congrArg Value.ref (va_up_self ad q _)] at h9
  exact h9
theorem z_newaZ {N : Nat} {n : Int32} (harr : Cond.arrayClass .boolean ∈ WT) (d : decode cc pc = .ok (.newarray .boolean, 2)) (q : Nat) (hq : σ q = none) (hn : n = nI N) (hN : N < 100000) (hcells : cells + 1 ≤ R.cells) (hslots : slots + N ≤ R.slots) (k : T y cc nL ret hh R Q QX (pc + 2) L (.ref q :: st) (up σ q (aZ N (fun _ => 0))) (cells + 1) (slots + N)) : T y cc nL ret hh R Q QX pc L (.int n :: st) σ cells slots := by
  intro l p e s m args below meth c C D dA ad0 σ0 K ad H locs ls S hS hl hL hst
  have hts := C.2.2.2.2.2.2.2.1
  subst hn
  refine va_newaK C.1 C.2.1 (atype := .boolean) (hts _ harr) (g := F0 m pc ls ((.int (nI N) :: st).map (vmv ad))) rfl d rfl (nI_pos (by omega)) (nI_clamp (by omega)) (by show N * 1 ≤ 536870912; omega) hcells hslots rfl fun H1 cA e1 z1 o1 hAr hNm => ?_
  have hcA : cA = dA 2 := Option.some.inj (hNm.symm.trans (K.1.2 2 _ rfl).2)
  subst hcA
  have hat : va_at D vwCl (H.size, pa dA ad (aZ N (fun _ => 0))) H1 := e1
  have h9 := k l p e s m args below meth c C D dA ad0 σ0 K (va_up ad q H.size) H1 _ ls (S.new hS.1 hq trivial hat o1) ⟨Nat.le_trans hS.1 (by omega), fun x h1 h2 => (o1 x (Nat.lt_of_lt_of_le h1 hS.1)).trans (hS.2.1 x h1 h2), hS.2.2⟩ ⟨hl.1, hl.2.1, fun i u hu => by rw [vmv_up hq (hL i u hu)]; exact hl.2.2 i u hu⟩ (fun i u hu => up_in (hL i u hu)) (cl_c (cl_r (ne_of (up_self σ q _))) (up_clS (cl_t hst)))
  rw [List.map_cons, vmv_ups hq (cl_t hst), show vmv (va_up ad q H.size) (.ref q) = .ref H.size from congrArg Value.ref (va_up_self ad q _)] at h9
  exact h9
theorem z_anew {N idx : Nat} {n : Int32} (hk : Cond.classLink y.cls idx RX0 ∈ WT) (d : decode cc pc = .ok (.anewarray idx, 3)) (q : Nat) (hq : σ q = none) (hn : n = nI N) (hN : N < 100000) (hcells : cells + 1 ≤ R.cells) (hslots : slots + N ≤ R.slots) (k : T y cc nL ret hh R Q QX (pc + 3) L (.ref q :: st) (up σ q (aR N (fun _ => none))) (cells + 1) (slots + N)) : T y cc nL ret hh R Q QX pc L (.int n :: st) σ cells slots := by
  intro l p e s m args below meth c C D dA ad0 σ0 K ad H locs ls S hS hl hL hst
  have hts := C.2.2.2.2.2.2.2.1
  subst hn
  have hcl0 : (nI N).toNatClampNeg = N := nI_clamp (by omega)
  refine W.anew C.1 C.2.1 C.2.2.2.2.2.2.1 (hts _ hk) (va_AO.use K.2.1) (g := F0 m pc ls ((.int (nI N) :: st).map (vmv ad))) rfl d rfl (nI_pos (by omega)) (by rw [hcl0]; omega) hcells (by rw [hcl0]; exact hslots) fun cA kA comp f1 f2 f3 f4 => ?_
  rw [hcl0]
  generalize hH1 : H.push ({ cls := cA, slots := Array.replicate N .null, vm := .none } : Cell) = H1
  have z1 : H1.size = H.size + 1 := by rw [← hH1, Array.size_push]
  have e1 : H1[H.size]? = some (arrV cA N (fun _ => .null)) := by rw [← hH1, Array.getElem?_push_size, ← arrV_new]
  have o1 : ∀ q : Nat, q < H.size → H1[q]? = H[q]? := fun q hq => by rw [← hH1, Array.getElem?_push, if_neg (Nat.ne_of_lt hq)]
  obtain ⟨kA9, comp9, g1, g2, g3, g4⟩ := (K.1.2 3 _ rfl).2
  have hcA : cA = dA 3 := Option.some.inj (f1.symm.trans g4)
  subst hcA
  have hat : va_at D vwCl (H.size, pa dA ad (aR N (fun _ => none))) H1 := e1
  have hcl9 : clC σ (aR N (fun _ => none)) := fun j m e => by cases e
  have h9 := k l p e s m args below meth c C D dA ad0 σ0 K (va_up ad q H.size) H1 _ ls (S.new hS.1 hq hcl9 hat o1) ⟨Nat.le_trans hS.1 (by omega), fun x h1 h2 => (o1 x (Nat.lt_of_lt_of_le h1 hS.1)).trans (hS.2.1 x h1 h2), hS.2.2⟩ ⟨hl.1, hl.2.1, fun i u hu => by rw [vmv_up hq (hL i u hu)]; exact hl.2.2 i u hu⟩ (fun i u hu => up_in (hL i u hu)) (cl_c (cl_r (ne_of (up_self σ q _))) (up_clS (cl_t hst)))
  rw [List.map_cons, vmv_ups hq (cl_t hst), show vmv (va_up ad q H.size) (.ref q) = .ref H.size from congrArg Value.ref (va_up_self ad q _)] at h9
  exact h9
theorem z_aast {o n a : Nat} {g : Nat → Option Nat} {i : Int32} {vs : List Value} (d : decode cc pc = .ok (.aastore, 1)) (ho : σ o = some (aR n g)) (ha : σ a = some (.inr (0, vs))) (j : Nat) (hi : i = nI j) (hj : j < n) (k : T y cc nL ret hh R Q QX (pc + 1) L st (up σ o (aR n (va_up g j (some a)))) cells slots) (hn : n < 2147483648 := by decide) : T y cc nL ret hh R Q QX pc L (.ref a :: .int i :: .ref o :: st) σ cells slots := by
  intro l p e s m args below meth c C D dA ad0 σ0 K ad H locs ls S hS hl hL hst
  subst hi
  have hin : vp_in (nI j) n := vp_in_nI hj hn
  have hcl0 : (nI j).toNatClampNeg = j := nI_clamp (Nat.lt_trans hj hn)
  have h0 : ¬ nI j < 0 := fun q => hin (Or.inl q)
  have hcell : H[ad o]? = some (arrV (dA 3) n (fun q => va_rf ((g q).map ad))) := S.1.1 o _ ho
  obtain ⟨r', hr', cellV, g1, g2, g3, -⟩ := S.1.1 a _ ha
  have hcls := (K.1.1 0 _ rfl).2
  obtain ⟨kA, comp, k1, k2, k3, -⟩ := (K.1.2 3 _ rfl).2
  have hcomp : comp = D.1 0 := Option.some.inj (k3.symm.trans hcls.1)
  subst hcomp
  obtain ⟨kC, hkC, -⟩ := hcls.2
  refine W.aast C.1 C.2.1 hcell (fun q h => by cases h) (fun h => by cases h) k1 k2 rfl hkC ⟨h0, by show _ < (arrV _ _ _).slots.size; rw [arrV_size, hcl0]; exact hj⟩ g1 (fun q h => by rw [g3] at h; cases h) (by rw [g2]; exact hkC) (by rw [g2]; exact va_assign hcls) rfl rfl d fun H1 e1 z1 oq => ?_
  rw [hcl0, arrV_store] at e1
  rw [hcl0]
  have hat : va_at D vwCl (ad o, pa dA ad (aR n (va_up g j (some a)))) H1 := by
    show H1[ad o]? = some (arrV (dA 3) n (fun q => va_rf ((va_up g j (some a) q).map ad)))
    rw [e1]
    congr 2
    funext q
    by_cases hq : q = j
    · subst hq
      simp [updV, va_up, va_rf, vmv]
    · simp [updV, va_up, hq]
  have hcl9 : clC σ (aR n (va_up g j (some a))) := fun q m9 e9 => by
    by_cases hq : q = j
    · subst hq; rw [va_up_self] at e9; cases e9; exact ne_of ha
    · rw [va_up_ne _ _ hq] at e9; exact S.1.2.2 o _ ho q m9 e9
  exact k l p e s m args below meth c C D dA ad0 σ0 K ad H1 _ ls (S.put (ne_of ho) hcl9 hat oq) (hS.put z1 oq (S.2.2 o (ne_of ho))) hl (fun i u hu => up_in (hL i u hu)) (up_clS (cl_t (cl_t (cl_t hst))))
theorem z_aret {x : Nat} {rt : FieldType} (d : decode cc pc = .ok (.areturn, 1)) (hr : ret = some rt) (hrt : (∃ n, rt = .object n) ∨ ∃ t, rt = .array t) (hc : cells ≤ R.cells) (hs : slots ≤ R.slots) (hq : Q (some (.ref x)) σ) : T y cc nL ret hh R Q QX pc L [.ref x] σ cells slots := by
  intro l p e s m args below meth c C D dA ad0 σ0 K ad H locs ls S hS hl hL hst
  refine W.widen hc hs (vx_ret ?_)
  exact W.aret C.1 C.2.1 (C.2.2.2.1.trans hr) hrt (Or.inr ⟨_, rfl⟩) (fun t ht hW => ⟨⟨ad, σ, some (.ref x), rfl, hq, by rw [ht]; exact S, fun v e => by cases e; exact cl_h hst⟩, hS.F ht⟩) hS.2.2 d C.2.2.2.2.1
/-- a throw that nothing here catches goes on to the caller -/
theorem z_out {E : String} (hh0 : hh = []) (hc : cells ≤ R.cells) (hs : slots ≤ R.slots) (hq : QX E σ) : TX y cc nL ret hh R Q QX pc L E σ cells slots := by
  intro l p e s m args below meth c C D dA ad0 σ0 K ad H locs ls rest q ce S hS hl hL hce hcv hcl
  have ht : c.exceptionTable.toList = [] := by rw [C.2.2.2.2.2.2.2.2.1, hh0]; rfl
  exact vx_out (E := E) (ce := ce) (fun x hx => by rw [ht] at hx; cases hx) C.2.2.2.2.1 hce hcv hcl (fun t ht hW => ⟨⟨ad, σ, hq, by rw [ht]; exact S⟩, hS.F ht⟩) hS.2.2 hc hs
end TN
end
section
abbrev xN : List String := ["java/lang/RuntimeException", "java/lang/Exception"]
/-- what a throw of E at the constant ic of y's class needs of the words -/
def TW (own : String) (ic : Nat) (E : String) : Prop := (∀ w ∈ vx_atS own ic E xN, w ∈ lw_tbl) ∧ (∀ w ∈ (vx_atS own ic E xN).filter (fun w => !goodWord w), w ∈ fcTab) ∧ (∀ w ∈ vx_atS own ic E xN, vx_ot w = true)
theorem tw_iae : TW RX6 45 "java/lang/IllegalArgumentException" := ⟨by decide +kernel, by decide +kernel, by decide +kernel⟩
theorem tw_ise : TW RX6 67 "java/lang/IllegalStateException" := ⟨by decide +kernel, by decide +kernel, by decide +kernel⟩
theorem tw_ioobe : TW RX6 134 "java/lang/IndexOutOfBoundsException" := ⟨by decide +kernel, by decide +kernel, by decide +kernel⟩
theorem z_throwS {y : MethodName} {cc : ByteArray} {nL : Nat} {ret : Option FieldType} {hh : List (Nat × Nat × Nat × Nat)} {R : Room} {Q : Option Value → Wd → Prop} {QX : String → Wd → Prop} {pc : Nat} {L : List (Option Value)} {st : List Value} {σ : Wd} {cells slots : Nat}
    {E text : String} {ik is ic : Nat} (hh0 : hh = []) (htw : TW y.cls ic E) (hk : Cond.classLink y.cls ik E ∈ WT) (hini : Cond.initialized E ∈ WT) (hs : (y.cls, is, text) ∈ strTab) (hfit : Bundle.fit E = true)
    (d0 : decode cc pc = .ok (.new ik, 3)) (d3 : decode cc (pc + 3) = .ok (.dup, 1)) (d4 : decode cc (pc + 4) = .ok (.ldc is, 2)) (d6 : decode cc (pc + 6) = .ok (.invokespecial ic, 3)) (d9 : decode cc (pc + 9) = .ok (.athrow, 1))
    (hfr : 5 < R.frames) (hlo : (st.map Value.category).sum + 82 ≤ R.locals) (hc : cells + 1 ≤ R.cells) (hsl : slots + 6 ≤ R.slots) (hq : QX E σ) : T y cc nL ret hh R Q QX pc L st σ cells slots := by
  intro l p e s m args below meth c C D dA ad0 σ0 K ad H locs ls S hS hl hL hst
  have hts := C.2.2.2.2.2.2.2.1
  obtain ⟨sa, hsa⟩ := K.2.2.2.1 _ hs
  have ht : c.exceptionTable.toList = [] := by rw [C.2.2.2.2.2.2.2.2.1, hh0]; rfl
  have e9 : (((st.map (vmv ad)).map fun v => v.category)).sum = (st.map Value.category).sum := by rw [List.map_map]; exact congrArg List.sum (List.map_congr_left fun v _ => vmv_cat ad v)
  have hat : ∀ w ∈ vx_atS y.cls ic E xN, w.before args s = true := vx_hat (B := fcTab) (fun w hw => hts w (WT_of (htw.1 w (List.mem_filter.mp hw).1) (List.mem_filter.mp hw).2)) htw.2.1 (fun w hw => va_Nw.use (fc_ok w hw).1 (K.2.2.2.2.2.1 w hw))
  have hgood : ∀ w ∈ Cond.classLink y.cls ik E :: Cond.initialized E :: vx_atS y.cls ic E xN, vx_ot w = true := by
    intro w hw
    rcases List.mem_cons.mp hw with rfl | hw
    · rfl
    · rcases List.mem_cons.mp hw with rfl | hw
      · rfl
      · exact htw.2.2 w hw
  refine vx_throwS C.1 C.2.1 C.2.2.2.2.2.2.2.2.2 C.2.2.2.2.2.2.1 hfit (by decide +kernel) (hts _ hk) (hts _ hini) hsa hat hgood K.2.2.2.2.2.2.1 K.2.2.2.2.2.2.2 hS (hl.1.trans C.2.2.1.symm) d0 d3 d4 d6 d9 (fun x hx => by rw [ht] at hx; cases hx) (by exact hfr) (by rw [e9]; exact hlo) hc hsl C.2.2.2.2.1 (fun t hW hz hq9 => ?_) hS.2.2 hc hsl
  have hR1 : Rp D dA ad σ t.heap := ⟨fun n d hd => (S.1.1 n d hd).kept (hq9 _ (S.1.1 n d hd).lt), S.1.2⟩
  exact ⟨⟨ad, σ, hq, hR1, S.2⟩, ⟨Nat.le_trans hS.1 hz, fun q h1 h2 => (hq9 q (Nat.lt_of_lt_of_le h1 hS.1)).trans (hS.2.1 q h1 h2)⟩⟩
theorem z_throwSW {y : MethodName} {cc : ByteArray} {nL : Nat} {ret : Option FieldType} {hh : List (Nat × Nat × Nat × Nat)} {R : Room} {Q : Option Value → Wd → Prop} {QX : String → Wd → Prop} {pc : Nat} {L : List (Option Value)} {st : List Value} {σ : Wd} {cells slots : Nat}
    {E text : String} {ik is ic : Nat} (hh0 : hh = []) (htw : TW y.cls ic E) (hk : Cond.classLink y.cls ik E ∈ WT) (hini : Cond.initialized E ∈ WT) (hs : (y.cls, is, text) ∈ strTab) (hfit : Bundle.fit E = true)
    (d0 : decode cc pc = .ok (.new ik, 3)) (d3 : decode cc (pc + 3) = .ok (.dup, 1)) (d4 : decode cc (pc + 4) = .ok (.ldc_w is, 3)) (d6 : decode cc (pc + 7) = .ok (.invokespecial ic, 3)) (d9 : decode cc (pc + 10) = .ok (.athrow, 1))
    (hfr : 5 < R.frames) (hlo : (st.map Value.category).sum + 82 ≤ R.locals) (hc : cells + 1 ≤ R.cells) (hsl : slots + 6 ≤ R.slots) (hq : QX E σ) : T y cc nL ret hh R Q QX pc L st σ cells slots := by
  intro l p e s m args below meth c C D dA ad0 σ0 K ad H locs ls S hS hl hL hst
  have hts := C.2.2.2.2.2.2.2.1
  obtain ⟨sa, hsa⟩ := K.2.2.2.1 _ hs
  have ht : c.exceptionTable.toList = [] := by rw [C.2.2.2.2.2.2.2.2.1, hh0]; rfl
  have e9 : (((st.map (vmv ad)).map fun v => v.category)).sum = (st.map Value.category).sum := by rw [List.map_map]; exact congrArg List.sum (List.map_congr_left fun v _ => vmv_cat ad v)
  have hat : ∀ w ∈ vx_atS y.cls ic E xN, w.before args s = true := vx_hat (B := fcTab) (fun w hw => hts w (WT_of (htw.1 w (List.mem_filter.mp hw).1) (List.mem_filter.mp hw).2)) htw.2.1 (fun w hw => va_Nw.use (fc_ok w hw).1 (K.2.2.2.2.2.1 w hw))
  have hgood : ∀ w ∈ Cond.classLink y.cls ik E :: Cond.initialized E :: vx_atS y.cls ic E xN, vx_ot w = true := by
    intro w hw
    rcases List.mem_cons.mp hw with rfl | hw
    · rfl
    · rcases List.mem_cons.mp hw with rfl | hw
      · rfl
      · exact htw.2.2 w hw
  refine vx_throwSW C.1 C.2.1 C.2.2.2.2.2.2.2.2.2 C.2.2.2.2.2.2.1 hfit (by decide +kernel) (hts _ hk) (hts _ hini) hsa hat hgood K.2.2.2.2.2.2.1 K.2.2.2.2.2.2.2 hS (hl.1.trans C.2.2.1.symm) d0 d3 d4 d6 d9 (fun x hx => by rw [ht] at hx; cases hx) (by exact hfr) (by rw [e9]; exact hlo) hc hsl C.2.2.2.2.1 (fun t hW hz hq9 => ?_) hS.2.2 hc hsl
  have hR1 : Rp D dA ad σ t.heap := ⟨fun n d hd => (S.1.1 n d hd).kept (hq9 _ (S.1.1 n d hd).lt), S.1.2⟩
  exact ⟨⟨ad, σ, hq, hR1, S.2⟩, ⟨Nat.le_trans hS.1 hz, fun q h1 h2 => (hq9 q (Nat.lt_of_lt_of_le h1 hS.1)).trans (hS.2.1 q h1 h2)⟩⟩
end
