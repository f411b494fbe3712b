section
-- ===== PART A: goes FIRST, ahead of the names: the tables' words, and 'selects' of the private methods out of them =====
/-- a private method of a class that the tables say can be made, by its rows of tables_1 -/
def lw_okq (q : MethodName × Nat) : Prop := (q.1.cls ≠ "java/lang/invoke/MethodHandle" ∧ q.1.cls ≠ "java/lang/invoke/VarHandle") ∧ Cond.instantiable q.1.cls q.2 ∈ tables_1 ∧ Cond.privateMethod q.1 ∈ tables_1 ∧ Cond.instanceMethod q.1 ∈ tables_1
theorem lw_p0 : lw_okq (⟨"CrowdDesk$Atom", "reduce", "(I)I"⟩, 8) := ⟨⟨by decide +kernel, by decide +kernel⟩, List.mem_of_getElem? (i := 33) (by decide +kernel), List.mem_of_getElem? (i := 210) (by decide +kernel), List.mem_of_getElem? (i := 211) (by decide +kernel)⟩
theorem lw_p1 : lw_okq (⟨"CrowdDesk$Atom", "opinionOf", "(I)Z"⟩, 8) := ⟨⟨by decide +kernel, by decide +kernel⟩, List.mem_of_getElem? (i := 33) (by decide +kernel), List.mem_of_getElem? (i := 223) (by decide +kernel), List.mem_of_getElem? (i := 224) (by decide +kernel)⟩
theorem lw_p2 : lw_okq (⟨"CrowdDesk$Formula", "evaluate", "(I)Z"⟩, 8) := ⟨⟨by decide +kernel, by decide +kernel⟩, List.mem_of_getElem? (i := 26) (by decide +kernel), List.mem_of_getElem? (i := 255) (by decide +kernel), List.mem_of_getElem? (i := 256) (by decide +kernel)⟩
theorem lw_p3 : lw_okq (⟨"CrowdDesk$Formula", "nodeTruth", "(III)I"⟩, 8) := ⟨⟨by decide +kernel, by decide +kernel⟩, List.mem_of_getElem? (i := 26) (by decide +kernel), List.mem_of_getElem? (i := 259) (by decide +kernel), List.mem_of_getElem? (i := 260) (by decide +kernel)⟩
theorem lw_p4 : lw_okq (⟨"java/lang/Throwable", "fillInStackTrace", "(I)Ljava/lang/Throwable;"⟩, 6) := ⟨⟨by decide +kernel, by decide +kernel⟩, List.mem_of_getElem? (i := 320) (by decide +kernel), List.mem_of_getElem? (i := 318) (by decide +kernel), List.mem_of_getElem? (i := 319) (by decide +kernel)⟩
theorem lw_p5 : lw_okq (⟨"CrowdDesk$Atom", "findStates", "()V"⟩, 8) := ⟨⟨by decide +kernel, by decide +kernel⟩, List.mem_of_getElem? (i := 33) (by decide +kernel), List.mem_of_getElem? (i := 461) (by decide +kernel), List.mem_of_getElem? (i := 462) (by decide +kernel)⟩
theorem lw_p6 : lw_okq (⟨"CrowdDesk$Atom", "learn", "(I)V"⟩, 8) := ⟨⟨by decide +kernel, by decide +kernel⟩, List.mem_of_getElem? (i := 33) (by decide +kernel), List.mem_of_getElem? (i := 470) (by decide +kernel), List.mem_of_getElem? (i := 471) (by decide +kernel)⟩
theorem lw_p7 : lw_okq (⟨"CrowdDesk$Atom", "learnBoth", "(I)V"⟩, 8) := ⟨⟨by decide +kernel, by decide +kernel⟩, List.mem_of_getElem? (i := 33) (by decide +kernel), List.mem_of_getElem? (i := 475) (by decide +kernel), List.mem_of_getElem? (i := 476) (by decide +kernel)⟩
theorem lw_p8 : lw_okq (⟨"CrowdDesk$Atom", "numberStates", "()V"⟩, 8) := ⟨⟨by decide +kernel, by decide +kernel⟩, List.mem_of_getElem? (i := 33) (by decide +kernel), List.mem_of_getElem? (i := 481) (by decide +kernel), List.mem_of_getElem? (i := 482) (by decide +kernel)⟩
theorem lw_p9 : lw_okq (⟨"CrowdDesk$Atom", "countRules", "()V"⟩, 8) := ⟨⟨by decide +kernel, by decide +kernel⟩, List.mem_of_getElem? (i := 33) (by decide +kernel), List.mem_of_getElem? (i := 485) (by decide +kernel), List.mem_of_getElem? (i := 486) (by decide +kernel)⟩
theorem lw_p10 : lw_okq (⟨"CrowdDesk$Atom", "isRule", "(II)Z"⟩, 8) := ⟨⟨by decide +kernel, by decide +kernel⟩, List.mem_of_getElem? (i := 33) (by decide +kernel), List.mem_of_getElem? (i := 489) (by decide +kernel), List.mem_of_getElem? (i := 490) (by decide +kernel)⟩
theorem lw_p11 : lw_okq (⟨"CrowdDesk$Crowd", "sweepOnce", "()I"⟩, 5) := ⟨⟨by decide +kernel, by decide +kernel⟩, List.mem_of_getElem? (i := 90) (by decide +kernel), List.mem_of_getElem? (i := 571) (by decide +kernel), List.mem_of_getElem? (i := 572) (by decide +kernel)⟩
theorem lw_p12 : lw_okq (⟨"CrowdDesk$Crowd", "behindLastLeader", "()I"⟩, 5) := ⟨⟨by decide +kernel, by decide +kernel⟩, List.mem_of_getElem? (i := 90) (by decide +kernel), List.mem_of_getElem? (i := 575) (by decide +kernel), List.mem_of_getElem? (i := 576) (by decide +kernel)⟩
theorem lw_p13 : lw_okq (⟨"CrowdDesk$Search", "sortNext", "()V"⟩, 8) := ⟨⟨by decide +kernel, by decide +kernel⟩, List.mem_of_getElem? (i := 643) (by decide +kernel), List.mem_of_getElem? (i := 684) (by decide +kernel), List.mem_of_getElem? (i := 685) (by decide +kernel)⟩
theorem lw_p14 : lw_okq (⟨"CrowdDesk$Search", "slotOfNext", "()I"⟩, 8) := ⟨⟨by decide +kernel, by decide +kernel⟩, List.mem_of_getElem? (i := 643) (by decide +kernel), List.mem_of_getElem? (i := 688) (by decide +kernel), List.mem_of_getElem? (i := 689) (by decide +kernel)⟩
theorem lw_p15 : lw_okq (⟨"CrowdDesk$Search", "isNext", "(I)Z"⟩, 8) := ⟨⟨by decide +kernel, by decide +kernel⟩, List.mem_of_getElem? (i := 643) (by decide +kernel), List.mem_of_getElem? (i := 693) (by decide +kernel), List.mem_of_getElem? (i := 694) (by decide +kernel)⟩
def lw_privs_1 : List (MethodName × Nat) := [(⟨"CrowdDesk$Atom", "reduce", "(I)I"⟩, 8), (⟨"CrowdDesk$Atom", "opinionOf", "(I)Z"⟩, 8), (⟨"CrowdDesk$Formula", "evaluate", "(I)Z"⟩, 8), (⟨"CrowdDesk$Formula", "nodeTruth", "(III)I"⟩, 8), (⟨"java/lang/Throwable", "fillInStackTrace", "(I)Ljava/lang/Throwable;"⟩, 6), (⟨"CrowdDesk$Atom", "findStates", "()V"⟩, 8), (⟨"CrowdDesk$Atom", "learn", "(I)V"⟩, 8), (⟨"CrowdDesk$Atom", "learnBoth", "(I)V"⟩, 8), (⟨"CrowdDesk$Atom", "numberStates", "()V"⟩, 8), (⟨"CrowdDesk$Atom", "countRules", "()V"⟩, 8), (⟨"CrowdDesk$Atom", "isRule", "(II)Z"⟩, 8), (⟨"CrowdDesk$Crowd", "sweepOnce", "()I"⟩, 5), (⟨"CrowdDesk$Crowd", "behindLastLeader", "()I"⟩, 5), (⟨"CrowdDesk$Search", "sortNext", "()V"⟩, 8), (⟨"CrowdDesk$Search", "slotOfNext", "()I"⟩, 8), (⟨"CrowdDesk$Search", "isNext", "(I)Z"⟩, 8)]
theorem lw_r1 : ∀ q ∈ lw_privs_1, lw_okq q := List.forall_mem_cons.mpr ⟨lw_p0, List.forall_mem_cons.mpr ⟨lw_p1, List.forall_mem_cons.mpr ⟨lw_p2, List.forall_mem_cons.mpr ⟨lw_p3, List.forall_mem_cons.mpr ⟨lw_p4, List.forall_mem_cons.mpr ⟨lw_p5, List.forall_mem_cons.mpr ⟨lw_p6, List.forall_mem_cons.mpr ⟨lw_p7, List.forall_mem_cons.mpr ⟨lw_p8, List.forall_mem_cons.mpr ⟨lw_p9, List.forall_mem_cons.mpr ⟨lw_p10, List.forall_mem_cons.mpr ⟨lw_p11, List.forall_mem_cons.mpr ⟨lw_p12, List.forall_mem_cons.mpr ⟨lw_p13, List.forall_mem_cons.mpr ⟨lw_p14, List.forall_mem_cons.mpr ⟨lw_p15, fun _ h => absurd h List.not_mem_nil⟩⟩⟩⟩⟩⟩⟩⟩⟩⟩⟩⟩⟩⟩⟩⟩
theorem lw_p16 : lw_okq (⟨"CrowdDesk$Search", "keepNext", "(I)V"⟩, 8) := ⟨⟨by decide +kernel, by decide +kernel⟩, List.mem_of_getElem? (i := 643) (by decide +kernel), List.mem_of_getElem? (i := 697) (by decide +kernel), List.mem_of_getElem? (i := 698) (by decide +kernel)⟩
theorem lw_p17 : lw_okq (⟨"CrowdDesk$Search", "keepAllAfter", "(II)Z"⟩, 8) := ⟨⟨by decide +kernel, by decide +kernel⟩, List.mem_of_getElem? (i := 643) (by decide +kernel), List.mem_of_getElem? (i := 701) (by decide +kernel), List.mem_of_getElem? (i := 702) (by decide +kernel)⟩
theorem lw_p18 : lw_okq (⟨"CrowdDesk$Search", "stepToNext", "(III)Z"⟩, 8) := ⟨⟨by decide +kernel, by decide +kernel⟩, List.mem_of_getElem? (i := 643) (by decide +kernel), List.mem_of_getElem? (i := 705) (by decide +kernel), List.mem_of_getElem? (i := 706) (by decide +kernel)⟩
theorem lw_p19 : lw_okq (⟨"CrowdDesk$Search", "isRightEnd", "(IZ)Z"⟩, 8) := ⟨⟨by decide +kernel, by decide +kernel⟩, List.mem_of_getElem? (i := 643) (by decide +kernel), List.mem_of_getElem? (i := 724) (by decide +kernel), List.mem_of_getElem? (i := 725) (by decide +kernel)⟩
theorem lw_p20 : lw_okq (⟨"CrowdDesk$Search", "leadsToRightEnd", "(I)Z"⟩, 8) := ⟨⟨by decide +kernel, by decide +kernel⟩, List.mem_of_getElem? (i := 643) (by decide +kernel), List.mem_of_getElem? (i := 730) (by decide +kernel), List.mem_of_getElem? (i := 731) (by decide +kernel)⟩
theorem lw_p21 : lw_okq (⟨"CrowdDesk", "checkTable", "(III)V"⟩, 4) := ⟨⟨by decide +kernel, by decide +kernel⟩, List.mem_of_getElem? (i := 18) (by decide +kernel), List.mem_of_getElem? (i := 741) (by decide +kernel), List.mem_of_getElem? (i := 742) (by decide +kernel)⟩
theorem lw_p22 : lw_okq (⟨"CrowdDesk$Atom", "firstOfRule", "(I)I"⟩, 8) := ⟨⟨by decide +kernel, by decide +kernel⟩, List.mem_of_getElem? (i := 33) (by decide +kernel), List.mem_of_getElem? (i := 764) (by decide +kernel), List.mem_of_getElem? (i := 765) (by decide +kernel)⟩
theorem lw_p23 : lw_okq (⟨"CrowdDesk$Atom", "secondOfRule", "(II)I"⟩, 8) := ⟨⟨by decide +kernel, by decide +kernel⟩, List.mem_of_getElem? (i := 33) (by decide +kernel), List.mem_of_getElem? (i := 768) (by decide +kernel), List.mem_of_getElem? (i := 769) (by decide +kernel)⟩
theorem lw_p24 : lw_okq (⟨"CrowdDeskModel", "full", "()Z"⟩, 25) := ⟨⟨by decide +kernel, by decide +kernel⟩, List.mem_of_getElem? (i := 784) (by decide +kernel), List.mem_of_getElem? (i := 882) (by decide +kernel), List.mem_of_getElem? (i := 883) (by decide +kernel)⟩
theorem lw_p25 : lw_okq (⟨"CrowdDeskModel", "atom", "(II)I"⟩, 25) := ⟨⟨by decide +kernel, by decide +kernel⟩, List.mem_of_getElem? (i := 784) (by decide +kernel), List.mem_of_getElem? (i := 886) (by decide +kernel), List.mem_of_getElem? (i := 887) (by decide +kernel)⟩
theorem lw_p26 : lw_okq (⟨"CrowdDeskModel", "node", "(III)I"⟩, 25) := ⟨⟨by decide +kernel, by decide +kernel⟩, List.mem_of_getElem? (i := 784) (by decide +kernel), List.mem_of_getElem? (i := 890) (by decide +kernel), List.mem_of_getElem? (i := 891) (by decide +kernel)⟩
theorem lw_p27 : lw_okq (⟨"CrowdDeskModel", "findStates", "(I)V"⟩, 25) := ⟨⟨by decide +kernel, by decide +kernel⟩, List.mem_of_getElem? (i := 784) (by decide +kernel), List.mem_of_getElem? (i := 906) (by decide +kernel), List.mem_of_getElem? (i := 907) (by decide +kernel)⟩
theorem lw_p28 : lw_okq (⟨"CrowdDeskModel", "firstState", "(II)I"⟩, 25) := ⟨⟨by decide +kernel, by decide +kernel⟩, List.mem_of_getElem? (i := 784) (by decide +kernel), List.mem_of_getElem? (i := 910) (by decide +kernel), List.mem_of_getElem? (i := 911) (by decide +kernel)⟩
theorem lw_p29 : lw_okq (⟨"CrowdDeskModel", "opinionOf", "(II)Z"⟩, 25) := ⟨⟨by decide +kernel, by decide +kernel⟩, List.mem_of_getElem? (i := 784) (by decide +kernel), List.mem_of_getElem? (i := 914) (by decide +kernel), List.mem_of_getElem? (i := 915) (by decide +kernel)⟩
theorem lw_p30 : lw_okq (⟨"CrowdDeskModel", "stateOf", "(IZIZ)I"⟩, 25) := ⟨⟨by decide +kernel, by decide +kernel⟩, List.mem_of_getElem? (i := 784) (by decide +kernel), List.mem_of_getElem? (i := 918) (by decide +kernel), List.mem_of_getElem? (i := 919) (by decide +kernel)⟩
theorem lw_p31 : lw_okq (⟨"CrowdDeskModel", "meeting", "(III)V"⟩, 25) := ⟨⟨by decide +kernel, by decide +kernel⟩, List.mem_of_getElem? (i := 784) (by decide +kernel), List.mem_of_getElem? (i := 922) (by decide +kernel), List.mem_of_getElem? (i := 923) (by decide +kernel)⟩
def lw_privs_2 : List (MethodName × Nat) := [(⟨"CrowdDesk$Search", "keepNext", "(I)V"⟩, 8), (⟨"CrowdDesk$Search", "keepAllAfter", "(II)Z"⟩, 8), (⟨"CrowdDesk$Search", "stepToNext", "(III)Z"⟩, 8), (⟨"CrowdDesk$Search", "isRightEnd", "(IZ)Z"⟩, 8), (⟨"CrowdDesk$Search", "leadsToRightEnd", "(I)Z"⟩, 8), (⟨"CrowdDesk", "checkTable", "(III)V"⟩, 4), (⟨"CrowdDesk$Atom", "firstOfRule", "(I)I"⟩, 8), (⟨"CrowdDesk$Atom", "secondOfRule", "(II)I"⟩, 8), (⟨"CrowdDeskModel", "full", "()Z"⟩, 25), (⟨"CrowdDeskModel", "atom", "(II)I"⟩, 25), (⟨"CrowdDeskModel", "node", "(III)I"⟩, 25), (⟨"CrowdDeskModel", "findStates", "(I)V"⟩, 25), (⟨"CrowdDeskModel", "firstState", "(II)I"⟩, 25), (⟨"CrowdDeskModel", "opinionOf", "(II)Z"⟩, 25), (⟨"CrowdDeskModel", "stateOf", "(IZIZ)I"⟩, 25), (⟨"CrowdDeskModel", "meeting", "(III)V"⟩, 25)]
theorem lw_r2 : ∀ q ∈ lw_privs_2, lw_okq q := List.forall_mem_cons.mpr ⟨lw_p16, List.forall_mem_cons.mpr ⟨lw_p17, List.forall_mem_cons.mpr ⟨lw_p18, List.forall_mem_cons.mpr ⟨lw_p19, List.forall_mem_cons.mpr ⟨lw_p20, List.forall_mem_cons.mpr ⟨lw_p21, List.forall_mem_cons.mpr ⟨lw_p22, List.forall_mem_cons.mpr ⟨lw_p23, List.forall_mem_cons.mpr ⟨lw_p24, List.forall_mem_cons.mpr ⟨lw_p25, List.forall_mem_cons.mpr ⟨lw_p26, List.forall_mem_cons.mpr ⟨lw_p27, List.forall_mem_cons.mpr ⟨lw_p28, List.forall_mem_cons.mpr ⟨lw_p29, List.forall_mem_cons.mpr ⟨lw_p30, List.forall_mem_cons.mpr ⟨lw_p31, fun _ h => absurd h List.not_mem_nil⟩⟩⟩⟩⟩⟩⟩⟩⟩⟩⟩⟩⟩⟩⟩⟩
theorem lw_p32 : lw_okq (⟨"CrowdDeskModel", "stateCount", "(I)I"⟩, 25) := ⟨⟨by decide +kernel, by decide +kernel⟩, List.mem_of_getElem? (i := 784) (by decide +kernel), List.mem_of_getElem? (i := 929) (by decide +kernel), List.mem_of_getElem? (i := 930) (by decide +kernel)⟩
theorem lw_p33 : lw_okq (⟨"CrowdDeskModel", "noAgent", "(I)Z"⟩, 25) := ⟨⟨by decide +kernel, by decide +kernel⟩, List.mem_of_getElem? (i := 784) (by decide +kernel), List.mem_of_getElem? (i := 945) (by decide +kernel), List.mem_of_getElem? (i := 946) (by decide +kernel)⟩
theorem lw_p34 : lw_okq (⟨"CrowdDeskModel", "meets", "(IIZ)Z"⟩, 25) := ⟨⟨by decide +kernel, by decide +kernel⟩, List.mem_of_getElem? (i := 784) (by decide +kernel), List.mem_of_getElem? (i := 949) (by decide +kernel), List.mem_of_getElem? (i := 950) (by decide +kernel)⟩
theorem lw_p35 : lw_okq (⟨"CrowdDeskModel", "outputOf", "(I)Z"⟩, 25) := ⟨⟨by decide +kernel, by decide +kernel⟩, List.mem_of_getElem? (i := 784) (by decide +kernel), List.mem_of_getElem? (i := 961) (by decide +kernel), List.mem_of_getElem? (i := 962) (by decide +kernel)⟩
theorem lw_p36 : lw_okq (⟨"CrowdDeskModel", "formula", "()Z"⟩, 25) := ⟨⟨by decide +kernel, by decide +kernel⟩, List.mem_of_getElem? (i := 784) (by decide +kernel), List.mem_of_getElem? (i := 965) (by decide +kernel), List.mem_of_getElem? (i := 966) (by decide +kernel)⟩
theorem lw_p37 : lw_okq (⟨"CrowdDeskModel", "truthNow", "()Z"⟩, 25) := ⟨⟨by decide +kernel, by decide +kernel⟩, List.mem_of_getElem? (i := 784) (by decide +kernel), List.mem_of_getElem? (i := 980) (by decide +kernel), List.mem_of_getElem? (i := 981) (by decide +kernel)⟩
theorem lw_p38 : lw_okq (⟨"CrowdDeskModel", "sort", "()V"⟩, 25) := ⟨⟨by decide +kernel, by decide +kernel⟩, List.mem_of_getElem? (i := 784) (by decide +kernel), List.mem_of_getElem? (i := 996) (by decide +kernel), List.mem_of_getElem? (i := 997) (by decide +kernel)⟩
theorem lw_p39 : lw_okq (⟨"CrowdDeskModel", "find", "(Z)I"⟩, 25) := ⟨⟨by decide +kernel, by decide +kernel⟩, List.mem_of_getElem? (i := 784) (by decide +kernel), List.mem_of_getElem? (i := 1000) (by decide +kernel), List.mem_of_getElem? (i := 1001) (by decide +kernel)⟩
theorem lw_p40 : lw_okq (⟨"CrowdDeskModel", "after", "(III)Z"⟩, 25) := ⟨⟨by decide +kernel, by decide +kernel⟩, List.mem_of_getElem? (i := 784) (by decide +kernel), List.mem_of_getElem? (i := 1006) (by decide +kernel), List.mem_of_getElem? (i := 1007) (by decide +kernel)⟩
theorem lw_p41 : lw_okq (⟨"CrowdDeskModel", "silentCrowd", "(I)Z"⟩, 25) := ⟨⟨by decide +kernel, by decide +kernel⟩, List.mem_of_getElem? (i := 784) (by decide +kernel), List.mem_of_getElem? (i := 1017) (by decide +kernel), List.mem_of_getElem? (i := 1018) (by decide +kernel)⟩
theorem lw_p42 : lw_okq (⟨"CrowdDeskModel", "rightCrowd", "(IZ)Z"⟩, 25) := ⟨⟨by decide +kernel, by decide +kernel⟩, List.mem_of_getElem? (i := 784) (by decide +kernel), List.mem_of_getElem? (i := 1021) (by decide +kernel), List.mem_of_getElem? (i := 1022) (by decide +kernel)⟩
theorem lw_p43 : lw_okq (⟨"CrowdDeskModel", "leadsToGood", "(I)Z"⟩, 25) := ⟨⟨by decide +kernel, by decide +kernel⟩, List.mem_of_getElem? (i := 784) (by decide +kernel), List.mem_of_getElem? (i := 1025) (by decide +kernel), List.mem_of_getElem? (i := 1026) (by decide +kernel)⟩
theorem lw_p44 : lw_okq (⟨"CrowdDeskModel", "tableFault", "(III)I"⟩, 25) := ⟨⟨by decide +kernel, by decide +kernel⟩, List.mem_of_getElem? (i := 784) (by decide +kernel), List.mem_of_getElem? (i := 1033) (by decide +kernel), List.mem_of_getElem? (i := 1034) (by decide +kernel)⟩
theorem lw_p45 : lw_okq (⟨"CrowdDeskModel", "findRule", "(II)I"⟩, 25) := ⟨⟨by decide +kernel, by decide +kernel⟩, List.mem_of_getElem? (i := 784) (by decide +kernel), List.mem_of_getElem? (i := 1037) (by decide +kernel), List.mem_of_getElem? (i := 1038) (by decide +kernel)⟩
theorem lw_p46 : lw_okq (⟨"CrowdDeskModel", "numberOf", "(II)I"⟩, 25) := ⟨⟨by decide +kernel, by decide +kernel⟩, List.mem_of_getElem? (i := 784) (by decide +kernel), List.mem_of_getElem? (i := 1045) (by decide +kernel), List.mem_of_getElem? (i := 1046) (by decide +kernel)⟩
def lw_privs_3 : List (MethodName × Nat) := [(⟨"CrowdDeskModel", "stateCount", "(I)I"⟩, 25), (⟨"CrowdDeskModel", "noAgent", "(I)Z"⟩, 25), (⟨"CrowdDeskModel", "meets", "(IIZ)Z"⟩, 25), (⟨"CrowdDeskModel", "outputOf", "(I)Z"⟩, 25), (⟨"CrowdDeskModel", "formula", "()Z"⟩, 25), (⟨"CrowdDeskModel", "truthNow", "()Z"⟩, 25), (⟨"CrowdDeskModel", "sort", "()V"⟩, 25), (⟨"CrowdDeskModel", "find", "(Z)I"⟩, 25), (⟨"CrowdDeskModel", "after", "(III)Z"⟩, 25), (⟨"CrowdDeskModel", "silentCrowd", "(I)Z"⟩, 25), (⟨"CrowdDeskModel", "rightCrowd", "(IZ)Z"⟩, 25), (⟨"CrowdDeskModel", "leadsToGood", "(I)Z"⟩, 25), (⟨"CrowdDeskModel", "tableFault", "(III)I"⟩, 25), (⟨"CrowdDeskModel", "findRule", "(II)I"⟩, 25), (⟨"CrowdDeskModel", "numberOf", "(II)I"⟩, 25)]
theorem lw_r3 : ∀ q ∈ lw_privs_3, lw_okq q := List.forall_mem_cons.mpr ⟨lw_p32, List.forall_mem_cons.mpr ⟨lw_p33, List.forall_mem_cons.mpr ⟨lw_p34, List.forall_mem_cons.mpr ⟨lw_p35, List.forall_mem_cons.mpr ⟨lw_p36, List.forall_mem_cons.mpr ⟨lw_p37, List.forall_mem_cons.mpr ⟨lw_p38, List.forall_mem_cons.mpr ⟨lw_p39, List.forall_mem_cons.mpr ⟨lw_p40, List.forall_mem_cons.mpr ⟨lw_p41, List.forall_mem_cons.mpr ⟨lw_p42, List.forall_mem_cons.mpr ⟨lw_p43, List.forall_mem_cons.mpr ⟨lw_p44, List.forall_mem_cons.mpr ⟨lw_p45, List.forall_mem_cons.mpr ⟨lw_p46, fun _ h => absurd h List.not_mem_nil⟩⟩⟩⟩⟩⟩⟩⟩⟩⟩⟩⟩⟩⟩⟩
def lw_privs : List (MethodName × Nat) := lw_privs_1 ++ (lw_privs_2 ++ (lw_privs_3))
def lw_tbl : List Cond := k2_sels lw_privs ++ tables_1
theorem lw_privs_ok : ∀ q ∈ lw_privs, lw_okq q := by
  show ∀ q ∈ lw_privs_1 ++ (lw_privs_2 ++ (lw_privs_3)), lw_okq q
  exact List.forall_mem_append.mpr ⟨lw_r1, List.forall_mem_append.mpr ⟨lw_r2, lw_r3⟩⟩
end
section
/-! ===== BEGIN words of one list among another's, by their places ===== -/
theorem goodIn_r {big : List Cond} (ws : List Cond) (ps : List Nat) (hp : ws = ps.filterMap (fun i => big[i]?)) (h : ws.all goodWord = true) : GoodIn big ws := by
  intro w hw
  have h1 := List.all_eq_true.mp h w hw
  rw [hp] at hw
  obtain ⟨i, -, hi⟩ := List.mem_filterMap.mp hw
  have hm : w ∈ big := by first | exact List.mem_of_getElem? hi | exact List.getElem?_mem hi
  exact ⟨hm, good_of_word h1⟩
theorem goodIn_app {big a b : List Cond} (ha : GoodIn big a) (hb : GoodIn big b) : GoodIn big (a ++ b) := fun w h => (List.mem_append.mp h).elim (ha w) (hb w)
theorem goodIn_ca {big a b : List Cond} {c : Cond} (ha : GoodIn big (c :: a)) (hb : GoodIn big b) : GoodIn big (c :: (a ++ b)) := fun w h => (List.mem_cons.mp h).elim (fun e => ha w (List.mem_cons.mpr (Or.inl e))) (fun h => (List.mem_append.mp h).elim (fun h => ha w (List.mem_cons.mpr (Or.inr h))) (hb w))
theorem goodIn_sub {big ws : List Cond} (hm : ∀ w ∈ ws, w ∈ big) (h : ws.all goodWord = true) : GoodIn big ws := fun w hw => ⟨hm w hw, good_of_word (List.all_eq_true.mp h w hw)⟩
/-! ===== END ===== -/

/-! ===== BEGIN exceptions that leave a method, and their catching by the caller (launches without stack traces) ===== -/
section VXA
/-! The laws vx_back, vx_callV, vx_callS, vx_callSW, vx_throw0, vx_throwS follow proofs of the library, with one case more: JvmDerived/Free/Laws.lean (Back.of_free), Shelf42/LK1.lean (callV, callS), Shelf/KitTraced.lean (throwNew0V, throwNewS). -/
/-- where a method has thrown q: the class by its name, the cell, what was written, the world -/
def vx_T (XC : String → State → State → Prop) (st : State) (q : Addr) (t : State) (mc ms : Nat) (free : Addr → Prop) : Prop :=
  ∃ (E : String) (ce : Cell) (L : List Loc), XC E st t ∧ t.heap[q]? = some ce ∧ ce.vm = .none ∧ st.vm.findClass E = some ce.cls ∧ st.WarmedH t.vm ∧ st.sameButNew ({ t with vm := st.vm } : State) L mc ms ∧ ∀ z ∈ L, free z.base
def vx_Q (Qc : Array Value → State → Outcome → State → Prop) (XC : String → State → State → Prop) (mc ms : Nat) (free : Addr → Prop) : Array Value → State → Outcome → State → Prop := fun a st o t =>
  (Qc a st o t ∧ ∃ L, FrameEnd st o t L mc ms ∧ ∀ q ∈ L, free q.base) ∨ ∃ q, o = .threw q ∧ vx_T XC st q t mc ms free
/-- a callee that returns or throws -/
def vx_Met (l : Launch) (y : MethodName) (ws : List Cond) (rm : Room) (Pc : Array Value → State → Prop) (Qc : Array Value → State → Outcome → State → Prop) (XC : String → State → State → Prop) (mc ms : Nat) (free : Addr → Prop) : Prop :=
  MetFree l y (headSpec ws rm) Pc (fun _ _ _ _ _ => True) (vx_Q Qc XC mc ms free)
def vx_Post (XC : String → State → State → Prop) (mc ms : Nat) (free : Addr → Prop) : Pt → Array Value → Addr → Pt → Prop := fun A a q B =>
  ∃ (g : JFrame) (mk : MethodId) (t : State) (L : List Loc) (E : String) (ce : Cell), B.U.heap = t.heap ∧ B.U.vm = t.vm ∧ XC E (A.U.calling g mk a) t ∧ t.heap[q]? = some ce ∧ ce.vm = .none ∧ A.U.vm.findClass E = some ce.cls ∧ B.locs = A.locs ++ L ∧ (∀ z ∈ L, free z.base) ∧ B.cells = A.cells + mc ∧ B.slots = A.slots + ms
def vx_Back (l : Launch) (R : Room) (p : Program) (e : Env) (below : List Frame) (s : State) (sargs : Array Value) (y : MethodName) (len W9 : Nat)
    (Pre : Pt → Array Value → Prop) (Post : Pt → Array Value → Option Value → Pt → Prop) (PostX : Pt → Array Value → Addr → Pt → Prop) : Prop :=
  ∀ (m : MethodId) (meth : Method) (c : Code) (A : Pt) (g : JFrame) (ig : Instr) (mk : MethodId) (a : Array Value),
    Stand p l e R s m sargs below meth c A.U A.locs A.cells A.slots → g.method = m → g.locals.size = c.maxLocals → decode c.code g.pc = .ok (ig, len) →
    2 * g.monitorRoom + (g.stack.map fun v => v.category).sum ≤ W9 → A.U.methodNamed? y = some mk → Pre A a →
    (∃ (v : Option Value) (B : Pt), Stand p l e R s m sargs below meth c B.U B.locs B.cells B.slots ∧ Post A a v B ∧
      Steps p.tables e below (doInvoke e (A.U.setTop g) [] mk a).1 (B.U.setTop { g with pc := g.pc + len, stack := v.toList ++ g.stack })) ∨
    (∃ (q : Addr) (B : Pt), Stand p l e R s m sargs below meth c B.U B.locs B.cells B.slots ∧ PostX A a q B ∧
      Steps p.tables e below (doInvoke e (A.U.setTop g) [] mk a).1 ((B.U.setTop g).pushFrame (.throwing q)))
section Payer
variable {l : Launch} {R : Room} {p : Program} {e : Env} {below : List Frame} {s : State} {sargs : Array Value} {y : MethodName} {len W9 : Nat}
theorem vx_back {ws : List Cond} {rm : Room} {Pc : Array Value → State → Prop} {Qc : Array Value → State → Outcome → State → Prop} {XC : String → State → State → Prop} {mc ms : Nat} {free : Addr → Prop} {bytes : ByteArray} {maxL : Nat} {ret : Option FieldType}
    (hM : vx_Met l y ws rm Pc Qc XC mc ms free) (hblind : FrameBlind Pc) (hrc : rm.cells = mc) (hrs : rm.slots = ms)
    (hframes : rm.frames + 1 ≤ R.frames) (hlocals : W9 + (maxL + 11) + rm.locals ≤ R.locals)
    (hws : ∀ w ∈ ws, ∀ a' U, s.WarmedH U.vm → w.before a' U = true) (hcode : Cond.code y bytes maxL ret ∈ ws) (hinit : ∀ a' U, s.WarmedH U.vm → (Cond.initialized y.cls).before a' U = true) :
    vx_Back l R p e below s sargs y len W9 (PreOf R mc ms Pc) (PostOf Qc mc ms free) (vx_Post XC mc ms free) := by
  intro m meth c A g ig mk a X hg hsize hdg hW hn hp
  have h1 : (headSpec ws rm).pre.before a A.U = true := atoms_intro fun w hw => hws w hw _ _ X.warmed
  have h2 : (Cond.code y bytes maxL ret).before a A.U = true := hws _ hcode _ _ X.warmed
  have h3 : (Cond.initialized y.cls).before a A.U = true := hinit _ _ X.warmed
  have h4 : A.cells + (headSpec ws rm).room.cells ≤ R.cells := by rw [show (headSpec ws rm).room.cells = mc from hrc]; exact hp.1
  have h5 : A.slots + (headSpec ws rm).room.slots ≤ R.slots := by rw [show (headSpec ws rm).room.slots = ms from hrs]; exact hp.2.1
  have hPc : Pc a (A.U.calling g mk a) := hblind _ _ _ _ hp.2.2
  obtain ⟨U, Ls, c0, s0⟩ := A
  dsimp only [Pt.U, Pt.locs, Pt.cells, Pt.slots] at h1 h2 h3 h4 h5 X hn hPc ⊢
  obtain ⟨methY, cY, hmY, hcY, -, hlY, -, -, -, -⟩ := Cond.code_spec hn h2
  obtain ⟨kY, hkY, -⟩ := className_of_methodNamed hn
  have hinitY : kY.init = .initialized := Cond.initialized_spec (findClass_of_methodNamed hn) hkY h3
  have h : At U g.method c below := by rw [hg]; exact X.here
  have hlocals9 : W9 + (maxL + 11) + (headSpec ws rm).room.locals ≤ R.locals := hlocals
  have happ : (headSpec ws rm).appliesLoose y e.platform (U.calling g mk a) = true :=
    Spec.appliesLoose_calling (g := g) h hdg hn hkY hinitY
      (X.room_calling (g := g) (R' := (headSpec ws rm).room) hsize hmY hcY hframes (by rw [hlY]; omega) h4 h5) h1
  obtain ⟨mid, hmid⟩ := h.above
  have hfr : (U.setTop g).frames = (.java g :: mid) ++ below := by rw [State.frames_setTop' g h.top, hmid]; rfl
  obtain ⟨o, s₂, hsteps, -, hend, hq⟩ := Steps.callFree hM p X.admits X.cas X.clock (acts := []) hfr happ hPc trivial
  have hq' : vx_Q Qc XC mc ms free a (U.calling g mk a) o s₂ := hq
  rw [State.frames_setTop' g h.top] at hend
  obtain ⟨g₀, hg0⟩ := Option.isSome_iff_exists.mp h.top
  obtain ⟨r, hr⟩ := State.topJava?_eq_some.mp hg0
  have hr' : (({ U with heap := s₂.heap, slotsUsed := s₂.slotsUsed } : State).setVm s₂.vm).frames = .java g₀ :: r := hr
  rcases hq' with ⟨hqc, L, hfe, hL⟩ | ⟨q, rfl, E, ce, L, hx, hce, hcv, hcl, hW₂, hsm, hL⟩
  · obtain ⟨⟨v, rfl⟩, hW₂, e2, q2, q3, q4, q5, q6⟩ := id hfe
    have e3 : s₂ = ({ (U.calling g mk a).setFrames s₂.frames with heap := s₂.heap, slotsUsed := s₂.slotsUsed } : State).setVm s₂.vm := by
      have : s₂ = ({ s₂ with vm := (U.calling g mk a).vm } : State).setVm s₂.vm := rfl
      rw [e2] at this
      exact this
    obtain ⟨c₂, i₂, len₂, hc₂, hd₂, hf₂⟩ := hend
    have hW' : U.WarmedH s₂.vm := hW₂
    have hcc : c₂ = c := by
      have h1 : s₂.code? g.method = U.code? g.method := by
        rw [State.code?_eq, State.code?_eq, hW'.alike.method?]
      exact Option.some.inj (hc₂.symm.trans (h1.trans h.code))
    subst hcc
    have hlen : len₂ = len := by rw [hdg] at hd₂; cases hd₂; rfl
    subst hlen
    have hs₂ : s₂ = (({ U with heap := s₂.heap, slotsUsed := s₂.slotsUsed } : State).setVm s₂.vm).setTop { g with pc := g.pc + len₂, stack := v.toList ++ g.stack } := by
      refine e3.trans ?_
      rw [hf₂, State.calling_eq h.top, State.setFrames_setFrames, State.setTop_of_frames _ hr', hr]
      rfl
    have hsame : U.sameButNew ({ U with heap := s₂.heap, slotsUsed := s₂.slotsUsed } : State) L mc ms := by
      refine ⟨?_, q2, q3, q4, q5, q6⟩
      obtain ⟨t, ht, -⟩ := State.frames_cons hr
      show ({ U with heap := s₂.heap, slotsUsed := s₂.slotsUsed } : State) = { U.setFrames U.frames with heap := s₂.heap, slotsUsed := s₂.slotsUsed }
      rw [State.setFrames_self ht]
    subst hg
    refine Or.inl ⟨v, ⟨(({ U with heap := s₂.heap, slotsUsed := s₂.slotsUsed } : State).setVm s₂.vm), Ls ++ L, c0 + mc, s0 + ms⟩,
      ⟨X.admits, X.cas, X.clock, X.frames, X.room, X.hears, X.method, X.code, (X.here.setHeapUsed s₂.heap s₂.slotsUsed).setVm hW'.alike, X.tail, State.WarmedH.trans X.warmed hW', X.limits, X.bytes, X.same.trans (hsame.setVm s.vm)⟩,
      ⟨g, mk, s₂, L, rfl, rfl, hqc, rfl, hL, rfl, rfl⟩, ?_⟩
    show Steps p.tables e below _ ((({ U with heap := s₂.heap, slotsUsed := s₂.slotsUsed } : State).setVm s₂.vm).setTop { g with pc := g.pc + len₂, stack := v.toList ++ g.stack })
    rw [← hs₂]
    exact hsteps
  · obtain ⟨e2, q2, q3, q4, q5, q6⟩ := id hsm
    have e3 : s₂ = ({ (U.calling g mk a).setFrames s₂.frames with heap := s₂.heap, slotsUsed := s₂.slotsUsed } : State).setVm s₂.vm := by
      have : s₂ = ({ s₂ with vm := (U.calling g mk a).vm } : State).setVm s₂.vm := rfl
      rw [e2] at this
      exact this
    have hf₂ : s₂.frames = .throwing q :: .java g :: U.frames.tail := hend
    have hW' : U.WarmedH s₂.vm := hW₂
    have hs₂ : s₂ = ((({ U with heap := s₂.heap, slotsUsed := s₂.slotsUsed } : State).setVm s₂.vm).setTop g).pushFrame (.throwing q) := by
      refine e3.trans ?_
      rw [hf₂, State.calling_eq h.top, State.setFrames_setFrames, State.pushFrame, State.frames_setTop _ hr', State.setTop_of_frames _ hr', State.setFrames_setFrames, hr]
      rfl
    have hsame : U.sameButNew ({ U with heap := s₂.heap, slotsUsed := s₂.slotsUsed } : State) L mc ms := by
      refine ⟨?_, q2, q3, q4, q5, q6⟩
      obtain ⟨t, ht, -⟩ := State.frames_cons hr
      show ({ U with heap := s₂.heap, slotsUsed := s₂.slotsUsed } : State) = { U.setFrames U.frames with heap := s₂.heap, slotsUsed := s₂.slotsUsed }
      rw [State.setFrames_self ht]
    subst hg
    refine Or.inr ⟨q, ⟨(({ U with heap := s₂.heap, slotsUsed := s₂.slotsUsed } : State).setVm s₂.vm), Ls ++ L, c0 + mc, s0 + ms⟩,
      ⟨X.admits, X.cas, X.clock, X.frames, X.room, X.hears, X.method, X.code, (X.here.setHeapUsed s₂.heap s₂.slotsUsed).setVm hW'.alike, X.tail, State.WarmedH.trans X.warmed hW', X.limits, X.bytes, X.same.trans (hsame.setVm s.vm)⟩,
      ⟨g, mk, s₂, L, E, ce, rfl, rfl, hx, hce, hcv, hcl, rfl, hL, rfl, rfl⟩, ?_⟩
    show Steps p.tables e below _ (((({ U with heap := s₂.heap, slotsUsed := s₂.slotsUsed } : State).setVm s₂.vm).setTop g).pushFrame (.throwing q))
    rw [← hs₂]
    exact hsteps
end Payer
section Calls
variable {p : Program} {l : Launch} {e : Env} {R : Room} {s : State} {m : MethodId} {args : Array Value} {below : List Frame} {meth : Method} {c : Code} {T : State} {locs : List Loc} {cells slots : Nat}
theorem vx_callV (X : Stand p l e R s m args below meth c T locs cells slots) (hexec : p.tables.exec = Jvm.exec) {own C : String} {index : Nat} {y : MethodName} {bytes : ByteArray} {maxL : Nat} {ret : Option FieldType}
    (hown : s.vm.findClass own = some m.cls) (hlink : (Cond.methodLink own index y).before args s = true) (hinst : (Cond.instanceMethod y).before args s = true) (hsel : (Cond.selects C y y).before args s = true)
    (hcode : (Cond.code y bytes maxL ret).before args s = true) (hy : y.cls ≠ "java/lang/invoke/MethodHandle" ∧ y.cls ≠ "java/lang/invoke/VarHandle")
    {W9 : Nat} {Pre : Pt → Array Value → Prop} {Post : Pt → Array Value → Option Value → Pt → Prop} {PostX : Pt → Array Value → Addr → Pt → Prop} (hK : vx_Back l R p e below s args y 3 W9 Pre Post PostX)
    {b : Addr} {cellB : Cell} (hcell : T.heap[b]? = some cellB) (hobj : cellB.vm.isStatics = false) (hcls : s.vm.findClass C = some cellB.cls)
    {g : JFrame} (hg : g.method = m) (hsize : g.locals.size = c.maxLocals) {argsL rest : List Value} (hlen : ∀ sig, parseMethodDescriptor y.desc = some sig → argsL.length = sig.parameters.length)
    (hstack : g.stack = argsL.reverse ++ .ref b :: rest) (hW : 2 * g.monitorRoom + (rest.map fun v => v.category).sum ≤ W9) (hdg : decode c.code g.pc = .ok (.invokevirtual index, 3))
    (hpre : ∀ vm₁, s.WarmedH vm₁ → Pre ⟨T.setVm vm₁, locs, cells, slots⟩ (Value.ref b :: argsL).toArray) :
    (∃ (v : Option Value) (vm₁ : Vm) (B : Pt), s.WarmedH vm₁ ∧ Stand p l e R s m args below meth c B.U B.locs B.cells B.slots ∧ Post ⟨T.setVm vm₁, locs, cells, slots⟩ (Value.ref b :: argsL).toArray v B ∧
      ∀ target, Steps p.tables e below (B.U.setTop { g with pc := g.pc + 3, stack := v.toList ++ rest }) target → Steps p.tables e below (T.setTop g) target) ∨
    (∃ (q : Addr) (vm₁ : Vm) (B : Pt), s.WarmedH vm₁ ∧ Stand p l e R s m args below meth c B.U B.locs B.cells B.slots ∧ PostX ⟨T.setVm vm₁, locs, cells, slots⟩ (Value.ref b :: argsL).toArray q B ∧
      Steps p.tables e below (T.setTop g) ((B.U.setTop { g with stack := rest }).pushFrame (.throwing q))) := by
  obtain ⟨mk, methM, hnamed, hmethM, hstM, habM⟩ := Cond.instanceMethod_spec hinst
  obtain ⟨methM', cM, hmethM', -, -, -, -, -, -, hsigM⟩ := Cond.code_spec hnamed hcode
  cases hmethM.symm.trans hmethM'
  obtain ⟨c2, r2, m2, q1, q2, q3, q4, kP, hkP, hkPi⟩ := Cond.selects_spec hsel
  cases hcls.symm.trans q1
  cases (State.methodFound?_of_named hnamed hy).symm.trans q2
  cases hnamed.symm.trans q3
  have hselP : selectMethod e.platform s.vm cellB.cls mk = .method mk := by rw [Launch.admits_selectMethod X.admits]; exact q4
  obtain ⟨vm₁, X₁, hstep₁⟩ := X.invokevirtual hexec hown hlink hnamed hmethM hstM hkP hkPi hy (a := b) (cell := cellB) hcell
    (fun z h => by rw [h] at hobj; cases hobj) hselP hmethM habM hkP hkPi (g := g) hg (argsL := argsL) (rest := rest) (hlen _ hsigM) hstack hdg
  rcases hK m meth c ⟨T.setVm vm₁, locs, cells, slots⟩ { g with stack := rest } (.invokevirtual index) mk (Value.ref b :: argsL).toArray X₁ hg hsize hdg hW (X₁.named hnamed) (hpre vm₁ X₁.warmed) with ⟨v, B, X', hpost, hsteps⟩ | ⟨q, B, X', hpost, hsteps⟩
  · exact Or.inl ⟨v, vm₁, B, X₁.warmed, X', hpost, fun target h => hstep₁ _ fun acts => by rw [doInvoke_state]; exact hsteps.trans h⟩
  · exact Or.inr ⟨q, vm₁, B, X₁.warmed, X', hpost, hstep₁ _ fun acts => by rw [doInvoke_state]; exact hsteps⟩
theorem vx_callS (X : Stand p l e R s m args below meth c T locs cells slots) (hexec : p.tables.exec = Jvm.exec) {own : String} {index : Nat} {y : MethodName} {bytes : ByteArray} {maxL : Nat} {ret : Option FieldType}
    (hown : s.vm.findClass own = some m.cls) (hlink : (Cond.methodLink own index y).before args s = true) (hstat : (Cond.static y).before args s = true) (hinit : (Cond.initialized y.cls).before args s = true)
    (hcode : (Cond.code y bytes maxL ret).before args s = true) (hy : y.cls ≠ "java/lang/invoke/MethodHandle" ∧ y.cls ≠ "java/lang/invoke/VarHandle")
    {W9 : Nat} {Pre : Pt → Array Value → Prop} {Post : Pt → Array Value → Option Value → Pt → Prop} {PostX : Pt → Array Value → Addr → Pt → Prop} (hK : vx_Back l R p e below s args y 3 W9 Pre Post PostX)
    {g : JFrame} (hg : g.method = m) (hsize : g.locals.size = c.maxLocals) {argsL rest : List Value} (hlen : ∀ sig, parseMethodDescriptor y.desc = some sig → argsL.length = sig.parameters.length)
    (hstack : g.stack = argsL.reverse ++ rest) (hW : 2 * g.monitorRoom + (rest.map fun v => v.category).sum ≤ W9) (hdg : decode c.code g.pc = .ok (.invokestatic index, 3))
    (hpre : ∀ vm₁, s.WarmedH vm₁ → Pre ⟨T.setVm vm₁, locs, cells, slots⟩ argsL.toArray) :
    (∃ (v : Option Value) (vm₁ : Vm) (B : Pt), s.WarmedH vm₁ ∧ Stand p l e R s m args below meth c B.U B.locs B.cells B.slots ∧ Post ⟨T.setVm vm₁, locs, cells, slots⟩ argsL.toArray v B ∧
      ∀ target, Steps p.tables e below (B.U.setTop { g with pc := g.pc + 3, stack := v.toList ++ rest }) target → Steps p.tables e below (T.setTop g) target) ∨
    (∃ (q : Addr) (vm₁ : Vm) (B : Pt), s.WarmedH vm₁ ∧ Stand p l e R s m args below meth c B.U B.locs B.cells B.slots ∧ PostX ⟨T.setVm vm₁, locs, cells, slots⟩ argsL.toArray q B ∧
      Steps p.tables e below (T.setTop g) ((B.U.setTop { g with stack := rest }).pushFrame (.throwing q))) := by
  obtain ⟨mk, hnamed⟩ := Cond.code_named hcode
  obtain ⟨methM, cM, hmethM, -, -, -, -, -, -, hsigM⟩ := Cond.code_spec hnamed hcode
  have hstatic : methM.isStatic = true := Cond.static_spec hnamed hmethM hstat
  obtain ⟨kP, hkP, -⟩ := className_of_methodNamed hnamed
  have hinitP : kP.init = .initialized := Cond.initialized_spec (findClass_of_methodNamed hnamed) hkP hinit
  obtain ⟨vm₁, X₁, hstep₁⟩ := X.invokestatic hexec hown hlink hnamed hmethM hstatic hkP hinitP hy (g := g) hg (argsL := argsL) (rest := rest) (hlen _ hsigM) hstack hdg
  rcases hK m meth c ⟨T.setVm vm₁, locs, cells, slots⟩ { g with stack := rest } (.invokestatic index) mk argsL.toArray X₁ hg hsize hdg hW (X₁.named hnamed) (hpre vm₁ X₁.warmed) with ⟨v, B, X', hpost, hsteps⟩ | ⟨q, B, X', hpost, hsteps⟩
  · exact Or.inl ⟨v, vm₁, B, X₁.warmed, X', hpost, fun target h => hstep₁ _ fun acts => by rw [doInvoke_state]; exact hsteps.trans h⟩
  · exact Or.inr ⟨q, vm₁, B, X₁.warmed, X', hpost, hstep₁ _ fun acts => by rw [doInvoke_state]; exact hsteps⟩
end Calls
theorem vx_cls {s : State} {T : State} {vm₁ : Vm} {E : String} {k : ClassId} (hW : s.WarmedH vm₁) (h : (T.setVm vm₁).vm.findClass E = some k) : s.vm.findClass E = some k := by
  have h1 : vm₁.findClass E = some k := h
  rw [hW.alike.findClass] at h1
  exact h1
/-- the method's frame g, with q thrown over it -/
def vx_W (p : Program) (l : Launch) (e : Env) (R : Room) (s : State) (m : MethodId) (args : Array Value) (below : List Frame) (meth : Method) (c : Code) (H : Heap) (locs : List Loc) (cells slots : Nat) (Q : State → Prop) (g : JFrame) (q : Addr) : Prop :=
  ∀ T : State, T.heap = H → Stand p l e R s m args below meth c T locs cells slots → ∃ t, Steps p.tables e below ((T.setTop g).pushFrame (.throwing q)) t ∧ Q t
def vx_Run (p : Program) (l : Launch) (e : Env) (R : Room) (s : State) (m : MethodId) (args : Array Value) (below : List Frame) (meth : Method) (c : Code) (H : Heap) (locs : List Loc) (cells slots mc ms : Nat) (g : JFrame) (rest : List Value) (Qa : State → Outcome → State → Prop) (XC : String → State → State → Prop) (free : Addr → Prop) : Prop :=
  ∀ T : State, T.heap = H → Stand p l e R s m args below meth c T locs cells slots →
    (∃ (v : Option Value) (st₀ t T' : State) (L : List Loc), st₀.heap = H ∧ Stand p l e R s m args below meth c T' (locs ++ L) (cells + mc) (slots + ms) ∧ (∀ q ∈ L, free q.base) ∧ T'.heap = t.heap ∧ T'.vm = t.vm ∧ Qa st₀ (.returned v) t ∧
      Goes p e below T g T' { g with pc := g.pc + 3, stack := v.toList ++ rest }) ∨
    (∃ (q : Addr) (st₀ t T' : State) (L : List Loc) (E : String) (ce : Cell), st₀.heap = H ∧ Stand p l e R s m args below meth c T' (locs ++ L) (cells + mc) (slots + ms) ∧ (∀ z ∈ L, free z.base) ∧ T'.heap = t.heap ∧ T'.vm = t.vm ∧ XC E st₀ t ∧ t.heap[q]? = some ce ∧ ce.vm = .none ∧ s.vm.findClass E = some ce.cls ∧
      Steps p.tables e below (T.setTop g) ((T'.setTop { g with stack := rest }).pushFrame (.throwing q)))
def vx_X {S : Type} (px : S → Prop) (B : String → S → State → Prop) (A : Nat → Prop) : String → State → State → Prop := fun E st t => ∃ u : S, px u ∧ B E u t ∧ va_F A st t
section Runs
variable {p : Program} {l : Launch} {e : Env} {R : Room} {s : State} {m : MethodId} {args : Array Value} {below : List Frame} {meth : Method} {c : Code} {H : Heap} {locs : List Loc} {cells slots : Nat}
variable {y : MethodName} {bytes cc : ByteArray} {maxL nL mc ms n index : Nat} {ret : Option FieldType} {ws : List Cond} {rm : Room} {Pc : Array Value → State → Prop} {Qc : Array Value → State → Outcome → State → Prop} {XC : String → State → State → Prop} {free : Addr → Prop} {Ts : List Cond} {own C : String} {b : Addr} {As rest : List Value} {g : JFrame}
theorem vx_callBack (cb : CallB R s args own index y bytes maxL ret ws rm mc ms n) (hM : vx_Met l y ws rm Pc Qc XC mc ms free) (hbl : FrameBlind Pc) : vx_Back l R p e below s args y 3 8 (PreOf R mc ms Pc) (PostOf Qc mc ms free) (vx_Post XC mc ms free) := by
  obtain ⟨hrc, hrs, hfr, hlo, hws, hcw, -, hini, -⟩ := cb
  exact vx_back (bytes := bytes) (maxL := maxL) (ret := ret) hM hbl hrc hrs hfr hlo hws hcw (fun a' U hW => word_at hW (Or.inl (by first | rfl | simp [Cond.onTables, Cond.keeps, Cond.steady])) hini)
theorem vx_runV (S : CallFix p m c cc nL s args Ts own) (hM : vx_Met l y ws rm Pc Qc XC mc ms free) (cw : CallW R s args own C index y bytes maxL ret ws rm mc ms n) (hp : PreV s H C b Pc As)
    (hg : g.method = m) (hn : As.length = n) (hsize : g.locals.size = nL) (hstack : g.stack = As.reverse ++ .ref b :: rest) (hW : 2 * g.monitorRoom + (rest.map fun v => v.category).sum ≤ 8) (hdg : decode cc g.pc = .ok (.invokevirtual index, 3)) (hf : cells + mc ≤ R.cells ∧ slots + ms ≤ R.slots) :
    vx_Run p l e R s m args below meth c H locs cells slots mc ms g rest (Qc (Value.ref b :: As).toArray) XC free := by
  have hK : vx_Back l R p e below s args y 3 8 (PreOf R mc ms Pc) (PostOf Qc mc ms free) (vx_Post XC mc ms free) := vx_callBack cw.1 hM hp.1
  obtain ⟨⟨-, -, -, -, -, -, hcode, -, hy, hlen, hl⟩, hin, hse⟩ := cw
  obtain ⟨hx, hb, hml, ho, -⟩ := S
  obtain ⟨-, ⟨cellB, hcB, hoB, hclB⟩, hPc⟩ := hp
  intro T hT X
  rcases vx_callV X hx (C := C) (bytes := bytes) (maxL := maxL) (ret := ret) ho hl hin hse hcode hy hK (by rw [hT]; exact hcB) hoB hclB hg (hsize.trans hml.symm) (argsL := As) (rest := rest) (fun sig h => hn.trans (hlen sig h)) hstack hW (by rw [hb]; exact hdg)
    (fun vm₁ hW₁ => ⟨hf.1, hf.2, hPc (T.setVm vm₁) hT hW₁⟩) with ⟨v, vm₁, ⟨U', l2, c2, s2⟩, hW₁, X', ⟨g', mk, t, L, e1, e2, hq, h1, hL, h2, h3⟩, st⟩ | ⟨q, vm₁, ⟨U', l2, c2, s2⟩, hW₁, X', ⟨g', mk, t, L, E, ce, e1, e2, hq, hce, hcv, hcl, h1, hL, h2, h3⟩, st⟩
  · dsimp only [Pt.U, Pt.locs, Pt.cells, Pt.slots] at X' e1 e2 h1 h2 h3 st
    subst h1; subst h2; subst h3
    exact Or.inl ⟨v, (T.setVm vm₁).calling g' mk (Value.ref b :: As).toArray, t, U', L, hT, X', hL, e1, e2, hq, st⟩
  · dsimp only [Pt.U, Pt.locs, Pt.cells, Pt.slots] at X' e1 e2 h1 h2 h3 st hcl
    subst h1; subst h2; subst h3
    exact Or.inr ⟨q, (T.setVm vm₁).calling g' mk (Value.ref b :: As).toArray, t, U', L, E, ce, hT, X', hL, e1, e2, hq, hce, hcv, vx_cls hW₁ hcl, st⟩
theorem vx_runS (S : CallFix p m c cc nL s args Ts own) (hM : vx_Met l y ws rm Pc Qc XC mc ms free) (cw : CallB R s args own index y bytes maxL ret ws rm mc ms n ∧ (Cond.static y).before args s = true) (hp : PreS s H Pc As)
    (hg : g.method = m) (hn : As.length = n) (hsize : g.locals.size = nL) (hstack : g.stack = As.reverse ++ rest) (hW : 2 * g.monitorRoom + (rest.map fun v => v.category).sum ≤ 8) (hdg : decode cc g.pc = .ok (.invokestatic index, 3)) (hf : cells + mc ≤ R.cells ∧ slots + ms ≤ R.slots) :
    vx_Run p l e R s m args below meth c H locs cells slots mc ms g rest (Qc As.toArray) XC free := by
  have hK : vx_Back l R p e below s args y 3 8 (PreOf R mc ms Pc) (PostOf Qc mc ms free) (vx_Post XC mc ms free) := vx_callBack cw.1 hM hp.1
  obtain ⟨⟨-, -, -, -, -, -, hcode, hini, hy, hlen, hl⟩, hstt⟩ := cw
  obtain ⟨hx, hb, hml, ho, -⟩ := S
  intro T hT X
  rcases vx_callS X hx (bytes := bytes) (maxL := maxL) (ret := ret) ho hl hstt hini hcode hy hK hg (hsize.trans hml.symm) (argsL := As) (rest := rest) (fun sig h => hn.trans (hlen sig h)) hstack hW (by rw [hb]; exact hdg)
    (fun vm₁ hW₁ => ⟨hf.1, hf.2, hp.2 (T.setVm vm₁) hT hW₁⟩) with ⟨v, vm₁, ⟨U', l2, c2, s2⟩, hW₁, X', ⟨g', mk, t, L, e1, e2, hq, h1, hL, h2, h3⟩, st⟩ | ⟨q, vm₁, ⟨U', l2, c2, s2⟩, hW₁, X', ⟨g', mk, t, L, E, ce, e1, e2, hq, hce, hcv, hcl, h1, hL, h2, h3⟩, st⟩
  · dsimp only [Pt.U, Pt.locs, Pt.cells, Pt.slots] at X' e1 e2 h1 h2 h3 st
    subst h1; subst h2; subst h3
    exact Or.inl ⟨v, (T.setVm vm₁).calling g' mk As.toArray, t, U', L, hT, X', hL, e1, e2, hq, st⟩
  · dsimp only [Pt.U, Pt.locs, Pt.cells, Pt.slots] at X' e1 e2 h1 h2 h3 st hcl
    subst h1; subst h2; subst h3
    exact Or.inr ⟨q, (T.setVm vm₁).calling g' mk As.toArray, t, U', L, E, ce, hT, X', hL, e1, e2, hq, hce, hcv, vx_cls hW₁ hcl, st⟩
end Runs
section Rows
variable {p : Program} {l : Launch} {e : Env} {R : Room} {s : State} {m : MethodId} {args : Array Value} {below : List Frame} {meth : Method} {c : Code} {H : Heap} {locs : List Loc} {cells slots : Nat} {Q : State → Prop}
variable {mc ms : Nat} {free : Addr → Prop} {A0 A1 : Nat → Prop} {H0 : Heap} {a : Array Value} {pc : Nat} {ls : Array Slot} {st0 rest : List Value}
theorem vx_keep {st₀ t T' : State} {L : List Loc} (h0 : st₀.heap = H) (e1 : T'.heap = t.heap) (hS : va_S A0 H0 H locs) (hA : ∀ q, q < H.size → A1 q → A0 q) (hf : ∀ q, free q → A0 q) (hL : ∀ q ∈ L, free q.base) (hF : va_F A1 st₀ t) :
    H.size ≤ T'.heap.size ∧ (∀ q : Nat, q < H.size → ¬ A1 q → T'.heap[q]? = H[q]?) ∧ va_S A0 H0 T'.heap (locs ++ L) := by
  obtain ⟨hz, hk⟩ := hF
  rw [h0] at hz hk
  exact ⟨by rw [e1]; exact hz, fun q h1 h2 => by rw [e1]; exact hk q h1 h2,
    ⟨Nat.le_trans hS.1 (by rw [e1]; exact hz), fun q h1 h2 => by rw [e1, hk q (Nat.lt_of_lt_of_le h1 hS.1) (fun z => h2 (hA q (Nat.lt_of_lt_of_le h1 hS.1) z))]; exact hS.2.1 q h1 h2, fun q hq => by
      rcases List.mem_append.mp hq with h | h
      · exact hS.2.2 q h
      · exact hf _ (hL q h)⟩⟩
theorem vx_calli {S SX : Type} {post : Int32 → S → Prop} {px : SX → Prop} {B : S → State → Prop} {BX : String → SX → State → Prop} {AX : Nat → Prop} (hr : vx_Run p l e R s m args below meth c H locs cells slots mc ms (F0 m pc ls st0) rest (va_Qi post B A1 a) (vx_X px BX AX) free) (hS : va_S A0 H0 H locs) (hA : ∀ q, q < H.size → A1 q → A0 q) (hf : ∀ q, free q → A0 q) (hAX : ∀ q, q < H.size → AX q → A0 q)
    (kx : ∀ (E : String) (ce : Cell) (q9 : Addr) (u : SX) (t : State) (H1 : Heap) (locs1 : List Loc), t.heap = H1 → s.vm.Alike t.vm → px u → BX E u t → H.size ≤ H1.size → (∀ q : Nat, q < H.size → ¬ AX q → H1[q]? = H[q]?) → va_S A0 H0 H1 locs1 → H1[q9]? = some ce → ce.vm = .none → s.vm.findClass E = some ce.cls → vx_W p l e R s m args below meth c H1 locs1 (cells + mc) (slots + ms) Q (F0 m pc ls rest) q9)
    (kk : ∀ (r : Int32) (u : S) (t : State) (H1 : Heap) (locs1 : List Loc), t.heap = H1 → s.vm.Alike t.vm → post r u → B u t → H.size ≤ H1.size → (∀ q : Nat, q < H.size → ¬ A1 q → H1[q]? = H[q]?) → va_S A0 H0 H1 locs1 → W p l e R s m args below meth c H1 locs1 (cells + mc) (slots + ms) Q (F0 m (pc + 3) ls (.int r :: rest))) : W p l e R s m args below meth c H locs cells slots Q (F0 m pc ls st0) := by
  intro T hT X
  rcases hr T hT X with ⟨v, st₀, t, T', L, h0, X', hL, e1, e2, ⟨⟨r, u, hv, hp, hb⟩, hF⟩, st⟩ | ⟨q, st₀, t, T', L, E, ce, h0, X', hL, e1, e2, ⟨u, hp, hb, hF⟩, hce, hcv, hcl, st⟩
  · cases hv
    obtain ⟨k1, k2, k3⟩ := vx_keep h0 e1 hS hA hf hL hF
    obtain ⟨t2, a1, b1⟩ := kk r u t T'.heap (locs ++ L) e1.symm (by rw [← e2]; exact X'.warmed.alike) hp hb k1 k2 k3 T' rfl X'
    exact ⟨t2, st t2 a1, b1⟩
  · obtain ⟨k1, k2, k3⟩ := vx_keep h0 e1 hS hAX hf hL hF
    obtain ⟨t2, a1, b1⟩ := kx E ce q u t T'.heap (locs ++ L) e1.symm (by rw [← e2]; exact X'.warmed.alike) hp hb k1 k2 k3 (by rw [e1]; exact hce) hcv hcl T' rfl X'
    exact ⟨t2, st.trans a1, b1⟩
theorem vx_calll {S SX : Type} {post : Int64 → S → Prop} {px : SX → Prop} {B : S → State → Prop} {BX : String → SX → State → Prop} {AX : Nat → Prop} (hr : vx_Run p l e R s m args below meth c H locs cells slots mc ms (F0 m pc ls st0) rest (va_Ql post B A1 a) (vx_X px BX AX) free) (hS : va_S A0 H0 H locs) (hA : ∀ q, q < H.size → A1 q → A0 q) (hf : ∀ q, free q → A0 q) (hAX : ∀ q, q < H.size → AX q → A0 q)
    (kx : ∀ (E : String) (ce : Cell) (q9 : Addr) (u : SX) (t : State) (H1 : Heap) (locs1 : List Loc), t.heap = H1 → s.vm.Alike t.vm → px u → BX E u t → H.size ≤ H1.size → (∀ q : Nat, q < H.size → ¬ AX q → H1[q]? = H[q]?) → va_S A0 H0 H1 locs1 → H1[q9]? = some ce → ce.vm = .none → s.vm.findClass E = some ce.cls → vx_W p l e R s m args below meth c H1 locs1 (cells + mc) (slots + ms) Q (F0 m pc ls rest) q9)
    (kk : ∀ (r : Int64) (u : S) (t : State) (H1 : Heap) (locs1 : List Loc), t.heap = H1 → s.vm.Alike t.vm → post r u → B u t → H.size ≤ H1.size → (∀ q : Nat, q < H.size → ¬ A1 q → H1[q]? = H[q]?) → va_S A0 H0 H1 locs1 → W p l e R s m args below meth c H1 locs1 (cells + mc) (slots + ms) Q (F0 m (pc + 3) ls (.long r :: rest))) : W p l e R s m args below meth c H locs cells slots Q (F0 m pc ls st0) := by
  intro T hT X
  rcases hr T hT X with ⟨v, st₀, t, T', L, h0, X', hL, e1, e2, ⟨⟨r, u, hv, hp, hb⟩, hF⟩, st⟩ | ⟨q, st₀, t, T', L, E, ce, h0, X', hL, e1, e2, ⟨u, hp, hb, hF⟩, hce, hcv, hcl, st⟩
  · cases hv
    obtain ⟨k1, k2, k3⟩ := vx_keep h0 e1 hS hA hf hL hF
    obtain ⟨t2, a1, b1⟩ := kk r u t T'.heap (locs ++ L) e1.symm (by rw [← e2]; exact X'.warmed.alike) hp hb k1 k2 k3 T' rfl X'
    exact ⟨t2, st t2 a1, b1⟩
  · obtain ⟨k1, k2, k3⟩ := vx_keep h0 e1 hS hAX hf hL hF
    obtain ⟨t2, a1, b1⟩ := kx E ce q u t T'.heap (locs ++ L) e1.symm (by rw [← e2]; exact X'.warmed.alike) hp hb k1 k2 k3 (by rw [e1]; exact hce) hcv hcl T' rfl X'
    exact ⟨t2, st.trans a1, b1⟩
theorem vx_callf {S SX : Type} {post : UInt32 → S → Prop} {px : SX → Prop} {B : S → State → Prop} {BX : String → SX → State → Prop} {AX : Nat → Prop} (hr : vx_Run p l e R s m args below meth c H locs cells slots mc ms (F0 m pc ls st0) rest (va_Qf post B A1 a) (vx_X px BX AX) free) (hS : va_S A0 H0 H locs) (hA : ∀ q, q < H.size → A1 q → A0 q) (hf : ∀ q, free q → A0 q) (hAX : ∀ q, q < H.size → AX q → A0 q)
    (kx : ∀ (E : String) (ce : Cell) (q9 : Addr) (u : SX) (t : State) (H1 : Heap) (locs1 : List Loc), t.heap = H1 → s.vm.Alike t.vm → px u → BX E u t → H.size ≤ H1.size → (∀ q : Nat, q < H.size → ¬ AX q → H1[q]? = H[q]?) → va_S A0 H0 H1 locs1 → H1[q9]? = some ce → ce.vm = .none → s.vm.findClass E = some ce.cls → vx_W p l e R s m args below meth c H1 locs1 (cells + mc) (slots + ms) Q (F0 m pc ls rest) q9)
    (kk : ∀ (r : UInt32) (u : S) (t : State) (H1 : Heap) (locs1 : List Loc), t.heap = H1 → s.vm.Alike t.vm → post r u → B u t → H.size ≤ H1.size → (∀ q : Nat, q < H.size → ¬ A1 q → H1[q]? = H[q]?) → va_S A0 H0 H1 locs1 → W p l e R s m args below meth c H1 locs1 (cells + mc) (slots + ms) Q (F0 m (pc + 3) ls (.float r :: rest))) : W p l e R s m args below meth c H locs cells slots Q (F0 m pc ls st0) := by
  intro T hT X
  rcases hr T hT X with ⟨v, st₀, t, T', L, h0, X', hL, e1, e2, ⟨⟨r, u, hv, hp, hb⟩, hF⟩, st⟩ | ⟨q, st₀, t, T', L, E, ce, h0, X', hL, e1, e2, ⟨u, hp, hb, hF⟩, hce, hcv, hcl, st⟩
  · cases hv
    obtain ⟨k1, k2, k3⟩ := vx_keep h0 e1 hS hA hf hL hF
    obtain ⟨t2, a1, b1⟩ := kk r u t T'.heap (locs ++ L) e1.symm (by rw [← e2]; exact X'.warmed.alike) hp hb k1 k2 k3 T' rfl X'
    exact ⟨t2, st t2 a1, b1⟩
  · obtain ⟨k1, k2, k3⟩ := vx_keep h0 e1 hS hAX hf hL hF
    obtain ⟨t2, a1, b1⟩ := kx E ce q u t T'.heap (locs ++ L) e1.symm (by rw [← e2]; exact X'.warmed.alike) hp hb k1 k2 k3 (by rw [e1]; exact hce) hcv hcl T' rfl X'
    exact ⟨t2, st.trans a1, b1⟩
theorem vx_calld {S SX : Type} {post : UInt64 → S → Prop} {px : SX → Prop} {B : S → State → Prop} {BX : String → SX → State → Prop} {AX : Nat → Prop} (hr : vx_Run p l e R s m args below meth c H locs cells slots mc ms (F0 m pc ls st0) rest (va_Qd post B A1 a) (vx_X px BX AX) free) (hS : va_S A0 H0 H locs) (hA : ∀ q, q < H.size → A1 q → A0 q) (hf : ∀ q, free q → A0 q) (hAX : ∀ q, q < H.size → AX q → A0 q)
    (kx : ∀ (E : String) (ce : Cell) (q9 : Addr) (u : SX) (t : State) (H1 : Heap) (locs1 : List Loc), t.heap = H1 → s.vm.Alike t.vm → px u → BX E u t → H.size ≤ H1.size → (∀ q : Nat, q < H.size → ¬ AX q → H1[q]? = H[q]?) → va_S A0 H0 H1 locs1 → H1[q9]? = some ce → ce.vm = .none → s.vm.findClass E = some ce.cls → vx_W p l e R s m args below meth c H1 locs1 (cells + mc) (slots + ms) Q (F0 m pc ls rest) q9)
    (kk : ∀ (r : UInt64) (u : S) (t : State) (H1 : Heap) (locs1 : List Loc), t.heap = H1 → s.vm.Alike t.vm → post r u → B u t → H.size ≤ H1.size → (∀ q : Nat, q < H.size → ¬ A1 q → H1[q]? = H[q]?) → va_S A0 H0 H1 locs1 → W p l e R s m args below meth c H1 locs1 (cells + mc) (slots + ms) Q (F0 m (pc + 3) ls (.double r :: rest))) : W p l e R s m args below meth c H locs cells slots Q (F0 m pc ls st0) := by
  intro T hT X
  rcases hr T hT X with ⟨v, st₀, t, T', L, h0, X', hL, e1, e2, ⟨⟨r, u, hv, hp, hb⟩, hF⟩, st⟩ | ⟨q, st₀, t, T', L, E, ce, h0, X', hL, e1, e2, ⟨u, hp, hb, hF⟩, hce, hcv, hcl, st⟩
  · cases hv
    obtain ⟨k1, k2, k3⟩ := vx_keep h0 e1 hS hA hf hL hF
    obtain ⟨t2, a1, b1⟩ := kk r u t T'.heap (locs ++ L) e1.symm (by rw [← e2]; exact X'.warmed.alike) hp hb k1 k2 k3 T' rfl X'
    exact ⟨t2, st t2 a1, b1⟩
  · obtain ⟨k1, k2, k3⟩ := vx_keep h0 e1 hS hAX hf hL hF
    obtain ⟨t2, a1, b1⟩ := kx E ce q u t T'.heap (locs ++ L) e1.symm (by rw [← e2]; exact X'.warmed.alike) hp hb k1 k2 k3 (by rw [e1]; exact hce) hcv hcl T' rfl X'
    exact ⟨t2, st.trans a1, b1⟩
theorem vx_callv {S SX : Type} {post : S → Prop} {px : SX → Prop} {B : S → State → Prop} {BX : String → SX → State → Prop} {AX : Nat → Prop} (hr : vx_Run p l e R s m args below meth c H locs cells slots mc ms (F0 m pc ls st0) rest (va_Qv post B A1 a) (vx_X px BX AX) free) (hS : va_S A0 H0 H locs) (hA : ∀ q, q < H.size → A1 q → A0 q) (hf : ∀ q, free q → A0 q) (hAX : ∀ q, q < H.size → AX q → A0 q)
    (kx : ∀ (E : String) (ce : Cell) (q9 : Addr) (u : SX) (t : State) (H1 : Heap) (locs1 : List Loc), t.heap = H1 → s.vm.Alike t.vm → px u → BX E u t → H.size ≤ H1.size → (∀ q : Nat, q < H.size → ¬ AX q → H1[q]? = H[q]?) → va_S A0 H0 H1 locs1 → H1[q9]? = some ce → ce.vm = .none → s.vm.findClass E = some ce.cls → vx_W p l e R s m args below meth c H1 locs1 (cells + mc) (slots + ms) Q (F0 m pc ls rest) q9)
    (kk : ∀ (u : S) (t : State) (H1 : Heap) (locs1 : List Loc), t.heap = H1 → s.vm.Alike t.vm → post u → B u t → H.size ≤ H1.size → (∀ q : Nat, q < H.size → ¬ A1 q → H1[q]? = H[q]?) → va_S A0 H0 H1 locs1 → W p l e R s m args below meth c H1 locs1 (cells + mc) (slots + ms) Q (F0 m (pc + 3) ls (rest))) : W p l e R s m args below meth c H locs cells slots Q (F0 m pc ls st0) := by
  intro T hT X
  rcases hr T hT X with ⟨v, st₀, t, T', L, h0, X', hL, e1, e2, ⟨⟨u, hv, hp, hb⟩, hF⟩, st⟩ | ⟨q, st₀, t, T', L, E, ce, h0, X', hL, e1, e2, ⟨u, hp, hb, hF⟩, hce, hcv, hcl, st⟩
  · cases hv
    obtain ⟨k1, k2, k3⟩ := vx_keep h0 e1 hS hA hf hL hF
    obtain ⟨t2, a1, b1⟩ := kk u t T'.heap (locs ++ L) e1.symm (by rw [← e2]; exact X'.warmed.alike) hp hb k1 k2 k3 T' rfl X'
    exact ⟨t2, st t2 a1, b1⟩
  · obtain ⟨k1, k2, k3⟩ := vx_keep h0 e1 hS hAX hf hL hF
    obtain ⟨t2, a1, b1⟩ := kx E ce q u t T'.heap (locs ++ L) e1.symm (by rw [← e2]; exact X'.warmed.alike) hp hb k1 k2 k3 (by rw [e1]; exact hce) hcv hcl T' rfl X'
    exact ⟨t2, st.trans a1, b1⟩
end Rows
section Ends
variable {p : Program} {l : Launch} {e : Env} {R : Room} {s : State} {m : MethodId} {args : Array Value} {below : List Frame} {meth : Method} {c : Code} {H : Heap} {locs : List Loc} {cells slots : Nat} {Q : State → Prop}
variable {mc ms : Nat} {free : Addr → Prop} {A0 A1 : Nat → Prop} {H0 : Heap} {a : Array Value} {ls : Array Slot} {st0 rest : List Value}
variable {Qc : Array Value → State → Outcome → State → Prop} {XC : String → State → State → Prop}
/-- what a body that may throw owes at its end -/
def vx_MQ (below : List Frame) (Qc : Array Value → State → Outcome → State → Prop) (XC : String → State → State → Prop) (a : Array Value) (s : State) (mc ms : Nat) (free : Addr → Prop) : State → Prop := fun t =>
  ∃ o, t.status = .running ∧ Ended t below o ∧ vx_Q Qc XC mc ms free a s o t
theorem vx_ret {g : JFrame} {mc ms : Nat} (k : W p l e R s m args below meth c H locs cells slots (MQ below Qc args s mc ms free) g) : W p l e R s m args below meth c H locs cells slots (vx_MQ below Qc XC args s mc ms free) g := by
  intro T hT X
  obtain ⟨t, a1, o, b1, b2, b3, b4⟩ := k T hT X
  exact ⟨t, a1, o, b1, b2, Or.inl ⟨b3, b4⟩⟩
/-- not caught here: it goes on to the caller -/
theorem vx_widen {g : JFrame} {q : Addr} {k n : Nat} (h1 : cells ≤ k) (h2 : slots ≤ n) (kk : vx_W p l e R s m args below meth c H locs k n Q g q) : vx_W p l e R s m args below meth c H locs cells slots Q g q := fun T hT X => kk T hT (stand_widen X h1 h2)
theorem vx_out {pc : Nat} {E : String} {ce : Cell} {q : Addr} {mc ms : Nat} (hout : ∀ x ∈ c.exceptionTable.toList, covers x pc = false) (hlocks : meth.locks = false) (hcell : H[q]? = some ce) (hv : ce.vm = .none) (hcl : s.vm.findClass E = some ce.cls)
    (hx : ∀ t : State, t.heap = H → s.vm.Alike t.vm → XC E s t) (hf : ∀ z ∈ locs, free z.base) (hc : cells ≤ mc) (hs : slots ≤ ms) :
    vx_W p l e R s m args below meth c H locs cells slots (vx_MQ below Qc XC args s mc ms free) (F0 m pc ls rest) q := by
  intro T hT X
  obtain ⟨st1, hrun, hend, hW, hsm⟩ := X.leaveThrown q (g := F0 m pc ls rest) rfl rfl rfl hout hlocks
  have hcell9 : (T.setFrames (.throwing q :: below)).heap[q]? = some ce := by
    show T.heap[q]? = some ce
    rw [hT]; exact hcell
  exact ⟨_, st1, .threw q, hrun, hend, Or.inr ⟨q, rfl, E, ce, locs, hx _ hT hW.alike, hcell9, hv, hcl, hW, hsm.mono hc hs, hf⟩⟩
theorem vx_frame {U : State} {k n : Nat} (h : s.sameButNew ({ U with vm := s.vm } : State) locs k n) : s.heap.size ≤ U.heap.size ∧ ∀ q : Nat, q < s.heap.size → (∀ z ∈ locs, z.base ≠ q) → U.heap[q]? = s.heap[q]? := by
  obtain ⟨-, h2, -, -, -, h6⟩ := h
  refine ⟨h2, fun q hq hz => ?_⟩
  obtain ⟨c9, e1, e2, e3, e4⟩ := h6 q _ (Array.getElem?_eq_getElem hq)
  have hs : c9.slots = (s.heap[q]).slots := Array.ext_getElem? fun i => e4 i fun hm => hz _ hm rfl
  have h9 : c9 = s.heap[q] := by
    rw [hs] at e2
    exact e2
  have e5 : U.heap[q]? = some c9 := e1
  rw [e5, h9, Array.getElem?_eq_getElem hq]
/-- the words of a throw but the four that speak of the heap -/
def vx_no (w : Cond) : Bool := decide (w ≠ .isRef (.static Bundle.tN "UNASSIGNED_STACK" Bundle.steD)) && decide (w ≠ .isRef (.static Bundle.tN "SUPPRESSED_SENTINEL" Bundle.listD)) && decide (w ≠ .laysStatic Bundle.tN "UNASSIGNED_STACK" Bundle.steD) && decide (w ≠ .laysStatic Bundle.tN "SUPPRESSED_SENTINEL" Bundle.listD)
def vx_at0 (own : String) (ic : Nat) (X : String) (names : List String) : List Cond := (Bundle.ownAtoms0 own ic X names).filter vx_no
def vx_atS (own : String) (ic : Nat) (X : String) (names : List String) : List Cond := (Bundle.ownAtoms own ic X names).filter vx_no
/-- a word that the tables alone decide, or a good one -/
def vx_ot (w : Cond) : Bool := w.onTables || goodWord w
theorem vx_ot_at {args a' : Array Value} {s U : State} {w : Cond} (hW : s.WarmedH U.vm) (hvm : s.vm = U.vm) (hg : vx_ot w = true) (h : w.before args s = true) : w.before a' U = true := by
  simp only [vx_ot, Bool.or_eq_true] at hg
  rcases hg with hg | hg
  · exact va_tabs hg hvm h
  · exact word_at hW (good_of_word hg) h
/-- a list's words: the good ones out of the method's own list, the others by premises of their own -/
theorem vx_hat {args : Array Value} {s : State} {L B : List Cond} (h1 : ∀ w ∈ L.filter goodWord, w.before args s = true) (h2 : ∀ w ∈ L.filter (fun w => !goodWord w), w ∈ B) (h3 : ∀ w ∈ B, w.before args s = true) : ∀ w ∈ L, w.before args s = true := by
  intro w hw
  by_cases g : goodWord w = true
  · exact h1 w (List.mem_filter.mpr ⟨hw, g⟩)
  · refine h3 w (h2 w (List.mem_filter.mpr ⟨hw, ?_⟩))
    show (!goodWord w) = true
    cases hgw : goodWord w
    · rfl
    · exact absurd hgw g
theorem vx_c {args : Array Value} {s : State} {w : Cond} {B : List Cond} (h : w.before args s = true) (t : ∀ w ∈ B, w.before args s = true) : ∀ w' ∈ w :: B, w'.before args s = true := fun w' h' => (List.mem_cons.mp h').elim (fun e => by rw [e]; exact h) (t w')
theorem vx_n {args : Array Value} {s : State} : ∀ w ∈ ([] : List Cond), w.before args s = true := fun _ h => nomatch h
theorem vx_own {args : Array Value} {s : State} {L : List Cond} (h1 : ∀ w ∈ L.filter vx_no, w.before args s = true)
    (hU : (Cond.isRef (.static Bundle.tN "UNASSIGNED_STACK" Bundle.steD)).before args s = true) (hN : (Cond.isRef (.static Bundle.tN "SUPPRESSED_SENTINEL" Bundle.listD)).before args s = true)
    (lU : (Cond.laysStatic Bundle.tN "UNASSIGNED_STACK" Bundle.steD).before args s = true) (lN : (Cond.laysStatic Bundle.tN "SUPPRESSED_SENTINEL" Bundle.listD).before args s = true) : ∀ w ∈ L, w.before args s = true := by
  intro w hw
  by_cases e1 : w = .isRef (.static Bundle.tN "UNASSIGNED_STACK" Bundle.steD)
  · rw [e1]; exact hU
  · by_cases e2 : w = .isRef (.static Bundle.tN "SUPPRESSED_SENTINEL" Bundle.listD)
    · rw [e2]; exact hN
    · by_cases e3 : w = .laysStatic Bundle.tN "UNASSIGNED_STACK" Bundle.steD
      · rw [e3]; exact lU
      · by_cases e4 : w = .laysStatic Bundle.tN "SUPPRESSED_SENTINEL" Bundle.listD
        · rw [e4]; exact lN
        · exact h1 w (List.mem_filter.mpr ⟨hw, by unfold vx_no; rw [decide_eq_true e1, decide_eq_true e2, decide_eq_true e3, decide_eq_true e4]; rfl⟩)
/-- where a static field lies, its class's statics cell in H -/
def vx_L (C n d : String) (A : Nat → Prop) (U : State) (H : Heap) : Prop := ∃ (c : ClassId) (k : Class) (i : Nat) (f : Field) (a : Nat) (cell : Cell), U.vm.findClass C = some c ∧ U.fieldFound? C n d = some (c, k, i, f) ∧ f.isStatic = true ∧ k.statics = some a ∧ H[a]? = some cell ∧ cell.vm.isStatics = true ∧ cell.cls = c ∧ f.slot < cell.slots.size ∧ k.staticTypes[f.slot]? = some f.type ∧ ¬ A a
theorem vx_L.moved {C n d : String} {A : Nat → Prop} {u U : State} {H : Heap} (hvm : u.vm.Alike U.vm) (h : vx_L C n d A u H) : vx_L C n d A U H := by
  obtain ⟨c, k, i, f, a, cell, h1, h2, h3, h4, h5, h6, h7, h8, h9, h10⟩ := h
  obtain ⟨k', hi', he⟩ := State.fieldFound?_setVm hvm h2
  exact ⟨c, k', i, f, a, cell, by rw [hvm.findClass]; exact h1, hi', h3, by rw [he]; exact h4, h5, h6, h7, h8, by rw [he]; exact h9, h10⟩
theorem vx_L.kept {C n d : String} {A : Nat → Prop} {U : State} {H H1 : Heap} (h : vx_L C n d A U H) (hq : ∀ a : Nat, a < H.size → ¬ A a → H1[a]? = H[a]?) : vx_L C n d A U H1 := by
  obtain ⟨c, k, i, f, a, cell, h1, h2, h3, h4, h5, h6, h7, h8, h9, h10⟩ := h
  exact ⟨c, k, i, f, a, cell, h1, h2, h3, h4, by rw [hq a (Array.getElem?_eq_some_iff.mp h5).1 h10]; exact h5, h6, h7, h8, h9, h10⟩
theorem vx_L.narrow {C n d : String} {A B : Nat → Prop} {U : State} {H : Heap} (h : vx_L C n d A U H) (hAB : ∀ q, B q → A q) : vx_L C n d B U H := by
  obtain ⟨c, k, i, f, a, cell, h1, h2, h3, h4, h5, h6, h7, h8, h9, h10⟩ := h
  exact ⟨c, k, i, f, a, cell, h1, h2, h3, h4, h5, h6, h7, h8, h9, fun z => h10 (hAB _ z)⟩
theorem vx_L.word {C n d : String} {A : Nat → Prop} {s : State} {args : Array Value} (h : vx_L C n d A s s.heap) : (Cond.laysStatic C n d).before args s = true := by
  obtain ⟨c, k, i, f, a, cell, h1, h2, h3, h4, h5, h6, h7, h8, h9, -⟩ := h
  show (Cond.laysStatic C n d).holds args s none s [] = true
  exact Cond.laysStatic_of h1 h2 h3 h4 h5 h6 h7 h8 h9
/-- .. and what it holds: null or some reference -/
def vx_Zq (C n d : String) (A : Nat → Prop) (U : State) (H : Heap) : Prop := va_Zq C n d A U H ∧ vx_L C n d A U H
theorem vx_Zq.moved {C n d : String} {A : Nat → Prop} {u U : State} {H : Heap} (hvm : u.vm.Alike U.vm) (h : vx_Zq C n d A u H) : vx_Zq C n d A U H := ⟨va_Zq.moved hvm h.1, vx_L.moved hvm h.2⟩
theorem vx_Zq.kept {C n d : String} {A : Nat → Prop} {U : State} {H H1 : Heap} (h : vx_Zq C n d A U H) (hq : ∀ a : Nat, a < H.size → ¬ A a → H1[a]? = H[a]?) : vx_Zq C n d A U H1 := ⟨va_Zq.kept h.1 hq, vx_L.kept h.2 hq⟩
theorem vx_Zq.narrow {C n d : String} {A B : Nat → Prop} {U : State} {H : Heap} (h : vx_Zq C n d A U H) (hAB : ∀ q, B q → A q) : vx_Zq C n d B U H := ⟨va_Zq.narrow h.1 hAB, vx_L.narrow h.2 hAB⟩
theorem vx_Zqof {args : Array Value} {s : State} {C n d : String} {A : Nat → Prop} (hl : (Cond.laysStatic C n d).before args s = true) (hini : (Cond.initialized C).before args s = true) (h : (Cond.isRef (.static C n d)).before args s = true) (hA : ∀ a : Nat, a < s.heap.size → ¬ A a) : vx_Zq C n d A s s.heap := by
  refine ⟨va_Zqof hl hini h hA, ?_⟩
  obtain ⟨c, k, i, f, a, cell, h1, h2, h3, h4, h5, h6, h7, h8, h9⟩ := Cond.laysStatic_spec hl
  exact ⟨c, k, i, f, a, cell, h1, h2, h3, h4, h5, h6, h7, h8, h9, hA a (Array.getElem?_eq_some_iff.mp h5).1⟩
theorem vx_isRef {C n d : String} {v : Value} {A : Nat → Prop} {s : State} {args : Array Value} (h : va_Z C n d v A s s.heap) (hv : v.isRef = true) : (Cond.isRef (.static C n d)).before args s = true := by
  obtain ⟨cf, kf, fi, f, a, cell, h1, h2, h3, h4, h5, h6, h7, -⟩ := h
  have he : (Term.static C n d).eval args s none [] s = some v := by
    simp [Term.eval, State.fieldNamed?, h1, h2, h4, h5, h6, h7]
  simp only [Cond.before, Cond.holds, Cond.value, he]
  cases v <;> simp_all [Value.isRef]
theorem vx_isRefq {C n d : String} {A : Nat → Prop} {s : State} {args : Array Value} (h : va_Zq C n d A s s.heap) : (Cond.isRef (.static C n d)).before args s = true := by
  rcases h with h | ⟨t, h⟩
  · exact vx_isRef h rfl
  · exact vx_isRef h rfl
/-- the same frame, seen from here: as if the method were called anew in this heap -/
theorem vx_rebase {T : State} (X : Stand p l e R s m args below meth c T locs cells slots) {R' : Room} (hf : R'.frames ≤ R.frames) (hl : R'.locals ≤ R.locals) (hc : cells + R'.cells ≤ R.cells) (hs : slots + R'.slots ≤ R.slots) :
    Stand p l e R' ((T.setVm s.vm).setFrames (.invoking m args :: below)) m args below meth c T [] 0 0 := by
  have htop : (T.setVm s.vm).topJava?.isSome := X.here.top
  have hF : ((T.setVm s.vm).setFrames (.invoking m args :: below)).frames = .invoking m args :: below := State.frames_setFrames _ (State.cur_lt_of_top htop)
  obtain ⟨g₀, hg0⟩ := Option.isSome_iff_exists.mp htop
  obtain ⟨r, hr⟩ := State.topJava?_eq_some.mp hg0
  have hl9 : e.platform.stackLimits (T.setVm s.vm).me = e.platform.stackLimits s.me := X.limits
  have hb9 : (T.setVm s.vm).me.stackBytes = s.me.stackBytes := X.bytes
  refine ⟨X.admits, X.cas, X.clock, hF, ?_, X.hears, X.method, X.code, X.here, X.tail, X.warmed, ?_, ?_, ?_⟩
  · have h := X.room
    have hU : ((T.setVm s.vm).setFrames (.invoking m args :: below)).localsInUse = s.localsInUse := by
      rw [State.localsInUse_invoking hF (meth := meth) (c := c) X.method X.code, State.localsInUse_invoking X.frames X.method X.code]
    simp only [State.hasRoom, Bool.and_eq_true, decide_eq_true_eq] at h ⊢
    obtain ⟨⟨⟨⟨h1, h2, h3, h4, h5, h6⟩, h7⟩, h8⟩, h9⟩ := h
    rw [X.frames, List.length_cons] at h2 h3
    have q1 := X.heapSize
    have q2 := X.used
    simp only [hF, hU, List.length_cons, State.stackLimits_setFrames, State.stackBytes_setFrames, hl9, hb9]
    refine ⟨⟨⟨⟨by omega, by omega, by omega, by omega, by omega, h6⟩, ?_⟩, ?_⟩, X.book⟩
    · show T.heap.size + R'.cells ≤ e.platform.maxCells
      omega
    · show T.slotsUsed + R'.slots ≤ e.platform.maxSlots
      omega
  · rw [State.stackLimits_setFrames]; rfl
  · rw [State.stackBytes_setFrames]; rfl
  · refine ⟨?_, Nat.le_refl _, Nat.le_refl _, ?_, ?_, fun a c9 h9 => ⟨c9, h9, rfl, rfl, fun _ _ => rfl⟩⟩
    · obtain ⟨t, ht, -⟩ := State.frames_cons hr
      show T.setVm s.vm = { ((T.setVm s.vm).setFrames (.invoking m args :: below)).setFrames (T.setVm s.vm).frames with heap := T.heap, slotsUsed := T.slotsUsed }
      rw [State.setFrames_setFrames, State.setFrames_self ht]
      rfl
    · show T.slotsUsed = T.slotsUsed + ((T.heap.toList.drop T.heap.size).map (·.slots.size)).sum
      rw [List.drop_eq_nil_of_le (Nat.le_of_eq Array.length_toList)]
      rfl
    · show ((T.heap.toList.drop T.heap.size).map (·.slots.size)).sum ≤ 0
      rw [List.drop_eq_nil_of_le (Nat.le_of_eq Array.length_toList)]
      exact Nat.le_refl _
/-- 'throw new E()': new; dup; invokespecial; athrow -/
theorem vx_throw0 {cc : ByteArray} {pc : Nat} (hexec : p.tables.exec = Jvm.exec) (hb : c.code = cc) (hl : l.stackTraces = false) {own cls : String} {names : List String} {ik ic mc ms : Nat} {A : Nat → Prop}
    (hown : s.vm.findClass own = some m.cls) (hcls : Bundle.fit cls = true) (hnames : ∀ n ∈ names, Bundle.fit n = true)
    (hk : (Cond.classLink own ik cls).before args s = true) (hini : (Cond.initialized cls).before args s = true) (hat : ∀ w ∈ vx_at0 own ic cls names, w.before args s = true)
    (hgood : ∀ w ∈ Cond.classLink own ik cls :: Cond.initialized cls :: vx_at0 own ic cls names, vx_ot w = true)
    (hU : vx_Zq Bundle.tN "UNASSIGNED_STACK" Bundle.steD A s s.heap) (hN : vx_Zq Bundle.tN "SUPPRESSED_SENTINEL" Bundle.listD A s s.heap) (hS : va_S A s.heap H locs) (hsize : ls.size = c.maxLocals)
    (d0 : decode cc pc = .ok (.new ik, 3)) (d3 : decode cc (pc + 3) = .ok (.dup, 1)) (d4 : decode cc (pc + 4) = .ok (.invokespecial ic, 3)) (d7 : decode cc (pc + 7) = .ok (.athrow, 1))
    (hout : ∀ x ∈ c.exceptionTable.toList, covers x (pc + 7) = false)
    (hRframes : names.length + 3 < R.frames) (hRlocals : (rest.map fun v => v.category).sum + (13 * (names.length + 1) + 42) ≤ R.locals) (hRcells : cells + 1 ≤ R.cells) (hRslots : slots + 6 ≤ R.slots) (hlocks : meth.locks = false)
    (hx : ∀ t : State, s.vm.Alike t.vm → H.size ≤ t.heap.size → (∀ q : Nat, q < H.size → t.heap[q]? = H[q]?) → XC cls s t)
    (hf : ∀ z ∈ locs, free z.base) (hc : cells + 1 ≤ mc) (hs : slots + 6 ≤ ms) :
    W p l e R s m args below meth c H locs cells slots (vx_MQ below Qc XC args s mc ms free) (F0 m pc ls rest) := by
  intro T hT X
  have htr : e.platform.stackTraces = false := (show e.platform.stackTraces = l.stackTraces by rw [X.admits.platform]).trans hl
  have Y := vx_rebase X (R' := { frames := R.frames, locals := R.locals, cells := 1, slots := 6 }) (Nat.le_refl _) (Nat.le_refl _) hRcells hRslots
  obtain ⟨s', hA⟩ : ∃ z, z = (T.setVm s.vm).setFrames (.invoking m args :: below) := ⟨_, rfl⟩
  rw [← hA] at Y
  have hvm : s'.vm = s.vm := by rw [hA]; rfl
  have hhp : s'.heap = H := by rw [hA]; exact hT
  have hW0 : s.WarmedH s'.vm := by rw [hvm]; exact State.WarmedH.refl s
  have hat' : ∀ w ∈ vx_at0 own ic cls names, w.before args s' = true := fun w hw => vx_ot_at hW0 hvm.symm (hgood w (List.mem_cons_of_mem _ (List.mem_cons_of_mem _ hw))) (hat w hw)
  have hk' : (Cond.classLink own ik cls).before args s' = true := vx_ot_at hW0 hvm.symm (hgood _ List.mem_cons_self) hk
  have hini' : (Cond.initialized cls).before args s' = true := vx_ot_at hW0 hvm.symm (hgood _ (List.mem_cons_of_mem _ List.mem_cons_self)) hini
  have hU' : vx_Zq Bundle.tN "UNASSIGNED_STACK" Bundle.steD A s' s'.heap := by rw [hhp]; exact vx_Zq.moved hW0.alike (hU.kept hS.2.1)
  have hN' : vx_Zq Bundle.tN "SUPPRESSED_SENTINEL" Bundle.listD A s' s'.heap := by rw [hhp]; exact vx_Zq.moved hW0.alike (hN.kept hS.2.1)
  have h : ∀ w ∈ Bundle.ownAtoms0 own ic cls names, w.before args s' = true := vx_own hat' (vx_isRefq hU'.1) (vx_isRefq hN'.1) hU'.2.word hN'.2.word
  have hown' : s'.vm.findClass own = some m.cls := by rw [hvm]; exact hown
  have hins : (Cond.instantiable cls 6).before args s' = true := h _ (by simp [Bundle.ownAtoms0])
  obtain ⟨vm₁, cX, kX, hfX, hkX, -, -, X₁, st1⟩ := Y.newCold hexec (own := own) (C := cls) (index := ik) (n := 6) hown' hk' hins hini'
    (g := F0 m pc ls rest) rfl (by rw [hb]; exact d0) (Nat.le_refl _) (Nat.le_refl _)
  generalize hT1 : (T.setVm vm₁).pushCell { cls := cX, slots := kX.instanceTypes.map defaultValue, vm := .none } = T1 at X₁ st1
  have hcat : (Value.ref T.heap.size).category = 1 := rfl
  have hcellA : T1.heap[T.heap.size]? = some (freshCell cX kX) := by rw [← hT1]; exact State.heap_pushCell_size _ _
  have d3' : decode c.code (pc + 3) = .ok (.dup, 1) := by rw [hb]; exact d3
  obtain ⟨U, hsteps, hrun, hend, hW, hsame, ce, hce, hO⟩ := X₁.ctorThrow0 hexec htr (own := own) (cls := cls) (names := names) (ic := ic) hown' hcls hnames h (fun x hx => nomatch hx) hfX hkX hcellA (by rw [hhp, hT]; exact Nat.le_refl _)
    (g := { method := m, pc := pc + 4, locals := ls, stack := .ref T.heap.size :: .ref T.heap.size :: rest, locked := none }) rfl hsize rfl rfl (rest := rest) rfl
    (by rw [hb]; exact d4) (by rw [hb]; exact d7) hout hRframes (by simp only [List.map_cons, List.sum_cons, hcat]; omega) hlocks
  obtain ⟨f1, f2⟩ := vx_frame hsame
  rw [hhp] at f1 f2
  have hWs : s.WarmedH U.vm := State.WarmedH.trans hW0 hW
  have hcl : s.vm.findClass cls = some ce.cls := by
    have h9 := hO.cls
    rw [hvm] at h9
    exact h9
  have hall : s.sameButNew ({ U with vm := s.vm } : State) locs mc ms := by
    subst hA
    obtain ⟨e1, e2⟩ := hsame
    rw [State.setFrames_setFrames] at e1
    have h2 : (T.setVm s.vm).sameButNew ({ U with vm := s.vm } : State) [] (0 + 1) (0 + 6) := ⟨e1, e2⟩
    have h3 := X.same.trans h2
    rw [List.append_nil] at h3
    exact h3.mono hc hs
  refine ⟨U, ?_, .threw T.heap.size, hrun, hend, Or.inr ⟨T.heap.size, rfl, cls, ce, locs, hx U hWs.alike f1 (fun q hq => f2 q hq (fun z hz => nomatch hz)), hce, hO.vm, hcl, hWs, hall, hf⟩⟩
  refine st1 _ ?_
  show Steps p.tables e below (T1.setTop { method := m, pc := pc + 3, locals := ls, stack := .ref T.heap.size :: rest, locked := none }) _
  jvm_step X₁.here [X₁.here.top, hexec, d3', Value.category]
  exact hsteps
/-- 'throw new E("text")': new; dup; ldc; invokespecial; athrow -/
theorem vx_throwS {cc : ByteArray} {pc : Nat} (hexec : p.tables.exec = Jvm.exec) (hb : c.code = cc) (hl : l.stackTraces = false) {own cls text : String} {names : List String} {ik is ic mc ms sa : Nat} {A : Nat → Prop}
    (hown : s.vm.findClass own = some m.cls) (hcls : Bundle.fit cls = true) (hnames : ∀ n ∈ names, Bundle.fit n = true)
    (hk : (Cond.classLink own ik cls).before args s = true) (hini : (Cond.initialized cls).before args s = true) (hstr : vk_R own is text sa s) (hat : ∀ w ∈ vx_atS own ic cls names, w.before args s = true)
    (hgood : ∀ w ∈ Cond.classLink own ik cls :: Cond.initialized cls :: vx_atS own ic cls names, vx_ot w = true)
    (hU : vx_Zq Bundle.tN "UNASSIGNED_STACK" Bundle.steD A s s.heap) (hN : vx_Zq Bundle.tN "SUPPRESSED_SENTINEL" Bundle.listD A s s.heap) (hS : va_S A s.heap H locs) (hsize : ls.size = c.maxLocals)
    (d0 : decode cc pc = .ok (.new ik, 3)) (d3 : decode cc (pc + 3) = .ok (.dup, 1)) (d4 : decode cc (pc + 4) = .ok (.ldc is, 2)) (d6 : decode cc (pc + 6) = .ok (.invokespecial ic, 3)) (d9 : decode cc (pc + 9) = .ok (.athrow, 1))
    (hout : ∀ x ∈ c.exceptionTable.toList, covers x (pc + 9) = false)
    (hRframes : names.length + 3 < R.frames) (hRlocals : (rest.map fun v => v.category).sum + (13 * (names.length + 1) + 43) ≤ R.locals) (hRcells : cells + 1 ≤ R.cells) (hRslots : slots + 6 ≤ R.slots) (hlocks : meth.locks = false)
    (hx : ∀ t : State, s.vm.Alike t.vm → H.size ≤ t.heap.size → (∀ q : Nat, q < H.size → t.heap[q]? = H[q]?) → XC cls s t)
    (hf : ∀ z ∈ locs, free z.base) (hc : cells + 1 ≤ mc) (hs : slots + 6 ≤ ms) :
    W p l e R s m args below meth c H locs cells slots (vx_MQ below Qc XC args s mc ms free) (F0 m pc ls rest) := by
  intro T hT X
  have htr : e.platform.stackTraces = false := (show e.platform.stackTraces = l.stackTraces by rw [X.admits.platform]).trans hl
  have Y := vx_rebase X (R' := { frames := R.frames, locals := R.locals, cells := 1, slots := 6 }) (Nat.le_refl _) (Nat.le_refl _) hRcells hRslots
  obtain ⟨s', hA⟩ : ∃ z, z = (T.setVm s.vm).setFrames (.invoking m args :: below) := ⟨_, rfl⟩
  rw [← hA] at Y
  have hvm : s'.vm = s.vm := by rw [hA]; rfl
  have hhp : s'.heap = H := by rw [hA]; exact hT
  have hW0 : s.WarmedH s'.vm := by rw [hvm]; exact State.WarmedH.refl s
  have hat' : ∀ w ∈ vx_atS own ic cls names, w.before args s' = true := fun w hw => vx_ot_at hW0 hvm.symm (hgood w (List.mem_cons_of_mem _ (List.mem_cons_of_mem _ hw))) (hat w hw)
  have hk' : (Cond.classLink own ik cls).before args s' = true := vx_ot_at hW0 hvm.symm (hgood _ List.mem_cons_self) hk
  have hini' : (Cond.initialized cls).before args s' = true := vx_ot_at hW0 hvm.symm (hgood _ (List.mem_cons_of_mem _ List.mem_cons_self)) hini
  have hU' : vx_Zq Bundle.tN "UNASSIGNED_STACK" Bundle.steD A s' s'.heap := by rw [hhp]; exact vx_Zq.moved hW0.alike (hU.kept hS.2.1)
  have hN' : vx_Zq Bundle.tN "SUPPRESSED_SENTINEL" Bundle.listD A s' s'.heap := by rw [hhp]; exact vx_Zq.moved hW0.alike (hN.kept hS.2.1)
  have h : ∀ w ∈ Bundle.ownAtoms own ic cls names, w.before args s' = true := vx_own hat' (vx_isRefq hU'.1) (vx_isRefq hN'.1) hU'.2.word hN'.2.word
  have hown' : s'.vm.findClass own = some m.cls := by rw [hvm]; exact hown
  have hins : (Cond.instantiable cls 6).before args s' = true := h _ (by simp [Bundle.ownAtoms])
  obtain ⟨vm₁, cX, kX, hfX, hkX, -, -, X₁, st1⟩ := Y.newCold hexec (own := own) (C := cls) (index := ik) (n := 6) hown' hk' hins hini'
    (g := F0 m pc ls rest) rfl (by rw [hb]; exact d0) (Nat.le_refl _) (Nat.le_refl _)
  generalize hT1 : (T.setVm vm₁).pushCell { cls := cX, slots := kX.instanceTypes.map defaultValue, vm := .none } = T1 at X₁ st1
  have hcat : (Value.ref T.heap.size).category = 1 := rfl
  have hcellA : T1.heap[T.heap.size]? = some (freshCell cX kX) := by rw [← hT1]; exact State.heap_pushCell_size _ _
  have d3' : decode c.code (pc + 3) = .ok (.dup, 1) := by rw [hb]; exact d3
  have d4' : decode c.code (pc + 4) = .ok (.ldc is, 2) := by rw [hb]; exact d4
  have hstr' : vk_R own is text sa s' := vk_R.warm hW0 hstr
  obtain ⟨U, hsteps, hrun, hend, hW, hsame, ce, hce, hO⟩ := X₁.ctorThrowS hexec htr (own := own) (cls := cls) (names := names) (ic := ic) hown' hcls hnames h (fun x hx => nomatch hx) hfX hkX hcellA (by rw [hhp, hT]; exact Nat.le_refl _) (msg := .ref sa) rfl
    (g := { method := m, pc := pc + 6, locals := ls, stack := .ref sa :: .ref T.heap.size :: .ref T.heap.size :: rest, locked := none }) rfl hsize rfl rfl (rest := rest) rfl
    (by rw [hb]; exact d6) (by rw [hb]; exact d9) hout hRframes (by simp only [List.map_cons, List.sum_cons, hcat]; omega) hlocks
  obtain ⟨f1, f2⟩ := vx_frame hsame
  rw [hhp] at f1 f2
  have hWs : s.WarmedH U.vm := State.WarmedH.trans hW0 hW
  have hcl : s.vm.findClass cls = some ce.cls := by
    have h9 := hO.cls
    rw [hvm] at h9
    exact h9
  have hall : s.sameButNew ({ U with vm := s.vm } : State) locs mc ms := by
    subst hA
    obtain ⟨e1, e2⟩ := hsame
    rw [State.setFrames_setFrames] at e1
    have h2 : (T.setVm s.vm).sameButNew ({ U with vm := s.vm } : State) [] (0 + 1) (0 + 6) := ⟨e1, e2⟩
    have h3 := X.same.trans h2
    rw [List.append_nil] at h3
    exact h3.mono hc hs
  refine ⟨U, ?_, .threw T.heap.size, hrun, hend, Or.inr ⟨T.heap.size, rfl, cls, ce, locs, hx U hWs.alike f1 (fun q hq => f2 q hq (fun z hz => nomatch hz)), hce, hO.vm, hcl, hWs, hall, hf⟩⟩
  refine st1 _ ?_
  show Steps p.tables e below (T1.setTop { method := m, pc := pc + 3, locals := ls, stack := .ref T.heap.size :: rest, locked := none }) _
  jvm_step X₁.here [X₁.here.top, hexec, d3', Value.category]
  exact X₁.ldcString hexec (own := own) (text := text) (index := is) (a := sa) hown' hstr'.1 hstr'.2
    (g := { method := m, pc := pc + 4, locals := ls, stack := .ref T.heap.size :: .ref T.heap.size :: rest, locked := none }) rfl d4' _ hsteps
/-- 'throw new E("text")', the text by a wide index -/
theorem vx_throwSW {cc : ByteArray} {pc : Nat} (hexec : p.tables.exec = Jvm.exec) (hb : c.code = cc) (hl : l.stackTraces = false) {own cls text : String} {names : List String} {ik is ic mc ms sa : Nat} {A : Nat → Prop}
    (hown : s.vm.findClass own = some m.cls) (hcls : Bundle.fit cls = true) (hnames : ∀ n ∈ names, Bundle.fit n = true)
    (hk : (Cond.classLink own ik cls).before args s = true) (hini : (Cond.initialized cls).before args s = true) (hstr : vk_R own is text sa s) (hat : ∀ w ∈ vx_atS own ic cls names, w.before args s = true)
    (hgood : ∀ w ∈ Cond.classLink own ik cls :: Cond.initialized cls :: vx_atS own ic cls names, vx_ot w = true)
    (hU : vx_Zq Bundle.tN "UNASSIGNED_STACK" Bundle.steD A s s.heap) (hN : vx_Zq Bundle.tN "SUPPRESSED_SENTINEL" Bundle.listD A s s.heap) (hS : va_S A s.heap H locs) (hsize : ls.size = c.maxLocals)
    (d0 : decode cc pc = .ok (.new ik, 3)) (d3 : decode cc (pc + 3) = .ok (.dup, 1)) (d4 : decode cc (pc + 4) = .ok (.ldc_w is, 3)) (d7 : decode cc (pc + 7) = .ok (.invokespecial ic, 3)) (d10 : decode cc (pc + 10) = .ok (.athrow, 1))
    (hout : ∀ x ∈ c.exceptionTable.toList, covers x (pc + 10) = false)
    (hRframes : names.length + 3 < R.frames) (hRlocals : (rest.map fun v => v.category).sum + (13 * (names.length + 1) + 43) ≤ R.locals) (hRcells : cells + 1 ≤ R.cells) (hRslots : slots + 6 ≤ R.slots) (hlocks : meth.locks = false)
    (hx : ∀ t : State, s.vm.Alike t.vm → H.size ≤ t.heap.size → (∀ q : Nat, q < H.size → t.heap[q]? = H[q]?) → XC cls s t)
    (hf : ∀ z ∈ locs, free z.base) (hc : cells + 1 ≤ mc) (hs : slots + 6 ≤ ms) :
    W p l e R s m args below meth c H locs cells slots (vx_MQ below Qc XC args s mc ms free) (F0 m pc ls rest) := by
  intro T hT X
  have htr : e.platform.stackTraces = false := (show e.platform.stackTraces = l.stackTraces by rw [X.admits.platform]).trans hl
  have Y := vx_rebase X (R' := { frames := R.frames, locals := R.locals, cells := 1, slots := 6 }) (Nat.le_refl _) (Nat.le_refl _) hRcells hRslots
  obtain ⟨s', hA⟩ : ∃ z, z = (T.setVm s.vm).setFrames (.invoking m args :: below) := ⟨_, rfl⟩
  rw [← hA] at Y
  have hvm : s'.vm = s.vm := by rw [hA]; rfl
  have hhp : s'.heap = H := by rw [hA]; exact hT
  have hW0 : s.WarmedH s'.vm := by rw [hvm]; exact State.WarmedH.refl s
  have hat' : ∀ w ∈ vx_atS own ic cls names, w.before args s' = true := fun w hw => vx_ot_at hW0 hvm.symm (hgood w (List.mem_cons_of_mem _ (List.mem_cons_of_mem _ hw))) (hat w hw)
  have hk' : (Cond.classLink own ik cls).before args s' = true := vx_ot_at hW0 hvm.symm (hgood _ List.mem_cons_self) hk
  have hini' : (Cond.initialized cls).before args s' = true := vx_ot_at hW0 hvm.symm (hgood _ (List.mem_cons_of_mem _ List.mem_cons_self)) hini
  have hU' : vx_Zq Bundle.tN "UNASSIGNED_STACK" Bundle.steD A s' s'.heap := by rw [hhp]; exact vx_Zq.moved hW0.alike (hU.kept hS.2.1)
  have hN' : vx_Zq Bundle.tN "SUPPRESSED_SENTINEL" Bundle.listD A s' s'.heap := by rw [hhp]; exact vx_Zq.moved hW0.alike (hN.kept hS.2.1)
  have h : ∀ w ∈ Bundle.ownAtoms own ic cls names, w.before args s' = true := vx_own hat' (vx_isRefq hU'.1) (vx_isRefq hN'.1) hU'.2.word hN'.2.word
  have hown' : s'.vm.findClass own = some m.cls := by rw [hvm]; exact hown
  have hins : (Cond.instantiable cls 6).before args s' = true := h _ (by simp [Bundle.ownAtoms])
  obtain ⟨vm₁, cX, kX, hfX, hkX, -, -, X₁, st1⟩ := Y.newCold hexec (own := own) (C := cls) (index := ik) (n := 6) hown' hk' hins hini'
    (g := F0 m pc ls rest) rfl (by rw [hb]; exact d0) (Nat.le_refl _) (Nat.le_refl _)
  generalize hT1 : (T.setVm vm₁).pushCell { cls := cX, slots := kX.instanceTypes.map defaultValue, vm := .none } = T1 at X₁ st1
  have hcat : (Value.ref T.heap.size).category = 1 := rfl
  have hcellA : T1.heap[T.heap.size]? = some (freshCell cX kX) := by rw [← hT1]; exact State.heap_pushCell_size _ _
  have d3' : decode c.code (pc + 3) = .ok (.dup, 1) := by rw [hb]; exact d3
  have d4' : decode c.code (pc + 4) = .ok (.ldc_w is, 3) := by rw [hb]; exact d4
  have hstr' : vk_R own is text sa s' := vk_R.warm hW0 hstr
  obtain ⟨U, hsteps, hrun, hend, hW, hsame, ce, hce, hO⟩ := X₁.ctorThrowS hexec htr (own := own) (cls := cls) (names := names) (ic := ic) hown' hcls hnames h (fun x hx => nomatch hx) hfX hkX hcellA (by rw [hhp, hT]; exact Nat.le_refl _) (msg := .ref sa) rfl
    (g := { method := m, pc := pc + 7, locals := ls, stack := .ref sa :: .ref T.heap.size :: .ref T.heap.size :: rest, locked := none }) rfl hsize rfl rfl (rest := rest) rfl
    (by rw [hb]; exact d7) (by rw [hb]; exact d10) hout hRframes (by simp only [List.map_cons, List.sum_cons, hcat]; omega) hlocks
  obtain ⟨f1, f2⟩ := vx_frame hsame
  rw [hhp] at f1 f2
  have hWs : s.WarmedH U.vm := State.WarmedH.trans hW0 hW
  have hcl : s.vm.findClass cls = some ce.cls := by
    have h9 := hO.cls
    rw [hvm] at h9
    exact h9
  have hall : s.sameButNew ({ U with vm := s.vm } : State) locs mc ms := by
    subst hA
    obtain ⟨e1, e2⟩ := hsame
    rw [State.setFrames_setFrames] at e1
    have h2 : (T.setVm s.vm).sameButNew ({ U with vm := s.vm } : State) [] (0 + 1) (0 + 6) := ⟨e1, e2⟩
    have h3 := X.same.trans h2
    rw [List.append_nil] at h3
    exact h3.mono hc hs
  refine ⟨U, ?_, .threw T.heap.size, hrun, hend, Or.inr ⟨T.heap.size, rfl, cls, ce, locs, hx U hWs.alike f1 (fun q hq => f2 q hq (fun z hz => nomatch hz)), hce, hO.vm, hcl, hWs, hall, hf⟩⟩
  refine st1 _ ?_
  show Steps p.tables e below (T1.setTop { method := m, pc := pc + 3, locals := ls, stack := .ref T.heap.size :: rest, locked := none }) _
  jvm_step X₁.here [X₁.here.top, hexec, d3', Value.category]
  exact X₁.ldcStringW hexec (own := own) (text := text) (index := is) (a := sa) hown' hstr'.1 hstr'.2
    (g := { method := m, pc := pc + 4, locals := ls, stack := .ref T.heap.size :: .ref T.heap.size :: rest, locked := none }) rfl d4' _ hsteps
end Ends
section Bodies
variable {l : Launch}
theorem vx_ofW {y : MethodName} {ws ws' : List Cond} {rm : Room} {Pc : Array Value → State → Prop} {Qc : Array Value → State → Outcome → State → Prop} {XC : String → State → State → Prop} {mc ms : Nat} {free : Addr → Prop} {cc : ByteArray} {maxL : Nat} {ret : Option FieldType}
    (hy : plainName y.cls = true) (hw : ws = Cond.code y cc maxL ret :: ws')
    (body : ∀ p e s m args below meth c s₁, BodyLoose p l y (headSpec ws rm) cc maxL ret e s m args below meth c s₁ → c.maxLocals = maxL → (∀ x ∈ c.exceptionTable.toList, False) → Pc args s →
      W p l e (headSpec ws rm).room s m args below meth c s.heap [] 0 0 (vx_MQ below Qc XC args s mc ms free) (entryFrame m args maxL)) : vx_Met l y ws rm Pc Qc XC mc ms free := by
  refine MetFree.of_bodyS (code := cc) (maxLocals := maxL) (ret := ret) hy ?_ ?_
  · intro args s m h hn
    obtain ⟨meth, c, h1, h2, h3, h4, h5, h6, -, -⟩ := Cond.code_spec hn (atoms_spec (ws := ws) h _ (by rw [hw]; exact List.mem_cons_self))
    exact ⟨meth, c, h1, h2, h3, h4, h5, h6⟩
  · intro p e s m args below meth c s₁ B hml hP _
    have hh0 : s₁.heap = s.heap := by rw [B.state]; rfl
    have ht : ∀ x ∈ c.exceptionTable.toList, False := by
      obtain ⟨meth9, c9, h1, h2, -, -, -, -, h7, -⟩ := Cond.code_spec B.named (atoms_spec (ws := ws) B.pre _ (by rw [hw]; exact List.mem_cons_self))
      cases Option.some.inj (h1.symm.trans B.method)
      cases Option.some.inj (h2.symm.trans (Stand.of_body B).code)
      intro x hx
      rw [Array.isEmpty_iff.mp h7] at hx
      cases hx
    obtain ⟨t, a1, o, b1, b2, b3⟩ := body p e s m args below meth c s₁ B hml ht hP s₁ hh0 (Stand.of_body B)
    exact ⟨t, o, a1, b1, b2, b3⟩
/-- the table of a body with handlers -/
theorem vx_table {p : Program} {x y : MethodName} {S : Spec} {cc bytes : ByteArray} {maxL maxL' : Nat} {ret ret' : Option FieldType} {e : Env} {s s₁ : State} {m : MethodId} {args : Array Value} {below : List Frame} {meth : Method} {c : Code} {hh : List (Nat × Nat × Nat × Nat)}
    (B : BodyLoose p l y S cc maxL ret e s m args below meth c s₁) (h : (Cond.codeWith y bytes maxL' ret' hh).before args s = true) : c.exceptionTable.toList = tableOf hh := by
  obtain ⟨m9, meth9, c9, hn9, h1, h2, -, -, h6, -⟩ := Cond.codeWith_spec h
  cases Option.some.inj (hn9.symm.trans B.named)
  cases Option.some.inj (h1.symm.trans B.method)
  cases Option.some.inj (h2.symm.trans (Stand.of_body B).code)
  rw [← h6, table_eq]
end Bodies
end VXA
/-! ===== END ===== -/
/-! ===== BEGIN a static call of a method with an exception table ===== -/
section VXS
variable {p : Program} {l : Launch} {e : Env} {R : Room} {s : State} {m : MethodId} {args : Array Value} {below : List Frame} {meth : Method} {c : Code} {T : State} {H : Heap} {locs : List Loc} {cells slots : Nat}
abbrev vx_CSW (R : Room) (s : State) (args : Array Value) (own : String) (index : Nat) (y : MethodName) (bytes : ByteArray) (maxL : Nat) (ret : Option FieldType) (hh : List (Nat × Nat × Nat × Nat)) (ws : List Cond) (rm : Room) (mc ms n : Nat) : Prop :=
  (rm.cells = mc ∧ rm.slots = ms ∧ rm.frames + 1 ≤ R.frames ∧ 8 + (maxL + 11) + rm.locals ≤ R.locals ∧ (∀ w ∈ ws, ∀ (a' : Array Value) (U : State), s.WarmedH U.vm → w.before a' U = true) ∧ Cond.codeWith y bytes maxL ret hh ∈ ws) ∧
  (Cond.codeWith y bytes maxL ret hh).before args s = true ∧ (Cond.initialized y.cls).before args s = true ∧ (y.cls ≠ "java/lang/invoke/MethodHandle" ∧ y.cls ≠ "java/lang/invoke/VarHandle") ∧
  (∀ sig, parseMethodDescriptor y.desc = some sig → n = sig.parameters.length) ∧ (Cond.methodLink own index y).before args s = true ∧ (Cond.static y).before args s = true
theorem vx_cwSW {own : String} {index maxL mc ms : Nat} {y : MethodName} {bytes : ByteArray} {ret : Option FieldType} {hh : List (Nat × Nat × Nat × Nat)} {Ts ws ws' : List Cond} {rm : Room} (n : Nat) (ht : ∀ w ∈ Ts, w.before args s = true) (hT : GoodIn Ts (va_wsS own index y ws)) (hw : ws = Cond.codeWith y bytes maxL ret hh :: ws') (hrc : rm.cells = mc) (hrs : rm.slots = ms)
    (hd : y.cls ≠ "java/lang/invoke/MethodHandle" ∧ y.cls ≠ "java/lang/invoke/VarHandle" ∧ (parseMethodDescriptor y.desc).map (fun d => d.parameters.length) = some n) (hR : rm.frames + 1 ≤ R.frames ∧ 8 + (maxL + 11) + rm.locals ≤ R.locals) :
    vx_CSW R s args own index y bytes maxL ret hh ws rm mc ms n := by
  have ok : ∀ w ∈ va_wsS own index y ws, w.before args s = true := fun w h => ht w (hT w h).1
  have hG : GoodIn Ts ws := fun w h => hT w (by unfold va_wsS; exact List.mem_append_right _ h)
  have hc : Cond.codeWith y bytes maxL ret hh ∈ ws := by rw [hw]; exact List.mem_cons_self
  refine ⟨⟨hrc, hrs, hR.1, hR.2, pay_in ht hG, hc⟩, ht _ (hG _ hc).1, ok _ (by simp [va_wsS]), ⟨hd.1, hd.2.1⟩, fun sig h => ?_, ok _ (by simp [va_wsS]), ok _ (by simp [va_wsS])⟩
  have h2 := hd.2.2
  rw [h] at h2
  exact (Option.some.inj h2).symm
theorem vx_callSW (X : Stand p l e R s m args below meth c T locs cells slots) (hexec : p.tables.exec = Jvm.exec) {own : String} {index : Nat} {y : MethodName} {bytes : ByteArray} {maxL : Nat} {ret : Option FieldType} {hh : List (Nat × Nat × Nat × Nat)}
    (hown : s.vm.findClass own = some m.cls) (hlink : (Cond.methodLink own index y).before args s = true) (hstat : (Cond.static y).before args s = true) (hinit : (Cond.initialized y.cls).before args s = true)
    (hcode : (Cond.codeWith y bytes maxL ret hh).before args s = true) (hy : y.cls ≠ "java/lang/invoke/MethodHandle" ∧ y.cls ≠ "java/lang/invoke/VarHandle")
    {W9 : Nat} {Pre : Pt → Array Value → Prop} {Post : Pt → Array Value → Option Value → Pt → Prop} (hK : Back l R p e below s args y 3 W9 Pre Post)
    {g : JFrame} (hg : g.method = m) (hsize : g.locals.size = c.maxLocals) {argsL rest : List Value} (hlen : ∀ sig, parseMethodDescriptor y.desc = some sig → argsL.length = sig.parameters.length)
    (hstack : g.stack = argsL.reverse ++ rest) (hW : 2 * g.monitorRoom + (rest.map fun v => v.category).sum ≤ W9) (hdg : decode c.code g.pc = .ok (.invokestatic index, 3))
    (hpre : ∀ vm₁, s.WarmedH vm₁ → Pre ⟨T.setVm vm₁, locs, cells, slots⟩ argsL.toArray) :
    ∃ (v : Option Value) (vm₁ : Vm) (B : Pt), s.WarmedH vm₁ ∧ Stand p l e R s m args below meth c B.U B.locs B.cells B.slots ∧ Post ⟨T.setVm vm₁, locs, cells, slots⟩ argsL.toArray v B ∧
      ∀ target, Steps p.tables e below (B.U.setTop { g with pc := g.pc + 3, stack := v.toList ++ rest }) target → Steps p.tables e below (T.setTop g) target := by
  obtain ⟨mk, methM, cM, hnamed, hmethM, -, -, -, -, -, -, hsigM⟩ := Cond.codeWith_spec hcode
  have hstatic : methM.isStatic = true := Cond.static_spec hnamed hmethM hstat
  obtain ⟨kP, hkP, -⟩ := className_of_methodNamed hnamed
  have hinitP : kP.init = .initialized := Cond.initialized_spec (findClass_of_methodNamed hnamed) hkP hinit
  obtain ⟨vm₁, X₁, hstep₁⟩ := X.invokestatic hexec hown hlink hnamed hmethM hstatic hkP hinitP hy (g := g) hg (argsL := argsL) (rest := rest) (hlen _ hsigM) hstack hdg
  obtain ⟨v, B, X', hpost, hsteps⟩ := hK m meth c ⟨T.setVm vm₁, locs, cells, slots⟩ { g with stack := rest } (.invokestatic index) mk argsL.toArray X₁ hg hsize hdg hW (X₁.named hnamed) (hpre vm₁ X₁.warmed)
  exact ⟨v, vm₁, B, X₁.warmed, X', hpost, fun target h => hstep₁ _ fun acts => by rw [doInvoke_state]; exact hsteps.trans h⟩
theorem vx_runSW {y : MethodName} {bytes cc : ByteArray} {maxL nL mc ms n index : Nat} {ret : Option FieldType} {hh : List (Nat × Nat × Nat × Nat)} {ws : List Cond} {rm : Room} {Pc : Array Value → State → Prop} {Qc : Array Value → State → Outcome → State → Prop} {free : Addr → Prop} {Ts : List Cond} {own : String} {As rest : List Value} {g : JFrame}
    (S : CallFix p m c cc nL s args Ts own) (hM : Met l y ws rm Pc Qc mc ms free) (cw : vx_CSW R s args own index y bytes maxL ret hh ws rm mc ms n) (hp : PreS s H Pc As)
    (hg : g.method = m) (hn : As.length = n) (hsize : g.locals.size = nL) (hstack : g.stack = As.reverse ++ rest) (hW : 2 * g.monitorRoom + (rest.map fun v => v.category).sum ≤ 8) (hdg : decode cc g.pc = .ok (.invokestatic index, 3)) (hf : cells + mc ≤ R.cells ∧ slots + ms ≤ R.slots) :
    va_Run p l e R s m args below meth c H locs cells slots mc ms g rest (Qc As.toArray) (free) := by
  obtain ⟨⟨hrc, hrs, hfr, hlo, hws, hcw⟩, hcode, hini, hy, hlen, hl, hstt⟩ := cw
  have hK : Back l R p e below s args y 3 8 (PreOf R mc ms Pc) (PostOf Qc mc ms free) := va_backW (hh := hh) (bytes := bytes) (maxL := maxL) (ret := ret) hM hp.1 hrc hrs hfr hlo hws hcw (fun a' U hW => word_at hW (Or.inl (by first | rfl | simp [Cond.onTables, Cond.keeps, Cond.steady])) hini)
  obtain ⟨hx, hb, hml, ho, -⟩ := S
  intro T hT X
  obtain ⟨v, vm₁, ⟨U', l2, c2, s2⟩, hW₁, X', ⟨g', mk, t, L, e1, e2, hq, h1, hL, h2, h3⟩, st⟩ := vx_callSW X hx (hh := hh) (bytes := bytes) (maxL := maxL) (ret := ret) ho hl hstt hini hcode hy hK hg (hsize.trans hml.symm) (argsL := As) (rest := rest) (fun sig h => hn.trans (hlen sig h)) hstack hW (by rw [hb]; exact hdg)
    (fun vm₁ hW₁ => ⟨hf.1, hf.2, hp.2 (T.setVm vm₁) hT hW₁⟩)
  dsimp only [Pt.U, Pt.locs, Pt.cells, Pt.slots] at X' e1 e2 h1 h2 h3 st
  subst h1; subst h2; subst h3
  exact ⟨v, (T.setVm vm₁).calling g' mk As.toArray, t, U', L, hT, X', hL, e1, e2, hq, st⟩
/-- a thing of a world lies in the heap -/
theorem vx_lt {D : va_G} {cl : List vw_C} {ws : va_W} {H1 : Heap} (h : va_P D cl ws H1) {k : Nat} {q : Nat × va_E} (hk : ws[k]? = some q) : q.1 < H1.size := (h k q hk).lt
end VXS
/-! ===== END ===== -/
/-! ===== BEGIN methods with a table of their own: called by a name, returning or throwing ===== -/
section VXH
/-! vx_backW, vx_callVX, vx_callSX, vx_callVW, vx_runVW, vx_runVX, vx_runSX, vx_ofWH follow the same proofs as their sisters above (Free/Laws.lean, Shelf42/LK1.lean); vx_outP calls Shelf42/NT130.lean (outThrough). -/
section
variable {l : Launch} {R : Room} {p : Program} {e : Env} {below : List Frame} {s : State} {sargs : Array Value} {y : MethodName} {len W9 : Nat}
theorem vx_backW {ws : List Cond} {rm : Room} {Pc : Array Value → State → Prop} {Qc : Array Value → State → Outcome → State → Prop} {XC : String → State → State → Prop} {mc ms : Nat} {free : Addr → Prop} {bytes : ByteArray} {maxL : Nat} {ret : Option FieldType} {hh : List (Nat × Nat × Nat × Nat)}
    (hM : vx_Met l y ws rm Pc Qc XC mc ms free) (hblind : FrameBlind Pc) (hrc : rm.cells = mc) (hrs : rm.slots = ms)
    (hframes : rm.frames + 1 ≤ R.frames) (hlocals : W9 + (maxL + 11) + rm.locals ≤ R.locals)
    (hws : ∀ w ∈ ws, ∀ a' U, s.WarmedH U.vm → w.before a' U = true) (hcode : Cond.codeWith y bytes maxL ret hh ∈ ws) (hinit : ∀ a' U, s.WarmedH U.vm → (Cond.initialized y.cls).before a' U = true) :
    vx_Back l R p e below s sargs y len W9 (PreOf R mc ms Pc) (PostOf Qc mc ms free) (vx_Post XC mc ms free) := by
  intro m meth c A g ig mk a X hg hsize hdg hW hn hp
  have h1 : (headSpec ws rm).pre.before a A.U = true := atoms_intro fun w hw => hws w hw _ _ X.warmed
  have h2 : (Cond.codeWith y bytes maxL ret hh).before a A.U = true := hws _ hcode _ _ X.warmed
  have h3 : (Cond.initialized y.cls).before a A.U = true := hinit _ _ X.warmed
  have h4 : A.cells + (headSpec ws rm).room.cells ≤ R.cells := by rw [show (headSpec ws rm).room.cells = mc from hrc]; exact hp.1
  have h5 : A.slots + (headSpec ws rm).room.slots ≤ R.slots := by rw [show (headSpec ws rm).room.slots = ms from hrs]; exact hp.2.1
  have hPc : Pc a (A.U.calling g mk a) := hblind _ _ _ _ hp.2.2
  obtain ⟨U, Ls, c0, s0⟩ := A
  dsimp only [Pt.U, Pt.locs, Pt.cells, Pt.slots] at h1 h2 h3 h4 h5 X hn hPc ⊢
  obtain ⟨m9, methY, cY, hn9, hmY, hcY, -, hlY, -⟩ := Cond.codeWith_spec h2
  cases Option.some.inj (hn9.symm.trans hn)
  obtain ⟨kY, hkY, -⟩ := className_of_methodNamed hn
  have hinitY : kY.init = .initialized := Cond.initialized_spec (findClass_of_methodNamed hn) hkY h3
  have h : At U g.method c below := by rw [hg]; exact X.here
  have hlocals9 : W9 + (maxL + 11) + (headSpec ws rm).room.locals ≤ R.locals := hlocals
  have happ : (headSpec ws rm).appliesLoose y e.platform (U.calling g mk a) = true :=
    Spec.appliesLoose_calling (g := g) h hdg hn hkY hinitY
      (X.room_calling (g := g) (R' := (headSpec ws rm).room) hsize hmY hcY hframes (by rw [hlY]; omega) h4 h5) h1
  obtain ⟨mid, hmid⟩ := h.above
  have hfr : (U.setTop g).frames = (.java g :: mid) ++ below := by rw [State.frames_setTop' g h.top, hmid]; rfl
  obtain ⟨o, s₂, hsteps, -, hend, hq⟩ := Steps.callFree hM p X.admits X.cas X.clock (acts := []) hfr happ hPc trivial
  have hq' : vx_Q Qc XC mc ms free a (U.calling g mk a) o s₂ := hq
  rw [State.frames_setTop' g h.top] at hend
  obtain ⟨g₀, hg0⟩ := Option.isSome_iff_exists.mp h.top
  obtain ⟨r, hr⟩ := State.topJava?_eq_some.mp hg0
  have hr' : (({ U with heap := s₂.heap, slotsUsed := s₂.slotsUsed } : State).setVm s₂.vm).frames = .java g₀ :: r := hr
  rcases hq' with ⟨hqc, L, hfe, hL⟩ | ⟨q, rfl, E, ce, L, hx, hce, hcv, hcl, hW₂, hsm, hL⟩
  · obtain ⟨⟨v, rfl⟩, hW₂, e2, q2, q3, q4, q5, q6⟩ := id hfe
    have e3 : s₂ = ({ (U.calling g mk a).setFrames s₂.frames with heap := s₂.heap, slotsUsed := s₂.slotsUsed } : State).setVm s₂.vm := by
      have : s₂ = ({ s₂ with vm := (U.calling g mk a).vm } : State).setVm s₂.vm := rfl
      rw [e2] at this
      exact this
    obtain ⟨c₂, i₂, len₂, hc₂, hd₂, hf₂⟩ := hend
    have hW' : U.WarmedH s₂.vm := hW₂
    have hcc : c₂ = c := by
      have h1 : s₂.code? g.method = U.code? g.method := by
        rw [State.code?_eq, State.code?_eq, hW'.alike.method?]
      exact Option.some.inj (hc₂.symm.trans (h1.trans h.code))
    subst hcc
    have hlen : len₂ = len := by rw [hdg] at hd₂; cases hd₂; rfl
    subst hlen
    have hs₂ : s₂ = (({ U with heap := s₂.heap, slotsUsed := s₂.slotsUsed } : State).setVm s₂.vm).setTop { g with pc := g.pc + len₂, stack := v.toList ++ g.stack } := by
      refine e3.trans ?_
      rw [hf₂, State.calling_eq h.top, State.setFrames_setFrames, State.setTop_of_frames _ hr', hr]
      rfl
    have hsame : U.sameButNew ({ U with heap := s₂.heap, slotsUsed := s₂.slotsUsed } : State) L mc ms := by
      refine ⟨?_, q2, q3, q4, q5, q6⟩
      obtain ⟨t, ht, -⟩ := State.frames_cons hr
      show ({ U with heap := s₂.heap, slotsUsed := s₂.slotsUsed } : State) = { U.setFrames U.frames with heap := s₂.heap, slotsUsed := s₂.slotsUsed }
      rw [State.setFrames_self ht]
    subst hg
    refine Or.inl ⟨v, ⟨(({ U with heap := s₂.heap, slotsUsed := s₂.slotsUsed } : State).setVm s₂.vm), Ls ++ L, c0 + mc, s0 + ms⟩,
      ⟨X.admits, X.cas, X.clock, X.frames, X.room, X.hears, X.method, X.code, (X.here.setHeapUsed s₂.heap s₂.slotsUsed).setVm hW'.alike, X.tail, State.WarmedH.trans X.warmed hW', X.limits, X.bytes, X.same.trans (hsame.setVm s.vm)⟩,
      ⟨g, mk, s₂, L, rfl, rfl, hqc, rfl, hL, rfl, rfl⟩, ?_⟩
    show Steps p.tables e below _ ((({ U with heap := s₂.heap, slotsUsed := s₂.slotsUsed } : State).setVm s₂.vm).setTop { g with pc := g.pc + len₂, stack := v.toList ++ g.stack })
    rw [← hs₂]
    exact hsteps
  · obtain ⟨e2, q2, q3, q4, q5, q6⟩ := id hsm
    have e3 : s₂ = ({ (U.calling g mk a).setFrames s₂.frames with heap := s₂.heap, slotsUsed := s₂.slotsUsed } : State).setVm s₂.vm := by
      have : s₂ = ({ s₂ with vm := (U.calling g mk a).vm } : State).setVm s₂.vm := rfl
      rw [e2] at this
      exact this
    have hf₂ : s₂.frames = .throwing q :: .java g :: U.frames.tail := hend
    have hW' : U.WarmedH s₂.vm := hW₂
    have hs₂ : s₂ = ((({ U with heap := s₂.heap, slotsUsed := s₂.slotsUsed } : State).setVm s₂.vm).setTop g).pushFrame (.throwing q) := by
      refine e3.trans ?_
      rw [hf₂, State.calling_eq h.top, State.setFrames_setFrames, State.pushFrame, State.frames_setTop _ hr', State.setTop_of_frames _ hr', State.setFrames_setFrames, hr]
      rfl
    have hsame : U.sameButNew ({ U with heap := s₂.heap, slotsUsed := s₂.slotsUsed } : State) L mc ms := by
      refine ⟨?_, q2, q3, q4, q5, q6⟩
      obtain ⟨t, ht, -⟩ := State.frames_cons hr
      show ({ U with heap := s₂.heap, slotsUsed := s₂.slotsUsed } : State) = { U.setFrames U.frames with heap := s₂.heap, slotsUsed := s₂.slotsUsed }
      rw [State.setFrames_self ht]
    subst hg
    refine Or.inr ⟨q, ⟨(({ U with heap := s₂.heap, slotsUsed := s₂.slotsUsed } : State).setVm s₂.vm), Ls ++ L, c0 + mc, s0 + ms⟩,
      ⟨X.admits, X.cas, X.clock, X.frames, X.room, X.hears, X.method, X.code, (X.here.setHeapUsed s₂.heap s₂.slotsUsed).setVm hW'.alike, X.tail, State.WarmedH.trans X.warmed hW', X.limits, X.bytes, X.same.trans (hsame.setVm s.vm)⟩,
      ⟨g, mk, s₂, L, E, ce, rfl, rfl, hx, hce, hcv, hcl, rfl, hL, rfl, rfl⟩, ?_⟩
    show Steps p.tables e below _ (((({ U with heap := s₂.heap, slotsUsed := s₂.slotsUsed } : State).setVm s₂.vm).setTop g).pushFrame (.throwing q))
    rw [← hs₂]
    exact hsteps
end
variable {p : Program} {l : Launch} {e : Env} {R : Room} {s : State} {m : MethodId} {args : Array Value} {below : List Frame} {meth : Method} {c : Code} {T : State} {H : Heap} {locs : List Loc} {cells slots : Nat}
theorem vx_callVX (X : Stand p l e R s m args below meth c T locs cells slots) (hexec : p.tables.exec = Jvm.exec) {own C : String} {index : Nat} {y : MethodName} {bytes : ByteArray} {maxL : Nat} {ret : Option FieldType} {hh : List (Nat × Nat × Nat × Nat)}
    (hown : s.vm.findClass own = some m.cls) (hlink : (Cond.methodLink own index y).before args s = true) (hinst : (Cond.instanceMethod y).before args s = true) (hsel : (Cond.selects C y y).before args s = true)
    (hcode : (Cond.codeWith y bytes maxL ret hh).before args s = true) (hy : y.cls ≠ "java/lang/invoke/MethodHandle" ∧ y.cls ≠ "java/lang/invoke/VarHandle")
    {W9 : Nat} {Pre : Pt → Array Value → Prop} {Post : Pt → Array Value → Option Value → Pt → Prop} {PostX : Pt → Array Value → Addr → Pt → Prop} (hK : vx_Back l R p e below s args y 3 W9 Pre Post PostX)
    {b : Addr} {cellB : Cell} (hcell : T.heap[b]? = some cellB) (hobj : cellB.vm.isStatics = false) (hcls : s.vm.findClass C = some cellB.cls)
    {g : JFrame} (hg : g.method = m) (hsize : g.locals.size = c.maxLocals) {argsL rest : List Value} (hlen : ∀ sig, parseMethodDescriptor y.desc = some sig → argsL.length = sig.parameters.length)
    (hstack : g.stack = argsL.reverse ++ .ref b :: rest) (hW : 2 * g.monitorRoom + (rest.map fun v => v.category).sum ≤ W9) (hdg : decode c.code g.pc = .ok (.invokevirtual index, 3))
    (hpre : ∀ vm₁, s.WarmedH vm₁ → Pre ⟨T.setVm vm₁, locs, cells, slots⟩ (Value.ref b :: argsL).toArray) :
    (∃ (v : Option Value) (vm₁ : Vm) (B : Pt), s.WarmedH vm₁ ∧ Stand p l e R s m args below meth c B.U B.locs B.cells B.slots ∧ Post ⟨T.setVm vm₁, locs, cells, slots⟩ (Value.ref b :: argsL).toArray v B ∧
      ∀ target, Steps p.tables e below (B.U.setTop { g with pc := g.pc + 3, stack := v.toList ++ rest }) target → Steps p.tables e below (T.setTop g) target) ∨
    (∃ (q : Addr) (vm₁ : Vm) (B : Pt), s.WarmedH vm₁ ∧ Stand p l e R s m args below meth c B.U B.locs B.cells B.slots ∧ PostX ⟨T.setVm vm₁, locs, cells, slots⟩ (Value.ref b :: argsL).toArray q B ∧
      Steps p.tables e below (T.setTop g) ((B.U.setTop { g with stack := rest }).pushFrame (.throwing q))) := by
  obtain ⟨mk, methM, hnamed, hmethM, hstM, habM⟩ := Cond.instanceMethod_spec hinst
  obtain ⟨m8, methM', cM, hn8, hmethM', -, -, -, -, -, -, hsigM⟩ := Cond.codeWith_spec hcode
  cases Option.some.inj (hn8.symm.trans hnamed)
  cases hmethM.symm.trans hmethM'
  obtain ⟨c2, r2, m2, q1, q2, q3, q4, kP, hkP, hkPi⟩ := Cond.selects_spec hsel
  cases hcls.symm.trans q1
  cases (State.methodFound?_of_named hnamed hy).symm.trans q2
  cases hnamed.symm.trans q3
  have hselP : selectMethod e.platform s.vm cellB.cls mk = .method mk := by rw [Launch.admits_selectMethod X.admits]; exact q4
  obtain ⟨vm₁, X₁, hstep₁⟩ := X.invokevirtual hexec hown hlink hnamed hmethM hstM hkP hkPi hy (a := b) (cell := cellB) hcell
    (fun z h => by rw [h] at hobj; cases hobj) hselP hmethM habM hkP hkPi (g := g) hg (argsL := argsL) (rest := rest) (hlen _ hsigM) hstack hdg
  rcases hK m meth c ⟨T.setVm vm₁, locs, cells, slots⟩ { g with stack := rest } (.invokevirtual index) mk (Value.ref b :: argsL).toArray X₁ hg hsize hdg hW (X₁.named hnamed) (hpre vm₁ X₁.warmed) with ⟨v, B, X', hpost, hsteps⟩ | ⟨q, B, X', hpost, hsteps⟩
  · exact Or.inl ⟨v, vm₁, B, X₁.warmed, X', hpost, fun target h => hstep₁ _ fun acts => by rw [doInvoke_state]; exact hsteps.trans h⟩
  · exact Or.inr ⟨q, vm₁, B, X₁.warmed, X', hpost, hstep₁ _ fun acts => by rw [doInvoke_state]; exact hsteps⟩
theorem vx_callSX (X : Stand p l e R s m args below meth c T locs cells slots) (hexec : p.tables.exec = Jvm.exec) {own : String} {index : Nat} {y : MethodName} {bytes : ByteArray} {maxL : Nat} {ret : Option FieldType} {hh : List (Nat × Nat × Nat × Nat)}
    (hown : s.vm.findClass own = some m.cls) (hlink : (Cond.methodLink own index y).before args s = true) (hstat : (Cond.static y).before args s = true) (hinit : (Cond.initialized y.cls).before args s = true)
    (hcode : (Cond.codeWith y bytes maxL ret hh).before args s = true) (hy : y.cls ≠ "java/lang/invoke/MethodHandle" ∧ y.cls ≠ "java/lang/invoke/VarHandle")
    {W9 : Nat} {Pre : Pt → Array Value → Prop} {Post : Pt → Array Value → Option Value → Pt → Prop} {PostX : Pt → Array Value → Addr → Pt → Prop} (hK : vx_Back l R p e below s args y 3 W9 Pre Post PostX)
    {g : JFrame} (hg : g.method = m) (hsize : g.locals.size = c.maxLocals) {argsL rest : List Value} (hlen : ∀ sig, parseMethodDescriptor y.desc = some sig → argsL.length = sig.parameters.length)
    (hstack : g.stack = argsL.reverse ++ rest) (hW : 2 * g.monitorRoom + (rest.map fun v => v.category).sum ≤ W9) (hdg : decode c.code g.pc = .ok (.invokestatic index, 3))
    (hpre : ∀ vm₁, s.WarmedH vm₁ → Pre ⟨T.setVm vm₁, locs, cells, slots⟩ argsL.toArray) :
    (∃ (v : Option Value) (vm₁ : Vm) (B : Pt), s.WarmedH vm₁ ∧ Stand p l e R s m args below meth c B.U B.locs B.cells B.slots ∧ Post ⟨T.setVm vm₁, locs, cells, slots⟩ argsL.toArray v B ∧
      ∀ target, Steps p.tables e below (B.U.setTop { g with pc := g.pc + 3, stack := v.toList ++ rest }) target → Steps p.tables e below (T.setTop g) target) ∨
    (∃ (q : Addr) (vm₁ : Vm) (B : Pt), s.WarmedH vm₁ ∧ Stand p l e R s m args below meth c B.U B.locs B.cells B.slots ∧ PostX ⟨T.setVm vm₁, locs, cells, slots⟩ argsL.toArray q B ∧
      Steps p.tables e below (T.setTop g) ((B.U.setTop { g with stack := rest }).pushFrame (.throwing q))) := by
  obtain ⟨mk, methM, cM, hnamed, hmethM, -, -, -, -, -, -, hsigM⟩ := Cond.codeWith_spec hcode
  have hstatic : methM.isStatic = true := Cond.static_spec hnamed hmethM hstat
  obtain ⟨kP, hkP, -⟩ := className_of_methodNamed hnamed
  have hinitP : kP.init = .initialized := Cond.initialized_spec (findClass_of_methodNamed hnamed) hkP hinit
  obtain ⟨vm₁, X₁, hstep₁⟩ := X.invokestatic hexec hown hlink hnamed hmethM hstatic hkP hinitP hy (g := g) hg (argsL := argsL) (rest := rest) (hlen _ hsigM) hstack hdg
  rcases hK m meth c ⟨T.setVm vm₁, locs, cells, slots⟩ { g with stack := rest } (.invokestatic index) mk argsL.toArray X₁ hg hsize hdg hW (X₁.named hnamed) (hpre vm₁ X₁.warmed) with ⟨v, B, X', hpost, hsteps⟩ | ⟨q, B, X', hpost, hsteps⟩
  · exact Or.inl ⟨v, vm₁, B, X₁.warmed, X', hpost, fun target h => hstep₁ _ fun acts => by rw [doInvoke_state]; exact hsteps.trans h⟩
  · exact Or.inr ⟨q, vm₁, B, X₁.warmed, X', hpost, hstep₁ _ fun acts => by rw [doInvoke_state]; exact hsteps⟩
theorem vx_callVW (X : Stand p l e R s m args below meth c T locs cells slots) (hexec : p.tables.exec = Jvm.exec) {own C : String} {index : Nat} {y : MethodName} {bytes : ByteArray} {maxL : Nat} {ret : Option FieldType} {hh : List (Nat × Nat × Nat × Nat)}
    (hown : s.vm.findClass own = some m.cls) (hlink : (Cond.methodLink own index y).before args s = true) (hinst : (Cond.instanceMethod y).before args s = true) (hsel : (Cond.selects C y y).before args s = true)
    (hcode : (Cond.codeWith y bytes maxL ret hh).before args s = true) (hy : y.cls ≠ "java/lang/invoke/MethodHandle" ∧ y.cls ≠ "java/lang/invoke/VarHandle")
    {W9 : Nat} {Pre : Pt → Array Value → Prop} {Post : Pt → Array Value → Option Value → Pt → Prop} (hK : Back l R p e below s args y 3 W9 Pre Post)
    {b : Addr} {cellB : Cell} (hcell : T.heap[b]? = some cellB) (hobj : cellB.vm.isStatics = false) (hcls : s.vm.findClass C = some cellB.cls)
    {g : JFrame} (hg : g.method = m) (hsize : g.locals.size = c.maxLocals) {argsL rest : List Value} (hlen : ∀ sig, parseMethodDescriptor y.desc = some sig → argsL.length = sig.parameters.length)
    (hstack : g.stack = argsL.reverse ++ .ref b :: rest) (hW : 2 * g.monitorRoom + (rest.map fun v => v.category).sum ≤ W9) (hdg : decode c.code g.pc = .ok (.invokevirtual index, 3))
    (hpre : ∀ vm₁, s.WarmedH vm₁ → Pre ⟨T.setVm vm₁, locs, cells, slots⟩ (Value.ref b :: argsL).toArray) :
    ∃ (v : Option Value) (vm₁ : Vm) (B : Pt), s.WarmedH vm₁ ∧ Stand p l e R s m args below meth c B.U B.locs B.cells B.slots ∧ Post ⟨T.setVm vm₁, locs, cells, slots⟩ (Value.ref b :: argsL).toArray v B ∧
      ∀ target, Steps p.tables e below (B.U.setTop { g with pc := g.pc + 3, stack := v.toList ++ rest }) target → Steps p.tables e below (T.setTop g) target := by
  obtain ⟨mk, methM, hnamed, hmethM, hstM, habM⟩ := Cond.instanceMethod_spec hinst
  obtain ⟨m8, methM', cM, hn8, hmethM', -, -, -, -, -, -, hsigM⟩ := Cond.codeWith_spec hcode
  cases Option.some.inj (hn8.symm.trans hnamed)
  cases hmethM.symm.trans hmethM'
  obtain ⟨c2, r2, m2, q1, q2, q3, q4, kP, hkP, hkPi⟩ := Cond.selects_spec hsel
  cases hcls.symm.trans q1
  cases (State.methodFound?_of_named hnamed hy).symm.trans q2
  cases hnamed.symm.trans q3
  have hselP : selectMethod e.platform s.vm cellB.cls mk = .method mk := by rw [Launch.admits_selectMethod X.admits]; exact q4
  obtain ⟨vm₁, X₁, hstep₁⟩ := X.invokevirtual hexec hown hlink hnamed hmethM hstM hkP hkPi hy (a := b) (cell := cellB) hcell
    (fun z h => by rw [h] at hobj; cases hobj) hselP hmethM habM hkP hkPi (g := g) hg (argsL := argsL) (rest := rest) (hlen _ hsigM) hstack hdg
  obtain ⟨v, B, X', hpost, hsteps⟩ := hK m meth c ⟨T.setVm vm₁, locs, cells, slots⟩ { g with stack := rest } (.invokevirtual index) mk (Value.ref b :: argsL).toArray X₁ hg hsize hdg hW (X₁.named hnamed) (hpre vm₁ X₁.warmed)
  exact ⟨v, vm₁, B, X₁.warmed, X', hpost, fun target h => hstep₁ _ fun acts => by rw [doInvoke_state]; exact hsteps.trans h⟩
abbrev vx_CVW (R : Room) (s : State) (args : Array Value) (own C : String) (index : Nat) (y : MethodName) (bytes : ByteArray) (maxL : Nat) (ret : Option FieldType) (hh : List (Nat × Nat × Nat × Nat)) (ws : List Cond) (rm : Room) (mc ms n : Nat) : Prop :=
  (rm.cells = mc ∧ rm.slots = ms ∧ rm.frames + 1 ≤ R.frames ∧ 8 + (maxL + 11) + rm.locals ≤ R.locals ∧ (∀ w ∈ ws, ∀ (a' : Array Value) (U : State), s.WarmedH U.vm → w.before a' U = true) ∧ Cond.codeWith y bytes maxL ret hh ∈ ws) ∧
  (Cond.codeWith y bytes maxL ret hh).before args s = true ∧ (Cond.initialized y.cls).before args s = true ∧ (y.cls ≠ "java/lang/invoke/MethodHandle" ∧ y.cls ≠ "java/lang/invoke/VarHandle") ∧
  (∀ sig, parseMethodDescriptor y.desc = some sig → n = sig.parameters.length) ∧ (Cond.methodLink own index y).before args s = true ∧ (Cond.instanceMethod y).before args s = true ∧ (Cond.selects C y y).before args s = true
theorem vx_cwVW {own C : String} {index maxL mc ms : Nat} {y : MethodName} {bytes : ByteArray} {ret : Option FieldType} {hh : List (Nat × Nat × Nat × Nat)} {Ts ws ws' : List Cond} {rm : Room} (n : Nat) (ht : ∀ w ∈ Ts, w.before args s = true) (hT : GoodIn Ts (wsV own index C y ws)) (hw : ws = Cond.codeWith y bytes maxL ret hh :: ws') (hrc : rm.cells = mc) (hrs : rm.slots = ms)
    (hd : y.cls = C ∧ y.cls ≠ "java/lang/invoke/MethodHandle" ∧ y.cls ≠ "java/lang/invoke/VarHandle" ∧ (parseMethodDescriptor y.desc).map (fun d => d.parameters.length) = some n) (hR : rm.frames + 1 ≤ R.frames ∧ 8 + (maxL + 11) + rm.locals ≤ R.locals) :
    vx_CVW R s args own C index y bytes maxL ret hh ws rm mc ms n := by
  obtain ⟨hC, hd⟩ := hd
  subst hC
  have ok : ∀ w ∈ wsV own index y.cls y ws, w.before args s = true := fun w h => ht w (hT w h).1
  have hG : GoodIn Ts ws := fun w h => hT w (by unfold wsV; exact List.mem_append_right _ h)
  have hc : Cond.codeWith y bytes maxL ret hh ∈ ws := by rw [hw]; exact List.mem_cons_self
  refine ⟨⟨hrc, hrs, hR.1, hR.2, pay_in ht hG, hc⟩, ht _ (hG _ hc).1, ok _ (by simp [wsV]), ⟨hd.1, hd.2.1⟩, fun sig h => ?_, ok _ (by simp [wsV]), ok _ (by simp [wsV]), ok _ (by simp [wsV])⟩
  have h2 := hd.2.2
  rw [h] at h2
  exact (Option.some.inj h2).symm
theorem vx_runVW {y : MethodName} {bytes cc : ByteArray} {maxL nL mc ms n index : Nat} {ret : Option FieldType} {hh : List (Nat × Nat × Nat × Nat)} {ws : List Cond} {rm : Room} {Pc : Array Value → State → Prop} {Qc : Array Value → State → Outcome → State → Prop} {free : Addr → Prop} {Ts : List Cond} {own C : String} {b : Addr} {As rest : List Value} {g : JFrame}
    (S : CallFix p m c cc nL s args Ts own) (hM : Met l y ws rm Pc Qc mc ms free) (cw : vx_CVW R s args own C index y bytes maxL ret hh ws rm mc ms n) (hp : PreV s H C b Pc As)
    (hg : g.method = m) (hn : As.length = n) (hsize : g.locals.size = nL) (hstack : g.stack = As.reverse ++ .ref b :: rest) (hW : 2 * g.monitorRoom + (rest.map fun v => v.category).sum ≤ 8) (hdg : decode cc g.pc = .ok (.invokevirtual index, 3)) (hf : cells + mc ≤ R.cells ∧ slots + ms ≤ R.slots) :
    va_Run p l e R s m args below meth c H locs cells slots mc ms g rest (Qc (Value.ref b :: As).toArray) free := by
  obtain ⟨⟨hrc, hrs, hfr, hlo, hws, hcw⟩, hcode, hini, hy, hlen, hl, hin, hse⟩ := cw
  have hK : Back l R p e below s args y 3 8 (PreOf R mc ms Pc) (PostOf Qc mc ms free) := va_backW (hh := hh) (bytes := bytes) (maxL := maxL) (ret := ret) hM hp.1 hrc hrs hfr hlo hws hcw (fun a' U hW => word_at hW (Or.inl (by first | rfl | simp [Cond.onTables, Cond.keeps, Cond.steady])) hini)
  obtain ⟨hx, hb, hml, ho, -⟩ := S
  obtain ⟨-, ⟨cellB, hcB, hoB, hclB⟩, hPc⟩ := hp
  intro T hT X
  obtain ⟨v, vm₁, ⟨U', l2, c2, s2⟩, hW₁, X', ⟨g', mk, t, L, e1, e2, hq, h1, hL, h2, h3⟩, st⟩ := vx_callVW X hx (C := C) (hh := hh) (bytes := bytes) (maxL := maxL) (ret := ret) ho hl hin hse hcode hy hK (by rw [hT]; exact hcB) hoB hclB hg (hsize.trans hml.symm) (argsL := As) (rest := rest) (fun sig h => hn.trans (hlen sig h)) hstack hW (by rw [hb]; exact hdg)
    (fun vm₁ hW₁ => ⟨hf.1, hf.2, hPc (T.setVm vm₁) hT hW₁⟩)
  dsimp only [Pt.U, Pt.locs, Pt.cells, Pt.slots] at X' e1 e2 h1 h2 h3 st
  subst h1; subst h2; subst h3
  exact ⟨v, (T.setVm vm₁).calling g' mk (Value.ref b :: As).toArray, t, U', L, hT, X', hL, e1, e2, hq, st⟩
section
variable {y : MethodName} {bytes cc : ByteArray} {maxL nL mc ms n index : Nat} {ret : Option FieldType} {ws : List Cond} {rm : Room} {Pc : Array Value → State → Prop} {Qc : Array Value → State → Outcome → State → Prop} {XC : String → State → State → Prop} {free : Addr → Prop} {Ts : List Cond} {own C : String} {b : Addr} {As rest : List Value} {g : JFrame}
theorem vx_runVX {hh : List (Nat × Nat × Nat × Nat)} (S : CallFix p m c cc nL s args Ts own) (hM : vx_Met l y ws rm Pc Qc XC mc ms free) (cw : vx_CVW R s args own C index y bytes maxL ret hh ws rm mc ms n) (hp : PreV s H C b Pc As)
    (hg : g.method = m) (hn : As.length = n) (hsize : g.locals.size = nL) (hstack : g.stack = As.reverse ++ .ref b :: rest) (hW : 2 * g.monitorRoom + (rest.map fun v => v.category).sum ≤ 8) (hdg : decode cc g.pc = .ok (.invokevirtual index, 3)) (hf : cells + mc ≤ R.cells ∧ slots + ms ≤ R.slots) :
    vx_Run p l e R s m args below meth c H locs cells slots mc ms g rest (Qc (Value.ref b :: As).toArray) XC free := by
  obtain ⟨⟨hrc, hrs, hfr, hlo, hws, hcw⟩, hcode, hini, hy, hlen, hl, hin, hse⟩ := cw
  have hK : vx_Back l R p e below s args y 3 8 (PreOf R mc ms Pc) (PostOf Qc mc ms free) (vx_Post XC mc ms free) := vx_backW (hh := hh) (bytes := bytes) (maxL := maxL) (ret := ret) hM hp.1 hrc hrs hfr hlo hws hcw (fun a' U hW => word_at hW (Or.inl (by first | rfl | simp [Cond.onTables, Cond.keeps, Cond.steady])) hini)
  obtain ⟨hx, hb, hml, ho, -⟩ := S
  obtain ⟨-, ⟨cellB, hcB, hoB, hclB⟩, hPc⟩ := hp
  intro T hT X
  rcases vx_callVX X hx (C := C) (hh := hh) (bytes := bytes) (maxL := maxL) (ret := ret) ho hl hin hse hcode hy hK (by rw [hT]; exact hcB) hoB hclB hg (hsize.trans hml.symm) (argsL := As) (rest := rest) (fun sig h => hn.trans (hlen sig h)) hstack hW (by rw [hb]; exact hdg)
    (fun vm₁ hW₁ => ⟨hf.1, hf.2, hPc (T.setVm vm₁) hT hW₁⟩) with ⟨v, vm₁, ⟨U', l2, c2, s2⟩, hW₁, X', ⟨g', mk, t, L, e1, e2, hq, h1, hL, h2, h3⟩, st⟩ | ⟨q, vm₁, ⟨U', l2, c2, s2⟩, hW₁, X', ⟨g', mk, t, L, E, ce, e1, e2, hq, hce, hcv, hcl, h1, hL, h2, h3⟩, st⟩
  · dsimp only [Pt.U, Pt.locs, Pt.cells, Pt.slots] at X' e1 e2 h1 h2 h3 st
    subst h1; subst h2; subst h3
    exact Or.inl ⟨v, (T.setVm vm₁).calling g' mk (Value.ref b :: As).toArray, t, U', L, hT, X', hL, e1, e2, hq, st⟩
  · dsimp only [Pt.U, Pt.locs, Pt.cells, Pt.slots] at X' e1 e2 h1 h2 h3 st hcl
    subst h1; subst h2; subst h3
    exact Or.inr ⟨q, (T.setVm vm₁).calling g' mk (Value.ref b :: As).toArray, t, U', L, E, ce, hT, X', hL, e1, e2, hq, hce, hcv, vx_cls hW₁ hcl, st⟩
theorem vx_runSX {hh : List (Nat × Nat × Nat × Nat)} (S : CallFix p m c cc nL s args Ts own) (hM : vx_Met l y ws rm Pc Qc XC mc ms free) (cw : vx_CSW R s args own index y bytes maxL ret hh ws rm mc ms n) (hp : PreS s H Pc As)
    (hg : g.method = m) (hn : As.length = n) (hsize : g.locals.size = nL) (hstack : g.stack = As.reverse ++ rest) (hW : 2 * g.monitorRoom + (rest.map fun v => v.category).sum ≤ 8) (hdg : decode cc g.pc = .ok (.invokestatic index, 3)) (hf : cells + mc ≤ R.cells ∧ slots + ms ≤ R.slots) :
    vx_Run p l e R s m args below meth c H locs cells slots mc ms g rest (Qc As.toArray) XC free := by
  obtain ⟨⟨hrc, hrs, hfr, hlo, hws, hcw⟩, hcode, hini, hy, hlen, hl, hstt⟩ := cw
  have hK : vx_Back l R p e below s args y 3 8 (PreOf R mc ms Pc) (PostOf Qc mc ms free) (vx_Post XC mc ms free) := vx_backW (hh := hh) (bytes := bytes) (maxL := maxL) (ret := ret) hM hp.1 hrc hrs hfr hlo hws hcw (fun a' U hW => word_at hW (Or.inl (by first | rfl | simp [Cond.onTables, Cond.keeps, Cond.steady])) hini)
  obtain ⟨hx, hb, hml, ho, -⟩ := S
  intro T hT X
  rcases vx_callSX X hx (hh := hh) (bytes := bytes) (maxL := maxL) (ret := ret) ho hl hstt hini hcode hy hK hg (hsize.trans hml.symm) (argsL := As) (rest := rest) (fun sig h => hn.trans (hlen sig h)) hstack hW (by rw [hb]; exact hdg)
    (fun vm₁ hW₁ => ⟨hf.1, hf.2, hp.2 (T.setVm vm₁) hT hW₁⟩) with ⟨v, vm₁, ⟨U', l2, c2, s2⟩, hW₁, X', ⟨g', mk, t, L, e1, e2, hq, h1, hL, h2, h3⟩, st⟩ | ⟨q, vm₁, ⟨U', l2, c2, s2⟩, hW₁, X', ⟨g', mk, t, L, E, ce, e1, e2, hq, hce, hcv, hcl, h1, hL, h2, h3⟩, st⟩
  · dsimp only [Pt.U, Pt.locs, Pt.cells, Pt.slots] at X' e1 e2 h1 h2 h3 st
    subst h1; subst h2; subst h3
    exact Or.inl ⟨v, (T.setVm vm₁).calling g' mk As.toArray, t, U', L, hT, X', hL, e1, e2, hq, st⟩
  · dsimp only [Pt.U, Pt.locs, Pt.cells, Pt.slots] at X' e1 e2 h1 h2 h3 st hcl
    subst h1; subst h2; subst h3
    exact Or.inr ⟨q, (T.setVm vm₁).calling g' mk As.toArray, t, U', L, E, ce, hT, X', hL, e1, e2, hq, hce, hcv, vx_cls hW₁ hcl, st⟩
end
end VXH
theorem vx_ofWH {l : Launch} {y : MethodName} {ws ws' : List Cond} {rm : Room} {Pc : Array Value → State → Prop} {Qc : Array Value → State → Outcome → State → Prop} {XC : String → State → State → Prop} {mc ms : Nat} {free : Addr → Prop} {cc : ByteArray} {maxL : Nat} {ret : Option FieldType} {hh : List (Nat × Nat × Nat × Nat)}
    (hy : plainName y.cls = true) (hw : ws = Cond.codeWith y cc maxL ret hh :: ws')
    (body : ∀ p e s m args below meth c s₁, BodyLoose p l y (headSpec ws rm) cc maxL ret e s m args below meth c s₁ → c.maxLocals = maxL → Pc args s →
      W p l e (headSpec ws rm).room s m args below meth c s.heap [] 0 0 (vx_MQ below Qc XC args s mc ms free) (entryFrame m args maxL)) : vx_Met l y ws rm Pc Qc XC mc ms free := by
  refine MetFree.of_bodyS (code := cc) (maxLocals := maxL) (ret := ret) hy ?_ ?_
  · intro args s m h hn
    obtain ⟨m9, meth, c, hn9, h1, h2, h3, h4, -, h5, h6, -⟩ := Cond.codeWith_spec (atoms_spec (ws := ws) h _ (by rw [hw]; exact List.mem_cons_self))
    cases hn.symm.trans hn9
    exact ⟨meth, c, h1, h2, h3, h4, h5, h6⟩
  · intro p e s m args below meth c s₁ B hml hP _
    have hh0 : s₁.heap = s.heap := by rw [B.state]; rfl
    obtain ⟨t, a1, o, b1, b2, b3⟩ := body p e s m args below meth c s₁ B hml hP s₁ hh0 (Stand.of_body B)
    exact ⟨t, o, a1, b1, b2, b3⟩
/-! ===== END ===== -/
end
section
/-! ===== BEGIN printed: names, fields, word lists, decode rows ===== -/
def RX0 : String := "CrowdDesk$Atom"
def TX0 : u_T := fun k => match k with
  | 0 => ("CrowdDesk$Atom", "coefficients", "[I", true)
  | 1 => ("CrowdDesk$Atom", "modulus", "I", false)
  | 2 => ("CrowdDesk$Atom", "target", "I", false)
  | 3 => ("CrowdDesk$Atom", "bound", "I", false)
  | 4 => ("CrowdDesk$Atom", "codes", "[I", true)
  | 5 => ("CrowdDesk$Atom", "numbers", "[I", true)
  | 6 => ("CrowdDesk$Atom", "firstRules", "[I", true)
  | _ => ("CrowdDesk$Atom", "states", "I", false)
def tyX0 : Nat → FieldType := fun k => match k with
  | 0 => .array .int
  | 1 => .int
  | 2 => .int
  | 3 => .int
  | 4 => .array .int
  | 5 => .array .int
  | 6 => .array .int
  | _ => .int
abbrev wsX00 : List Cond := u_ws RX0 TX0 8
theorem nmX0 : ∀ a, a < 8 → ∀ b, b < 8 → a ≠ b → (TX0 a).2.1 ≠ (TX0 b).2.1 := by decide +kernel
theorem tyX0_ok : ∀ k, k < 8 → parseFieldDescriptor (TX0 k).2.2.1 = some (tyX0 k) := by decide +kernel
abbrev cX0_init : ByteArray := prog_2_method_1_code
def yX0_init : MethodName := ⟨RX0, "<init>", "()V"⟩
abbrev cX0_become : ByteArray := prog_2_method_2_code
def yX0_become : MethodName := ⟨RX0, "become", "(II[I)V"⟩
abbrev cX0_isTrueOf : ByteArray := prog_2_method_3_code
def yX0_isTrueOf : MethodName := ⟨RX0, "isTrueOf", "([I)Z"⟩
abbrev cX0_beginning : ByteArray := prog_2_method_4_code
def yX0_beginning : MethodName := ⟨RX0, "beginning", "(I)I"⟩
abbrev cX0_afterMeeting : ByteArray := prog_2_method_5_code
def yX0_afterMeeting : MethodName := ⟨RX0, "afterMeeting", "(II)I"⟩
abbrev cX0_reduce : ByteArray := prog_2_method_6_code
def yX0_reduce : MethodName := ⟨RX0, "reduce", "(I)I"⟩
abbrev cX0_opinionOf : ByteArray := prog_2_method_7_code
def yX0_opinionOf : MethodName := ⟨RX0, "opinionOf", "(I)Z"⟩
abbrev cX0_makeTable : ByteArray := prog_2_method_8_code
def yX0_makeTable : MethodName := ⟨RX0, "makeTable", "()V"⟩
abbrev cX0_findStates : ByteArray := prog_2_method_9_code
def yX0_findStates : MethodName := ⟨RX0, "findStates", "()V"⟩
abbrev cX0_learnBoth : ByteArray := prog_2_method_10_code
def yX0_learnBoth : MethodName := ⟨RX0, "learnBoth", "(I)V"⟩
abbrev cX0_learn : ByteArray := prog_2_method_11_code
def yX0_learn : MethodName := ⟨RX0, "learn", "(I)V"⟩
abbrev cX0_numberStates : ByteArray := prog_2_method_12_code
def yX0_numberStates : MethodName := ⟨RX0, "numberStates", "()V"⟩
abbrev cX0_countRules : ByteArray := prog_2_method_13_code
def yX0_countRules : MethodName := ⟨RX0, "countRules", "()V"⟩
abbrev cX0_isRule : ByteArray := prog_2_method_14_code
def yX0_isRule : MethodName := ⟨RX0, "isRule", "(II)Z"⟩
abbrev cX0_stateCount : ByteArray := prog_2_method_15_code
def yX0_stateCount : MethodName := ⟨RX0, "stateCount", "()I"⟩
abbrev cX0_ruleCount : ByteArray := prog_2_method_16_code
def yX0_ruleCount : MethodName := ⟨RX0, "ruleCount", "()I"⟩
abbrev cX0_codeOf : ByteArray := prog_2_method_17_code
def yX0_codeOf : MethodName := ⟨RX0, "codeOf", "(I)I"⟩
abbrev cX0_ruleFact : ByteArray := prog_2_method_18_code
def yX0_ruleFact : MethodName := ⟨RX0, "ruleFact", "(II)I"⟩
abbrev cX0_firstOfRule : ByteArray := prog_2_method_19_code
def yX0_firstOfRule : MethodName := ⟨RX0, "firstOfRule", "(I)I"⟩
abbrev cX0_secondOfRule : ByteArray := prog_2_method_20_code
def yX0_secondOfRule : MethodName := ⟨RX0, "secondOfRule", "(II)I"⟩
def RX1 : String := "CrowdDesk$Code"
def TX1 : u_T := fun k => match k with
  | _ => ("", "", "", false)
def tyX1 : Nat → FieldType := fun k => match k with
  | _ => .int
abbrev wsX10 : List Cond := u_ws RX1 TX1 0
theorem nmX1 : ∀ a, a < 0 → ∀ b, b < 0 → a ≠ b → (TX1 a).2.1 ≠ (TX1 b).2.1 := by decide +kernel
theorem tyX1_ok : ∀ k, k < 0 → parseFieldDescriptor (TX1 k).2.2.1 = some (tyX1 k) := by decide +kernel
abbrev cX1_of : ByteArray := prog_3_method_2_code
def yX1_of : MethodName := ⟨RX1, "of", "(ZIZ)I"⟩
abbrev cX1_value : ByteArray := prog_3_method_3_code
def yX1_value : MethodName := ⟨RX1, "value", "(I)I"⟩
abbrev cX1_leads : ByteArray := prog_3_method_4_code
def yX1_leads : MethodName := ⟨RX1, "leads", "(I)Z"⟩
abbrev cX1_opinion : ByteArray := prog_3_method_5_code
def yX1_opinion : MethodName := ⟨RX1, "opinion", "(I)I"⟩
abbrev cX1_fact : ByteArray := prog_3_method_6_code
def yX1_fact : MethodName := ⟨RX1, "fact", "(II)I"⟩
abbrev cX1_pair : ByteArray := prog_3_method_7_code
def yX1_pair : MethodName := ⟨RX1, "pair", "(II)I"⟩
abbrev cX1_first : ByteArray := prog_3_method_8_code
def yX1_first : MethodName := ⟨RX1, "first", "(I)I"⟩
abbrev cX1_second : ByteArray := prog_3_method_9_code
def yX1_second : MethodName := ⟨RX1, "second", "(I)I"⟩
abbrev cX1_ofAtom : ByteArray := prog_3_method_10_code
def yX1_ofAtom : MethodName := ⟨RX1, "ofAtom", "(JI)I"⟩
abbrev cX1_atAtom : ByteArray := prog_3_method_11_code
def yX1_atAtom : MethodName := ⟨RX1, "atAtom", "(II)J"⟩
abbrev cX1_leadsSomewhere : ByteArray := prog_3_method_12_code
def yX1_leadsSomewhere : MethodName := ⟨RX1, "leadsSomewhere", "(J)Z"⟩
def RX2 : String := "CrowdDesk$Crowd"
def TX2 : u_T := fun k => match k with
  | 0 => ("CrowdDesk$Crowd", "formula", "LCrowdDesk$Formula;", true)
  | 1 => ("CrowdDesk$Crowd", "meeting", "LCrowdDesk$Meeting;", true)
  | 2 => ("CrowdDesk$Crowd", "agents", "[J", true)
  | 3 => ("CrowdDesk$Crowd", "letterCounts", "[I", true)
  | _ => ("CrowdDesk$Crowd", "count", "I", false)
def tyX2 : Nat → FieldType := fun k => match k with
  | 0 => .object "CrowdDesk$Formula"
  | 1 => .object "CrowdDesk$Meeting"
  | 2 => .array .long
  | 3 => .array .int
  | _ => .int
abbrev wsX20 : List Cond := u_ws RX2 TX2 5
theorem nmX2 : ∀ a, a < 5 → ∀ b, b < 5 → a ≠ b → (TX2 a).2.1 ≠ (TX2 b).2.1 := by decide +kernel
theorem tyX2_ok : ∀ k, k < 5 → parseFieldDescriptor (TX2 k).2.2.1 = some (tyX2 k) := by decide +kernel
abbrev cX2_init : ByteArray := prog_4_method_1_code
def yX2_init : MethodName := ⟨RX2, "<init>", "(LCrowdDesk$Formula;)V"⟩
abbrev cX2_reset : ByteArray := prog_4_method_2_code
def yX2_reset : MethodName := ⟨RX2, "reset", "()V"⟩
abbrev cX2_count : ByteArray := prog_4_method_3_code
def yX2_count : MethodName := ⟨RX2, "count", "()I"⟩
abbrev cX2_hasAgent : ByteArray := prog_4_method_4_code
def yX2_hasAgent : MethodName := ⟨RX2, "hasAgent", "(I)Z"⟩
abbrev cX2_agent : ByteArray := prog_4_method_5_code
def yX2_agent : MethodName := ⟨RX2, "agent", "(I)J"⟩
abbrev cX2_letterCounts : ByteArray := prog_4_method_6_code
def yX2_letterCounts : MethodName := ⟨RX2, "letterCounts", "()[I"⟩
abbrev cX2_admit : ByteArray := prog_4_method_7_code
def yX2_admit : MethodName := ⟨RX2, "admit", "(II)V"⟩
abbrev cX2_bringTogether : ByteArray := prog_4_method_8_code
def yX2_bringTogether : MethodName := ⟨RX2, "bringTogether", "(II)Z"⟩
abbrev cX2_sweepOften : ByteArray := prog_4_method_9_code
def yX2_sweepOften : MethodName := ⟨RX2, "sweepOften", "(I)I"⟩
abbrev cX2_sweepOnce : ByteArray := prog_4_method_10_code
def yX2_sweepOnce : MethodName := ⟨RX2, "sweepOnce", "()I"⟩
abbrev cX2_behindLastLeader : ByteArray := prog_4_method_11_code
def yX2_behindLastLeader : MethodName := ⟨RX2, "behindLastLeader", "()I"⟩
abbrev cX2_isQuiet : ByteArray := prog_4_method_12_code
def yX2_isQuiet : MethodName := ⟨RX2, "isQuiet", "()Z"⟩
abbrev cX2_isOfOneMind : ByteArray := prog_4_method_13_code
def yX2_isOfOneMind : MethodName := ⟨RX2, "isOfOneMind", "()Z"⟩
def RX3 : String := "CrowdDesk$Formula"
def TX3 : u_T := fun k => match k with
  | 0 => ("CrowdDesk$Formula", "pending", "[I", true)
  | 1 => ("CrowdDesk$Formula", "ops", "[I", true)
  | 2 => ("CrowdDesk$Formula", "lefts", "[I", true)
  | 3 => ("CrowdDesk$Formula", "rights", "[I", true)
  | 4 => ("CrowdDesk$Formula", "atoms", "[LCrowdDesk$Atom;", true)
  | 5 => ("CrowdDesk$Formula", "nodeCount", "I", false)
  | 6 => ("CrowdDesk$Formula", "atomCount", "I", false)
  | _ => ("CrowdDesk$Formula", "compiled", "Z", false)
def tyX3 : Nat → FieldType := fun k => match k with
  | 0 => .array .int
  | 1 => .array .int
  | 2 => .array .int
  | 3 => .array .int
  | 4 => .array (.object "CrowdDesk$Atom")
  | 5 => .int
  | 6 => .int
  | _ => .boolean
abbrev wsX30 : List Cond := u_ws RX3 TX3 8
theorem nmX3 : ∀ a, a < 8 → ∀ b, b < 8 → a ≠ b → (TX3 a).2.1 ≠ (TX3 b).2.1 := by decide +kernel
theorem tyX3_ok : ∀ k, k < 8 → parseFieldDescriptor (TX3 k).2.2.1 = some (tyX3 k) := by decide +kernel
abbrev cX3_init : ByteArray := prog_5_method_1_code
def yX3_init : MethodName := ⟨RX3, "<init>", "()V"⟩
abbrev cX3_reset : ByteArray := prog_5_method_2_code
def yX3_reset : MethodName := ⟨RX3, "reset", "()V"⟩
abbrev cX3_setPending : ByteArray := prog_5_method_3_code
def yX3_setPending : MethodName := ⟨RX3, "setPending", "(II)I"⟩
abbrev cX3_takesNode : ByteArray := prog_5_method_4_code
def yX3_takesNode : MethodName := ⟨RX3, "takesNode", "()Z"⟩
abbrev cX3_takesAtom : ByteArray := prog_5_method_5_code
def yX3_takesAtom : MethodName := ⟨RX3, "takesAtom", "()Z"⟩
abbrev cX3_hasNode : ByteArray := prog_5_method_6_code
def yX3_hasNode : MethodName := ⟨RX3, "hasNode", "(I)Z"⟩
abbrev cX3_hasAtom : ByteArray := prog_5_method_7_code
def yX3_hasAtom : MethodName := ⟨RX3, "hasAtom", "(I)Z"⟩
abbrev cX3_isCompiled : ByteArray := prog_5_method_8_code
def yX3_isCompiled : MethodName := ⟨RX3, "isCompiled", "()Z"⟩
abbrev cX3_isEmpty : ByteArray := prog_5_method_9_code
def yX3_isEmpty : MethodName := ⟨RX3, "isEmpty", "()Z"⟩
abbrev cX3_atom : ByteArray := prog_5_method_10_code
def yX3_atom : MethodName := ⟨RX3, "atom", "(I)LCrowdDesk$Atom;"⟩
abbrev cX3_atomCount : ByteArray := prog_5_method_11_code
def yX3_atomCount : MethodName := ⟨RX3, "atomCount", "()I"⟩
abbrev cX3_addAtom : ByteArray := prog_5_method_12_code
def yX3_addAtom : MethodName := ⟨RX3, "addAtom", "(II)I"⟩
abbrev cX3_addNode : ByteArray := prog_5_method_13_code
def yX3_addNode : MethodName := ⟨RX3, "addNode", "(III)I"⟩
abbrev cX3_hasSharedNode : ByteArray := prog_5_method_14_code
def yX3_hasSharedNode : MethodName := ⟨RX3, "hasSharedNode", "()Z"⟩
abbrev cX3_makeRules : ByteArray := prog_5_method_15_code
def yX3_makeRules : MethodName := ⟨RX3, "makeRules", "()I"⟩
abbrev cX3_beginning : ByteArray := prog_5_method_16_code
def yX3_beginning : MethodName := ⟨RX3, "beginning", "(I)J"⟩
abbrev cX3_isTrueOf : ByteArray := prog_5_method_17_code
def yX3_isTrueOf : MethodName := ⟨RX3, "isTrueOf", "([I)Z"⟩
abbrev cX3_outputOf : ByteArray := prog_5_method_18_code
def yX3_outputOf : MethodName := ⟨RX3, "outputOf", "(J)Z"⟩
abbrev cX3_allOutputsAre : ByteArray := prog_5_method_19_code
def yX3_allOutputsAre : MethodName := ⟨RX3, "allOutputsAre", "(Z[JII)Z"⟩
abbrev cX3_evaluate : ByteArray := prog_5_method_20_code
def yX3_evaluate : MethodName := ⟨RX3, "evaluate", "(I)Z"⟩
abbrev cX3_nodeTruth : ByteArray := prog_5_method_21_code
def yX3_nodeTruth : MethodName := ⟨RX3, "nodeTruth", "(III)I"⟩
abbrev cX3_bit : ByteArray := prog_5_method_22_code
def yX3_bit : MethodName := ⟨RX3, "bit", "(II)I"⟩
def RX4 : String := "CrowdDesk$Meeting"
def TX4 : u_T := fun k => match k with
  | 0 => ("CrowdDesk$Meeting", "formula", "LCrowdDesk$Formula;", true)
  | 1 => ("CrowdDesk$Meeting", "first", "J", false)
  | _ => ("CrowdDesk$Meeting", "second", "J", false)
def tyX4 : Nat → FieldType := fun k => match k with
  | 0 => .object "CrowdDesk$Formula"
  | 1 => .long
  | _ => .long
abbrev wsX40 : List Cond := u_ws RX4 TX4 3
theorem nmX4 : ∀ a, a < 3 → ∀ b, b < 3 → a ≠ b → (TX4 a).2.1 ≠ (TX4 b).2.1 := by decide +kernel
theorem tyX4_ok : ∀ k, k < 3 → parseFieldDescriptor (TX4 k).2.2.1 = some (tyX4 k) := by decide +kernel
abbrev cX4_init : ByteArray := prog_6_method_1_code
def yX4_init : MethodName := ⟨RX4, "<init>", "(LCrowdDesk$Formula;)V"⟩
abbrev cX4_changes : ByteArray := prog_6_method_2_code
def yX4_changes : MethodName := ⟨RX4, "changes", "(JJ)Z"⟩
abbrev cX4_first : ByteArray := prog_6_method_3_code
def yX4_first : MethodName := ⟨RX4, "first", "()J"⟩
abbrev cX4_second : ByteArray := prog_6_method_4_code
def yX4_second : MethodName := ⟨RX4, "second", "()J"⟩
abbrev cX4_changesNone : ByteArray := prog_6_method_5_code
def yX4_changesNone : MethodName := ⟨RX4, "changesNone", "([JII)Z"⟩
def RX5 : String := "CrowdDesk$Search"
def TX5 : u_T := fun k => match k with
  | 0 => ("CrowdDesk$Search", "formula", "LCrowdDesk$Formula;", true)
  | 1 => ("CrowdDesk$Search", "meeting", "LCrowdDesk$Meeting;", true)
  | 2 => ("CrowdDesk$Search", "rows", "[J", true)
  | 3 => ("CrowdDesk$Search", "slots", "[I", true)
  | 4 => ("CrowdDesk$Search", "endsRight", "[Z", true)
  | 5 => ("CrowdDesk$Search", "next", "[J", true)
  | 6 => ("CrowdDesk$Search", "width", "I", false)
  | _ => ("CrowdDesk$Search", "found", "I", false)
def tyX5 : Nat → FieldType := fun k => match k with
  | 0 => .object "CrowdDesk$Formula"
  | 1 => .object "CrowdDesk$Meeting"
  | 2 => .array .long
  | 3 => .array .int
  | 4 => .array .boolean
  | 5 => .array .long
  | 6 => .int
  | _ => .int
abbrev wsX50 : List Cond := u_ws RX5 TX5 8
theorem nmX5 : ∀ a, a < 8 → ∀ b, b < 8 → a ≠ b → (TX5 a).2.1 ≠ (TX5 b).2.1 := by decide +kernel
theorem tyX5_ok : ∀ k, k < 8 → parseFieldDescriptor (TX5 k).2.2.1 = some (tyX5 k) := by decide +kernel
abbrev cX5_init : ByteArray := prog_7_method_1_code
def yX5_init : MethodName := ⟨RX5, "<init>", "(LCrowdDesk$Formula;)V"⟩
abbrev cX5_findAll : ByteArray := prog_7_method_2_code
def yX5_findAll : MethodName := ⟨RX5, "findAll", "(LCrowdDesk$Crowd;I)I"⟩
abbrev cX5_keepAllAfter : ByteArray := prog_7_method_3_code
def yX5_keepAllAfter : MethodName := ⟨RX5, "keepAllAfter", "(II)Z"⟩
abbrev cX5_stepToNext : ByteArray := prog_7_method_4_code
def yX5_stepToNext : MethodName := ⟨RX5, "stepToNext", "(III)Z"⟩
abbrev cX5_sortNext : ByteArray := prog_7_method_5_code
def yX5_sortNext : MethodName := ⟨RX5, "sortNext", "()V"⟩
abbrev cX5_keepNext : ByteArray := prog_7_method_6_code
def yX5_keepNext : MethodName := ⟨RX5, "keepNext", "(I)V"⟩
abbrev cX5_slotOfNext : ByteArray := prog_7_method_7_code
def yX5_slotOfNext : MethodName := ⟨RX5, "slotOfNext", "()I"⟩
abbrev cX5_isNext : ByteArray := prog_7_method_8_code
def yX5_isNext : MethodName := ⟨RX5, "isNext", "(I)Z"⟩
abbrev cX5_allCanEndRight : ByteArray := prog_7_method_9_code
def yX5_allCanEndRight : MethodName := ⟨RX5, "allCanEndRight", "(Z)Z"⟩
abbrev cX5_isRightEnd : ByteArray := prog_7_method_10_code
def yX5_isRightEnd : MethodName := ⟨RX5, "isRightEnd", "(IZ)Z"⟩
abbrev cX5_leadsToRightEnd : ByteArray := prog_7_method_11_code
def yX5_leadsToRightEnd : MethodName := ⟨RX5, "leadsToRightEnd", "(I)Z"⟩
def RX6 : String := "CrowdDesk"
def TX6 : u_T := fun k => match k with
  | 0 => ("CrowdDesk", "formula", "LCrowdDesk$Formula;", true)
  | 1 => ("CrowdDesk", "crowd", "LCrowdDesk$Crowd;", true)
  | 2 => ("CrowdDesk", "search", "LCrowdDesk$Search;", false)
  | _ => ("CrowdDesk", "explored", "Z", false)
def tyX6 : Nat → FieldType := fun k => match k with
  | 0 => .object "CrowdDesk$Formula"
  | 1 => .object "CrowdDesk$Crowd"
  | 2 => .object "CrowdDesk$Search"
  | _ => .boolean
abbrev wsX60 : List Cond := u_ws RX6 TX6 4
theorem nmX6 : ∀ a, a < 4 → ∀ b, b < 4 → a ≠ b → (TX6 a).2.1 ≠ (TX6 b).2.1 := by decide +kernel
theorem tyX6_ok : ∀ k, k < 4 → parseFieldDescriptor (TX6 k).2.2.1 = some (tyX6 k) := by decide +kernel
abbrev cX6_init : ByteArray := prog_1_method_1_code
def yX6_init : MethodName := ⟨RX6, "<init>", "()V"⟩
abbrev cX6_clear : ByteArray := prog_1_method_2_code
def yX6_clear : MethodName := ⟨RX6, "clear", "()V"⟩
abbrev cX6_coef : ByteArray := prog_1_method_3_code
def yX6_coef : MethodName := ⟨RX6, "coef", "(II)I"⟩
abbrev cX6_sum : ByteArray := prog_1_method_4_code
def yX6_sum : MethodName := ⟨RX6, "sum", "(I)I"⟩
abbrev cX6_mod : ByteArray := prog_1_method_5_code
def yX6_mod : MethodName := ⟨RX6, "mod", "(II)I"⟩
abbrev cX6_combine : ByteArray := prog_1_method_6_code
def yX6_combine : MethodName := ⟨RX6, "combine", "(III)I"⟩
abbrev cX6_compile : ByteArray := prog_1_method_7_code
def yX6_compile : MethodName := ⟨RX6, "compile", "()I"⟩
abbrev cX6_add : ByteArray := prog_1_method_8_code
def yX6_add : MethodName := ⟨RX6, "add", "(II)I"⟩
abbrev cX6_size : ByteArray := prog_1_method_9_code
def yX6_size : MethodName := ⟨RX6, "size", "()I"⟩
abbrev cX6_meet : ByteArray := prog_1_method_10_code
def yX6_meet : MethodName := ⟨RX6, "meet", "(II)Z"⟩
abbrev cX6_sweep : ByteArray := prog_1_method_11_code
def yX6_sweep : MethodName := ⟨RX6, "sweep", "(I)I"⟩
abbrev cX6_output : ByteArray := prog_1_method_12_code
def yX6_output : MethodName := ⟨RX6, "output", "(I)Z"⟩
abbrev cX6_state : ByteArray := prog_1_method_13_code
def yX6_state : MethodName := ⟨RX6, "state", "(III)I"⟩
abbrev cX6_truth : ByteArray := prog_1_method_14_code
def yX6_truth : MethodName := ⟨RX6, "truth", "()Z"⟩
abbrev cX6_silent : ByteArray := prog_1_method_15_code
def yX6_silent : MethodName := ⟨RX6, "silent", "()Z"⟩
abbrev cX6_agree : ByteArray := prog_1_method_16_code
def yX6_agree : MethodName := ⟨RX6, "agree", "()Z"⟩
abbrev cX6_explore : ByteArray := prog_1_method_17_code
def yX6_explore : MethodName := ⟨RX6, "explore", "(I)I"⟩
abbrev cX6_recovers : ByteArray := prog_1_method_18_code
def yX6_recovers : MethodName := ⟨RX6, "recovers", "()Z"⟩
abbrev cX6_table : ByteArray := prog_1_method_19_code
def yX6_table : MethodName := ⟨RX6, "table", "(II)I"⟩
abbrev cX6_rule : ByteArray := prog_1_method_20_code
def yX6_rule : MethodName := ⟨RX6, "rule", "(III)I"⟩
abbrev cX6_kind : ByteArray := prog_1_method_21_code
def yX6_kind : MethodName := ⟨RX6, "kind", "(III)I"⟩
abbrev cX6_checkTable : ByteArray := prog_1_method_22_code
def yX6_checkTable : MethodName := ⟨RX6, "checkTable", "(III)V"⟩
abbrev cX6_isLetter : ByteArray := prog_1_method_23_code
def yX6_isLetter : MethodName := ⟨RX6, "isLetter", "(I)Z"⟩
abbrev cX6_isCoefficient : ByteArray := prog_1_method_24_code
def yX6_isCoefficient : MethodName := ⟨RX6, "isCoefficient", "(I)Z"⟩
abbrev cX6_isFact : ByteArray := prog_1_method_25_code
def yX6_isFact : MethodName := ⟨RX6, "isFact", "(II)Z"⟩
def RX7 : String := "CrowdDeskModel"
def TX7 : u_T := fun k => match k with
  | 0 => ("CrowdDeskModel", "thrownCode", "I", false)
  | 1 => ("CrowdDeskModel", "pending", "[I", true)
  | 2 => ("CrowdDeskModel", "nodes", "I", false)
  | 3 => ("CrowdDeskModel", "op", "[I", true)
  | 4 => ("CrowdDeskModel", "left", "[I", true)
  | 5 => ("CrowdDeskModel", "right", "[I", true)
  | 6 => ("CrowdDeskModel", "truths", "[Z", true)
  | 7 => ("CrowdDeskModel", "atoms", "I", false)
  | 8 => ("CrowdDeskModel", "coefs", "[I", true)
  | 9 => ("CrowdDeskModel", "bound", "[I", true)
  | 10 => ("CrowdDeskModel", "modulus", "[I", true)
  | 11 => ("CrowdDeskModel", "edge", "[I", true)
  | 12 => ("CrowdDeskModel", "compiled", "Z", false)
  | 13 => ("CrowdDeskModel", "there", "[Z", true)
  | 14 => ("CrowdDeskModel", "agents", "I", false)
  | 15 => ("CrowdDeskModel", "agent", "[I", true)
  | 16 => ("CrowdDeskModel", "letters", "[I", true)
  | 17 => ("CrowdDeskModel", "newOne", "I", false)
  | 18 => ("CrowdDeskModel", "newOther", "I", false)
  | 19 => ("CrowdDeskModel", "crowds", "I", false)
  | 20 => ("CrowdDeskModel", "crowd", "[J", true)
  | 21 => ("CrowdDeskModel", "place", "[I", true)
  | 22 => ("CrowdDeskModel", "good", "[Z", true)
  | 23 => ("CrowdDeskModel", "explored", "Z", false)
  | _ => ("CrowdDeskModel", "work", "[J", true)
def tyX7 : Nat → FieldType := fun k => match k with
  | 0 => .int
  | 1 => .array .int
  | 2 => .int
  | 3 => .array .int
  | 4 => .array .int
  | 5 => .array .int
  | 6 => .array .boolean
  | 7 => .int
  | 8 => .array .int
  | 9 => .array .int
  | 10 => .array .int
  | 11 => .array .int
  | 12 => .boolean
  | 13 => .array .boolean
  | 14 => .int
  | 15 => .array .int
  | 16 => .array .int
  | 17 => .int
  | 18 => .int
  | 19 => .int
  | 20 => .array .long
  | 21 => .array .int
  | 22 => .array .boolean
  | 23 => .boolean
  | _ => .array .long
abbrev wsX70 : List Cond := u_ws RX7 TX7 25
theorem nmX7 : ∀ a, a < 25 → ∀ b, b < 25 → a ≠ b → (TX7 a).2.1 ≠ (TX7 b).2.1 := by decide +kernel
theorem tyX7_ok : ∀ k, k < 25 → parseFieldDescriptor (TX7 k).2.2.1 = some (tyX7 k) := by decide +kernel
abbrev cX7_init : ByteArray := prog_9_method_1_code
def yX7_init : MethodName := ⟨RX7, "<init>", "()V"⟩
abbrev cX7_thrown : ByteArray := prog_9_method_2_code
def yX7_thrown : MethodName := ⟨RX7, "thrown", "()I"⟩
abbrev cX7_opinionOf : ByteArray := prog_9_method_3_code
def yX7_opinionOf : MethodName := ⟨RX7, "opinionOf", "(II)Z"⟩
abbrev cX7_stateOf : ByteArray := prog_9_method_4_code
def yX7_stateOf : MethodName := ⟨RX7, "stateOf", "(IZIZ)I"⟩
abbrev cX7_valueOf : ByteArray := prog_9_method_5_code
def yX7_valueOf : MethodName := ⟨RX7, "valueOf", "(I)I"⟩
abbrev cX7_firstState : ByteArray := prog_9_method_6_code
def yX7_firstState : MethodName := ⟨RX7, "firstState", "(II)I"⟩
abbrev cX7_meeting : ByteArray := prog_9_method_7_code
def yX7_meeting : MethodName := ⟨RX7, "meeting", "(III)V"⟩
abbrev cX7_findStates : ByteArray := prog_9_method_8_code
def yX7_findStates : MethodName := ⟨RX7, "findStates", "(I)V"⟩
abbrev cX7_stateCount : ByteArray := prog_9_method_9_code
def yX7_stateCount : MethodName := ⟨RX7, "stateCount", "(I)I"⟩
abbrev cX7_numberOf : ByteArray := prog_9_method_10_code
def yX7_numberOf : MethodName := ⟨RX7, "numberOf", "(II)I"⟩
abbrev cX7_findRule : ByteArray := prog_9_method_11_code
def yX7_findRule : MethodName := ⟨RX7, "findRule", "(II)I"⟩
abbrev cX7_formula : ByteArray := prog_9_method_12_code
def yX7_formula : MethodName := ⟨RX7, "formula", "()Z"⟩
abbrev cX7_truthNow : ByteArray := prog_9_method_13_code
def yX7_truthNow : MethodName := ⟨RX7, "truthNow", "()Z"⟩
abbrev cX7_outputOf : ByteArray := prog_9_method_14_code
def yX7_outputOf : MethodName := ⟨RX7, "outputOf", "(I)Z"⟩
abbrev cX7_meets : ByteArray := prog_9_method_15_code
def yX7_meets : MethodName := ⟨RX7, "meets", "(IIZ)Z"⟩
abbrev cX7_stateIn : ByteArray := prog_9_method_16_code
def yX7_stateIn : MethodName := ⟨RX7, "stateIn", "(JI)I"⟩
abbrev cX7_sort : ByteArray := prog_9_method_17_code
def yX7_sort : MethodName := ⟨RX7, "sort", "()V"⟩
abbrev cX7_after : ByteArray := prog_9_method_18_code
def yX7_after : MethodName := ⟨RX7, "after", "(III)Z"⟩
abbrev cX7_find : ByteArray := prog_9_method_19_code
def yX7_find : MethodName := ⟨RX7, "find", "(Z)I"⟩
abbrev cX7_silentCrowd : ByteArray := prog_9_method_20_code
def yX7_silentCrowd : MethodName := ⟨RX7, "silentCrowd", "(I)Z"⟩
abbrev cX7_rightCrowd : ByteArray := prog_9_method_21_code
def yX7_rightCrowd : MethodName := ⟨RX7, "rightCrowd", "(IZ)Z"⟩
abbrev cX7_leadsToGood : ByteArray := prog_9_method_22_code
def yX7_leadsToGood : MethodName := ⟨RX7, "leadsToGood", "(I)Z"⟩
abbrev cX7_clear : ByteArray := prog_9_method_23_code
def yX7_clear : MethodName := ⟨RX7, "clear", "()V"⟩
abbrev cX7_coef : ByteArray := prog_9_method_24_code
def yX7_coef : MethodName := ⟨RX7, "coef", "(II)I"⟩
abbrev cX7_atom : ByteArray := prog_9_method_25_code
def yX7_atom : MethodName := ⟨RX7, "atom", "(II)I"⟩
abbrev cX7_node : ByteArray := prog_9_method_26_code
def yX7_node : MethodName := ⟨RX7, "node", "(III)I"⟩
abbrev cX7_full : ByteArray := prog_9_method_27_code
def yX7_full : MethodName := ⟨RX7, "full", "()Z"⟩
abbrev cX7_sum : ByteArray := prog_9_method_28_code
def yX7_sum : MethodName := ⟨RX7, "sum", "(I)I"⟩
abbrev cX7_mod : ByteArray := prog_9_method_29_code
def yX7_mod : MethodName := ⟨RX7, "mod", "(II)I"⟩
abbrev cX7_combine : ByteArray := prog_9_method_30_code
def yX7_combine : MethodName := ⟨RX7, "combine", "(III)I"⟩
abbrev cX7_compile : ByteArray := prog_9_method_31_code
def yX7_compile : MethodName := ⟨RX7, "compile", "()I"⟩
abbrev cX7_add : ByteArray := prog_9_method_32_code
def yX7_add : MethodName := ⟨RX7, "add", "(II)I"⟩
abbrev cX7_size : ByteArray := prog_9_method_33_code
def yX7_size : MethodName := ⟨RX7, "size", "()I"⟩
abbrev cX7_noAgent : ByteArray := prog_9_method_34_code
def yX7_noAgent : MethodName := ⟨RX7, "noAgent", "(I)Z"⟩
abbrev cX7_meet : ByteArray := prog_9_method_35_code
def yX7_meet : MethodName := ⟨RX7, "meet", "(II)Z"⟩
abbrev cX7_sweep : ByteArray := prog_9_method_36_code
def yX7_sweep : MethodName := ⟨RX7, "sweep", "(I)I"⟩
abbrev cX7_output : ByteArray := prog_9_method_37_code
def yX7_output : MethodName := ⟨RX7, "output", "(I)Z"⟩
abbrev cX7_partOf : ByteArray := prog_9_method_38_code
def yX7_partOf : MethodName := ⟨RX7, "partOf", "(II)I"⟩
abbrev cX7_state : ByteArray := prog_9_method_39_code
def yX7_state : MethodName := ⟨RX7, "state", "(III)I"⟩
abbrev cX7_truth : ByteArray := prog_9_method_40_code
def yX7_truth : MethodName := ⟨RX7, "truth", "()Z"⟩
abbrev cX7_silent : ByteArray := prog_9_method_41_code
def yX7_silent : MethodName := ⟨RX7, "silent", "()Z"⟩
abbrev cX7_agree : ByteArray := prog_9_method_42_code
def yX7_agree : MethodName := ⟨RX7, "agree", "()Z"⟩
abbrev cX7_explore : ByteArray := prog_9_method_43_code
def yX7_explore : MethodName := ⟨RX7, "explore", "(I)I"⟩
abbrev cX7_recovers : ByteArray := prog_9_method_44_code
def yX7_recovers : MethodName := ⟨RX7, "recovers", "()Z"⟩
abbrev cX7_tableFault : ByteArray := prog_9_method_45_code
def yX7_tableFault : MethodName := ⟨RX7, "tableFault", "(III)I"⟩
abbrev cX7_table : ByteArray := prog_9_method_46_code
def yX7_table : MethodName := ⟨RX7, "table", "(II)I"⟩
abbrev cX7_rule : ByteArray := prog_9_method_47_code
def yX7_rule : MethodName := ⟨RX7, "rule", "(III)I"⟩
abbrev cX7_kind : ByteArray := prog_9_method_48_code
def yX7_kind : MethodName := ⟨RX7, "kind", "(III)I"⟩
def RJ9 : String := "java/lang/Math"
def TJ9 : u_T := fun k => match k with
  | _ => ("", "", "", false)
def tyJ9 : Nat → FieldType := fun k => match k with
  | _ => .int
abbrev wsJ90 : List Cond := u_ws RJ9 TJ9 0
theorem nmJ9 : ∀ a, a < 0 → ∀ b, b < 0 → a ≠ b → (TJ9 a).2.1 ≠ (TJ9 b).2.1 := by decide +kernel
theorem tyJ9_ok : ∀ k, k < 0 → parseFieldDescriptor (TJ9 k).2.2.1 = some (tyJ9 k) := by decide +kernel
abbrev cJ9_floorMod_7cf53 : ByteArray := prog_14_method_50_code
def yJ9_floorMod_7cf53 : MethodName := ⟨RJ9, "floorMod", "(II)I"⟩
abbrev cJ9_abs_0f7a4 : ByteArray := prog_14_method_59_code
def yJ9_abs_0f7a4 : MethodName := ⟨RJ9, "abs", "(I)I"⟩
abbrev cJ9_max_7cf53 : ByteArray := prog_14_method_65_code
def yJ9_max_7cf53 : MethodName := ⟨RJ9, "max", "(II)I"⟩
abbrev cJ9_min_7cf53 : ByteArray := prog_14_method_69_code
def yJ9_min_7cf53 : MethodName := ⟨RJ9, "min", "(II)I"⟩
def RJ0 : String := "java/lang/String"
def TJ0 : u_T := fun k => match k with
  | _ => ("", "", "", false)
def tyJ0 : Nat → FieldType := fun k => match k with
  | _ => .int
abbrev wsJ00 : List Cond := u_ws RJ0 TJ0 0
theorem nmJ0 : ∀ a, a < 0 → ∀ b, b < 0 → a ≠ b → (TJ0 a).2.1 ≠ (TJ0 b).2.1 := by decide +kernel
theorem tyJ0_ok : ∀ k, k < 0 → parseFieldDescriptor (TJ0 k).2.2.1 = some (tyJ0 k) := by decide +kernel
def RJ7 : String := "java/util/Arrays"
def TJ7 : u_T := fun k => match k with
  | _ => ("", "", "", false)
def tyJ7 : Nat → FieldType := fun k => match k with
  | _ => .int
abbrev wsJ70 : List Cond := u_ws RJ7 TJ7 0
theorem nmJ7 : ∀ a, a < 0 → ∀ b, b < 0 → a ≠ b → (TJ7 a).2.1 ≠ (TJ7 b).2.1 := by decide +kernel
theorem tyJ7_ok : ∀ k, k < 0 → parseFieldDescriptor (TJ7 k).2.2.1 = some (tyJ7 k) := by decide +kernel
abbrev cJ7_fill_53178 : ByteArray := prog_18_method_103_code
def yJ7_fill_53178 : MethodName := ⟨RJ7, "fill", "([II)V"⟩
def RL : String := "CrowdDeskLaw"
abbrev cL_coef : ByteArray := method_3_code
def yL_coef : MethodName := ⟨RL, "coef", "(LCrowdDesk;II[J)I"⟩
abbrev cL_sum : ByteArray := method_4_code
def yL_sum : MethodName := ⟨RL, "sum", "(LCrowdDesk;I[J)I"⟩
abbrev cL_mod : ByteArray := method_5_code
def yL_mod : MethodName := ⟨RL, "mod", "(LCrowdDesk;II[J)I"⟩
abbrev cL_combine : ByteArray := method_6_code
def yL_combine : MethodName := ⟨RL, "combine", "(LCrowdDesk;III[J)I"⟩
abbrev cL_compile : ByteArray := method_7_code
def yL_compile : MethodName := ⟨RL, "compile", "(LCrowdDesk;[J)I"⟩
abbrev cL_add : ByteArray := method_8_code
def yL_add : MethodName := ⟨RL, "add", "(LCrowdDesk;II[J)I"⟩
abbrev cL_meet : ByteArray := method_9_code
def yL_meet : MethodName := ⟨RL, "meet", "(LCrowdDesk;II[J)I"⟩
abbrev cL_sweep : ByteArray := method_10_code
def yL_sweep : MethodName := ⟨RL, "sweep", "(LCrowdDesk;I[J)I"⟩
abbrev cL_output : ByteArray := method_11_code
def yL_output : MethodName := ⟨RL, "output", "(LCrowdDesk;I[J)I"⟩
abbrev cL_state : ByteArray := method_12_code
def yL_state : MethodName := ⟨RL, "state", "(LCrowdDesk;III[J)I"⟩
abbrev cL_truth : ByteArray := method_13_code
def yL_truth : MethodName := ⟨RL, "truth", "(LCrowdDesk;[J)I"⟩
abbrev cL_explore : ByteArray := method_14_code
def yL_explore : MethodName := ⟨RL, "explore", "(LCrowdDesk;I[J)I"⟩
abbrev cL_recovers : ByteArray := method_15_code
def yL_recovers : MethodName := ⟨RL, "recovers", "(LCrowdDesk;[J)I"⟩
abbrev cL_table : ByteArray := method_16_code
def yL_table : MethodName := ⟨RL, "table", "(LCrowdDesk;II[J)I"⟩
abbrev cL_rule : ByteArray := method_17_code
def yL_rule : MethodName := ⟨RL, "rule", "(LCrowdDesk;III[J)I"⟩
abbrev cL_kind : ByteArray := method_18_code
def yL_kind : MethodName := ⟨RL, "kind", "(LCrowdDesk;III[J)I"⟩
abbrev cL_law : ByteArray := code
def yL_law : MethodName := ⟨RL, "law", "([I)Z"⟩
def wsJ9_floorMod_7cf53 : List Cond := .code yJ9_floorMod_7cf53 cJ9_floorMod_7cf53 3 (some .int) :: ([])
def wsJ7_fill_53178 : List Cond := .code yJ7_fill_53178 cJ7_fill_53178 4 none :: ([])
def wsJ9_abs_0f7a4 : List Cond := .code yJ9_abs_0f7a4 cJ9_abs_0f7a4 1 (some .int) :: ([])
def wsJ9_max_7cf53 : List Cond := .code yJ9_max_7cf53 cJ9_max_7cf53 2 (some .int) :: ([])
def wsJ9_min_7cf53 : List Cond := .code yJ9_min_7cf53 cJ9_min_7cf53 2 (some .int) :: ([])
abbrev vwCl : List vw_C := [(RX0, TX0, 8), (RX2, TX2, 5), (RX3, TX3, 8), (RX4, TX4, 3), (RX5, TX5, 8), (RX6, TX6, 4), (RX7, TX7, 25)]
end
section
/-- the words of the tables that are good in every method -/
def WT : List Cond := lw_tbl.filter goodWord
theorem WT_of {w : Cond} (h : w ∈ lw_tbl) (g : goodWord w = true) : w ∈ WT := List.mem_filter.mpr ⟨h, g⟩
theorem WT_in {w : Cond} (h : w ∈ WT) : w ∈ lw_tbl := (List.mem_filter.mp h).1
theorem WT_good : GoodIn WT WT := fun w h => ⟨h, good_of_word (List.mem_filter.mp h).2⟩
theorem lw_t {w : Cond} (h : w ∈ tables_1) : w ∈ lw_tbl := List.mem_append_right _ h
theorem inW1 (k : Nat) {w : Cond} (h : tables_1_1[k]? = some w) (g : goodWord w = true) : w ∈ WT := WT_of (lw_t (List.mem_append_left _ (List.mem_of_getElem? h))) g
theorem inW2 (k : Nat) {w : Cond} (h : tables_1_2[k]? = some w) (g : goodWord w = true) : w ∈ WT := WT_of (lw_t (List.mem_append_right _ (List.mem_append_left _ (List.mem_of_getElem? h)))) g
theorem inW3 (k : Nat) {w : Cond} (h : tables_1_3[k]? = some w) (g : goodWord w = true) : w ∈ WT := WT_of (lw_t (List.mem_append_right _ (List.mem_append_right _ (List.mem_append_left _ (List.mem_of_getElem? h))))) g
theorem inW4 (k : Nat) {w : Cond} (h : tables_1_4[k]? = some w) (g : goodWord w = true) : w ∈ WT := WT_of (lw_t (List.mem_append_right _ (List.mem_append_right _ (List.mem_append_right _ (List.mem_append_left _ (List.mem_of_getElem? h)))))) g
theorem inW5 (k : Nat) {w : Cond} (h : tables_1_5[k]? = some w) (g : goodWord w = true) : w ∈ WT := WT_of (lw_t (List.mem_append_right _ (List.mem_append_right _ (List.mem_append_right _ (List.mem_append_right _ (List.mem_of_getElem? h)))))) g
theorem inWp (k : Nat) {w : Cond} (h : (k2_sels lw_privs)[k]? = some w) (g : goodWord w = true) : w ∈ WT := WT_of (List.mem_append_left _ (List.mem_of_getElem? h)) g
def Cls (ci : Nat) (C : String) (Tt : u_T) (N : Nat) (ty0 : Nat → FieldType) : Prop := vwCl[ci]? = some (C, Tt, N) ∧ (∀ w ∈ u_ws C Tt N, w ∈ WT) ∧ (∀ k, k < N → parseFieldDescriptor (Tt k).2.2.1 = some (ty0 k)) ∧ (∀ a, a < N → ∀ b, b < N → a ≠ b → (Tt a).2.1 ≠ (Tt b).2.1)
def MV (own : String) (idx : Nat) (y : MethodName) (cc : ByteArray) (nL : Nat) (ret : Option FieldType) (n : Nat) : Prop := (Cond.methodLink own idx y ∈ WT ∧ Cond.instanceMethod y ∈ WT ∧ Cond.selects y.cls y y ∈ WT ∧ Cond.initialized y.cls ∈ WT ∧ Cond.code y cc nL ret ∈ WT) ∧ y.cls ≠ "java/lang/invoke/MethodHandle" ∧ y.cls ≠ "java/lang/invoke/VarHandle" ∧ (parseMethodDescriptor y.desc).map (fun d => d.parameters.length) = some n
def MS (own : String) (idx : Nat) (y : MethodName) (cc : ByteArray) (nL : Nat) (ret : Option FieldType) (n : Nat) : Prop := (Cond.methodLink own idx y ∈ WT ∧ Cond.static y ∈ WT ∧ Cond.initialized y.cls ∈ WT ∧ Cond.code y cc nL ret ∈ WT) ∧ y.cls ≠ "java/lang/invoke/MethodHandle" ∧ y.cls ≠ "java/lang/invoke/VarHandle" ∧ (parseMethodDescriptor y.desc).map (fun d => d.parameters.length) = some n
def MSW (own : String) (idx : Nat) (y : MethodName) (cc : ByteArray) (nL : Nat) (ret : Option FieldType) (hh : List (Nat × Nat × Nat × Nat)) (n : Nat) : Prop := (Cond.methodLink own idx y ∈ WT ∧ Cond.static y ∈ WT ∧ Cond.initialized y.cls ∈ WT ∧ Cond.codeWith y cc nL ret hh ∈ WT) ∧ y.cls ≠ "java/lang/invoke/MethodHandle" ∧ y.cls ≠ "java/lang/invoke/VarHandle" ∧ (parseMethodDescriptor y.desc).map (fun d => d.parameters.length) = some n
def MI (own : String) (idx : Nat) (y : MethodName) (cc : ByteArray) (nL : Nat) (n : Nat) : Prop := (Cond.methodLink own idx y ∈ WT ∧ Cond.instanceMethod y ∈ WT ∧ Cond.initialized y.cls ∈ WT ∧ Cond.code y cc nL none ∈ WT ∧ y.name = "<init>") ∧ y.cls ≠ "java/lang/invoke/MethodHandle" ∧ y.cls ≠ "java/lang/invoke/VarHandle" ∧ (parseMethodDescriptor y.desc).map (fun d => d.parameters.length) = some n
set_option maxRecDepth 20000 in
theorem cls0 : Cls 0 RX0 TX0 8 tyX0 := ⟨rfl, List.forall_mem_cons.mpr ⟨inW1 46 rfl rfl, List.forall_mem_cons.mpr ⟨inW1 48 rfl rfl, List.forall_mem_cons.mpr ⟨inW1 50 rfl rfl, List.forall_mem_cons.mpr ⟨inW1 52 rfl rfl, List.forall_mem_cons.mpr ⟨inW1 54 rfl rfl, List.forall_mem_cons.mpr ⟨inW1 56 rfl rfl, List.forall_mem_cons.mpr ⟨inW1 58 rfl rfl, List.forall_mem_cons.mpr ⟨inW1 60 rfl rfl, fun _ h => absurd h List.not_mem_nil⟩⟩⟩⟩⟩⟩⟩⟩, tyX0_ok, nmX0⟩
set_option maxRecDepth 20000 in
theorem cls1 : Cls 1 RX2 TX2 5 tyX2 := ⟨rfl, List.forall_mem_cons.mpr ⟨inW1 117 rfl rfl, List.forall_mem_cons.mpr ⟨inW1 119 rfl rfl, List.forall_mem_cons.mpr ⟨inW1 121 rfl rfl, List.forall_mem_cons.mpr ⟨inW1 123 rfl rfl, List.forall_mem_cons.mpr ⟨inW1 125 rfl rfl, fun _ h => absurd h List.not_mem_nil⟩⟩⟩⟩⟩, tyX2_ok, nmX2⟩
set_option maxRecDepth 20000 in
theorem cls2 : Cls 2 RX3 TX3 8 tyX3 := ⟨rfl, List.forall_mem_cons.mpr ⟨inW1 72 rfl rfl, List.forall_mem_cons.mpr ⟨inW1 74 rfl rfl, List.forall_mem_cons.mpr ⟨inW1 76 rfl rfl, List.forall_mem_cons.mpr ⟨inW1 78 rfl rfl, List.forall_mem_cons.mpr ⟨inW1 80 rfl rfl, List.forall_mem_cons.mpr ⟨inW1 82 rfl rfl, List.forall_mem_cons.mpr ⟨inW1 84 rfl rfl, List.forall_mem_cons.mpr ⟨inW1 86 rfl rfl, fun _ h => absurd h List.not_mem_nil⟩⟩⟩⟩⟩⟩⟩⟩, tyX3_ok, nmX3⟩
set_option maxRecDepth 20000 in
theorem cls3 : Cls 3 RX4 TX4 3 tyX4 := ⟨rfl, List.forall_mem_cons.mpr ⟨inW1 104 rfl rfl, List.forall_mem_cons.mpr ⟨inW1 106 rfl rfl, List.forall_mem_cons.mpr ⟨inW1 108 rfl rfl, fun _ h => absurd h List.not_mem_nil⟩⟩⟩, tyX4_ok, nmX4⟩
set_option maxRecDepth 20000 in
theorem cls4 : Cls 4 RX5 TX5 8 tyX5 := ⟨rfl, List.forall_mem_cons.mpr ⟨inW3 178 rfl rfl, List.forall_mem_cons.mpr ⟨inW3 180 rfl rfl, List.forall_mem_cons.mpr ⟨inW3 182 rfl rfl, List.forall_mem_cons.mpr ⟨inW3 184 rfl rfl, List.forall_mem_cons.mpr ⟨inW3 186 rfl rfl, List.forall_mem_cons.mpr ⟨inW3 188 rfl rfl, List.forall_mem_cons.mpr ⟨inW3 190 rfl rfl, List.forall_mem_cons.mpr ⟨inW3 192 rfl rfl, fun _ h => absurd h List.not_mem_nil⟩⟩⟩⟩⟩⟩⟩⟩, tyX5_ok, nmX5⟩
set_option maxRecDepth 20000 in
theorem cls5 : Cls 5 RX6 TX6 4 tyX6 := ⟨rfl, List.forall_mem_cons.mpr ⟨inW1 132 rfl rfl, List.forall_mem_cons.mpr ⟨inW1 134 rfl rfl, List.forall_mem_cons.mpr ⟨inW1 136 rfl rfl, List.forall_mem_cons.mpr ⟨inW1 138 rfl rfl, fun _ h => absurd h List.not_mem_nil⟩⟩⟩⟩, tyX6_ok, nmX6⟩
set_option maxRecDepth 20000 in
theorem cls6 : Cls 6 RX7 TX7 25 tyX7 := ⟨rfl, List.forall_mem_cons.mpr ⟨inW4 94 rfl rfl, List.forall_mem_cons.mpr ⟨inW4 96 rfl rfl, List.forall_mem_cons.mpr ⟨inW4 98 rfl rfl, List.forall_mem_cons.mpr ⟨inW4 100 rfl rfl, List.forall_mem_cons.mpr ⟨inW4 102 rfl rfl, List.forall_mem_cons.mpr ⟨inW4 104 rfl rfl, List.forall_mem_cons.mpr ⟨inW4 106 rfl rfl, List.forall_mem_cons.mpr ⟨inW4 108 rfl rfl, List.forall_mem_cons.mpr ⟨inW4 110 rfl rfl, List.forall_mem_cons.mpr ⟨inW4 112 rfl rfl, List.forall_mem_cons.mpr ⟨inW4 114 rfl rfl, List.forall_mem_cons.mpr ⟨inW4 116 rfl rfl, List.forall_mem_cons.mpr ⟨inW4 118 rfl rfl, List.forall_mem_cons.mpr ⟨inW4 120 rfl rfl, List.forall_mem_cons.mpr ⟨inW4 122 rfl rfl, List.forall_mem_cons.mpr ⟨inW4 124 rfl rfl, List.forall_mem_cons.mpr ⟨inW4 126 rfl rfl, List.forall_mem_cons.mpr ⟨inW4 128 rfl rfl, List.forall_mem_cons.mpr ⟨inW4 130 rfl rfl, List.forall_mem_cons.mpr ⟨inW4 132 rfl rfl, List.forall_mem_cons.mpr ⟨inW4 134 rfl rfl, List.forall_mem_cons.mpr ⟨inW4 136 rfl rfl, List.forall_mem_cons.mpr ⟨inW4 138 rfl rfl, List.forall_mem_cons.mpr ⟨inW4 140 rfl rfl, List.forall_mem_cons.mpr ⟨inW4 142 rfl rfl, fun _ h => absurd h List.not_mem_nil⟩⟩⟩⟩⟩⟩⟩⟩⟩⟩⟩⟩⟩⟩⟩⟩⟩⟩⟩⟩⟩⟩⟩⟩⟩, tyX7_ok, nmX7⟩
theorem in_CrowdDeskLaw : Cond.initialized "CrowdDeskLaw" ∈ WT := inW1 0 rfl rfl
theorem in_CrowdDesk : Cond.initialized "CrowdDesk" ∈ WT := inW1 1 rfl rfl
theorem in_CrowdDesk_Formula : Cond.initialized "CrowdDesk$Formula" ∈ WT := inW1 2 rfl rfl
theorem in_CrowdDesk_Atom : Cond.initialized "CrowdDesk$Atom" ∈ WT := inW1 3 rfl rfl
theorem in_CrowdDesk_Crowd : Cond.initialized "CrowdDesk$Crowd" ∈ WT := inW1 4 rfl rfl
theorem in_CrowdDesk_Meeting : Cond.initialized "CrowdDesk$Meeting" ∈ WT := inW1 5 rfl rfl
theorem in_CrowdDeskModel : Cond.initialized "CrowdDeskModel" ∈ WT := inW1 6 rfl rfl
theorem in_Arrays : Cond.initialized "java/util/Arrays" ∈ WT := inW1 7 rfl rfl
theorem in_Throwable : Cond.initialized "java/lang/Throwable" ∈ WT := inW1 8 rfl rfl
theorem in_Exception : Cond.initialized "java/lang/Exception" ∈ WT := inW1 9 rfl rfl
theorem in_RuntimeException : Cond.initialized "java/lang/RuntimeException" ∈ WT := inW1 10 rfl rfl
theorem in_IllegalArgumentException : Cond.initialized "java/lang/IllegalArgumentException" ∈ WT := inW1 11 rfl rfl
theorem in_IllegalStateException : Cond.initialized "java/lang/IllegalStateException" ∈ WT := inW1 12 rfl rfl
theorem in_Math : Cond.initialized "java/lang/Math" ∈ WT := inW1 13 rfl rfl
theorem in_CrowdDesk_Code : Cond.initialized "CrowdDesk$Code" ∈ WT := inW1 14 rfl rfl
theorem in_IndexOutOfBoundsException : Cond.initialized "java/lang/IndexOutOfBoundsException" ∈ WT := inW1 15 rfl rfl
theorem in_CrowdDesk_Search : Cond.initialized "CrowdDesk$Search" ∈ WT := inW1 16 rfl rfl
theorem clL_8 : Cond.classLink RL 8 "CrowdDesk" ∈ WT := inW1 17 rfl rfl
theorem itX6 : Cond.instantiable RX6 4 ∈ WT := inW1 18 rfl rfl
theorem mL_70 : MI RL 70 yX6_init cX6_init 1 0 := ⟨⟨inW1 19 rfl rfl, inW1 20 rfl rfl, inW1 1 rfl rfl, inW1 21 rfl rfl, rfl⟩, by decide +kernel, by decide +kernel, by decide +kernel⟩
theorem clX6_7 : Cond.classLink RX6 7 "CrowdDesk$Formula" ∈ WT := inW1 25 rfl rfl
theorem itX3 : Cond.instantiable RX3 8 ∈ WT := inW1 26 rfl rfl
theorem mX6_9 : MI RX6 9 yX3_init cX3_init 2 0 := ⟨⟨inW1 27 rfl rfl, inW1 28 rfl rfl, inW1 2 rfl rfl, inW1 29 rfl rfl, rfl⟩, by decide +kernel, by decide +kernel, by decide +kernel⟩
theorem clX3_24 : Cond.classLink RX3 24 "CrowdDesk$Atom" ∈ WT := inW1 31 rfl rfl
theorem itX0 : Cond.instantiable RX0 8 ∈ WT := inW1 33 rfl rfl
theorem flX0_9 : Cond.fieldLink RX0 9 RX0 "coefficients" "[I" ∈ WT := inW1 38 rfl rfl
theorem flX0_26 : Cond.fieldLink RX0 26 RX0 "modulus" "I" ∈ WT := inW1 39 rfl rfl
theorem flX0_30 : Cond.fieldLink RX0 30 RX0 "target" "I" ∈ WT := inW1 40 rfl rfl
theorem flX0_39 : Cond.fieldLink RX0 39 RX0 "bound" "I" ∈ WT := inW1 41 rfl rfl
theorem flX0_17 : Cond.fieldLink RX0 17 RX0 "codes" "[I" ∈ WT := inW1 42 rfl rfl
theorem flX0_20 : Cond.fieldLink RX0 20 RX0 "numbers" "[I" ∈ WT := inW1 43 rfl rfl
theorem flX0_23 : Cond.fieldLink RX0 23 RX0 "firstRules" "[I" ∈ WT := inW1 44 rfl rfl
theorem flX0_42 : Cond.fieldLink RX0 42 RX0 "states" "I" ∈ WT := inW1 45 rfl rfl
theorem flX3_9 : Cond.fieldLink RX3 9 RX3 "pending" "[I" ∈ WT := inW1 64 rfl rfl
theorem flX3_15 : Cond.fieldLink RX3 15 RX3 "ops" "[I" ∈ WT := inW1 65 rfl rfl
theorem flX3_18 : Cond.fieldLink RX3 18 RX3 "lefts" "[I" ∈ WT := inW1 66 rfl rfl
theorem flX3_21 : Cond.fieldLink RX3 21 RX3 "rights" "[I" ∈ WT := inW1 67 rfl rfl
theorem flX3_26 : Cond.fieldLink RX3 26 RX3 "atoms" "[LCrowdDesk$Atom;" ∈ WT := inW1 68 rfl rfl
theorem flX3_37 : Cond.fieldLink RX3 37 RX3 "nodeCount" "I" ∈ WT := inW1 69 rfl rfl
theorem flX3_41 : Cond.fieldLink RX3 41 RX3 "atomCount" "I" ∈ WT := inW1 70 rfl rfl
theorem flX3_44 : Cond.fieldLink RX3 44 RX3 "compiled" "Z" ∈ WT := inW1 71 rfl rfl
theorem clX6_16 : Cond.classLink RX6 16 "CrowdDesk$Crowd" ∈ WT := inW1 89 rfl rfl
theorem itX2 : Cond.instantiable RX2 5 ∈ WT := inW1 90 rfl rfl
theorem mX6_18 : MI RX6 18 yX2_init cX2_init 2 1 := ⟨⟨inW1 91 rfl rfl, inW1 92 rfl rfl, inW1 4 rfl rfl, inW1 93 rfl rfl, rfl⟩, by decide +kernel, by decide +kernel, by decide +kernel⟩
theorem clX2_23 : Cond.classLink RX2 23 "CrowdDesk$Meeting" ∈ WT := inW1 95 rfl rfl
theorem itX4 : Cond.instantiable RX4 3 ∈ WT := inW1 96 rfl rfl
theorem mX2_25 : MI RX2 25 yX4_init cX4_init 2 1 := ⟨⟨inW1 97 rfl rfl, inW1 98 rfl rfl, inW1 5 rfl rfl, inW1 99 rfl rfl, rfl⟩, by decide +kernel, by decide +kernel, by decide +kernel⟩
theorem flX4_7 : Cond.fieldLink RX4 7 RX4 "formula" "LCrowdDesk$Formula;" ∈ WT := inW1 101 rfl rfl
theorem flX4_13 : Cond.fieldLink RX4 13 RX4 "first" "J" ∈ WT := inW1 102 rfl rfl
theorem flX4_17 : Cond.fieldLink RX4 17 RX4 "second" "J" ∈ WT := inW1 103 rfl rfl
theorem flX2_19 : Cond.fieldLink RX2 19 RX2 "formula" "LCrowdDesk$Formula;" ∈ WT := inW1 112 rfl rfl
theorem flX2_28 : Cond.fieldLink RX2 28 RX2 "meeting" "LCrowdDesk$Meeting;" ∈ WT := inW1 113 rfl rfl
theorem flX2_9 : Cond.fieldLink RX2 9 RX2 "agents" "[J" ∈ WT := inW1 114 rfl rfl
theorem flX2_15 : Cond.fieldLink RX2 15 RX2 "letterCounts" "[I" ∈ WT := inW1 115 rfl rfl
theorem flX2_38 : Cond.fieldLink RX2 38 RX2 "count" "I" ∈ WT := inW1 116 rfl rfl
theorem flX6_10 : Cond.fieldLink RX6 10 RX6 "formula" "LCrowdDesk$Formula;" ∈ WT := inW1 128 rfl rfl
theorem flX6_21 : Cond.fieldLink RX6 21 RX6 "crowd" "LCrowdDesk$Crowd;" ∈ WT := inW1 129 rfl rfl
theorem flX6_25 : Cond.fieldLink RX6 25 RX6 "search" "LCrowdDesk$Search;" ∈ WT := inW1 130 rfl rfl
theorem flX6_29 : Cond.fieldLink RX6 29 RX6 "explored" "Z" ∈ WT := inW1 131 rfl rfl
theorem mL_74 : MV RL 74 yX6_clear cX6_clear 1 none 0 := ⟨⟨inW1 141 rfl rfl, inW1 142 rfl rfl, inW1 143 rfl rfl, inW1 1 rfl rfl, inW1 144 rfl rfl⟩, by decide +kernel, by decide +kernel, by decide +kernel⟩
theorem mX6_33 : MV RX6 33 yX3_reset cX3_reset 1 none 0 := ⟨⟨inW1 145 rfl rfl, inW1 146 rfl rfl, inW1 147 rfl rfl, inW1 2 rfl rfl, inW1 148 rfl rfl⟩, by decide +kernel, by decide +kernel, by decide +kernel⟩
theorem mX3_31 : MS RX3 31 yJ7_fill_53178 cJ7_fill_53178 4 none 2 := ⟨⟨inW1 149 rfl rfl, inW1 150 rfl rfl, inW1 7 rfl rfl, inW1 151 rfl rfl⟩, by decide +kernel, by decide +kernel, by decide +kernel⟩
theorem mX6_36 : MV RX6 36 yX2_reset cX2_reset 1 none 0 := ⟨⟨inW1 152 rfl rfl, inW1 153 rfl rfl, inW1 154 rfl rfl, inW1 4 rfl rfl, inW1 155 rfl rfl⟩, by decide +kernel, by decide +kernel, by decide +kernel⟩
theorem mX2_32 : MS RX2 32 yJ7_fill_53178 cJ7_fill_53178 4 none 2 := ⟨⟨inW1 156 rfl rfl, inW1 150 rfl rfl, inW1 7 rfl rfl, inW1 151 rfl rfl⟩, by decide +kernel, by decide +kernel, by decide +kernel⟩
theorem mL_105 : MV RL 105 yX6_size cX6_size 1 (some .int) 0 := ⟨⟨inW1 157 rfl rfl, inW1 158 rfl rfl, inW1 159 rfl rfl, inW1 1 rfl rfl, inW1 160 rfl rfl⟩, by decide +kernel, by decide +kernel, by decide +kernel⟩
theorem mX6_116 : MV RX6 116 yX2_count cX2_count 1 (some .int) 0 := ⟨⟨inW1 161 rfl rfl, inW1 162 rfl rfl, inW1 163 rfl rfl, inW1 4 rfl rfl, inW1 164 rfl rfl⟩, by decide +kernel, by decide +kernel, by decide +kernel⟩
theorem mL_124 : MV RL 124 yX6_silent cX6_silent 1 (some .boolean) 0 := ⟨⟨inW1 165 rfl rfl, inW1 166 rfl rfl, inW1 167 rfl rfl, inW1 1 rfl rfl, inW1 168 rfl rfl⟩, by decide +kernel, by decide +kernel, by decide +kernel⟩
theorem mX6_178 : MV RX6 178 yX2_isQuiet cX2_isQuiet 1 (some .boolean) 0 := ⟨⟨inW1 169 rfl rfl, inW1 170 rfl rfl, inW1 171 rfl rfl, inW1 4 rfl rfl, inW1 172 rfl rfl⟩, by decide +kernel, by decide +kernel, by decide +kernel⟩
theorem mX2_76 : MV RX2 76 yX4_changesNone cX4_changesNone 6 (some .boolean) 3 := ⟨⟨inW1 173 rfl rfl, inW1 174 rfl rfl, inW1 175 rfl rfl, inW1 5 rfl rfl, inW1 176 rfl rfl⟩, by decide +kernel, by decide +kernel, by decide +kernel⟩
theorem mX4_55 : MV RX4 55 yX4_changes cX4_changes 7 (some .boolean) 2 := ⟨⟨inW1 177 rfl rfl, inW1 178 rfl rfl, inW1 179 rfl rfl, inW1 5 rfl rfl, inW1 180 rfl rfl⟩, by decide +kernel, by decide +kernel, by decide +kernel⟩
theorem mX4_20 : MS RX4 20 yX1_leadsSomewhere cX1_leadsSomewhere 2 (some .boolean) 1 := ⟨⟨inW1 181 rfl rfl, inW1 182 rfl rfl, inW1 14 rfl rfl, inW1 183 rfl rfl⟩, by decide +kernel, by decide +kernel, by decide +kernel⟩
theorem ctX1_20 : Cond.constantLong RX1 20 (551911719040 : Int64) ∈ WT := inW1 184 rfl rfl
theorem mX4_26 : MV RX4 26 yX3_atomCount cX3_atomCount 1 (some .int) 0 := ⟨⟨inW1 185 rfl rfl, inW1 186 rfl rfl, inW1 187 rfl rfl, inW1 2 rfl rfl, inW1 188 rfl rfl⟩, by decide +kernel, by decide +kernel, by decide +kernel⟩
theorem mX4_32 : MV RX4 32 yX3_atom cX3_atom 2 (some (.object "CrowdDesk$Atom")) 1 := ⟨⟨inW1 189 rfl rfl, inW1 190 rfl rfl, inW1 191 rfl rfl, inW1 2 rfl rfl, inW1 192 rfl rfl⟩, by decide +kernel, by decide +kernel, by decide +kernel⟩
theorem mX4_36 : MS RX4 36 yX1_ofAtom cX1_ofAtom 3 (some .int) 2 := ⟨⟨inW1 193 rfl rfl, inW1 194 rfl rfl, inW1 14 rfl rfl, inW1 195 rfl rfl⟩, by decide +kernel, by decide +kernel, by decide +kernel⟩
theorem mX4_40 : MV RX4 40 yX0_afterMeeting cX0_afterMeeting 10 (some .int) 2 := ⟨⟨inW1 196 rfl rfl, inW1 197 rfl rfl, inW1 198 rfl rfl, inW1 3 rfl rfl, inW1 199 rfl rfl⟩, by decide +kernel, by decide +kernel, by decide +kernel⟩
theorem mX0_60 : MS RX0 60 yX1_leads cX1_leads 1 (some .boolean) 1 := ⟨⟨inW1 200 rfl rfl, inW1 201 rfl rfl, inW1 14 rfl rfl, inW1 202 rfl rfl⟩, by decide +kernel, by decide +kernel, by decide +kernel⟩
theorem mX0_63 : MS RX0 63 yX1_pair cX1_pair 2 (some .int) 2 := ⟨⟨inW1 203 rfl rfl, inW1 204 rfl rfl, inW1 14 rfl rfl, inW1 205 rfl rfl⟩, by decide +kernel, by decide +kernel, by decide +kernel⟩
theorem mX0_66 : MS RX0 66 yX1_value cX1_value 1 (some .int) 1 := ⟨⟨inW1 206 rfl rfl, inW1 207 rfl rfl, inW1 14 rfl rfl, inW1 208 rfl rfl⟩, by decide +kernel, by decide +kernel, by decide +kernel⟩
theorem mX0_49 : MV RX0 49 yX0_reduce cX0_reduce 2 (some .int) 1 := ⟨⟨inW1 209 rfl rfl, inW1 211 rfl rfl, inWp 0 rfl rfl, inW1 3 rfl rfl, inW1 212 rfl rfl⟩, by decide +kernel, by decide +kernel, by decide +kernel⟩
theorem mX0_72 : MS RX0 72 yJ9_floorMod_7cf53 cJ9_floorMod_7cf53 3 (some .int) 2 := ⟨⟨inW1 213 rfl rfl, inW1 214 rfl rfl, inW1 13 rfl rfl, inW1 215 rfl rfl⟩, by decide +kernel, by decide +kernel, by decide +kernel⟩
theorem mX0_69 : MS RX0 69 yJ9_min_7cf53 cJ9_min_7cf53 2 (some .int) 2 := ⟨⟨inW1 216 rfl rfl, inW1 217 rfl rfl, inW1 13 rfl rfl, inW1 218 rfl rfl⟩, by decide +kernel, by decide +kernel, by decide +kernel⟩
theorem mX0_45 : MS RX0 45 yJ9_max_7cf53 cJ9_max_7cf53 2 (some .int) 2 := ⟨⟨inW1 219 rfl rfl, inW1 220 rfl rfl, inW1 13 rfl rfl, inW1 221 rfl rfl⟩, by decide +kernel, by decide +kernel, by decide +kernel⟩
theorem mX0_52 : MV RX0 52 yX0_opinionOf cX0_opinionOf 2 (some .boolean) 1 := ⟨⟨inW1 222 rfl rfl, inW1 224 rfl rfl, inWp 1 rfl rfl, inW1 3 rfl rfl, inW1 225 rfl rfl⟩, by decide +kernel, by decide +kernel, by decide +kernel⟩
theorem mX0_56 : MS RX0 56 yX1_of cX1_of 4 (some .int) 3 := ⟨⟨inW1 226 rfl rfl, inW1 227 rfl rfl, inW1 14 rfl rfl, inW1 228 rfl rfl⟩, by decide +kernel, by decide +kernel, by decide +kernel⟩
theorem mX4_46 : MS RX4 46 yX1_first cX1_first 1 (some .int) 1 := ⟨⟨inW1 229 rfl rfl, inW1 230 rfl rfl, inW1 14 rfl rfl, inW1 231 rfl rfl⟩, by decide +kernel, by decide +kernel, by decide +kernel⟩
theorem mX4_49 : MS RX4 49 yX1_atAtom cX1_atAtom 2 (some .long) 2 := ⟨⟨inW1 232 rfl rfl, inW1 233 rfl rfl, inW1 14 rfl rfl, inW1 234 rfl rfl⟩, by decide +kernel, by decide +kernel, by decide +kernel⟩
theorem mX4_53 : MS RX4 53 yX1_second cX1_second 1 (some .int) 1 := ⟨⟨inW1 235 rfl rfl, inW1 236 rfl rfl, inW1 14 rfl rfl, inW1 237 rfl rfl⟩, by decide +kernel, by decide +kernel, by decide +kernel⟩
theorem mL_128 : MV RL 128 yX6_agree cX6_agree 1 (some .boolean) 0 := ⟨⟨inW1 238 rfl rfl, inW1 239 rfl rfl, inW2 0 rfl rfl, inW1 1 rfl rfl, inW2 1 rfl rfl⟩, by decide +kernel, by decide +kernel, by decide +kernel⟩
theorem mX6_181 : MV RX6 181 yX2_isOfOneMind cX2_isOfOneMind 1 (some .boolean) 0 := ⟨⟨inW2 2 rfl rfl, inW2 3 rfl rfl, inW2 4 rfl rfl, inW1 4 rfl rfl, inW2 5 rfl rfl⟩, by decide +kernel, by decide +kernel, by decide +kernel⟩
theorem mX2_80 : MV RX2 80 yX3_outputOf cX3_outputOf 5 (some .boolean) 1 := ⟨⟨inW2 6 rfl rfl, inW2 7 rfl rfl, inW2 8 rfl rfl, inW1 2 rfl rfl, inW2 9 rfl rfl⟩, by decide +kernel, by decide +kernel, by decide +kernel⟩
theorem mX3_85 : MS RX3 85 yX1_ofAtom cX1_ofAtom 3 (some .int) 2 := ⟨⟨inW2 10 rfl rfl, inW1 194 rfl rfl, inW1 14 rfl rfl, inW1 195 rfl rfl⟩, by decide +kernel, by decide +kernel, by decide +kernel⟩
theorem mX3_89 : MS RX3 89 yX1_opinion cX1_opinion 1 (some .int) 1 := ⟨⟨inW2 11 rfl rfl, inW2 12 rfl rfl, inW1 14 rfl rfl, inW2 13 rfl rfl⟩, by decide +kernel, by decide +kernel, by decide +kernel⟩
theorem mX3_81 : MV RX3 81 yX3_evaluate cX3_evaluate 4 (some .boolean) 1 := ⟨⟨inW2 14 rfl rfl, inW2 16 rfl rfl, inWp 2 rfl rfl, inW1 2 rfl rfl, inW2 17 rfl rfl⟩, by decide +kernel, by decide +kernel, by decide +kernel⟩
theorem mX3_96 : MV RX3 96 yX3_nodeTruth cX3_nodeTruth 4 (some .int) 3 := ⟨⟨inW2 18 rfl rfl, inW2 20 rfl rfl, inWp 3 rfl rfl, inW1 2 rfl rfl, inW2 21 rfl rfl⟩, by decide +kernel, by decide +kernel, by decide +kernel⟩
theorem mX3_99 : MS RX3 99 yX3_bit cX3_bit 2 (some .int) 2 := ⟨⟨inW2 22 rfl rfl, inW2 23 rfl rfl, inW1 2 rfl rfl, inW2 24 rfl rfl⟩, by decide +kernel, by decide +kernel, by decide +kernel⟩
theorem mX2_83 : MV RX2 83 yX3_allOutputsAre cX3_allOutputsAre 6 (some .boolean) 4 := ⟨⟨inW2 25 rfl rfl, inW2 26 rfl rfl, inW2 27 rfl rfl, inW1 2 rfl rfl, inW2 28 rfl rfl⟩, by decide +kernel, by decide +kernel, by decide +kernel⟩
theorem mX3_92 : MV RX3 92 yX3_outputOf cX3_outputOf 5 (some .boolean) 1 := ⟨⟨inW2 29 rfl rfl, inW2 7 rfl rfl, inW2 8 rfl rfl, inW1 2 rfl rfl, inW2 9 rfl rfl⟩, by decide +kernel, by decide +kernel, by decide +kernel⟩
theorem mL_78 : MSW RL 78 yL_coef cL_coef 5 (some .int) [(0, 10, 13, 13)] 4 := ⟨⟨inW2 30 rfl rfl, inW2 31 rfl rfl, inW1 0 rfl rfl, inW2 32 rfl rfl⟩, by decide +kernel, by decide +kernel, by decide +kernel⟩
theorem clL_13 : Cond.classLink RL 13 "java/lang/IllegalArgumentException" ∈ WT := inW2 33 rfl rfl
theorem mL_7 : MV RL 7 yX6_coef cX6_coef 3 (some .int) 2 := ⟨⟨inW2 34 rfl rfl, inW2 35 rfl rfl, inW2 36 rfl rfl, inW1 1 rfl rfl, inW2 37 rfl rfl⟩, by decide +kernel, by decide +kernel, by decide +kernel⟩
theorem mX6_37 : MS RX6 37 yX6_isLetter cX6_isLetter 1 (some .boolean) 1 := ⟨⟨inW2 38 rfl rfl, inW2 39 rfl rfl, inW1 1 rfl rfl, inW2 40 rfl rfl⟩, by decide +kernel, by decide +kernel, by decide +kernel⟩
theorem clX6_41 : Cond.classLink RX6 41 "java/lang/IllegalArgumentException" ∈ WT := inW2 41 rfl rfl
theorem mX6_48 : MS RX6 48 yX6_isCoefficient cX6_isCoefficient 1 (some .boolean) 1 := ⟨⟨inW2 109 rfl rfl, inW2 110 rfl rfl, inW1 1 rfl rfl, inW2 111 rfl rfl⟩, by decide +kernel, by decide +kernel, by decide +kernel⟩
theorem mX6_53 : MV RX6 53 yX3_setPending cX3_setPending 4 (some .int) 2 := ⟨⟨inW2 113 rfl rfl, inW2 114 rfl rfl, inW2 115 rfl rfl, inW1 2 rfl rfl, inW2 116 rfl rfl⟩, by decide +kernel, by decide +kernel, by decide +kernel⟩
theorem mL_87 : MSW RL 87 yL_sum cL_sum 4 (some .int) [(0, 9, 12, 13), (0, 9, 15, 19)] 3 := ⟨⟨inW2 117 rfl rfl, inW2 118 rfl rfl, inW1 0 rfl rfl, inW2 119 rfl rfl⟩, by decide +kernel, by decide +kernel, by decide +kernel⟩
theorem clL_19 : Cond.classLink RL 19 "java/lang/IllegalStateException" ∈ WT := inW2 120 rfl rfl
theorem mL_15 : MV RL 15 yX6_sum cX6_sum 2 (some .int) 1 := ⟨⟨inW2 121 rfl rfl, inW2 122 rfl rfl, inW2 123 rfl rfl, inW1 1 rfl rfl, inW2 124 rfl rfl⟩, by decide +kernel, by decide +kernel, by decide +kernel⟩
theorem mX6_59 : MV RX6 59 yX3_takesAtom cX3_takesAtom 1 (some .boolean) 0 := ⟨⟨inW2 126 rfl rfl, inW2 127 rfl rfl, inW2 128 rfl rfl, inW1 2 rfl rfl, inW2 129 rfl rfl⟩, by decide +kernel, by decide +kernel, by decide +kernel⟩
theorem mX3_48 : MV RX3 48 yX3_takesNode cX3_takesNode 1 (some .boolean) 0 := ⟨⟨inW2 130 rfl rfl, inW2 131 rfl rfl, inW2 132 rfl rfl, inW1 2 rfl rfl, inW2 133 rfl rfl⟩, by decide +kernel, by decide +kernel, by decide +kernel⟩
theorem clX6_63 : Cond.classLink RX6 63 "java/lang/IllegalStateException" ∈ WT := inW2 134 rfl rfl
theorem mX6_70 : MV RX6 70 yX3_addAtom cX3_addAtom 4 (some .int) 2 := ⟨⟨inW2 150 rfl rfl, inW2 151 rfl rfl, inW2 152 rfl rfl, inW1 2 rfl rfl, inW2 153 rfl rfl⟩, by decide +kernel, by decide +kernel, by decide +kernel⟩
theorem mX3_52 : MV RX3 52 yX0_become cX0_become 5 none 3 := ⟨⟨inW2 154 rfl rfl, inW2 155 rfl rfl, inW2 156 rfl rfl, inW1 3 rfl rfl, inW2 157 rfl rfl⟩, by decide +kernel, by decide +kernel, by decide +kernel⟩
theorem mX0_33 : MS RX0 33 yJ9_abs_0f7a4 cJ9_abs_0f7a4 1 (some .int) 1 := ⟨⟨inW2 158 rfl rfl, inW2 159 rfl rfl, inW1 13 rfl rfl, inW2 160 rfl rfl⟩, by decide +kernel, by decide +kernel, by decide +kernel⟩
theorem mX3_56 : MV RX3 56 yX3_addNode cX3_addNode 5 (some .int) 3 := ⟨⟨inW2 161 rfl rfl, inW2 162 rfl rfl, inW2 163 rfl rfl, inW1 2 rfl rfl, inW2 164 rfl rfl⟩, by decide +kernel, by decide +kernel, by decide +kernel⟩
theorem mL_91 : MSW RL 91 yL_mod cL_mod 5 (some .int) [(0, 10, 13, 13), (0, 10, 17, 19)] 4 := ⟨⟨inW2 165 rfl rfl, inW2 166 rfl rfl, inW1 0 rfl rfl, inW2 167 rfl rfl⟩, by decide +kernel, by decide +kernel, by decide +kernel⟩
theorem mL_21 : MV RL 21 yX6_mod cX6_mod 3 (some .int) 2 := ⟨⟨inW2 168 rfl rfl, inW2 169 rfl rfl, inW2 170 rfl rfl, inW1 1 rfl rfl, inW2 171 rfl rfl⟩, by decide +kernel, by decide +kernel, by decide +kernel⟩
theorem mL_94 : MSW RL 94 yL_combine cL_combine 6 (some .int) [(0, 12, 15, 13), (0, 12, 19, 19)] 5 := ⟨⟨inW2 174 rfl rfl, inW2 175 rfl rfl, inW1 0 rfl rfl, inW2 176 rfl rfl⟩, by decide +kernel, by decide +kernel, by decide +kernel⟩
theorem mL_24 : MV RL 24 yX6_combine cX6_combine 4 (some .int) 3 := ⟨⟨inW2 177 rfl rfl, inW2 178 rfl rfl, inW2 179 rfl rfl, inW1 1 rfl rfl, inW2 180 rfl rfl⟩, by decide +kernel, by decide +kernel, by decide +kernel⟩
theorem mX6_79 : MV RX6 79 yX3_hasNode cX3_hasNode 2 (some .boolean) 1 := ⟨⟨inW2 182 rfl rfl, inW2 183 rfl rfl, inW2 184 rfl rfl, inW1 2 rfl rfl, inW2 185 rfl rfl⟩, by decide +kernel, by decide +kernel, by decide +kernel⟩
theorem mX6_84 : MV RX6 84 yX3_takesNode cX3_takesNode 1 (some .boolean) 0 := ⟨⟨inW2 187 rfl rfl, inW2 131 rfl rfl, inW2 132 rfl rfl, inW1 2 rfl rfl, inW2 133 rfl rfl⟩, by decide +kernel, by decide +kernel, by decide +kernel⟩
theorem mX6_89 : MV RX6 89 yX3_addNode cX3_addNode 5 (some .int) 3 := ⟨⟨inW2 189 rfl rfl, inW2 162 rfl rfl, inW2 163 rfl rfl, inW1 2 rfl rfl, inW2 164 rfl rfl⟩, by decide +kernel, by decide +kernel, by decide +kernel⟩
theorem mL_98 : MSW RL 98 yL_compile cL_compile 3 (some .int) [(0, 8, 11, 19)] 2 := ⟨⟨inW2 190 rfl rfl, inW2 191 rfl rfl, inW1 0 rfl rfl, inW2 192 rfl rfl⟩, by decide +kernel, by decide +kernel, by decide +kernel⟩
theorem mL_28 : MV RL 28 yX6_compile cX6_compile 1 (some .int) 0 := ⟨⟨inW2 193 rfl rfl, inW2 194 rfl rfl, inW2 195 rfl rfl, inW1 1 rfl rfl, inW2 196 rfl rfl⟩, by decide +kernel, by decide +kernel, by decide +kernel⟩
theorem mX6_93 : MV RX6 93 yX3_isCompiled cX3_isCompiled 1 (some .boolean) 0 := ⟨⟨inW2 197 rfl rfl, inW2 198 rfl rfl, inW2 199 rfl rfl, inW1 2 rfl rfl, inW2 200 rfl rfl⟩, by decide +kernel, by decide +kernel, by decide +kernel⟩
theorem mX6_98 : MV RX6 98 yX3_isEmpty cX3_isEmpty 1 (some .boolean) 0 := ⟨⟨inW2 202 rfl rfl, inW2 203 rfl rfl, inW2 204 rfl rfl, inW1 2 rfl rfl, inW2 205 rfl rfl⟩, by decide +kernel, by decide +kernel, by decide +kernel⟩
theorem mX6_103 : MV RX6 103 yX3_hasSharedNode cX3_hasSharedNode 5 (some .boolean) 0 := ⟨⟨inW2 207 rfl rfl, inW2 208 rfl rfl, inW2 209 rfl rfl, inW1 2 rfl rfl, inW2 210 rfl rfl⟩, by decide +kernel, by decide +kernel, by decide +kernel⟩
theorem mX6_108 : MV RX6 108 yX3_makeRules cX3_makeRules 3 (some .int) 0 := ⟨⟨inW2 212 rfl rfl, inW2 213 rfl rfl, inW2 214 rfl rfl, inW1 2 rfl rfl, inW2 215 rfl rfl⟩, by decide +kernel, by decide +kernel, by decide +kernel⟩
theorem mX3_60 : MV RX3 60 yX0_makeTable cX0_makeTable 1 none 0 := ⟨⟨inW2 216 rfl rfl, inW2 217 rfl rfl, inW2 218 rfl rfl, inW1 3 rfl rfl, inW2 219 rfl rfl⟩, by decide +kernel, by decide +kernel, by decide +kernel⟩
theorem mX0_75 : MV RX0 75 yX0_findStates cX0_findStates 3 none 0 := ⟨⟨inW2 220 rfl rfl, inW2 222 rfl rfl, inWp 5 rfl rfl, inW1 3 rfl rfl, inW2 223 rfl rfl⟩, by decide +kernel, by decide +kernel, by decide +kernel⟩
theorem mX0_84 : MS RX0 84 yJ7_fill_53178 cJ7_fill_53178 4 none 2 := ⟨⟨inW2 224 rfl rfl, inW1 150 rfl rfl, inW1 7 rfl rfl, inW1 151 rfl rfl⟩, by decide +kernel, by decide +kernel, by decide +kernel⟩
theorem mX0_90 : MV RX0 90 yX0_beginning cX0_beginning 3 (some .int) 1 := ⟨⟨inW2 225 rfl rfl, inW2 226 rfl rfl, inW2 227 rfl rfl, inW1 3 rfl rfl, inW2 228 rfl rfl⟩, by decide +kernel, by decide +kernel, by decide +kernel⟩
theorem mX0_93 : MV RX0 93 yX0_learn cX0_learn 2 none 1 := ⟨⟨inW2 229 rfl rfl, inW2 231 rfl rfl, inWp 6 rfl rfl, inW1 3 rfl rfl, inW2 232 rfl rfl⟩, by decide +kernel, by decide +kernel, by decide +kernel⟩
theorem mX0_97 : MV RX0 97 yX0_afterMeeting cX0_afterMeeting 10 (some .int) 2 := ⟨⟨inW2 233 rfl rfl, inW1 197 rfl rfl, inW1 198 rfl rfl, inW1 3 rfl rfl, inW1 199 rfl rfl⟩, by decide +kernel, by decide +kernel, by decide +kernel⟩
theorem mX0_100 : MV RX0 100 yX0_learnBoth cX0_learnBoth 2 none 1 := ⟨⟨inW2 234 rfl rfl, inW2 236 rfl rfl, inWp 7 rfl rfl, inW1 3 rfl rfl, inW2 237 rfl rfl⟩, by decide +kernel, by decide +kernel, by decide +kernel⟩
theorem mX0_103 : MS RX0 103 yX1_first cX1_first 1 (some .int) 1 := ⟨⟨inW2 238 rfl rfl, inW1 230 rfl rfl, inW1 14 rfl rfl, inW1 231 rfl rfl⟩, by decide +kernel, by decide +kernel, by decide +kernel⟩
theorem mX0_106 : MS RX0 106 yX1_second cX1_second 1 (some .int) 1 := ⟨⟨inW2 239 rfl rfl, inW1 236 rfl rfl, inW1 14 rfl rfl, inW1 237 rfl rfl⟩, by decide +kernel, by decide +kernel, by decide +kernel⟩
theorem mX0_78 : MV RX0 78 yX0_numberStates cX0_numberStates 3 none 0 := ⟨⟨inW3 0 rfl rfl, inW3 2 rfl rfl, inWp 8 rfl rfl, inW1 3 rfl rfl, inW3 3 rfl rfl⟩, by decide +kernel, by decide +kernel, by decide +kernel⟩
theorem mX0_81 : MV RX0 81 yX0_countRules cX0_countRules 4 none 0 := ⟨⟨inW3 4 rfl rfl, inW3 6 rfl rfl, inWp 9 rfl rfl, inW1 3 rfl rfl, inW3 7 rfl rfl⟩, by decide +kernel, by decide +kernel, by decide +kernel⟩
theorem mX0_109 : MV RX0 109 yX0_isRule cX0_isRule 3 (some .boolean) 2 := ⟨⟨inW3 8 rfl rfl, inW3 10 rfl rfl, inWp 10 rfl rfl, inW1 3 rfl rfl, inW3 11 rfl rfl⟩, by decide +kernel, by decide +kernel, by decide +kernel⟩
theorem mX3_63 : MV RX3 63 yX0_stateCount cX0_stateCount 1 (some .int) 0 := ⟨⟨inW3 12 rfl rfl, inW3 13 rfl rfl, inW3 14 rfl rfl, inW1 3 rfl rfl, inW3 15 rfl rfl⟩, by decide +kernel, by decide +kernel, by decide +kernel⟩
theorem mL_102 : MSW RL 102 yL_add cL_add 5 (some .int) [(0, 10, 13, 13), (0, 10, 17, 19)] 4 := ⟨⟨inW3 16 rfl rfl, inW3 17 rfl rfl, inW1 0 rfl rfl, inW3 18 rfl rfl⟩, by decide +kernel, by decide +kernel, by decide +kernel⟩
theorem mL_32 : MV RL 32 yX6_add cX6_add 3 (some .int) 2 := ⟨⟨inW3 19 rfl rfl, inW3 20 rfl rfl, inW3 21 rfl rfl, inW1 1 rfl rfl, inW3 22 rfl rfl⟩, by decide +kernel, by decide +kernel, by decide +kernel⟩
theorem mX6_121 : MV RX6 121 yX2_admit cX2_admit 6 none 2 := ⟨⟨inW3 26 rfl rfl, inW3 27 rfl rfl, inW3 28 rfl rfl, inW1 4 rfl rfl, inW3 29 rfl rfl⟩, by decide +kernel, by decide +kernel, by decide +kernel⟩
theorem mX2_42 : MV RX2 42 yX3_beginning cX3_beginning 5 (some .long) 1 := ⟨⟨inW3 30 rfl rfl, inW3 31 rfl rfl, inW3 32 rfl rfl, inW1 2 rfl rfl, inW3 33 rfl rfl⟩, by decide +kernel, by decide +kernel, by decide +kernel⟩
theorem mX3_67 : MV RX3 67 yX0_beginning cX0_beginning 3 (some .int) 1 := ⟨⟨inW3 34 rfl rfl, inW2 226 rfl rfl, inW2 227 rfl rfl, inW1 3 rfl rfl, inW2 228 rfl rfl⟩, by decide +kernel, by decide +kernel, by decide +kernel⟩
theorem mX3_71 : MS RX3 71 yX1_atAtom cX1_atAtom 2 (some .long) 2 := ⟨⟨inW3 35 rfl rfl, inW1 233 rfl rfl, inW1 14 rfl rfl, inW1 234 rfl rfl⟩, by decide +kernel, by decide +kernel, by decide +kernel⟩
theorem mL_109 : MSW RL 109 yL_meet cL_meet 5 (some .int) [(0, 17, 20, 13), (0, 17, 24, 39)] 4 := ⟨⟨inW3 36 rfl rfl, inW3 37 rfl rfl, inW1 0 rfl rfl, inW3 38 rfl rfl⟩, by decide +kernel, by decide +kernel, by decide +kernel⟩
theorem clL_39 : Cond.classLink RL 39 "java/lang/IndexOutOfBoundsException" ∈ WT := inW3 39 rfl rfl
theorem mL_35 : MV RL 35 yX6_meet cX6_meet 4 (some .boolean) 2 := ⟨⟨inW3 40 rfl rfl, inW3 41 rfl rfl, inW3 42 rfl rfl, inW1 1 rfl rfl, inW3 43 rfl rfl⟩, by decide +kernel, by decide +kernel, by decide +kernel⟩
theorem mX6_127 : MV RX6 127 yX2_hasAgent cX2_hasAgent 2 (some .boolean) 1 := ⟨⟨inW3 45 rfl rfl, inW3 46 rfl rfl, inW3 47 rfl rfl, inW1 4 rfl rfl, inW3 48 rfl rfl⟩, by decide +kernel, by decide +kernel, by decide +kernel⟩
theorem clX6_130 : Cond.classLink RX6 130 "java/lang/IndexOutOfBoundsException" ∈ WT := inW3 49 rfl rfl
theorem mX6_135 : MV RX6 135 yX2_bringTogether cX2_bringTogether 4 (some .boolean) 2 := ⟨⟨inW3 65 rfl rfl, inW3 66 rfl rfl, inW3 67 rfl rfl, inW1 4 rfl rfl, inW3 68 rfl rfl⟩, by decide +kernel, by decide +kernel, by decide +kernel⟩
theorem mX2_48 : MV RX2 48 yX4_changes cX4_changes 7 (some .boolean) 2 := ⟨⟨inW3 69 rfl rfl, inW1 178 rfl rfl, inW1 179 rfl rfl, inW1 5 rfl rfl, inW1 180 rfl rfl⟩, by decide +kernel, by decide +kernel, by decide +kernel⟩
theorem mX2_52 : MV RX2 52 yX4_first cX4_first 1 (some .long) 0 := ⟨⟨inW3 70 rfl rfl, inW3 71 rfl rfl, inW3 72 rfl rfl, inW1 5 rfl rfl, inW3 73 rfl rfl⟩, by decide +kernel, by decide +kernel, by decide +kernel⟩
theorem mX2_56 : MV RX2 56 yX4_second cX4_second 1 (some .long) 0 := ⟨⟨inW3 74 rfl rfl, inW3 75 rfl rfl, inW3 76 rfl rfl, inW1 5 rfl rfl, inW3 77 rfl rfl⟩, by decide +kernel, by decide +kernel, by decide +kernel⟩
theorem mL_112 : MSW RL 112 yL_sweep cL_sweep 4 (some .int) [(0, 9, 12, 13)] 3 := ⟨⟨inW3 78 rfl rfl, inW3 79 rfl rfl, inW1 0 rfl rfl, inW3 80 rfl rfl⟩, by decide +kernel, by decide +kernel, by decide +kernel⟩
theorem mL_41 : MV RL 41 yX6_sweep cX6_sweep 3 (some .int) 1 := ⟨⟨inW3 81 rfl rfl, inW3 82 rfl rfl, inW3 83 rfl rfl, inW1 1 rfl rfl, inW3 84 rfl rfl⟩, by decide +kernel, by decide +kernel, by decide +kernel⟩
theorem mX6_141 : MV RX6 141 yX2_sweepOften cX2_sweepOften 5 (some .int) 1 := ⟨⟨inW3 86 rfl rfl, inW3 87 rfl rfl, inW3 88 rfl rfl, inW1 4 rfl rfl, inW3 89 rfl rfl⟩, by decide +kernel, by decide +kernel, by decide +kernel⟩
theorem mX2_59 : MV RX2 59 yX2_sweepOnce cX2_sweepOnce 6 (some .int) 0 := ⟨⟨inW3 90 rfl rfl, inW3 92 rfl rfl, inWp 11 rfl rfl, inW1 4 rfl rfl, inW3 93 rfl rfl⟩, by decide +kernel, by decide +kernel, by decide +kernel⟩
theorem mX2_63 : MV RX2 63 yX2_behindLastLeader cX2_behindLastLeader 2 (some .int) 0 := ⟨⟨inW3 94 rfl rfl, inW3 96 rfl rfl, inWp 12 rfl rfl, inW1 4 rfl rfl, inW3 97 rfl rfl⟩, by decide +kernel, by decide +kernel, by decide +kernel⟩
theorem mX2_66 : MS RX2 66 yX1_leadsSomewhere cX1_leadsSomewhere 2 (some .boolean) 1 := ⟨⟨inW3 98 rfl rfl, inW1 182 rfl rfl, inW1 14 rfl rfl, inW1 183 rfl rfl⟩, by decide +kernel, by decide +kernel, by decide +kernel⟩
theorem mX2_72 : MV RX2 72 yX2_bringTogether cX2_bringTogether 4 (some .boolean) 2 := ⟨⟨inW3 99 rfl rfl, inW3 66 rfl rfl, inW3 67 rfl rfl, inW1 4 rfl rfl, inW3 68 rfl rfl⟩, by decide +kernel, by decide +kernel, by decide +kernel⟩
theorem mL_115 : MSW RL 115 yL_output cL_output 4 (some .int) [(0, 16, 19, 39)] 3 := ⟨⟨inW3 100 rfl rfl, inW3 101 rfl rfl, inW1 0 rfl rfl, inW3 102 rfl rfl⟩, by decide +kernel, by decide +kernel, by decide +kernel⟩
theorem mL_44 : MV RL 44 yX6_output cX6_output 2 (some .boolean) 1 := ⟨⟨inW3 103 rfl rfl, inW3 104 rfl rfl, inW3 105 rfl rfl, inW1 1 rfl rfl, inW3 106 rfl rfl⟩, by decide +kernel, by decide +kernel, by decide +kernel⟩
theorem mX6_145 : MV RX6 145 yX2_agent cX2_agent 2 (some .long) 1 := ⟨⟨inW3 107 rfl rfl, inW3 108 rfl rfl, inW3 109 rfl rfl, inW1 4 rfl rfl, inW3 110 rfl rfl⟩, by decide +kernel, by decide +kernel, by decide +kernel⟩
theorem mX6_149 : MV RX6 149 yX3_outputOf cX3_outputOf 5 (some .boolean) 1 := ⟨⟨inW3 111 rfl rfl, inW2 7 rfl rfl, inW2 8 rfl rfl, inW1 2 rfl rfl, inW2 9 rfl rfl⟩, by decide +kernel, by decide +kernel, by decide +kernel⟩
theorem mL_118 : MSW RL 118 yL_state cL_state 6 (some .int) [(0, 12, 15, 39)] 5 := ⟨⟨inW3 112 rfl rfl, inW3 113 rfl rfl, inW1 0 rfl rfl, inW3 114 rfl rfl⟩, by decide +kernel, by decide +kernel, by decide +kernel⟩
theorem mL_48 : MV RL 48 yX6_state cX6_state 4 (some .int) 3 := ⟨⟨inW3 115 rfl rfl, inW3 116 rfl rfl, inW3 117 rfl rfl, inW1 1 rfl rfl, inW3 118 rfl rfl⟩, by decide +kernel, by decide +kernel, by decide +kernel⟩
theorem mX6_153 : MV RX6 153 yX3_hasAtom cX3_hasAtom 2 (some .boolean) 1 := ⟨⟨inW3 119 rfl rfl, inW3 120 rfl rfl, inW3 121 rfl rfl, inW1 2 rfl rfl, inW3 122 rfl rfl⟩, by decide +kernel, by decide +kernel, by decide +kernel⟩
theorem mX6_156 : MS RX6 156 yX6_isFact cX6_isFact 2 (some .boolean) 2 := ⟨⟨inW3 123 rfl rfl, inW3 124 rfl rfl, inW1 1 rfl rfl, inW3 125 rfl rfl⟩, by decide +kernel, by decide +kernel, by decide +kernel⟩
theorem mX6_161 : MS RX6 161 yX1_ofAtom cX1_ofAtom 3 (some .int) 2 := ⟨⟨inW3 127 rfl rfl, inW1 194 rfl rfl, inW1 14 rfl rfl, inW1 195 rfl rfl⟩, by decide +kernel, by decide +kernel, by decide +kernel⟩
theorem mX6_167 : MS RX6 167 yX1_fact cX1_fact 2 (some .int) 2 := ⟨⟨inW3 128 rfl rfl, inW3 129 rfl rfl, inW1 14 rfl rfl, inW3 130 rfl rfl⟩, by decide +kernel, by decide +kernel, by decide +kernel⟩
theorem mX1_9 : MS RX1 9 yX1_value cX1_value 1 (some .int) 1 := ⟨⟨inW3 131 rfl rfl, inW1 207 rfl rfl, inW1 14 rfl rfl, inW1 208 rfl rfl⟩, by decide +kernel, by decide +kernel, by decide +kernel⟩
theorem mX1_13 : MS RX1 13 yX1_leads cX1_leads 1 (some .boolean) 1 := ⟨⟨inW3 132 rfl rfl, inW1 201 rfl rfl, inW1 14 rfl rfl, inW1 202 rfl rfl⟩, by decide +kernel, by decide +kernel, by decide +kernel⟩
theorem mX1_17 : MS RX1 17 yX1_opinion cX1_opinion 1 (some .int) 1 := ⟨⟨inW3 133 rfl rfl, inW2 12 rfl rfl, inW1 14 rfl rfl, inW2 13 rfl rfl⟩, by decide +kernel, by decide +kernel, by decide +kernel⟩
theorem mL_121 : MSW RL 121 yL_truth cL_truth 3 (some .int) [(0, 15, 18, 19)] 2 := ⟨⟨inW3 134 rfl rfl, inW3 135 rfl rfl, inW1 0 rfl rfl, inW3 136 rfl rfl⟩, by decide +kernel, by decide +kernel, by decide +kernel⟩
theorem mL_51 : MV RL 51 yX6_truth cX6_truth 1 (some .boolean) 0 := ⟨⟨inW3 137 rfl rfl, inW3 138 rfl rfl, inW3 139 rfl rfl, inW1 1 rfl rfl, inW3 140 rfl rfl⟩, by decide +kernel, by decide +kernel, by decide +kernel⟩
theorem mX6_170 : MV RX6 170 yX2_letterCounts cX2_letterCounts 1 (some (.array .int)) 0 := ⟨⟨inW3 141 rfl rfl, inW3 142 rfl rfl, inW3 143 rfl rfl, inW1 4 rfl rfl, inW3 144 rfl rfl⟩, by decide +kernel, by decide +kernel, by decide +kernel⟩
theorem mX6_174 : MV RX6 174 yX3_isTrueOf cX3_isTrueOf 4 (some .boolean) 1 := ⟨⟨inW3 145 rfl rfl, inW3 146 rfl rfl, inW3 147 rfl rfl, inW1 2 rfl rfl, inW3 148 rfl rfl⟩, by decide +kernel, by decide +kernel, by decide +kernel⟩
theorem mX3_77 : MV RX3 77 yX0_isTrueOf cX0_isTrueOf 4 (some .boolean) 1 := ⟨⟨inW3 149 rfl rfl, inW3 150 rfl rfl, inW3 151 rfl rfl, inW1 3 rfl rfl, inW3 152 rfl rfl⟩, by decide +kernel, by decide +kernel, by decide +kernel⟩
theorem mL_132 : MSW RL 132 yL_explore cL_explore 4 (some .int) [(0, 9, 12, 13), (0, 9, 15, 19)] 3 := ⟨⟨inW3 153 rfl rfl, inW3 154 rfl rfl, inW1 0 rfl rfl, inW3 155 rfl rfl⟩, by decide +kernel, by decide +kernel, by decide +kernel⟩
theorem mL_55 : MV RL 55 yX6_explore cX6_explore 3 (some .int) 1 := ⟨⟨inW3 156 rfl rfl, inW3 157 rfl rfl, inW3 158 rfl rfl, inW1 1 rfl rfl, inW3 159 rfl rfl⟩, by decide +kernel, by decide +kernel, by decide +kernel⟩
theorem clX6_188 : Cond.classLink RX6 188 "CrowdDesk$Search" ∈ WT := inW3 162 rfl rfl
theorem itX5 : Cond.instantiable RX5 8 ∈ WT := inW3 163 rfl rfl
theorem mX6_190 : MI RX6 190 yX5_init cX5_init 2 1 := ⟨⟨inW3 164 rfl rfl, inW3 165 rfl rfl, inW1 16 rfl rfl, inW3 166 rfl rfl, rfl⟩, by decide +kernel, by decide +kernel, by decide +kernel⟩
theorem clX5_30 : Cond.classLink RX5 30 "CrowdDesk$Meeting" ∈ WT := inW3 168 rfl rfl
theorem mX5_32 : MI RX5 32 yX4_init cX4_init 2 1 := ⟨⟨inW3 169 rfl rfl, inW1 98 rfl rfl, inW1 5 rfl rfl, inW1 99 rfl rfl, rfl⟩, by decide +kernel, by decide +kernel, by decide +kernel⟩
theorem flX5_26 : Cond.fieldLink RX5 26 RX5 "formula" "LCrowdDesk$Formula;" ∈ WT := inW3 170 rfl rfl
theorem flX5_35 : Cond.fieldLink RX5 35 RX5 "meeting" "LCrowdDesk$Meeting;" ∈ WT := inW3 171 rfl rfl
theorem flX5_9 : Cond.fieldLink RX5 9 RX5 "rows" "[J" ∈ WT := inW3 172 rfl rfl
theorem flX5_15 : Cond.fieldLink RX5 15 RX5 "slots" "[I" ∈ WT := inW3 173 rfl rfl
theorem flX5_19 : Cond.fieldLink RX5 19 RX5 "endsRight" "[Z" ∈ WT := inW3 174 rfl rfl
theorem flX5_23 : Cond.fieldLink RX5 23 RX5 "next" "[J" ∈ WT := inW3 175 rfl rfl
theorem flX5_51 : Cond.fieldLink RX5 51 RX5 "width" "I" ∈ WT := inW3 176 rfl rfl
theorem flX5_55 : Cond.fieldLink RX5 55 RX5 "found" "I" ∈ WT := inW3 177 rfl rfl
theorem mX6_191 : MV RX6 191 yX5_findAll cX5_findAll 4 (some .int) 2 := ⟨⟨inW3 196 rfl rfl, inW3 197 rfl rfl, inW3 198 rfl rfl, inW1 16 rfl rfl, inW3 199 rfl rfl⟩, by decide +kernel, by decide +kernel, by decide +kernel⟩
theorem mX5_39 : MS RX5 39 yJ7_fill_53178 cJ7_fill_53178 4 none 2 := ⟨⟨inW3 200 rfl rfl, inW1 150 rfl rfl, inW1 7 rfl rfl, inW1 151 rfl rfl⟩, by decide +kernel, by decide +kernel, by decide +kernel⟩
theorem mX5_45 : MV RX5 45 yX2_count cX2_count 1 (some .int) 0 := ⟨⟨inW3 201 rfl rfl, inW1 162 rfl rfl, inW1 163 rfl rfl, inW1 4 rfl rfl, inW1 164 rfl rfl⟩, by decide +kernel, by decide +kernel, by decide +kernel⟩
theorem mX5_58 : MV RX5 58 yX2_agent cX2_agent 2 (some .long) 1 := ⟨⟨inW3 202 rfl rfl, inW3 108 rfl rfl, inW3 109 rfl rfl, inW1 4 rfl rfl, inW3 110 rfl rfl⟩, by decide +kernel, by decide +kernel, by decide +kernel⟩
theorem mX5_62 : MV RX5 62 yX5_sortNext cX5_sortNext 5 none 0 := ⟨⟨inW3 203 rfl rfl, inW3 205 rfl rfl, inWp 13 rfl rfl, inW1 16 rfl rfl, inW3 206 rfl rfl⟩, by decide +kernel, by decide +kernel, by decide +kernel⟩
theorem mX5_65 : MV RX5 65 yX5_slotOfNext cX5_slotOfNext 5 (some .int) 0 := ⟨⟨inW3 207 rfl rfl, inW3 209 rfl rfl, inWp 14 rfl rfl, inW1 16 rfl rfl, inW3 210 rfl rfl⟩, by decide +kernel, by decide +kernel, by decide +kernel⟩
theorem ctX5_91 : Cond.constantLong RX5 91 (-7046029254386353131 : Int64) ∈ WT := inW3 211 rfl rfl
theorem mX5_93 : MV RX5 93 yX5_isNext cX5_isNext 3 (some .boolean) 1 := ⟨⟨inW3 212 rfl rfl, inW3 214 rfl rfl, inWp 15 rfl rfl, inW1 16 rfl rfl, inW3 215 rfl rfl⟩, by decide +kernel, by decide +kernel, by decide +kernel⟩
theorem mX5_68 : MV RX5 68 yX5_keepNext cX5_keepNext 3 none 1 := ⟨⟨inW3 216 rfl rfl, inW3 218 rfl rfl, inWp 16 rfl rfl, inW1 16 rfl rfl, inW3 219 rfl rfl⟩, by decide +kernel, by decide +kernel, by decide +kernel⟩
theorem mX5_72 : MV RX5 72 yX5_keepAllAfter cX5_keepAllAfter 6 (some .boolean) 2 := ⟨⟨inW3 220 rfl rfl, inW3 222 rfl rfl, inWp 17 rfl rfl, inW1 16 rfl rfl, inW3 223 rfl rfl⟩, by decide +kernel, by decide +kernel, by decide +kernel⟩
theorem mX5_76 : MV RX5 76 yX5_stepToNext cX5_stepToNext 6 (some .boolean) 3 := ⟨⟨inW3 224 rfl rfl, inW3 226 rfl rfl, inWp 18 rfl rfl, inW1 16 rfl rfl, inW3 227 rfl rfl⟩, by decide +kernel, by decide +kernel, by decide +kernel⟩
theorem mX5_80 : MV RX5 80 yX4_changes cX4_changes 7 (some .boolean) 2 := ⟨⟨inW3 228 rfl rfl, inW1 178 rfl rfl, inW1 179 rfl rfl, inW1 5 rfl rfl, inW1 180 rfl rfl⟩, by decide +kernel, by decide +kernel, by decide +kernel⟩
theorem mX5_84 : MV RX5 84 yX4_first cX4_first 1 (some .long) 0 := ⟨⟨inW3 229 rfl rfl, inW3 71 rfl rfl, inW3 72 rfl rfl, inW1 5 rfl rfl, inW3 73 rfl rfl⟩, by decide +kernel, by decide +kernel, by decide +kernel⟩
theorem mX5_88 : MV RX5 88 yX4_second cX4_second 1 (some .long) 0 := ⟨⟨inW3 230 rfl rfl, inW3 75 rfl rfl, inW3 76 rfl rfl, inW1 5 rfl rfl, inW3 77 rfl rfl⟩, by decide +kernel, by decide +kernel, by decide +kernel⟩
theorem mL_135 : MSW RL 135 yL_recovers cL_recovers 3 (some .int) [(0, 15, 18, 19)] 2 := ⟨⟨inW3 231 rfl rfl, inW3 232 rfl rfl, inW1 0 rfl rfl, inW3 233 rfl rfl⟩, by decide +kernel, by decide +kernel, by decide +kernel⟩
theorem mL_58 : MV RL 58 yX6_recovers cX6_recovers 1 (some .boolean) 0 := ⟨⟨inW3 234 rfl rfl, inW3 235 rfl rfl, inW3 236 rfl rfl, inW1 1 rfl rfl, inW3 237 rfl rfl⟩, by decide +kernel, by decide +kernel, by decide +kernel⟩
theorem mX6_197 : MV RX6 197 yX5_allCanEndRight cX5_allCanEndRight 6 (some .boolean) 1 := ⟨⟨inW3 239 rfl rfl, inW4 0 rfl rfl, inW4 1 rfl rfl, inW1 16 rfl rfl, inW4 2 rfl rfl⟩, by decide +kernel, by decide +kernel, by decide +kernel⟩
theorem mX5_97 : MV RX5 97 yX5_isRightEnd cX5_isRightEnd 4 (some .boolean) 2 := ⟨⟨inW4 3 rfl rfl, inW4 5 rfl rfl, inWp 19 rfl rfl, inW1 16 rfl rfl, inW4 6 rfl rfl⟩, by decide +kernel, by decide +kernel, by decide +kernel⟩
theorem mX5_104 : MV RX5 104 yX3_allOutputsAre cX3_allOutputsAre 6 (some .boolean) 4 := ⟨⟨inW4 7 rfl rfl, inW2 26 rfl rfl, inW2 27 rfl rfl, inW1 2 rfl rfl, inW2 28 rfl rfl⟩, by decide +kernel, by decide +kernel, by decide +kernel⟩
theorem mX5_110 : MV RX5 110 yX4_changesNone cX4_changesNone 6 (some .boolean) 3 := ⟨⟨inW4 8 rfl rfl, inW1 174 rfl rfl, inW1 175 rfl rfl, inW1 5 rfl rfl, inW1 176 rfl rfl⟩, by decide +kernel, by decide +kernel, by decide +kernel⟩
theorem mX5_101 : MV RX5 101 yX5_leadsToRightEnd cX5_leadsToRightEnd 5 (some .boolean) 1 := ⟨⟨inW4 9 rfl rfl, inW4 11 rfl rfl, inWp 20 rfl rfl, inW1 16 rfl rfl, inW4 12 rfl rfl⟩, by decide +kernel, by decide +kernel, by decide +kernel⟩
theorem mL_138 : MSW RL 138 yL_table cL_table 5 (some .int) [(0, 10, 13, 39), (0, 10, 17, 19)] 4 := ⟨⟨inW4 13 rfl rfl, inW4 14 rfl rfl, inW1 0 rfl rfl, inW4 15 rfl rfl⟩, by decide +kernel, by decide +kernel, by decide +kernel⟩
theorem mL_61 : MV RL 61 yX6_table cX6_table 4 (some .int) 2 := ⟨⟨inW4 16 rfl rfl, inW4 17 rfl rfl, inW4 18 rfl rfl, inW1 1 rfl rfl, inW4 19 rfl rfl⟩, by decide +kernel, by decide +kernel, by decide +kernel⟩
theorem mX6_201 : MV RX6 201 yX6_checkTable cX6_checkTable 4 none 3 := ⟨⟨inW4 20 rfl rfl, inW4 22 rfl rfl, inWp 21 rfl rfl, inW1 1 rfl rfl, inW4 23 rfl rfl⟩, by decide +kernel, by decide +kernel, by decide +kernel⟩
theorem mX6_205 : MV RX6 205 yX3_atom cX3_atom 2 (some (.object "CrowdDesk$Atom")) 1 := ⟨⟨inW4 25 rfl rfl, inW1 190 rfl rfl, inW1 191 rfl rfl, inW1 2 rfl rfl, inW1 192 rfl rfl⟩, by decide +kernel, by decide +kernel, by decide +kernel⟩
theorem mX6_209 : MV RX6 209 yX0_stateCount cX0_stateCount 1 (some .int) 0 := ⟨⟨inW4 26 rfl rfl, inW3 13 rfl rfl, inW3 14 rfl rfl, inW1 3 rfl rfl, inW3 15 rfl rfl⟩, by decide +kernel, by decide +kernel, by decide +kernel⟩
theorem mX6_212 : MV RX6 212 yX0_ruleCount cX0_ruleCount 1 (some .int) 0 := ⟨⟨inW4 27 rfl rfl, inW4 28 rfl rfl, inW4 29 rfl rfl, inW1 3 rfl rfl, inW4 30 rfl rfl⟩, by decide +kernel, by decide +kernel, by decide +kernel⟩
theorem mL_141 : MSW RL 141 yL_rule cL_rule 6 (some .int) [(0, 12, 15, 39), (0, 12, 19, 19)] 5 := ⟨⟨inW4 31 rfl rfl, inW4 32 rfl rfl, inW1 0 rfl rfl, inW4 33 rfl rfl⟩, by decide +kernel, by decide +kernel, by decide +kernel⟩
theorem mL_64 : MV RL 64 yX6_rule cX6_rule 5 (some .int) 3 := ⟨⟨inW4 34 rfl rfl, inW4 35 rfl rfl, inW4 36 rfl rfl, inW1 1 rfl rfl, inW4 37 rfl rfl⟩, by decide +kernel, by decide +kernel, by decide +kernel⟩
theorem mX6_217 : MV RX6 217 yX0_ruleFact cX0_ruleFact 6 (some .int) 2 := ⟨⟨inW4 39 rfl rfl, inW4 40 rfl rfl, inW4 41 rfl rfl, inW1 3 rfl rfl, inW4 42 rfl rfl⟩, by decide +kernel, by decide +kernel, by decide +kernel⟩
theorem mX0_113 : MV RX0 113 yX0_firstOfRule cX0_firstOfRule 3 (some .int) 1 := ⟨⟨inW4 43 rfl rfl, inW4 45 rfl rfl, inWp 22 rfl rfl, inW1 3 rfl rfl, inW4 46 rfl rfl⟩, by decide +kernel, by decide +kernel, by decide +kernel⟩
theorem mX0_116 : MV RX0 116 yX0_secondOfRule cX0_secondOfRule 5 (some .int) 2 := ⟨⟨inW4 47 rfl rfl, inW4 49 rfl rfl, inWp 23 rfl rfl, inW1 3 rfl rfl, inW4 50 rfl rfl⟩, by decide +kernel, by decide +kernel, by decide +kernel⟩
theorem mL_144 : MSW RL 144 yL_kind cL_kind 6 (some .int) [(0, 12, 15, 39), (0, 12, 19, 19)] 5 := ⟨⟨inW4 51 rfl rfl, inW4 52 rfl rfl, inW1 0 rfl rfl, inW4 53 rfl rfl⟩, by decide +kernel, by decide +kernel, by decide +kernel⟩
theorem mL_67 : MV RL 67 yX6_kind cX6_kind 5 (some .int) 3 := ⟨⟨inW4 54 rfl rfl, inW4 55 rfl rfl, inW4 56 rfl rfl, inW1 1 rfl rfl, inW4 57 rfl rfl⟩, by decide +kernel, by decide +kernel, by decide +kernel⟩
theorem mX6_222 : MV RX6 222 yX0_codeOf cX0_codeOf 2 (some .int) 1 := ⟨⟨inW4 59 rfl rfl, inW4 60 rfl rfl, inW4 61 rfl rfl, inW1 3 rfl rfl, inW4 62 rfl rfl⟩, by decide +kernel, by decide +kernel, by decide +kernel⟩
theorem clL_71 : Cond.classLink RL 71 "CrowdDeskModel" ∈ WT := inW4 63 rfl rfl
theorem itX7 : Cond.instantiable RX7 25 ∈ WT := inW4 64 rfl rfl
theorem mL_73 : MI RL 73 yX7_init cX7_init 1 0 := ⟨⟨inW4 65 rfl rfl, inW4 66 rfl rfl, inW1 6 rfl rfl, inW4 67 rfl rfl, rfl⟩, by decide +kernel, by decide +kernel, by decide +kernel⟩
theorem flX7_7 : Cond.fieldLink RX7 7 RX7 "thrownCode" "I" ∈ WT := inW4 69 rfl rfl
theorem flX7_13 : Cond.fieldLink RX7 13 RX7 "pending" "[I" ∈ WT := inW4 70 rfl rfl
theorem flX7_17 : Cond.fieldLink RX7 17 RX7 "nodes" "I" ∈ WT := inW4 71 rfl rfl
theorem flX7_20 : Cond.fieldLink RX7 20 RX7 "op" "[I" ∈ WT := inW4 72 rfl rfl
theorem flX7_23 : Cond.fieldLink RX7 23 RX7 "left" "[I" ∈ WT := inW4 73 rfl rfl
theorem flX7_26 : Cond.fieldLink RX7 26 RX7 "right" "[I" ∈ WT := inW4 74 rfl rfl
theorem flX7_29 : Cond.fieldLink RX7 29 RX7 "truths" "[Z" ∈ WT := inW4 75 rfl rfl
theorem flX7_33 : Cond.fieldLink RX7 33 RX7 "atoms" "I" ∈ WT := inW4 76 rfl rfl
theorem flX7_36 : Cond.fieldLink RX7 36 RX7 "coefs" "[I" ∈ WT := inW4 77 rfl rfl
theorem flX7_39 : Cond.fieldLink RX7 39 RX7 "bound" "[I" ∈ WT := inW4 78 rfl rfl
theorem flX7_42 : Cond.fieldLink RX7 42 RX7 "modulus" "[I" ∈ WT := inW4 79 rfl rfl
theorem flX7_45 : Cond.fieldLink RX7 45 RX7 "edge" "[I" ∈ WT := inW4 80 rfl rfl
theorem flX7_48 : Cond.fieldLink RX7 48 RX7 "compiled" "Z" ∈ WT := inW4 81 rfl rfl
theorem flX7_52 : Cond.fieldLink RX7 52 RX7 "there" "[Z" ∈ WT := inW4 82 rfl rfl
theorem flX7_55 : Cond.fieldLink RX7 55 RX7 "agents" "I" ∈ WT := inW4 83 rfl rfl
theorem flX7_58 : Cond.fieldLink RX7 58 RX7 "agent" "[I" ∈ WT := inW4 84 rfl rfl
theorem flX7_61 : Cond.fieldLink RX7 61 RX7 "letters" "[I" ∈ WT := inW4 85 rfl rfl
theorem flX7_64 : Cond.fieldLink RX7 64 RX7 "newOne" "I" ∈ WT := inW4 86 rfl rfl
theorem flX7_67 : Cond.fieldLink RX7 67 RX7 "newOther" "I" ∈ WT := inW4 87 rfl rfl
theorem flX7_70 : Cond.fieldLink RX7 70 RX7 "crowds" "I" ∈ WT := inW4 88 rfl rfl
theorem flX7_73 : Cond.fieldLink RX7 73 RX7 "crowd" "[J" ∈ WT := inW4 89 rfl rfl
theorem flX7_77 : Cond.fieldLink RX7 77 RX7 "place" "[I" ∈ WT := inW4 90 rfl rfl
theorem flX7_80 : Cond.fieldLink RX7 80 RX7 "good" "[Z" ∈ WT := inW4 91 rfl rfl
theorem flX7_83 : Cond.fieldLink RX7 83 RX7 "explored" "Z" ∈ WT := inW4 92 rfl rfl
theorem flX7_86 : Cond.fieldLink RX7 86 RX7 "work" "[J" ∈ WT := inW4 93 rfl rfl
theorem mL_84 : MV RL 84 yX7_thrown cX7_thrown 1 (some .int) 0 := ⟨⟨inW4 145 rfl rfl, inW4 146 rfl rfl, inW4 147 rfl rfl, inW1 6 rfl rfl, inW4 148 rfl rfl⟩, by decide +kernel, by decide +kernel, by decide +kernel⟩
theorem mL_77 : MV RL 77 yX7_clear cX7_clear 2 none 0 := ⟨⟨inW4 149 rfl rfl, inW4 150 rfl rfl, inW4 151 rfl rfl, inW1 6 rfl rfl, inW4 152 rfl rfl⟩, by decide +kernel, by decide +kernel, by decide +kernel⟩
theorem mL_83 : MV RL 83 yX7_coef cX7_coef 4 (some .int) 2 := ⟨⟨inW4 153 rfl rfl, inW4 154 rfl rfl, inW4 155 rfl rfl, inW1 6 rfl rfl, inW4 156 rfl rfl⟩, by decide +kernel, by decide +kernel, by decide +kernel⟩
theorem mL_90 : MV RL 90 yX7_sum cX7_sum 2 (some .int) 1 := ⟨⟨inW4 157 rfl rfl, inW4 158 rfl rfl, inW4 159 rfl rfl, inW1 6 rfl rfl, inW4 160 rfl rfl⟩, by decide +kernel, by decide +kernel, by decide +kernel⟩
theorem mX7_136 : MV RX7 136 yX7_full cX7_full 1 (some .boolean) 0 := ⟨⟨inW4 161 rfl rfl, inW4 163 rfl rfl, inWp 24 rfl rfl, inW1 6 rfl rfl, inW4 164 rfl rfl⟩, by decide +kernel, by decide +kernel, by decide +kernel⟩
theorem mX7_139 : MV RX7 139 yX7_atom cX7_atom 6 (some .int) 2 := ⟨⟨inW4 165 rfl rfl, inW4 167 rfl rfl, inWp 25 rfl rfl, inW1 6 rfl rfl, inW4 168 rfl rfl⟩, by decide +kernel, by decide +kernel, by decide +kernel⟩
theorem mX7_132 : MV RX7 132 yX7_node cX7_node 4 (some .int) 3 := ⟨⟨inW4 169 rfl rfl, inW4 171 rfl rfl, inWp 26 rfl rfl, inW1 6 rfl rfl, inW4 172 rfl rfl⟩, by decide +kernel, by decide +kernel, by decide +kernel⟩
theorem mL_93 : MV RL 93 yX7_mod cX7_mod 3 (some .int) 2 := ⟨⟨inW4 173 rfl rfl, inW4 174 rfl rfl, inW4 175 rfl rfl, inW1 6 rfl rfl, inW4 176 rfl rfl⟩, by decide +kernel, by decide +kernel, by decide +kernel⟩
theorem mL_97 : MV RL 97 yX7_combine cX7_combine 5 (some .int) 3 := ⟨⟨inW4 177 rfl rfl, inW4 178 rfl rfl, inW4 179 rfl rfl, inW1 6 rfl rfl, inW4 180 rfl rfl⟩, by decide +kernel, by decide +kernel, by decide +kernel⟩
theorem mL_101 : MV RL 101 yX7_compile cX7_compile 5 (some .int) 0 := ⟨⟨inW4 181 rfl rfl, inW4 182 rfl rfl, inW4 183 rfl rfl, inW1 6 rfl rfl, inW4 184 rfl rfl⟩, by decide +kernel, by decide +kernel, by decide +kernel⟩
theorem mX7_142 : MV RX7 142 yX7_findStates cX7_findStates 6 none 1 := ⟨⟨inW4 185 rfl rfl, inW4 187 rfl rfl, inWp 27 rfl rfl, inW1 6 rfl rfl, inW4 188 rfl rfl⟩, by decide +kernel, by decide +kernel, by decide +kernel⟩
theorem mX7_101 : MV RX7 101 yX7_firstState cX7_firstState 4 (some .int) 2 := ⟨⟨inW4 189 rfl rfl, inW4 191 rfl rfl, inWp 28 rfl rfl, inW1 6 rfl rfl, inW4 192 rfl rfl⟩, by decide +kernel, by decide +kernel, by decide +kernel⟩
theorem mX7_89 : MV RX7 89 yX7_opinionOf cX7_opinionOf 3 (some .boolean) 2 := ⟨⟨inW4 193 rfl rfl, inW4 195 rfl rfl, inWp 29 rfl rfl, inW1 6 rfl rfl, inW4 196 rfl rfl⟩, by decide +kernel, by decide +kernel, by decide +kernel⟩
theorem mX7_93 : MV RX7 93 yX7_stateOf cX7_stateOf 5 (some .int) 4 := ⟨⟨inW4 197 rfl rfl, inW4 199 rfl rfl, inWp 30 rfl rfl, inW1 6 rfl rfl, inW4 200 rfl rfl⟩, by decide +kernel, by decide +kernel, by decide +kernel⟩
theorem mX7_105 : MV RX7 105 yX7_meeting cX7_meeting 9 none 3 := ⟨⟨inW4 201 rfl rfl, inW4 203 rfl rfl, inWp 31 rfl rfl, inW1 6 rfl rfl, inW4 204 rfl rfl⟩, by decide +kernel, by decide +kernel, by decide +kernel⟩
theorem mX7_97 : MS RX7 97 yX7_valueOf cX7_valueOf 1 (some .int) 1 := ⟨⟨inW4 205 rfl rfl, inW4 206 rfl rfl, inW1 6 rfl rfl, inW4 207 rfl rfl⟩, by decide +kernel, by decide +kernel, by decide +kernel⟩
theorem mX7_146 : MV RX7 146 yX7_stateCount cX7_stateCount 4 (some .int) 1 := ⟨⟨inW4 208 rfl rfl, inW4 210 rfl rfl, inWp 32 rfl rfl, inW1 6 rfl rfl, inW4 211 rfl rfl⟩, by decide +kernel, by decide +kernel, by decide +kernel⟩
theorem mL_104 : MV RL 104 yX7_add cX7_add 5 (some .int) 2 := ⟨⟨inW4 212 rfl rfl, inW4 213 rfl rfl, inW4 214 rfl rfl, inW1 6 rfl rfl, inW4 215 rfl rfl⟩, by decide +kernel, by decide +kernel, by decide +kernel⟩
theorem mL_108 : MV RL 108 yX7_size cX7_size 1 (some .int) 0 := ⟨⟨inW4 216 rfl rfl, inW4 217 rfl rfl, inW4 218 rfl rfl, inW1 6 rfl rfl, inW4 219 rfl rfl⟩, by decide +kernel, by decide +kernel, by decide +kernel⟩
theorem mL_111 : MV RL 111 yX7_meet cX7_meet 3 (some .boolean) 2 := ⟨⟨inW4 220 rfl rfl, inW4 221 rfl rfl, inW4 222 rfl rfl, inW1 6 rfl rfl, inW4 223 rfl rfl⟩, by decide +kernel, by decide +kernel, by decide +kernel⟩
theorem mX7_149 : MV RX7 149 yX7_noAgent cX7_noAgent 2 (some .boolean) 1 := ⟨⟨inW4 224 rfl rfl, inW4 226 rfl rfl, inWp 33 rfl rfl, inW1 6 rfl rfl, inW4 227 rfl rfl⟩, by decide +kernel, by decide +kernel, by decide +kernel⟩
theorem mX7_153 : MV RX7 153 yX7_meets cX7_meets 6 (some .boolean) 3 := ⟨⟨inW4 228 rfl rfl, inW4 230 rfl rfl, inWp 34 rfl rfl, inW1 6 rfl rfl, inW4 231 rfl rfl⟩, by decide +kernel, by decide +kernel, by decide +kernel⟩
theorem mL_114 : MV RL 114 yX7_sweep cX7_sweep 7 (some .int) 1 := ⟨⟨inW4 232 rfl rfl, inW4 233 rfl rfl, inW4 234 rfl rfl, inW1 6 rfl rfl, inW4 235 rfl rfl⟩, by decide +kernel, by decide +kernel, by decide +kernel⟩
theorem mL_117 : MV RL 117 yX7_output cX7_output 2 (some .boolean) 1 := ⟨⟨inW4 236 rfl rfl, inW4 237 rfl rfl, inW4 238 rfl rfl, inW1 6 rfl rfl, inW4 239 rfl rfl⟩, by decide +kernel, by decide +kernel, by decide +kernel⟩
theorem mX7_157 : MV RX7 157 yX7_outputOf cX7_outputOf 3 (some .boolean) 1 := ⟨⟨inW5 0 rfl rfl, inW5 2 rfl rfl, inWp 35 rfl rfl, inW1 6 rfl rfl, inW5 3 rfl rfl⟩, by decide +kernel, by decide +kernel, by decide +kernel⟩
theorem mX7_109 : MV RX7 109 yX7_formula cX7_formula 2 (some .boolean) 0 := ⟨⟨inW5 4 rfl rfl, inW5 6 rfl rfl, inWp 36 rfl rfl, inW1 6 rfl rfl, inW5 7 rfl rfl⟩, by decide +kernel, by decide +kernel, by decide +kernel⟩
theorem mL_120 : MV RL 120 yX7_state cX7_state 4 (some .int) 3 := ⟨⟨inW5 8 rfl rfl, inW5 9 rfl rfl, inW5 10 rfl rfl, inW1 6 rfl rfl, inW5 11 rfl rfl⟩, by decide +kernel, by decide +kernel, by decide +kernel⟩
theorem mX7_160 : MS RX7 160 yX7_partOf cX7_partOf 2 (some .int) 2 := ⟨⟨inW5 12 rfl rfl, inW5 13 rfl rfl, inW1 6 rfl rfl, inW5 14 rfl rfl⟩, by decide +kernel, by decide +kernel, by decide +kernel⟩
theorem mL_123 : MV RL 123 yX7_truth cX7_truth 1 (some .boolean) 0 := ⟨⟨inW5 15 rfl rfl, inW5 16 rfl rfl, inW5 17 rfl rfl, inW1 6 rfl rfl, inW5 18 rfl rfl⟩, by decide +kernel, by decide +kernel, by decide +kernel⟩
theorem mX7_163 : MV RX7 163 yX7_truthNow cX7_truthNow 5 (some .boolean) 0 := ⟨⟨inW5 19 rfl rfl, inW5 21 rfl rfl, inWp 37 rfl rfl, inW1 6 rfl rfl, inW5 22 rfl rfl⟩, by decide +kernel, by decide +kernel, by decide +kernel⟩
theorem mL_127 : MV RL 127 yX7_silent cX7_silent 3 (some .boolean) 0 := ⟨⟨inW5 23 rfl rfl, inW5 24 rfl rfl, inW5 25 rfl rfl, inW1 6 rfl rfl, inW5 26 rfl rfl⟩, by decide +kernel, by decide +kernel, by decide +kernel⟩
theorem mL_131 : MV RL 131 yX7_agree cX7_agree 2 (some .boolean) 0 := ⟨⟨inW5 27 rfl rfl, inW5 28 rfl rfl, inW5 29 rfl rfl, inW1 6 rfl rfl, inW5 30 rfl rfl⟩, by decide +kernel, by decide +kernel, by decide +kernel⟩
theorem mL_134 : MV RL 134 yX7_explore cX7_explore 5 (some .int) 1 := ⟨⟨inW5 31 rfl rfl, inW5 32 rfl rfl, inW5 33 rfl rfl, inW1 6 rfl rfl, inW5 34 rfl rfl⟩, by decide +kernel, by decide +kernel, by decide +kernel⟩
theorem mX7_125 : MV RX7 125 yX7_sort cX7_sort 5 none 0 := ⟨⟨inW5 35 rfl rfl, inW5 37 rfl rfl, inWp 38 rfl rfl, inW1 6 rfl rfl, inW5 38 rfl rfl⟩, by decide +kernel, by decide +kernel, by decide +kernel⟩
theorem mX7_128 : MV RX7 128 yX7_find cX7_find 8 (some .int) 1 := ⟨⟨inW5 39 rfl rfl, inW5 41 rfl rfl, inWp 39 rfl rfl, inW1 6 rfl rfl, inW5 42 rfl rfl⟩, by decide +kernel, by decide +kernel, by decide +kernel⟩
theorem ctX7_117 : Cond.constantLong RX7 117 (17 : Int64) ∈ WT := inW5 43 rfl rfl
theorem ctX7_119 : Cond.constantLong RX7 119 (1000003 : Int64) ∈ WT := inW5 44 rfl rfl
theorem mX7_121 : MV RX7 121 yX7_after cX7_after 9 (some .boolean) 3 := ⟨⟨inW5 45 rfl rfl, inW5 47 rfl rfl, inWp 40 rfl rfl, inW1 6 rfl rfl, inW5 48 rfl rfl⟩, by decide +kernel, by decide +kernel, by decide +kernel⟩
theorem mX7_113 : MS RX7 113 yX7_stateIn cX7_stateIn 3 (some .int) 2 := ⟨⟨inW5 49 rfl rfl, inW5 50 rfl rfl, inW1 6 rfl rfl, inW5 51 rfl rfl⟩, by decide +kernel, by decide +kernel, by decide +kernel⟩
theorem mL_137 : MV RL 137 yX7_recovers cX7_recovers 4 (some .boolean) 0 := ⟨⟨inW5 52 rfl rfl, inW5 53 rfl rfl, inW5 54 rfl rfl, inW1 6 rfl rfl, inW5 55 rfl rfl⟩, by decide +kernel, by decide +kernel, by decide +kernel⟩
theorem mX7_166 : MV RX7 166 yX7_silentCrowd cX7_silentCrowd 4 (some .boolean) 1 := ⟨⟨inW5 56 rfl rfl, inW5 58 rfl rfl, inWp 41 rfl rfl, inW1 6 rfl rfl, inW5 59 rfl rfl⟩, by decide +kernel, by decide +kernel, by decide +kernel⟩
theorem mX7_169 : MV RX7 169 yX7_rightCrowd cX7_rightCrowd 5 (some .boolean) 2 := ⟨⟨inW5 60 rfl rfl, inW5 62 rfl rfl, inWp 42 rfl rfl, inW1 6 rfl rfl, inW5 63 rfl rfl⟩, by decide +kernel, by decide +kernel, by decide +kernel⟩
theorem mX7_173 : MV RX7 173 yX7_leadsToGood cX7_leadsToGood 4 (some .boolean) 1 := ⟨⟨inW5 64 rfl rfl, inW5 66 rfl rfl, inWp 43 rfl rfl, inW1 6 rfl rfl, inW5 67 rfl rfl⟩, by decide +kernel, by decide +kernel, by decide +kernel⟩
theorem mL_140 : MV RL 140 yX7_table cX7_table 3 (some .int) 2 := ⟨⟨inW5 68 rfl rfl, inW5 69 rfl rfl, inW5 70 rfl rfl, inW1 6 rfl rfl, inW5 71 rfl rfl⟩, by decide +kernel, by decide +kernel, by decide +kernel⟩
theorem mX7_176 : MV RX7 176 yX7_tableFault cX7_tableFault 4 (some .int) 3 := ⟨⟨inW5 72 rfl rfl, inW5 74 rfl rfl, inWp 44 rfl rfl, inW1 6 rfl rfl, inW5 75 rfl rfl⟩, by decide +kernel, by decide +kernel, by decide +kernel⟩
theorem mX7_179 : MV RX7 179 yX7_findRule cX7_findRule 6 (some .int) 2 := ⟨⟨inW5 76 rfl rfl, inW5 78 rfl rfl, inWp 45 rfl rfl, inW1 6 rfl rfl, inW5 79 rfl rfl⟩, by decide +kernel, by decide +kernel, by decide +kernel⟩
theorem mL_143 : MV RL 143 yX7_rule cX7_rule 5 (some .int) 3 := ⟨⟨inW5 80 rfl rfl, inW5 81 rfl rfl, inW5 82 rfl rfl, inW1 6 rfl rfl, inW5 83 rfl rfl⟩, by decide +kernel, by decide +kernel, by decide +kernel⟩
theorem mX7_182 : MV RX7 182 yX7_numberOf cX7_numberOf 5 (some .int) 2 := ⟨⟨inW5 84 rfl rfl, inW5 86 rfl rfl, inWp 46 rfl rfl, inW1 6 rfl rfl, inW5 87 rfl rfl⟩, by decide +kernel, by decide +kernel, by decide +kernel⟩
theorem mL_146 : MV RL 146 yX7_kind cX7_kind 5 (some .int) 3 := ⟨⟨inW5 88 rfl rfl, inW5 89 rfl rfl, inW5 90 rfl rfl, inW1 6 rfl rfl, inW5 91 rfl rfl⟩, by decide +kernel, by decide +kernel, by decide +kernel⟩
end
section
/-! PURE WORLDS: a world sends names (numbers) to pure cells; references in pure values are names. 'ad' sends names to addresses. -/
abbrev pArr : Type := (Nat → Int32) ⊕ (Nat → Int64) ⊕ (Nat → Option Nat)
abbrev pCell : Type := (Nat × Nat × pArr) ⊕ (Nat × List Value)
abbrev Wd : Type := Nat → Option pCell
def aTy (k : Nat) : FieldType := match k with
  | 0 => .int
  | 1 => .long
  | 2 => .boolean
  | _ => .object RX0
abbrev tysOf (dA : Nat → ClassId) : List (ClassId × FieldType) := [(dA 0, .int), (dA 1, .long), (dA 2, .boolean), (dA 3, .object RX0)]
def vmv (ad : Nat → Nat) (v : Value) : Value := match v with
  | .ref n => .ref (ad n)
  | v => v
def pa (dA : Nat → ClassId) (ad : Nat → Nat) (c : pCell) : va_E := match c with
  | .inl (k, n, .inl f) => .inl (dA k, n, .inl f)
  | .inl (k, n, .inr (.inl f)) => .inl (dA k, n, .inr (.inl f))
  | .inl (k, n, .inr (.inr g)) => .inl (dA k, n, .inr (.inr (.inr (.inr (fun j => (g j).map ad)))))
  | .inr (ci, fs) => .inr (ci, fs.map (vmv ad))
def inD (σ : Wd) (v : Value) : Prop := ∀ n, v = .ref n → σ n ≠ none
def clS (σ : Wd) (st : List Value) : Prop := ∀ v ∈ st, inD σ v
def clC (σ : Wd) (c : pCell) : Prop := match c with
  | .inl (_, _, .inr (.inr g)) => ∀ j m, g j = some m → σ m ≠ none
  | .inl _ => True
  | .inr (_, fs) => clS σ fs
def up (σ : Wd) (n : Nat) (c : pCell) : Wd := fun j => bif Nat.beq j n then some c else σ j
theorem up_self (σ : Wd) (n : Nat) (c : pCell) : up σ n c n = some c := by simp [up]
theorem up_ne (σ : Wd) {n j : Nat} (c : pCell) (h : j ≠ n) : up σ n c j = σ j := by
  have : Nat.beq j n = false := by
    cases hb : Nat.beq j n with
    | true => exact absurd (Nat.eq_of_beq_eq_true hb) h
    | false => rfl
  simp [up, this]
theorem up_dom {σ : Wd} {n j : Nat} {c : pCell} (h : σ j ≠ none) : up σ n c j ≠ none := by
  by_cases e : j = n
  · subst e; rw [up_self]; exact fun h => by cases h
  · rw [up_ne σ c e]; exact h
theorem up_in {σ : Wd} {n : Nat} {c : pCell} {v : Value} (h : inD σ v) : inD (up σ n c) v := fun m e => up_dom (h m e)
theorem up_clS {σ : Wd} {n : Nat} {c : pCell} {st : List Value} (h : clS σ st) : clS (up σ n c) st := fun v hv => up_in (h v hv)
theorem up_clC {σ : Wd} {n : Nat} {c d : pCell} (h : clC σ d) : clC (up σ n c) d := by
  match d, h with
  | .inl (_, _, .inl _), _ => exact trivial
  | .inl (_, _, .inr (.inl _)), _ => exact trivial
  | .inl (_, _, .inr (.inr g)), h => exact fun j m e => up_dom (h j m e)
  | .inr (_, fs), h => exact up_clS (σ := σ) h
theorem cl_i {σ : Wd} {st : List Value} {x : Int32} (h : clS σ st) : clS σ (.int x :: st) := fun v hv => by
  rcases List.mem_cons.mp hv with rfl | hv
  · exact fun n e => by cases e
  · exact h v hv
theorem cl_l {σ : Wd} {st : List Value} {x : Int64} (h : clS σ st) : clS σ (.long x :: st) := fun v hv => by
  rcases List.mem_cons.mp hv with rfl | hv
  · exact fun n e => by cases e
  · exact h v hv
theorem cl_n {σ : Wd} {st : List Value} (h : clS σ st) : clS σ (.null :: st) := fun v hv => by
  rcases List.mem_cons.mp hv with rfl | hv
  · exact fun n e => by cases e
  · exact h v hv
theorem cl_c {σ : Wd} {st : List Value} {v : Value} (hv : inD σ v) (h : clS σ st) : clS σ (v :: st) := fun u hu => by
  rcases List.mem_cons.mp hu with rfl | hu
  · exact hv
  · exact h u hu
theorem cl_h {σ : Wd} {st : List Value} {v : Value} (h : clS σ (v :: st)) : inD σ v := h v List.mem_cons_self
theorem cl_t {σ : Wd} {st : List Value} {v : Value} (h : clS σ (v :: st)) : clS σ st := fun u hu => h u (List.mem_cons_of_mem _ hu)
theorem cl_r {σ : Wd} {n : Nat} (h : σ n ≠ none) : inD σ (.ref n) := fun m e => by cases e; exact h
theorem cl_app {σ : Wd} {a b : List Value} : clS σ (a ++ b) ↔ clS σ a ∧ clS σ b := by
  constructor
  · exact fun h => ⟨fun v hv => h v (List.mem_append_left _ hv), fun v hv => h v (List.mem_append_right _ hv)⟩
  · rintro ⟨h1, h2⟩ v hv
    rcases List.mem_append.mp hv with h | h
    · exact h1 v h
    · exact h2 v h
theorem cl_rev {σ : Wd} {a : List Value} (h : clS σ a.reverse) : clS σ a := fun v hv => h v (List.mem_reverse.mpr hv)
/-- the heap holds the world -/
def Rp (D : va_G) (dA : Nat → ClassId) (ad : Nat → Nat) (σ : Wd) (H : Heap) : Prop :=
  (∀ n c, σ n = some c → va_at D vwCl (ad n, pa dA ad c) H) ∧ (∀ n m, σ n ≠ none → σ m ≠ none → ad n = ad m → n = m) ∧ ∀ n c, σ n = some c → clC σ c
def AA (ad : Nat → Nat) (σ : Wd) (sz : Nat) : Nat → Prop := fun q => (∃ n, σ n ≠ none ∧ q = ad n) ∨ sz ≤ q
/-- .. and goes on from the world σ0 at ad0, in a heap of sz cells -/
def Sr (D : va_G) (dA : Nat → ClassId) (ad0 : Nat → Nat) (σ0 : Wd) (sz : Nat) (ad : Nat → Nat) (σ : Wd) (H : Heap) : Prop :=
  Rp D dA ad σ H ∧ (∀ n, σ0 n ≠ none → σ n ≠ none ∧ ad n = ad0 n) ∧ ∀ n, σ n ≠ none → AA ad0 σ0 sz (ad n)
theorem Rp.lt {D : va_G} {dA : Nat → ClassId} {ad : Nat → Nat} {σ : Wd} {H : Heap} (h : Rp D dA ad σ H) {n : Nat} (hn : σ n ≠ none) : ad n < H.size := by
  cases hc : σ n with
  | none => exact absurd hc hn
  | some c => exact (h.1 n c hc).lt
theorem Rp.put {D : va_G} {dA : Nat → ClassId} {ad : Nat → Nat} {σ : Wd} {H H1 : Heap} (h : Rp D dA ad σ H) {n : Nat} {c : pCell} (hn : σ n ≠ none) (hc : clC σ c) (hv : va_at D vwCl (ad n, pa dA ad c) H1) (hq : ∀ q, q ≠ ad n → H1[q]? = H[q]?) : Rp D dA ad (up σ n c) H1 := by
  refine ⟨fun m d hd => ?_, fun a b ha hb e => ?_, fun m d hd => ?_⟩
  · by_cases e : m = n
    · subst e; rw [up_self] at hd; cases hd; exact hv
    · rw [up_ne σ c e] at hd
      refine (h.1 m d hd).kept (hq _ fun z => e (h.2.1 m n (by rw [hd]; exact fun h => by cases h) hn z))
  · have k : ∀ z, up σ n c z ≠ none → σ z ≠ none := fun z hz => by
      by_cases e : z = n
      · subst e; exact hn
      · rw [up_ne σ c e] at hz; exact hz
    exact h.2.1 a b (k a ha) (k b hb) e
  · by_cases e : m = n
    · subst e; rw [up_self] at hd; cases hd; exact up_clC hc
    · rw [up_ne σ c e] at hd; exact up_clC (h.2.2 m d hd)
theorem vmv_up {ad : Nat → Nat} {σ : Wd} {n a : Nat} {v : Value} (hn : σ n = none) (h : inD σ v) : vmv (va_up ad n a) v = vmv ad v := by
  cases v with
  | ref m => show Value.ref _ = Value.ref _; rw [va_up_ne ad a (fun e : m = n => h m rfl (by rw [e]; exact hn))]
  | _ => rfl
theorem vmv_ups {ad : Nat → Nat} {σ : Wd} {n a : Nat} {st : List Value} (hn : σ n = none) (h : clS σ st) : st.map (vmv (va_up ad n a)) = st.map (vmv ad) := List.map_congr_left fun v hv => vmv_up hn (h v hv)
theorem pa_up {dA : Nat → ClassId} {ad : Nat → Nat} {σ : Wd} {n a : Nat} {c : pCell} (hn : σ n = none) (h : clC σ c) : pa dA (va_up ad n a) c = pa dA ad c := by
  match c, h with
  | .inl (_, _, .inl _), _ => rfl
  | .inl (_, _, .inr (.inl _)), _ => rfl
  | .inl (k, z, .inr (.inr g)), h =>
    show (Sum.inl (dA k, z, .inr (.inr (.inr (.inr (fun j => (g j).map (va_up ad n a)))))) : va_E) = Sum.inl (dA k, z, .inr (.inr (.inr (.inr (fun j => (g j).map ad)))))
    have e : (fun j => (g j).map (va_up ad n a)) = fun j => (g j).map ad := by
      funext j
      cases hg : g j with
      | none => rfl
      | some m => exact congrArg some (va_up_ne ad a fun e : m = n => h j m hg (by rw [e]; exact hn))
    rw [e]
  | .inr (ci, fs), h =>
    show (Sum.inr (ci, fs.map (vmv (va_up ad n a))) : va_E) = Sum.inr (ci, fs.map (vmv ad))
    rw [vmv_ups hn h]
theorem Rp.new {D : va_G} {dA : Nat → ClassId} {ad : Nat → Nat} {σ : Wd} {H H1 : Heap} (h : Rp D dA ad σ H) {n : Nat} {c : pCell} (hn : σ n = none) (hc : clC σ c) (hv : va_at D vwCl (H.size, pa dA ad c) H1) (hq : ∀ q, q < H.size → H1[q]? = H[q]?) : Rp D dA (va_up ad n H.size) (up σ n c) H1 := by
  have k : ∀ z, up σ n c z ≠ none → z ≠ n → σ z ≠ none := fun z hz e => by rw [up_ne σ c e] at hz; exact hz
  refine ⟨fun m d hd => ?_, fun a b ha hb e => ?_, fun m d hd => ?_⟩
  · by_cases e : m = n
    · subst e; rw [up_self] at hd; cases hd
      rw [va_up_self, pa_up hn hc]; exact hv
    · rw [up_ne σ c e] at hd
      rw [va_up_ne _ _ e, pa_up hn (h.2.2 m d hd)]
      exact (h.1 m d hd).kept (hq _ (h.1 m d hd).lt)
  · by_cases ea : a = n
    · by_cases eb : b = n
      · rw [ea, eb]
      · exfalso
        rw [ea, va_up_self, va_up_ne _ _ eb] at e
        have := h.lt (k b hb eb)
        omega
    · by_cases eb : b = n
      · exfalso
        rw [eb, va_up_self, va_up_ne _ _ ea] at e
        have := h.lt (k a ha ea)
        omega
      · rw [va_up_ne _ _ ea, va_up_ne _ _ eb] at e
        exact h.2.1 a b (k a ha ea) (k b hb eb) e
  · by_cases e : m = n
    · subst e; rw [up_self] at hd; cases hd; exact up_clC hc
    · rw [up_ne σ c e] at hd; exact up_clC (h.2.2 m d hd)
theorem Sr.put {D : va_G} {dA : Nat → ClassId} {ad0 ad : Nat → Nat} {σ0 σ : Wd} {sz : Nat} {H H1 : Heap} (h : Sr D dA ad0 σ0 sz ad σ H) {n : Nat} {c : pCell} (hn : σ n ≠ none) (hc : clC σ c) (hv : va_at D vwCl (ad n, pa dA ad c) H1) (hq : ∀ q, q ≠ ad n → H1[q]? = H[q]?) : Sr D dA ad0 σ0 sz ad (up σ n c) H1 :=
  ⟨h.1.put hn hc hv hq, fun m hm => ⟨up_dom (h.2.1 m hm).1, (h.2.1 m hm).2⟩, fun m hm => h.2.2 m (by
    by_cases e : m = n
    · subst e; exact hn
    · rw [up_ne σ c e] at hm; exact hm)⟩
theorem Sr.new {D : va_G} {dA : Nat → ClassId} {ad0 ad : Nat → Nat} {σ0 σ : Wd} {sz : Nat} {H H1 : Heap} (h : Sr D dA ad0 σ0 sz ad σ H) (hs : sz ≤ H.size) {n : Nat} {c : pCell} (hn : σ n = none) (hc : clC σ c) (hv : va_at D vwCl (H.size, pa dA ad c) H1) (hq : ∀ q, q < H.size → H1[q]? = H[q]?) : Sr D dA ad0 σ0 sz (va_up ad n H.size) (up σ n c) H1 := by
  refine ⟨h.1.new hn hc hv hq, fun m hm => ?_, fun m hm => ?_⟩
  · have hmn : m ≠ n := fun e => (h.2.1 m hm).1 (by rw [e]; exact hn)
    exact ⟨up_dom (h.2.1 m hm).1, by rw [va_up_ne _ _ hmn]; exact (h.2.1 m hm).2⟩
  · by_cases e : m = n
    · subst e; rw [va_up_self]; exact Or.inr hs
    · rw [up_ne σ c e] at hm; rw [va_up_ne _ _ e]; exact h.2.2 m hm
def strTab : List (String × Nat × String) := [("CrowdDesk", 43, "no such letter"), ("CrowdDesk", 51, "v is not -20 .. 20"), ("CrowdDesk", 57, "c is not -20 .. 20"), ("CrowdDesk", 65, "compiled, or too many atoms or nodes"), ("CrowdDesk", 73, "m is not 2 .. 16"), ("CrowdDesk", 75, "r is not 0 .. m - 1"), ("CrowdDesk", 77, "no such op"), ("CrowdDesk", 82, "no such node"), ("CrowdDesk", 87, "compiled, or too many nodes"), ("CrowdDesk", 96, "compiled already"), ("CrowdDesk", 101, "no nodes"), ("CrowdDesk", 106, "a node is a part twice"), ("CrowdDesk", 112, "n is below 0"), ("CrowdDesk", 114, "not compiled"), ("CrowdDesk", 119, "more than 200 agents"), ("CrowdDesk", 125, "an agent does not meet itself"), ("CrowdDesk", 132, "no such agent"), ("CrowdDesk", 139, "times is not 1 .. 500"), ("CrowdDesk", 159, "no such agent, atom or what"), ("CrowdDesk", 184, "limit is not 1 .. 3000"), ("CrowdDesk", 186, "no agents, or more than 6"), ("CrowdDesk", 195, "the present crowd is not explored"), ("CrowdDesk", 215, "no such rule"), ("CrowdDesk", 220, "no such state"), ("CrowdDesk", 225, "no such atom or what")]
def ncTab : List (String × String) := [("java/lang/IllegalStateException", "java/lang/IllegalArgumentException"), ("java/lang/IndexOutOfBoundsException", "java/lang/IllegalArgumentException"), ("java/lang/IllegalStateException", "java/lang/IndexOutOfBoundsException")]
def fcTab : List Cond := [.castable "java/lang/IllegalArgumentException" "java/lang/IllegalArgumentException", .castable "java/lang/IllegalStateException" "java/lang/IllegalStateException", .castable "java/lang/IndexOutOfBoundsException" "java/lang/IndexOutOfBoundsException", .declares ⟨"java/lang/RuntimeException", "<init>", "(Ljava/lang/String;)V"⟩, .declares ⟨"java/lang/Exception", "<init>", "(Ljava/lang/String;)V"⟩, .declares ⟨"java/lang/Throwable", "<init>", "(Ljava/lang/String;)V"⟩]
theorem fc_ok : ∀ w ∈ fcTab, w.onTables = true ∧ w.faceAtom = true := by decide +kernel
theorem fc_warm {w : Cond} (hw : w ∈ fcTab) {s U : State} (hW : s.WarmedH U.vm) (h : va_Nw w s) : va_Nw w U := va_tabs (fc_ok w hw).1 (rfl : (s.setVm U.vm).vm = U.vm) (Cond.faceAtom_setVm hW.alike w (fc_ok w hw).2 h)
/-- what is known of the tables and of the heap's old part -/
def Kx (D : va_G) (dA : Nat → ClassId) (A : Nat → Prop) (U : State) (H : Heap) : Prop :=
  va_K D vwCl (tysOf dA) U ∧ va_AO RX0 U ∧ va_Nw (.methodLinkNest RX3 30 yX0_init RX6) U ∧ (∀ q ∈ strTab, ∃ a, vk_R q.1 q.2.1 q.2.2 a U) ∧ (∀ q ∈ ncTab, va_Nc q.1 q.2 U) ∧ (∀ w ∈ fcTab, va_Nw w U) ∧
  vx_Zq Bundle.tN "UNASSIGNED_STACK" Bundle.steD A U H ∧ vx_Zq Bundle.tN "SUPPRESSED_SENTINEL" Bundle.listD A U H
theorem Kx.moved {D : va_G} {dA : Nat → ClassId} {A : Nat → Prop} {u U : State} {H : Heap} (hvm : u.vm.Alike U.vm) (hW : u.WarmedH U.vm) (h : Kx D dA A u H) : Kx D dA A U H :=
  ⟨h.1.moved hvm, va_AO.moved hvm h.2.1, va_Nw.warmM hW h.2.2.1, fun q hq => (h.2.2.2.1 q hq).imp fun a ha => vk_R.warm hW ha, fun q hq => (h.2.2.2.2.1 q hq).moved hvm, fun q hq => fc_warm hq hW (h.2.2.2.2.2.1 q hq), h.2.2.2.2.2.2.1.moved hvm, h.2.2.2.2.2.2.2.moved hvm⟩
theorem Kx.kept {D : va_G} {dA : Nat → ClassId} {A : Nat → Prop} {U : State} {H H1 : Heap} (h : Kx D dA A U H) (hq : ∀ a : Nat, a < H.size → ¬ A a → H1[a]? = H[a]?) : Kx D dA A U H1 :=
  ⟨h.1, h.2.1, h.2.2.1, h.2.2.2.1, h.2.2.2.2.1, h.2.2.2.2.2.1, h.2.2.2.2.2.2.1.kept hq, h.2.2.2.2.2.2.2.kept hq⟩
theorem Kx.narrow {D : va_G} {dA : Nat → ClassId} {A B : Nat → Prop} {U : State} {H : Heap} (h : Kx D dA A U H) (hAB : ∀ q, B q → A q) : Kx D dA B U H :=
  ⟨h.1, h.2.1, h.2.2.1, h.2.2.2.1, h.2.2.2.2.1, h.2.2.2.2.2.1, h.2.2.2.2.2.2.1.narrow hAB, h.2.2.2.2.2.2.2.narrow hAB⟩
end
section
/-! THE JUDGEMENT T: method y (its code cc, nL locals, return type ret, exception table hh, room R) stands at pc with locals L, operand stack st, in the pure world σ, having made 'cells' cells of 'slots' slots: it comes to its end with Q (answer, world) or throws with QX (class, world) -/
def Cx (l : Launch) (y : MethodName) (cc : ByteArray) (nL : Nat) (ret : Option FieldType) (hh : List (Nat × Nat × Nat × Nat)) (p : Program) (s : State) (m : MethodId) (args : Array Value) (meth : Method) (c : Code) : Prop :=
  p.tables.exec = Jvm.exec ∧ c.code = cc ∧ c.maxLocals = nL ∧ meth.sig.returnType = ret ∧ meth.locks = false ∧ meth.name = y.name ∧ s.vm.findClass y.cls = some m.cls ∧ (∀ w ∈ WT, w.before args s = true) ∧ c.exceptionTable.toList = tableOf hh ∧ l.stackTraces = false
def Po (D : va_G) (dA : Nat → ClassId) (ad0 : Nat → Nat) (σ0 : Wd) (Q : Option Value → Wd → Prop) : Array Value → State → Outcome → State → Prop := fun _ st oc t =>
  (∃ (ad : Nat → Nat) (σ : Wd) (r : Option Value), oc = .returned (r.map (vmv ad)) ∧ Q r σ ∧ Sr D dA ad0 σ0 st.heap.size ad σ t.heap ∧ ∀ v, r = some v → inD σ v) ∧ va_F (AA ad0 σ0 st.heap.size) st t
def PoX (D : va_G) (dA : Nat → ClassId) (ad0 : Nat → Nat) (σ0 : Wd) (QX : String → Wd → Prop) : String → State → State → Prop := fun E st t =>
  (∃ (ad : Nat → Nat) (σ : Wd), QX E σ ∧ Sr D dA ad0 σ0 st.heap.size ad σ t.heap) ∧ va_F (AA ad0 σ0 st.heap.size) st t
/-- the locals -/
def lget (L : List (Option Value)) (i : Nat) : Option Value := match L[i]? with
  | some (some v) => some v
  | _ => none
def lcl (L : List (Option Value)) (i : Nat) : List (Option Value) := match i with
  | 0 => L
  | k + 1 => match lget L k with
    | some v => bif Nat.beq v.category 2 then L.set k none else L
    | none => L
def lset (L : List (Option Value)) (i : Nat) (v : Value) : List (Option Value) := (lcl L i).set i (some v)
def lset2 (L : List (Option Value)) (i : Nat) (v : Value) : List (Option Value) := ((lcl L i).set i (some v)).set (i + 1) none
def Lr (ad : Nat → Nat) (ls : Array Slot) (nL : Nat) (L : List (Option Value)) : Prop := ls.size = nL ∧ lv_wf ls ∧ ∀ i v, lget L i = some v → ls[i]? = some (.val (vmv ad v))
def clL (σ : Wd) (L : List (Option Value)) : Prop := ∀ i v, lget L i = some v → inD σ v
def T (y : MethodName) (cc : ByteArray) (nL : Nat) (ret : Option FieldType) (hh : List (Nat × Nat × Nat × Nat)) (R : Room) (Q : Option Value → Wd → Prop) (QX : String → Wd → Prop) (pc : Nat) (L : List (Option Value)) (st : List Value) (σ : Wd) (cells slots : Nat) : Prop :=
  ∀ (l : Launch) (p : Program) (e : Env) (s : State) (m : MethodId) (args : Array Value) (below : List Frame) (meth : Method) (c : Code), Cx l y cc nL ret hh p s m args meth c →
  ∀ (D : va_G) (dA : Nat → ClassId) (ad0 : Nat → Nat) (σ0 : Wd), Kx D dA (AA ad0 σ0 s.heap.size) s s.heap →
  ∀ (ad : Nat → Nat) (H : Heap) (locs : List Loc) (ls : Array Slot), Sr D dA ad0 σ0 s.heap.size ad σ H → va_S (AA ad0 σ0 s.heap.size) s.heap H locs → Lr ad ls nL L → clL σ L → clS σ st →
  W p l e R s m args below meth c H locs cells slots (vx_MQ below (Po D dA ad0 σ0 Q) (PoX D dA ad0 σ0 QX) args s R.cells R.slots (AA ad0 σ0 s.heap.size)) (F0 m pc ls (st.map (vmv ad)))
/-- .. and where an exception of class E has come out of a call at pc -/
def TX (y : MethodName) (cc : ByteArray) (nL : Nat) (ret : Option FieldType) (hh : List (Nat × Nat × Nat × Nat)) (R : Room) (Q : Option Value → Wd → Prop) (QX : String → Wd → Prop) (pc : Nat) (L : List (Option Value)) (E : String) (σ : Wd) (cells slots : Nat) : Prop :=
  ∀ (l : Launch) (p : Program) (e : Env) (s : State) (m : MethodId) (args : Array Value) (below : List Frame) (meth : Method) (c : Code), Cx l y cc nL ret hh p s m args meth c →
  ∀ (D : va_G) (dA : Nat → ClassId) (ad0 : Nat → Nat) (σ0 : Wd), Kx D dA (AA ad0 σ0 s.heap.size) s s.heap →
  ∀ (ad : Nat → Nat) (H : Heap) (locs : List Loc) (ls : Array Slot) (rest : List Value) (q : Addr) (ce : Cell), Sr D dA ad0 σ0 s.heap.size ad σ H → va_S (AA ad0 σ0 s.heap.size) s.heap H locs → Lr ad ls nL L → clL σ L → H[q]? = some ce → ce.vm = .none → s.vm.findClass E = some ce.cls →
  vx_W p l e R s m args below meth c H locs cells slots (vx_MQ below (Po D dA ad0 σ0 Q) (PoX D dA ad0 σ0 QX) args s R.cells R.slots (AA ad0 σ0 s.heap.size)) (F0 m pc ls rest) q
theorem lget_set {L : List (Option Value)} {i j : Nat} {o : Option Value} {v : Value} (h : lget (L.set i o) j = some v) : (j = i ∧ o = some v) ∨ (j ≠ i ∧ lget L j = some v) := by
  unfold lget at h ⊢
  by_cases e : j = i
  · subst e
    by_cases hl : j < L.length
    · rw [List.getElem?_set_self hl] at h
      cases o with
      | none => cases h
      | some u => exact Or.inl ⟨rfl, h⟩
    · rw [List.getElem?_eq_none (by rw [List.length_set]; omega)] at h
      cases h
  · rw [List.getElem?_set_ne (Ne.symm e)] at h
    exact Or.inr ⟨e, h⟩
theorem lget_lcl {L : List (Option Value)} {i j : Nat} {v : Value} (h : lget (lcl L i) j = some v) : lget L j = some v ∧ ¬ (j + 1 = i ∧ v.category = 2) := by
  cases i with
  | zero => exact ⟨h, fun e => by omega⟩
  | succ k =>
    unfold lcl at h
    cases hg : lget L k with
    | none =>
      simp only [hg] at h
      refine ⟨h, fun e => ?_⟩
      have : j = k := by omega
      subst this
      rw [hg] at h; cases h
    | some u =>
      simp only [hg] at h
      cases hc : Nat.beq u.category 2 with
      | true =>
        rw [hc] at h
        rcases lget_set h with ⟨-, h2⟩ | ⟨h1, h2⟩
        · cases h2
        · exact ⟨h2, fun e => h1 (by omega)⟩
      | false =>
        rw [hc] at h
        refine ⟨h, fun e => ?_⟩
        have : j = k := by omega
        subst this
        have h : lget L j = some v := h
        rw [hg] at h
        cases h
        rw [e.2] at hc
        cases hc
theorem vmv_cat (ad : Nat → Nat) (v : Value) : (vmv ad v).category = v.category := by cases v <;> rfl
/-- the listed pairs of the locals, as the kit has them -/
def lpairs (ad : Nat → Nat) (L : List (Option Value)) : List (Nat × Value) := (List.range L.length).filterMap fun i => (lget L i).map fun v => (i, vmv ad v)
theorem lpairs_mem {ad : Nat → Nat} {L : List (Option Value)} {q : Nat × Value} : q ∈ lpairs ad L ↔ ∃ v, lget L q.1 = some v ∧ q.2 = vmv ad v := by
  unfold lpairs
  rw [List.mem_filterMap]
  constructor
  · rintro ⟨i, -, h⟩
    cases hg : lget L i with
    | none => rw [hg] at h; cases h
    | some v => rw [hg] at h; cases h; exact ⟨v, hg, rfl⟩
  · rintro ⟨v, hv, e⟩
    refine ⟨q.1, List.mem_range.mpr ?_, by rw [hv]; exact congrArg some (Prod.ext rfl e.symm)⟩
    by_cases hl : q.1 < L.length
    · exact hl
    · unfold lget at hv
      rw [List.getElem?_eq_none (by omega)] at hv
      cases hv
theorem Lr.has {ad : Nat → Nat} {ls : Array Slot} {nL : Nat} {L : List (Option Value)} (h : Lr ad ls nL L) : lv_has ls nL (lpairs ad L) :=
  ⟨h.1, h.2.1, fun q hq => by obtain ⟨v, h1, h2⟩ := lpairs_mem.mp hq; rw [h2]; exact h.2.2 _ _ h1⟩
theorem Lr.st1 {ad : Nat → Nat} {ls : Array Slot} {nL i : Nat} {L : List (Option Value)} {v w : Value} (hw : w = vmv ad v) (h : lv_has ls nL ((i, w) :: (lpairs ad L).filter (fun q => !(q.1 == i) && !(q.1 + 1 == i && q.2.category == 2)))) : Lr ad ls nL (lset L i v) := by
  refine ⟨h.1, h.2.1, fun j u hu => ?_⟩
  rcases lget_set hu with ⟨h1, h2⟩ | ⟨h1, h2⟩
  · cases h2; rw [h1, ← hw]; exact h.2.2 (i, w) List.mem_cons_self
  · obtain ⟨h3, h4⟩ := lget_lcl h2
    refine h.2.2 (j, vmv ad u) (List.mem_cons_of_mem _ (List.mem_filter.mpr ⟨lpairs_mem.mpr ⟨u, h3, rfl⟩, ?_⟩))
    simp only [Bool.and_eq_true, Bool.not_eq_true', beq_eq_false_iff_ne, ne_eq, Bool.and_eq_false_iff, vmv_cat]
    refine ⟨h1, ?_⟩
    by_cases e : j + 1 = i
    · exact Or.inr fun z => h4 ⟨e, z⟩
    · exact Or.inl e
theorem Lr.st2 {ad : Nat → Nat} {ls : Array Slot} {nL i : Nat} {L : List (Option Value)} {v w : Value} (hw : w = vmv ad v) (h : lv_has ls nL ((i, w) :: (lpairs ad L).filter (fun q => !(q.1 == i) && (!(q.1 == i + 1) && !(q.1 + 1 == i && q.2.category == 2))))) : Lr ad ls nL (lset2 L i v) := by
  refine ⟨h.1, h.2.1, fun j u hu => ?_⟩
  rcases lget_set hu with ⟨h1, h2⟩ | ⟨h0, hu⟩
  · cases h2
  · rcases lget_set hu with ⟨h1, h2⟩ | ⟨h1, h2⟩
    · cases h2; rw [h1, ← hw]; exact h.2.2 (i, w) List.mem_cons_self
    · obtain ⟨h3, h4⟩ := lget_lcl h2
      refine h.2.2 (j, vmv ad u) (List.mem_cons_of_mem _ (List.mem_filter.mpr ⟨lpairs_mem.mpr ⟨u, h3, rfl⟩, ?_⟩))
      simp only [Bool.and_eq_true, Bool.not_eq_true', beq_eq_false_iff_ne, ne_eq, Bool.and_eq_false_iff, vmv_cat]
      refine ⟨h1, h0, ?_⟩
      by_cases e : j + 1 = i
      · exact Or.inr fun z => h4 ⟨e, z⟩
      · exact Or.inl e
theorem clL_set {σ : Wd} {L : List (Option Value)} {i : Nat} {v : Value} (h : clL σ L) (hv : inD σ v) : clL σ (lset L i v) := fun j u hu => by
  rcases lget_set hu with ⟨-, h2⟩ | ⟨-, h2⟩
  · cases h2; exact hv
  · exact h j u (lget_lcl h2).1
theorem clL_set2 {σ : Wd} {L : List (Option Value)} {i : Nat} {v : Value} (h : clL σ L) (hv : inD σ v) : clL σ (lset2 L i v) := fun j u hu => by
  rcases lget_set hu with ⟨-, h2⟩ | ⟨-, h2⟩
  · cases h2
  · rcases lget_set h2 with ⟨-, h2⟩ | ⟨-, h2⟩
    · cases h2; exact hv
    · exact h j u (lget_lcl h2).1
theorem in_i {σ : Wd} {x : Int32} : inD σ (.int x) := fun n e => by cases e
theorem in_l {σ : Wd} {x : Int64} : inD σ (.long x) := fun n e => by cases e
section TR
variable {y : MethodName} {cc : ByteArray} {nL : Nat} {ret : Option FieldType} {hh : List (Nat × Nat × Nat × Nat)} {R : Room} {Q : Option Value → Wd → Prop} {QX : String → Wd → Prop} {pc : Nat} {L : List (Option Value)} {st : List Value} {σ : Wd} {cells slots : Nat}

theorem z_iconst {n : Int} {v : Int32} (d : decode cc pc = .ok (.iconst n, 1)) (hv : Int32.ofInt n = v) (k : T y cc nL ret hh R Q QX (pc + 1) L (.int v :: st) σ cells slots) : T y cc nL ret hh R Q QX pc L st σ cells slots := by
  intro l p e s m args below meth c C D dA ad0 σ0 K ad H locs ls S hS hl hL hst
  refine lv_iconst C.1 C.2.1 d hv ?_
  exact k l p e s m args below meth c C D dA ad0 σ0 K ad H locs ls S hS hl hL (cl_i hst)
theorem z_bipush {n : Int} {v : Int32} (d : decode cc pc = .ok (.bipush n, 2)) (hv : (Int8.ofInt n).toInt32 = v) (k : T y cc nL ret hh R Q QX (pc + 2) L (.int v :: st) σ cells slots) : T y cc nL ret hh R Q QX pc L st σ cells slots := by
  intro l p e s m args below meth c C D dA ad0 σ0 K ad H locs ls S hS hl hL hst
  refine lv_bipush C.1 C.2.1 d hv ?_
  exact k l p e s m args below meth c C D dA ad0 σ0 K ad H locs ls S hS hl hL (cl_i hst)
theorem z_sipush {n : Int} {v : Int32} (d : decode cc pc = .ok (.sipush n, 3)) (hv : (Int16.ofInt n).toInt32 = v) (k : T y cc nL ret hh R Q QX (pc + 3) L (.int v :: st) σ cells slots) : T y cc nL ret hh R Q QX pc L st σ cells slots := by
  intro l p e s m args below meth c C D dA ad0 σ0 K ad H locs ls S hS hl hL hst
  refine lv_sipush C.1 C.2.1 d hv ?_
  exact k l p e s m args below meth c C D dA ad0 σ0 K ad H locs ls S hS hl hL (cl_i hst)
theorem z_lconst {n : Fin 2} {v : Int64} (d : decode cc pc = .ok (.lconst n, 1)) (hv : Int64.ofNat n = v) (k : T y cc nL ret hh R Q QX (pc + 1) L (.long v :: st) σ cells slots) : T y cc nL ret hh R Q QX pc L st σ cells slots := by
  intro l p e s m args below meth c C D dA ad0 σ0 K ad H locs ls S hS hl hL hst
  refine lv_lconst C.1 C.2.1 d hv ?_
  exact k l p e s m args below meth c C D dA ad0 σ0 K ad H locs ls S hS hl hL (cl_l hst)
theorem z_iload_n {k : Fin 4} {x : Int32} (d : decode cc pc = .ok (.iload_n k, 1)) (h : lget L k = some (.int x)) (k : T y cc nL ret hh R Q QX (pc + 1) L (.int x :: st) σ cells slots) : T y cc nL ret hh R Q QX pc L st σ cells slots := by
  intro l p e s m args below meth c C D dA ad0 σ0 K ad H locs ls S hS hl hL hst
  refine lv_iload_n C.1 C.2.1 d rfl (hl.2.2 _ _ h) ?_
  exact k l p e s m args below meth c C D dA ad0 σ0 K ad H locs ls S hS hl hL (cl_i hst)
theorem z_iload {i : Nat} {x : Int32} (d : decode cc pc = .ok (.iload i, 2)) (h : lget L i = some (.int x)) (k : T y cc nL ret hh R Q QX (pc + 2) L (.int x :: st) σ cells slots) : T y cc nL ret hh R Q QX pc L st σ cells slots := by
  intro l p e s m args below meth c C D dA ad0 σ0 K ad H locs ls S hS hl hL hst
  refine lv_iload C.1 C.2.1 d (hl.2.2 _ _ h) ?_
  exact k l p e s m args below meth c C D dA ad0 σ0 K ad H locs ls S hS hl hL (cl_i hst)
theorem z_lload_n {k : Fin 4} {x : Int64} (d : decode cc pc = .ok (.lload_n k, 1)) (h : lget L k = some (.long x)) (k : T y cc nL ret hh R Q QX (pc + 1) L (.long x :: st) σ cells slots) : T y cc nL ret hh R Q QX pc L st σ cells slots := by
  intro l p e s m args below meth c C D dA ad0 σ0 K ad H locs ls S hS hl hL hst
  refine lv_lload_n C.1 C.2.1 d rfl (hl.2.2 _ _ h) ?_
  exact k l p e s m args below meth c C D dA ad0 σ0 K ad H locs ls S hS hl hL (cl_l hst)
theorem z_lload {i : Nat} {x : Int64} (d : decode cc pc = .ok (.lload i, 2)) (h : lget L i = some (.long x)) (k : T y cc nL ret hh R Q QX (pc + 2) L (.long x :: st) σ cells slots) : T y cc nL ret hh R Q QX pc L st σ cells slots := by
  intro l p e s m args below meth c C D dA ad0 σ0 K ad H locs ls S hS hl hL hst
  refine lv_lload C.1 C.2.1 d (hl.2.2 _ _ h) ?_
  exact k l p e s m args below meth c C D dA ad0 σ0 K ad H locs ls S hS hl hL (cl_l hst)
theorem z_aload_n {k : Fin 4} {x : Nat} (d : decode cc pc = .ok (.aload_n k, 1)) (h : lget L k = some (.ref x)) (k : T y cc nL ret hh R Q QX (pc + 1) L (.ref x :: st) σ cells slots) : T y cc nL ret hh R Q QX pc L st σ cells slots := by
  intro l p e s m args below meth c C D dA ad0 σ0 K ad H locs ls S hS hl hL hst
  refine lv_aload_n C.1 C.2.1 d rfl (hl.2.2 _ _ h) ?_
  exact k l p e s m args below meth c C D dA ad0 σ0 K ad H locs ls S hS hl hL (cl_c (hL _ _ h) hst)
theorem z_aload {i : Nat} {x : Nat} (d : decode cc pc = .ok (.aload i, 2)) (h : lget L i = some (.ref x)) (k : T y cc nL ret hh R Q QX (pc + 2) L (.ref x :: st) σ cells slots) : T y cc nL ret hh R Q QX pc L st σ cells slots := by
  intro l p e s m args below meth c C D dA ad0 σ0 K ad H locs ls S hS hl hL hst
  refine lv_aload C.1 C.2.1 d (hl.2.2 _ _ h) ?_
  exact k l p e s m args below meth c C D dA ad0 σ0 K ad H locs ls S hS hl hL (cl_c (hL _ _ h) hst)
theorem z_istore_n {k : Fin 4} {x : Int32} (d : decode cc pc = .ok (.istore_n k, 1)) (hn : (k : Nat) < nL) (k' : T y cc nL ret hh R Q QX (pc + 1) (lset L k (.int x)) st σ cells slots) : T y cc nL ret hh R Q QX pc L (.int x :: st) σ cells slots := by
  intro l p e s m args below meth c C D dA ad0 σ0 K ad H locs ls S hS hl hL hst
  refine lv_istore_n C.1 C.2.1 d rfl hl.has hn rfl (fun ls hl => ?_)
  exact k' l p e s m args below meth c C D dA ad0 σ0 K ad H locs ls S hS (Lr.st1 rfl hl) (clL_set hL in_i) (cl_t hst)
theorem z_istore {i : Nat} {x : Int32} (d : decode cc pc = .ok (.istore i, 2)) (hn : i < nL) (k' : T y cc nL ret hh R Q QX (pc + 2) (lset L i (.int x)) st σ cells slots) : T y cc nL ret hh R Q QX pc L (.int x :: st) σ cells slots := by
  intro l p e s m args below meth c C D dA ad0 σ0 K ad H locs ls S hS hl hL hst
  refine lv_istore C.1 C.2.1 d hl.has hn rfl (fun ls hl => ?_)
  exact k' l p e s m args below meth c C D dA ad0 σ0 K ad H locs ls S hS (Lr.st1 rfl hl) (clL_set hL in_i) (cl_t hst)
theorem z_astore_n {k : Fin 4} {x : Nat} (d : decode cc pc = .ok (.astore_n k, 1)) (hn : (k : Nat) < nL) (k' : T y cc nL ret hh R Q QX (pc + 1) (lset L k (.ref x)) st σ cells slots) : T y cc nL ret hh R Q QX pc L (.ref x :: st) σ cells slots := by
  intro l p e s m args below meth c C D dA ad0 σ0 K ad H locs ls S hS hl hL hst
  refine lv_astore_n C.1 C.2.1 d rfl hl.has hn rfl (fun ls hl => ?_)
  exact k' l p e s m args below meth c C D dA ad0 σ0 K ad H locs ls S hS (Lr.st1 rfl hl) (clL_set hL (cl_h hst)) (cl_t hst)
theorem z_astore {i : Nat} {x : Nat} (d : decode cc pc = .ok (.astore i, 2)) (hn : i < nL) (k' : T y cc nL ret hh R Q QX (pc + 2) (lset L i (.ref x)) st σ cells slots) : T y cc nL ret hh R Q QX pc L (.ref x :: st) σ cells slots := by
  intro l p e s m args below meth c C D dA ad0 σ0 K ad H locs ls S hS hl hL hst
  refine lv_astore C.1 C.2.1 d hl.has hn rfl (fun ls hl => ?_)
  exact k' l p e s m args below meth c C D dA ad0 σ0 K ad H locs ls S hS (Lr.st1 rfl hl) (clL_set hL (cl_h hst)) (cl_t hst)
theorem z_lstore_n {k : Fin 4} {x : Int64} (d : decode cc pc = .ok (.lstore_n k, 1)) (hn : (k : Nat) + 1 < nL) (k' : T y cc nL ret hh R Q QX (pc + 1) (lset2 L k (.long x)) st σ cells slots) : T y cc nL ret hh R Q QX pc L (.long x :: st) σ cells slots := by
  intro l p e s m args below meth c C D dA ad0 σ0 K ad H locs ls S hS hl hL hst
  refine lv_lstore_n C.1 C.2.1 d rfl hl.has hn rfl (fun ls hl => ?_)
  exact k' l p e s m args below meth c C D dA ad0 σ0 K ad H locs ls S hS (Lr.st2 rfl hl) (clL_set2 hL in_l) (cl_t hst)
theorem z_lstore {i : Nat} {x : Int64} (d : decode cc pc = .ok (.lstore i, 2)) (hn : i + 1 < nL) (k' : T y cc nL ret hh R Q QX (pc + 2) (lset2 L i (.long x)) st σ cells slots) : T y cc nL ret hh R Q QX pc L (.long x :: st) σ cells slots := by
  intro l p e s m args below meth c C D dA ad0 σ0 K ad H locs ls S hS hl hL hst
  refine lv_lstore C.1 C.2.1 d hl.has hn rfl (fun ls hl => ?_)
  exact k' l p e s m args below meth c C D dA ad0 σ0 K ad H locs ls S hS (Lr.st2 rfl hl) (clL_set2 hL in_l) (cl_t hst)
theorem z_iinc {i : Nat} {n : Int} {x v : Int32} (d : decode cc pc = .ok (.iinc i n, 3)) (h : lget L i = some (.int x)) (hv : x + Int32.ofInt n = v) (hn : i < nL) (k : T y cc nL ret hh R Q QX (pc + 3) (lset L i (.int v)) st σ cells slots) : T y cc nL ret hh R Q QX pc L st σ cells slots := by
  intro l p e s m args below meth c C D dA ad0 σ0 K ad H locs ls S hS hl hL hst
  obtain ⟨z, hz⟩ := List.getElem?_of_mem (lpairs_mem (ad := ad) (q := (i, .int x)) |>.mpr ⟨_, h, rfl⟩)
  refine lv_iinc C.1 C.2.1 d hl.has hz hv hn rfl (fun ls hl => ?_)
  exact k l p e s m args below meth c C D dA ad0 σ0 K ad H locs ls S hS (Lr.st1 rfl hl) (clL_set hL in_i) hst
theorem z_iadd {x y' : Int32} (d : decode cc pc = .ok (.iadd, 1)) (k : T y cc nL ret hh R Q QX (pc + 1) L (.int (x + y') :: st) σ cells slots) : T y cc nL ret hh R Q QX pc L (.int y' :: .int x :: st) σ cells slots := by
  intro l p e s m args below meth c C D dA ad0 σ0 K ad H locs ls S hS hl hL hst
  refine lv_iadd C.1 C.2.1 d ?_
  exact k l p e s m args below meth c C D dA ad0 σ0 K ad H locs ls S hS hl hL (cl_i (cl_t (cl_t hst)))
theorem z_isub {x y' : Int32} (d : decode cc pc = .ok (.isub, 1)) (k : T y cc nL ret hh R Q QX (pc + 1) L (.int (x - y') :: st) σ cells slots) : T y cc nL ret hh R Q QX pc L (.int y' :: .int x :: st) σ cells slots := by
  intro l p e s m args below meth c C D dA ad0 σ0 K ad H locs ls S hS hl hL hst
  refine lv_isub C.1 C.2.1 d ?_
  exact k l p e s m args below meth c C D dA ad0 σ0 K ad H locs ls S hS hl hL (cl_i (cl_t (cl_t hst)))
theorem z_imul {x y' : Int32} (d : decode cc pc = .ok (.imul, 1)) (k : T y cc nL ret hh R Q QX (pc + 1) L (.int (x * y') :: st) σ cells slots) : T y cc nL ret hh R Q QX pc L (.int y' :: .int x :: st) σ cells slots := by
  intro l p e s m args below meth c C D dA ad0 σ0 K ad H locs ls S hS hl hL hst
  refine lv_imul C.1 C.2.1 d ?_
  exact k l p e s m args below meth c C D dA ad0 σ0 K ad H locs ls S hS hl hL (cl_i (cl_t (cl_t hst)))
theorem z_iand {x y' : Int32} (d : decode cc pc = .ok (.iand, 1)) (k : T y cc nL ret hh R Q QX (pc + 1) L (.int (x &&& y') :: st) σ cells slots) : T y cc nL ret hh R Q QX pc L (.int y' :: .int x :: st) σ cells slots := by
  intro l p e s m args below meth c C D dA ad0 σ0 K ad H locs ls S hS hl hL hst
  refine lv_iand C.1 C.2.1 d ?_
  exact k l p e s m args below meth c C D dA ad0 σ0 K ad H locs ls S hS hl hL (cl_i (cl_t (cl_t hst)))
theorem z_ior {x y' : Int32} (d : decode cc pc = .ok (.ior, 1)) (k : T y cc nL ret hh R Q QX (pc + 1) L (.int (x ||| y') :: st) σ cells slots) : T y cc nL ret hh R Q QX pc L (.int y' :: .int x :: st) σ cells slots := by
  intro l p e s m args below meth c C D dA ad0 σ0 K ad H locs ls S hS hl hL hst
  refine lv_ior C.1 C.2.1 d ?_
  exact k l p e s m args below meth c C D dA ad0 σ0 K ad H locs ls S hS hl hL (cl_i (cl_t (cl_t hst)))
theorem z_ixor {x y' : Int32} (d : decode cc pc = .ok (.ixor, 1)) (k : T y cc nL ret hh R Q QX (pc + 1) L (.int (x ^^^ y') :: st) σ cells slots) : T y cc nL ret hh R Q QX pc L (.int y' :: .int x :: st) σ cells slots := by
  intro l p e s m args below meth c C D dA ad0 σ0 K ad H locs ls S hS hl hL hst
  refine lv_ixor C.1 C.2.1 d ?_
  exact k l p e s m args below meth c C D dA ad0 σ0 K ad H locs ls S hS hl hL (cl_i (cl_t (cl_t hst)))
theorem z_ishl {x y' : Int32} (d : decode cc pc = .ok (.ishl, 1)) (k : T y cc nL ret hh R Q QX (pc + 1) L (.int (x <<< (y' &&& 31)) :: st) σ cells slots) : T y cc nL ret hh R Q QX pc L (.int y' :: .int x :: st) σ cells slots := by
  intro l p e s m args below meth c C D dA ad0 σ0 K ad H locs ls S hS hl hL hst
  refine lv_ishl C.1 C.2.1 d ?_
  exact k l p e s m args below meth c C D dA ad0 σ0 K ad H locs ls S hS hl hL (cl_i (cl_t (cl_t hst)))
theorem z_ishr {x y' : Int32} (d : decode cc pc = .ok (.ishr, 1)) (k : T y cc nL ret hh R Q QX (pc + 1) L (.int (x >>> (y' &&& 31)) :: st) σ cells slots) : T y cc nL ret hh R Q QX pc L (.int y' :: .int x :: st) σ cells slots := by
  intro l p e s m args below meth c C D dA ad0 σ0 K ad H locs ls S hS hl hL hst
  refine lv_ishr C.1 C.2.1 d ?_
  exact k l p e s m args below meth c C D dA ad0 σ0 K ad H locs ls S hS hl hL (cl_i (cl_t (cl_t hst)))
theorem z_idiv {x y' : Int32} (d : decode cc pc = .ok (.idiv, 1)) (hne : ¬ y' = 0) (k : T y cc nL ret hh R Q QX (pc + 1) L (.int (x / y') :: st) σ cells slots) : T y cc nL ret hh R Q QX pc L (.int y' :: .int x :: st) σ cells slots := by
  intro l p e s m args below meth c C D dA ad0 σ0 K ad H locs ls S hS hl hL hst
  refine lv_idiv C.1 C.2.1 d hne ?_
  exact k l p e s m args below meth c C D dA ad0 σ0 K ad H locs ls S hS hl hL (cl_i (cl_t (cl_t hst)))
theorem z_irem {x y' : Int32} (d : decode cc pc = .ok (.irem, 1)) (hne : ¬ y' = 0) (k : T y cc nL ret hh R Q QX (pc + 1) L (.int (x - x / y' * y') :: st) σ cells slots) : T y cc nL ret hh R Q QX pc L (.int y' :: .int x :: st) σ cells slots := by
  intro l p e s m args below meth c C D dA ad0 σ0 K ad H locs ls S hS hl hL hst
  refine lv_irem C.1 C.2.1 d hne ?_
  exact k l p e s m args below meth c C D dA ad0 σ0 K ad H locs ls S hS hl hL (cl_i (cl_t (cl_t hst)))
theorem z_ineg {x : Int32} (d : decode cc pc = .ok (.ineg, 1)) (k : T y cc nL ret hh R Q QX (pc + 1) L (.int (-x) :: st) σ cells slots) : T y cc nL ret hh R Q QX pc L (.int x :: st) σ cells slots := by
  intro l p e s m args below meth c C D dA ad0 σ0 K ad H locs ls S hS hl hL hst
  refine lv_ineg C.1 C.2.1 d ?_
  exact k l p e s m args below meth c C D dA ad0 σ0 K ad H locs ls S hS hl hL (cl_i (cl_t hst))
theorem z_ladd {x y' : Int64} (d : decode cc pc = .ok (.ladd, 1)) (k : T y cc nL ret hh R Q QX (pc + 1) L (.long (x + y') :: st) σ cells slots) : T y cc nL ret hh R Q QX pc L (.long y' :: .long x :: st) σ cells slots := by
  intro l p e s m args below meth c C D dA ad0 σ0 K ad H locs ls S hS hl hL hst
  refine lv_ladd C.1 C.2.1 d ?_
  exact k l p e s m args below meth c C D dA ad0 σ0 K ad H locs ls S hS hl hL (cl_l (cl_t (cl_t hst)))
theorem z_lsub {x y' : Int64} (d : decode cc pc = .ok (.lsub, 1)) (k : T y cc nL ret hh R Q QX (pc + 1) L (.long (x - y') :: st) σ cells slots) : T y cc nL ret hh R Q QX pc L (.long y' :: .long x :: st) σ cells slots := by
  intro l p e s m args below meth c C D dA ad0 σ0 K ad H locs ls S hS hl hL hst
  refine lv_lsub C.1 C.2.1 d ?_
  exact k l p e s m args below meth c C D dA ad0 σ0 K ad H locs ls S hS hl hL (cl_l (cl_t (cl_t hst)))
theorem z_lmul {x y' : Int64} (d : decode cc pc = .ok (.lmul, 1)) (k : T y cc nL ret hh R Q QX (pc + 1) L (.long (x * y') :: st) σ cells slots) : T y cc nL ret hh R Q QX pc L (.long y' :: .long x :: st) σ cells slots := by
  intro l p e s m args below meth c C D dA ad0 σ0 K ad H locs ls S hS hl hL hst
  refine lv_lmul C.1 C.2.1 d ?_
  exact k l p e s m args below meth c C D dA ad0 σ0 K ad H locs ls S hS hl hL (cl_l (cl_t (cl_t hst)))
theorem z_land {x y' : Int64} (d : decode cc pc = .ok (.land, 1)) (k : T y cc nL ret hh R Q QX (pc + 1) L (.long (x &&& y') :: st) σ cells slots) : T y cc nL ret hh R Q QX pc L (.long y' :: .long x :: st) σ cells slots := by
  intro l p e s m args below meth c C D dA ad0 σ0 K ad H locs ls S hS hl hL hst
  refine lv_land C.1 C.2.1 d ?_
  exact k l p e s m args below meth c C D dA ad0 σ0 K ad H locs ls S hS hl hL (cl_l (cl_t (cl_t hst)))
theorem z_lor {x y' : Int64} (d : decode cc pc = .ok (.lor, 1)) (k : T y cc nL ret hh R Q QX (pc + 1) L (.long (x ||| y') :: st) σ cells slots) : T y cc nL ret hh R Q QX pc L (.long y' :: .long x :: st) σ cells slots := by
  intro l p e s m args below meth c C D dA ad0 σ0 K ad H locs ls S hS hl hL hst
  refine lv_lor C.1 C.2.1 d ?_
  exact k l p e s m args below meth c C D dA ad0 σ0 K ad H locs ls S hS hl hL (cl_l (cl_t (cl_t hst)))
theorem z_lxor {x y' : Int64} (d : decode cc pc = .ok (.lxor, 1)) (k : T y cc nL ret hh R Q QX (pc + 1) L (.long (x ^^^ y') :: st) σ cells slots) : T y cc nL ret hh R Q QX pc L (.long y' :: .long x :: st) σ cells slots := by
  intro l p e s m args below meth c C D dA ad0 σ0 K ad H locs ls S hS hl hL hst
  refine lv_lxor C.1 C.2.1 d ?_
  exact k l p e s m args below meth c C D dA ad0 σ0 K ad H locs ls S hS hl hL (cl_l (cl_t (cl_t hst)))
theorem z_lshlx {x : Int64} {y' : Int32} (d : decode cc pc = .ok (.lshl, 1)) (k : T y cc nL ret hh R Q QX (pc + 1) L (.long (x <<< (y'.toInt64 &&& 63)) :: st) σ cells slots) : T y cc nL ret hh R Q QX pc L (.int y' :: .long x :: st) σ cells slots := by
  intro l p e s m args below meth c C D dA ad0 σ0 K ad H locs ls S hS hl hL hst
  refine lv_lshl C.1 C.2.1 d rfl ?_
  exact k l p e s m args below meth c C D dA ad0 σ0 K ad H locs ls S hS hl hL (cl_l (cl_t (cl_t hst)))
theorem z_lshrx {x : Int64} {y' : Int32} (d : decode cc pc = .ok (.lshr, 1)) (k : T y cc nL ret hh R Q QX (pc + 1) L (.long (x >>> (y'.toInt64 &&& 63)) :: st) σ cells slots) : T y cc nL ret hh R Q QX pc L (.int y' :: .long x :: st) σ cells slots := by
  intro l p e s m args below meth c C D dA ad0 σ0 K ad H locs ls S hS hl hL hst
  refine lv_lshr C.1 C.2.1 d rfl ?_
  exact k l p e s m args below meth c C D dA ad0 σ0 K ad H locs ls S hS hl hL (cl_l (cl_t (cl_t hst)))
theorem z_lushrx {x : Int64} {y' : Int32} (d : decode cc pc = .ok (.lushr, 1)) (k : T y cc nL ret hh R Q QX (pc + 1) L (.long ((x.toUInt64 >>> (y'.toInt64.toUInt64 &&& Int64.toUInt64 63)).toInt64) :: st) σ cells slots) : T y cc nL ret hh R Q QX pc L (.int y' :: .long x :: st) σ cells slots := by
  intro l p e s m args below meth c C D dA ad0 σ0 K ad H locs ls S hS hl hL hst
  refine lv_lushr C.1 C.2.1 d rfl ?_
  exact k l p e s m args below meth c C D dA ad0 σ0 K ad H locs ls S hS hl hL (cl_l (cl_t (cl_t hst)))
theorem z_i2lx {x : Int32} (d : decode cc pc = .ok (.i2l, 1)) (k : T y cc nL ret hh R Q QX (pc + 1) L (.long x.toInt64 :: st) σ cells slots) : T y cc nL ret hh R Q QX pc L (.int x :: st) σ cells slots := by
  intro l p e s m args below meth c C D dA ad0 σ0 K ad H locs ls S hS hl hL hst
  refine lv_i2l C.1 C.2.1 d rfl ?_
  exact k l p e s m args below meth c C D dA ad0 σ0 K ad H locs ls S hS hl hL (cl_l (cl_t hst))
theorem z_l2ix {x : Int64} (d : decode cc pc = .ok (.l2i, 1)) (k : T y cc nL ret hh R Q QX (pc + 1) L (.int x.toInt32 :: st) σ cells slots) : T y cc nL ret hh R Q QX pc L (.long x :: st) σ cells slots := by
  intro l p e s m args below meth c C D dA ad0 σ0 K ad H locs ls S hS hl hL hst
  refine lv_l2i C.1 C.2.1 d rfl ?_
  exact k l p e s m args below meth c C D dA ad0 σ0 K ad H locs ls S hS hl hL (cl_i (cl_t hst))
theorem z_lcmp {x y' : Int64} (d : decode cc pc = .ok (.lcmp, 1)) (k : T y cc nL ret hh R Q QX (pc + 1) L (.int (lg_cmp x y') :: st) σ cells slots) : T y cc nL ret hh R Q QX pc L (.long y' :: .long x :: st) σ cells slots := by
  intro l p e s m args below meth c C D dA ad0 σ0 K ad H locs ls S hS hl hL hst
  refine W.lcmp C.1 C.2.1 d ?_
  exact k l p e s m args below meth c C D dA ad0 σ0 K ad H locs ls S hS hl hL (cl_i (cl_t (cl_t hst)))
theorem z_dup {v : Value} (d : decode cc pc = .ok (.dup, 1)) (hv : v.category = 1) (k : T y cc nL ret hh R Q QX (pc + 1) L (v :: v :: st) σ cells slots) : T y cc nL ret hh R Q QX pc L (v :: st) σ cells slots := by
  intro l p e s m args below meth c C D dA ad0 σ0 K ad H locs ls S hS hl hL hst
  refine lv_dup C.1 C.2.1 d ((vmv_cat ad v).trans hv) ?_
  exact k l p e s m args below meth c C D dA ad0 σ0 K ad H locs ls S hS hl hL (cl_c (cl_h hst) hst)
theorem z_pop {v : Value} (d : decode cc pc = .ok (.pop, 1)) (hv : v.category = 1) (k : T y cc nL ret hh R Q QX (pc + 1) L st σ cells slots) : T y cc nL ret hh R Q QX pc L (v :: st) σ cells slots := by
  intro l p e s m args below meth c C D dA ad0 σ0 K ad H locs ls S hS hl hL hst
  refine lv_pop C.1 C.2.1 d ((vmv_cat ad v).trans hv) ?_
  exact k l p e s m args below meth c C D dA ad0 σ0 K ad H locs ls S hS hl hL (cl_t hst)
theorem z_dup2 {v u : Value} (d : decode cc pc = .ok (.dup2, 1)) (hv : v.category = 1) (hu : u.category = 1) (k : T y cc nL ret hh R Q QX (pc + 1) L (v :: u :: v :: u :: st) σ cells slots) : T y cc nL ret hh R Q QX pc L (v :: u :: st) σ cells slots := by
  intro l p e s m args below meth c C D dA ad0 σ0 K ad H locs ls S hS hl hL hst
  refine lv_dup2_11 C.1 C.2.1 d ((vmv_cat ad v).trans hv) ((vmv_cat ad u).trans hu) ?_
  exact k l p e s m args below meth c C D dA ad0 σ0 K ad H locs ls S hS hl hL (cl_c (cl_h hst) (cl_c (cl_h (cl_t hst)) hst))
theorem z_null (d : decode cc pc = .ok (.aconst_null, 1)) (k : T y cc nL ret hh R Q QX (pc + 1) L (.null :: st) σ cells slots) : T y cc nL ret hh R Q QX pc L st σ cells slots := by
  intro l p e s m args below meth c C D dA ad0 σ0 K ad H locs ls S hS hl hL hst
  refine lv_null C.1 C.2.1 d ?_
  exact k l p e s m args below meth c C D dA ad0 σ0 K ad H locs ls S hS hl hL (cl_n hst)
theorem z_if_eq {x : Int32} {off : Int} {tgt : Nat} (d : decode cc pc = .ok (.ifCond .eq off, 3)) (ht : (pc : Int) + off = (tgt : Int)) (kt : x = 0 → T y cc nL ret hh R Q QX tgt L st σ cells slots) (kf : ¬ x = 0 → T y cc nL ret hh R Q QX (pc + 3) L st σ cells slots) : T y cc nL ret hh R Q QX pc L (.int x :: st) σ cells slots := by
  intro l p e s m args below meth c C D dA ad0 σ0 K ad H locs ls S hS hl hL hst
  refine lv_if_eq C.1 C.2.1 d ht (fun q => ?_) (fun q => ?_)
  · exact kt q l p e s m args below meth c C D dA ad0 σ0 K ad H locs ls S hS hl hL (cl_t hst)
  · exact kf q l p e s m args below meth c C D dA ad0 σ0 K ad H locs ls S hS hl hL (cl_t hst)
theorem z_icmp_eq {x y' : Int32} {off : Int} {tgt : Nat} (d : decode cc pc = .ok (.if_icmp .eq off, 3)) (ht : (pc : Int) + off = (tgt : Int)) (kt : x = y' → T y cc nL ret hh R Q QX tgt L st σ cells slots) (kf : ¬ x = y' → T y cc nL ret hh R Q QX (pc + 3) L st σ cells slots) : T y cc nL ret hh R Q QX pc L (.int y' :: .int x :: st) σ cells slots := by
  intro l p e s m args below meth c C D dA ad0 σ0 K ad H locs ls S hS hl hL hst
  refine lv_icmp_eq C.1 C.2.1 d ht (fun q => ?_) (fun q => ?_)
  · exact kt q l p e s m args below meth c C D dA ad0 σ0 K ad H locs ls S hS hl hL (cl_t (cl_t hst))
  · exact kf q l p e s m args below meth c C D dA ad0 σ0 K ad H locs ls S hS hl hL (cl_t (cl_t hst))
theorem z_if_ne {x : Int32} {off : Int} {tgt : Nat} (d : decode cc pc = .ok (.ifCond .ne off, 3)) (ht : (pc : Int) + off = (tgt : Int)) (kt : ¬ x = 0 → T y cc nL ret hh R Q QX tgt L st σ cells slots) (kf : x = 0 → T y cc nL ret hh R Q QX (pc + 3) L st σ cells slots) : T y cc nL ret hh R Q QX pc L (.int x :: st) σ cells slots := by
  intro l p e s m args below meth c C D dA ad0 σ0 K ad H locs ls S hS hl hL hst
  refine lv_if_ne C.1 C.2.1 d ht (fun q => ?_) (fun q => ?_)
  · exact kt q l p e s m args below meth c C D dA ad0 σ0 K ad H locs ls S hS hl hL (cl_t hst)
  · exact kf q l p e s m args below meth c C D dA ad0 σ0 K ad H locs ls S hS hl hL (cl_t hst)
theorem z_icmp_ne {x y' : Int32} {off : Int} {tgt : Nat} (d : decode cc pc = .ok (.if_icmp .ne off, 3)) (ht : (pc : Int) + off = (tgt : Int)) (kt : ¬ x = y' → T y cc nL ret hh R Q QX tgt L st σ cells slots) (kf : x = y' → T y cc nL ret hh R Q QX (pc + 3) L st σ cells slots) : T y cc nL ret hh R Q QX pc L (.int y' :: .int x :: st) σ cells slots := by
  intro l p e s m args below meth c C D dA ad0 σ0 K ad H locs ls S hS hl hL hst
  refine lv_icmp_ne C.1 C.2.1 d ht (fun q => ?_) (fun q => ?_)
  · exact kt q l p e s m args below meth c C D dA ad0 σ0 K ad H locs ls S hS hl hL (cl_t (cl_t hst))
  · exact kf q l p e s m args below meth c C D dA ad0 σ0 K ad H locs ls S hS hl hL (cl_t (cl_t hst))
theorem z_if_lt {x : Int32} {off : Int} {tgt : Nat} (d : decode cc pc = .ok (.ifCond .lt off, 3)) (ht : (pc : Int) + off = (tgt : Int)) (kt : x < 0 → T y cc nL ret hh R Q QX tgt L st σ cells slots) (kf : ¬ x < 0 → T y cc nL ret hh R Q QX (pc + 3) L st σ cells slots) : T y cc nL ret hh R Q QX pc L (.int x :: st) σ cells slots := by
  intro l p e s m args below meth c C D dA ad0 σ0 K ad H locs ls S hS hl hL hst
  refine lv_if_lt C.1 C.2.1 d ht (fun q => ?_) (fun q => ?_)
  · exact kt q l p e s m args below meth c C D dA ad0 σ0 K ad H locs ls S hS hl hL (cl_t hst)
  · exact kf q l p e s m args below meth c C D dA ad0 σ0 K ad H locs ls S hS hl hL (cl_t hst)
theorem z_icmp_lt {x y' : Int32} {off : Int} {tgt : Nat} (d : decode cc pc = .ok (.if_icmp .lt off, 3)) (ht : (pc : Int) + off = (tgt : Int)) (kt : x < y' → T y cc nL ret hh R Q QX tgt L st σ cells slots) (kf : ¬ x < y' → T y cc nL ret hh R Q QX (pc + 3) L st σ cells slots) : T y cc nL ret hh R Q QX pc L (.int y' :: .int x :: st) σ cells slots := by
  intro l p e s m args below meth c C D dA ad0 σ0 K ad H locs ls S hS hl hL hst
  refine lv_icmp_lt C.1 C.2.1 d ht (fun q => ?_) (fun q => ?_)
  · exact kt q l p e s m args below meth c C D dA ad0 σ0 K ad H locs ls S hS hl hL (cl_t (cl_t hst))
  · exact kf q l p e s m args below meth c C D dA ad0 σ0 K ad H locs ls S hS hl hL (cl_t (cl_t hst))
theorem z_if_ge {x : Int32} {off : Int} {tgt : Nat} (d : decode cc pc = .ok (.ifCond .ge off, 3)) (ht : (pc : Int) + off = (tgt : Int)) (kt : 0 ≤ x → T y cc nL ret hh R Q QX tgt L st σ cells slots) (kf : ¬ 0 ≤ x → T y cc nL ret hh R Q QX (pc + 3) L st σ cells slots) : T y cc nL ret hh R Q QX pc L (.int x :: st) σ cells slots := by
  intro l p e s m args below meth c C D dA ad0 σ0 K ad H locs ls S hS hl hL hst
  refine lv_if_ge C.1 C.2.1 d ht (fun q => ?_) (fun q => ?_)
  · exact kt q l p e s m args below meth c C D dA ad0 σ0 K ad H locs ls S hS hl hL (cl_t hst)
  · exact kf q l p e s m args below meth c C D dA ad0 σ0 K ad H locs ls S hS hl hL (cl_t hst)
theorem z_icmp_ge {x y' : Int32} {off : Int} {tgt : Nat} (d : decode cc pc = .ok (.if_icmp .ge off, 3)) (ht : (pc : Int) + off = (tgt : Int)) (kt : y' ≤ x → T y cc nL ret hh R Q QX tgt L st σ cells slots) (kf : ¬ y' ≤ x → T y cc nL ret hh R Q QX (pc + 3) L st σ cells slots) : T y cc nL ret hh R Q QX pc L (.int y' :: .int x :: st) σ cells slots := by
  intro l p e s m args below meth c C D dA ad0 σ0 K ad H locs ls S hS hl hL hst
  refine lv_icmp_ge C.1 C.2.1 d ht (fun q => ?_) (fun q => ?_)
  · exact kt q l p e s m args below meth c C D dA ad0 σ0 K ad H locs ls S hS hl hL (cl_t (cl_t hst))
  · exact kf q l p e s m args below meth c C D dA ad0 σ0 K ad H locs ls S hS hl hL (cl_t (cl_t hst))
theorem z_if_gt {x : Int32} {off : Int} {tgt : Nat} (d : decode cc pc = .ok (.ifCond .gt off, 3)) (ht : (pc : Int) + off = (tgt : Int)) (kt : 0 < x → T y cc nL ret hh R Q QX tgt L st σ cells slots) (kf : ¬ 0 < x → T y cc nL ret hh R Q QX (pc + 3) L st σ cells slots) : T y cc nL ret hh R Q QX pc L (.int x :: st) σ cells slots := by
  intro l p e s m args below meth c C D dA ad0 σ0 K ad H locs ls S hS hl hL hst
  refine lv_if_gt C.1 C.2.1 d ht (fun q => ?_) (fun q => ?_)
  · exact kt q l p e s m args below meth c C D dA ad0 σ0 K ad H locs ls S hS hl hL (cl_t hst)
  · exact kf q l p e s m args below meth c C D dA ad0 σ0 K ad H locs ls S hS hl hL (cl_t hst)
theorem z_icmp_gt {x y' : Int32} {off : Int} {tgt : Nat} (d : decode cc pc = .ok (.if_icmp .gt off, 3)) (ht : (pc : Int) + off = (tgt : Int)) (kt : y' < x → T y cc nL ret hh R Q QX tgt L st σ cells slots) (kf : ¬ y' < x → T y cc nL ret hh R Q QX (pc + 3) L st σ cells slots) : T y cc nL ret hh R Q QX pc L (.int y' :: .int x :: st) σ cells slots := by
  intro l p e s m args below meth c C D dA ad0 σ0 K ad H locs ls S hS hl hL hst
  refine lv_icmp_gt C.1 C.2.1 d ht (fun q => ?_) (fun q => ?_)
  · exact kt q l p e s m args below meth c C D dA ad0 σ0 K ad H locs ls S hS hl hL (cl_t (cl_t hst))
  · exact kf q l p e s m args below meth c C D dA ad0 σ0 K ad H locs ls S hS hl hL (cl_t (cl_t hst))
theorem z_if_le {x : Int32} {off : Int} {tgt : Nat} (d : decode cc pc = .ok (.ifCond .le off, 3)) (ht : (pc : Int) + off = (tgt : Int)) (kt : x ≤ 0 → T y cc nL ret hh R Q QX tgt L st σ cells slots) (kf : ¬ x ≤ 0 → T y cc nL ret hh R Q QX (pc + 3) L st σ cells slots) : T y cc nL ret hh R Q QX pc L (.int x :: st) σ cells slots := by
  intro l p e s m args below meth c C D dA ad0 σ0 K ad H locs ls S hS hl hL hst
  refine lv_if_le C.1 C.2.1 d ht (fun q => ?_) (fun q => ?_)
  · exact kt q l p e s m args below meth c C D dA ad0 σ0 K ad H locs ls S hS hl hL (cl_t hst)
  · exact kf q l p e s m args below meth c C D dA ad0 σ0 K ad H locs ls S hS hl hL (cl_t hst)
theorem z_icmp_le {x y' : Int32} {off : Int} {tgt : Nat} (d : decode cc pc = .ok (.if_icmp .le off, 3)) (ht : (pc : Int) + off = (tgt : Int)) (kt : x ≤ y' → T y cc nL ret hh R Q QX tgt L st σ cells slots) (kf : ¬ x ≤ y' → T y cc nL ret hh R Q QX (pc + 3) L st σ cells slots) : T y cc nL ret hh R Q QX pc L (.int y' :: .int x :: st) σ cells slots := by
  intro l p e s m args below meth c C D dA ad0 σ0 K ad H locs ls S hS hl hL hst
  refine lv_icmp_le C.1 C.2.1 d ht (fun q => ?_) (fun q => ?_)
  · exact kt q l p e s m args below meth c C D dA ad0 σ0 K ad H locs ls S hS hl hL (cl_t (cl_t hst))
  · exact kf q l p e s m args below meth c C D dA ad0 σ0 K ad H locs ls S hS hl hL (cl_t (cl_t hst))
theorem z_goto {off : Int} {tgt : Nat} (d : decode cc pc = .ok (.goto off, 3)) (ht : (pc : Int) + off = (tgt : Int)) (k : T y cc nL ret hh R Q QX tgt L st σ cells slots) : T y cc nL ret hh R Q QX pc L st σ cells slots := by
  intro l p e s m args below meth c C D dA ad0 σ0 K ad H locs ls S hS hl hL hst
  refine lv_goto C.1 C.2.1 d ht ?_
  exact k l p e s m args below meth c C D dA ad0 σ0 K ad H locs ls S hS hl hL hst
theorem z_ifnull {x : Nat} {off : Int} (d : decode cc pc = .ok (.ifnull off, 3)) (k : T y cc nL ret hh R Q QX (pc + 3) L st σ cells slots) : T y cc nL ret hh R Q QX pc L (.ref x :: st) σ cells slots := by
  intro l p e s m args below meth c C D dA ad0 σ0 K ad H locs ls S hS hl hL hst
  refine lv_ifnull C.1 C.2.1 d ?_
  exact k l p e s m args below meth c C D dA ad0 σ0 K ad H locs ls S hS hl hL (cl_t hst)
theorem z_ifnullN {off : Int} {tgt : Nat} (d : decode cc pc = .ok (.ifnull off, 3)) (ht : (pc : Int) + off = (tgt : Int)) (k : T y cc nL ret hh R Q QX tgt L st σ cells slots) : T y cc nL ret hh R Q QX pc L (.null :: st) σ cells slots := by
  intro l p e s m args below meth c C D dA ad0 σ0 K ad H locs ls S hS hl hL hst
  refine lv_ifnullN C.1 C.2.1 d ht ?_
  exact k l p e s m args below meth c C D dA ad0 σ0 K ad H locs ls S hS hl hL (cl_t hst)
theorem z_ifnonnull {x : Nat} {off : Int} {tgt : Nat} (d : decode cc pc = .ok (.ifnonnull off, 3)) (ht : (pc : Int) + off = (tgt : Int)) (k : T y cc nL ret hh R Q QX tgt L st σ cells slots) : T y cc nL ret hh R Q QX pc L (.ref x :: st) σ cells slots := by
  intro l p e s m args below meth c C D dA ad0 σ0 K ad H locs ls S hS hl hL hst
  refine lv_ifnonnull C.1 C.2.1 d ht ?_
  exact k l p e s m args below meth c C D dA ad0 σ0 K ad H locs ls S hS hl hL (cl_t hst)
theorem z_ifnonnullN {off : Int} (d : decode cc pc = .ok (.ifnonnull off, 3)) (k : T y cc nL ret hh R Q QX (pc + 3) L st σ cells slots) : T y cc nL ret hh R Q QX pc L (.null :: st) σ cells slots := by
  intro l p e s m args below meth c C D dA ad0 σ0 K ad H locs ls S hS hl hL hst
  refine lv_ifnonnullN C.1 C.2.1 d ?_
  exact k l p e s m args below meth c C D dA ad0 σ0 K ad H locs ls S hS hl hL (cl_t hst)
theorem z_ldc {index : Nat} {v : Int32} (d : decode cc pc = .ok (.ldc index, 2)) (hc : Jvm.Cond.constant y.cls index v ∈ WT) (k : T y cc nL ret hh R Q QX (pc + 2) L (.int v :: st) σ cells slots) : T y cc nL ret hh R Q QX pc L st σ cells slots := by
  intro l p e s m args below meth c C D dA ad0 σ0 K ad H locs ls S hS hl hL hst
  refine lv_ldc C.1 C.2.1 C.2.2.2.2.2.2.1 (C.2.2.2.2.2.2.2.1 _ hc) d ?_
  exact k l p e s m args below meth c C D dA ad0 σ0 K ad H locs ls S hS hl hL (cl_i hst)
theorem z_ldc2 {index : Nat} {v : Int64} (d : decode cc pc = .ok (.ldc2_w index, 3)) (hc : Jvm.Cond.constantLong y.cls index v ∈ WT) (k : T y cc nL ret hh R Q QX (pc + 3) L (.long v :: st) σ cells slots) : T y cc nL ret hh R Q QX pc L st σ cells slots := by
  intro l p e s m args below meth c C D dA ad0 σ0 K ad H locs ls S hS hl hL hst
  refine lv_ldc2 C.1 C.2.1 C.2.2.2.2.2.2.1 (C.2.2.2.2.2.2.2.1 _ hc) d ?_
  exact k l p e s m args below meth c C D dA ad0 σ0 K ad H locs ls S hS hl hL (cl_l hst)
theorem z_tableIn {dflt lo hi : Int} {offs : Array Int} {len : Nat} {x : Int32} {off : Int} {tgt : Nat} (d : decode cc pc = .ok (.tableswitch dflt lo hi offs, len)) (h1 : ¬ x.toInt < lo) (h2 : ¬ hi < x.toInt) (ho : offs[(x.toInt - lo).toNat]? = some off) (ht : (pc : Int) + off = (tgt : Int)) (k : T y cc nL ret hh R Q QX tgt L st σ cells slots) : T y cc nL ret hh R Q QX pc L (.int x :: st) σ cells slots := by
  intro l p e s m args below meth c C D dA ad0 σ0 K ad H locs ls S hS hl hL hst
  refine lv_tableIn C.1 C.2.1 d h1 h2 ho ht ?_
  exact k l p e s m args below meth c C D dA ad0 σ0 K ad H locs ls S hS hl hL (cl_t hst)
theorem z_tableOut {dflt lo hi : Int} {offs : Array Int} {len : Nat} {x : Int32} {tgt : Nat} (d : decode cc pc = .ok (.tableswitch dflt lo hi offs, len)) (h : x.toInt < lo ∨ hi < x.toInt) (ht : (pc : Int) + dflt = (tgt : Int)) (k : T y cc nL ret hh R Q QX tgt L st σ cells slots) : T y cc nL ret hh R Q QX pc L (.int x :: st) σ cells slots := by
  intro l p e s m args below meth c C D dA ad0 σ0 K ad H locs ls S hS hl hL hst
  refine lv_tableOut C.1 C.2.1 d h ht ?_
  exact k l p e s m args below meth c C D dA ad0 σ0 K ad H locs ls S hS hl hL (cl_t hst)
theorem z_lookup {dflt : Int} {ps : Array (Int × Int)} {len : Nat} {x : Int32} {off : Int} {tgt : Nat} (d : decode cc pc = .ok (.lookupswitch dflt ps, len)) (hp : (ps.toList.zip (ps.toList.drop 1)).all (fun (a, next) => a.1 < next.1) = true) (ho : Op.lookupswitch.offset ps.toList dflt x.toInt = off) (ht : (pc : Int) + off = (tgt : Int)) (k : T y cc nL ret hh R Q QX tgt L st σ cells slots) : T y cc nL ret hh R Q QX pc L (.int x :: st) σ cells slots := by
  intro l p e s m args below meth c C D dA ad0 σ0 K ad H locs ls S hS hl hL hst
  refine lv_lookup C.1 C.2.1 d hp ho ht ?_
  exact k l p e s m args below meth c C D dA ad0 σ0 K ad H locs ls S hS hl hL (cl_t hst)
theorem z_widen {cells' slots' : Nat} (h1 : cells ≤ cells') (h2 : slots ≤ slots') (k : T y cc nL ret hh R Q QX pc L st σ cells' slots') : T y cc nL ret hh R Q QX pc L st σ cells slots := by
  intro l p e s m args below meth c C D dA ad0 σ0 K ad H locs ls S hS hl hL hst
  exact W.widen h1 h2 (k l p e s m args below meth c C D dA ad0 σ0 K ad H locs ls S hS hl hL hst)
/-- fewer locals known -/
def lsub : List (Option Value) → List (Option Value) → Prop
  | [], _ => True
  | none :: a, _ :: b => lsub a b
  | none :: a, [] => lsub a []
  | some v :: a, o :: b => o = some v ∧ lsub a b
  | some _ :: _, [] => False
theorem lsub_get : ∀ {A B : List (Option Value)}, lsub A B → ∀ {i : Nat} {v : Value}, lget A i = some v → lget B i = some v
  | [], _, _, i, v, h => by simp [lget] at h
  | none :: a, x :: b, hs, i, v, h => by
    cases i with
    | zero => simp [lget] at h
    | succ i => exact lsub_get (A := a) (B := b) hs (i := i) (v := v) (by simpa [lget] using h) |> fun z => by simpa [lget] using z
  | none :: a, [], hs, i, v, h => by
    cases i with
    | zero => simp [lget] at h
    | succ i =>
      have := lsub_get (A := a) (B := []) hs (i := i) (v := v) (by simpa [lget] using h)
      simp [lget] at this
  | some u :: a, x :: b, hs, i, v, h => by
    cases i with
    | zero =>
      have e : u = v := by simpa [lget] using h
      subst e
      rw [hs.1]
      simp [lget]
    | succ i => exact lsub_get (A := a) (B := b) hs.2 (i := i) (v := v) (by simpa [lget] using h) |> fun z => by simpa [lget] using z
  | some _ :: _, [], hs, _, _, _ => hs.elim
theorem z_sub {L' : List (Option Value)} (h : lsub L' L) (k : T y cc nL ret hh R Q QX pc L' st σ cells slots) : T y cc nL ret hh R Q QX pc L st σ cells slots := by
  intro l p e s m args below meth c C D dA ad0 σ0 K ad H locs ls S hS hl hL hst
  exact k l p e s m args below meth c C D dA ad0 σ0 K ad H locs ls S hS ⟨hl.1, hl.2.1, fun i v q => hl.2.2 i v (lsub_get h q)⟩ (fun i v q => hL i v (lsub_get h q)) hst
theorem z_post {Q' : Option Value → Wd → Prop} {QX' : String → Wd → Prop} (h : ∀ r u, Q' r u → Q r u) (hx : ∀ E u, QX' E u → QX E u) (k : T y cc nL ret hh R Q' QX' pc L st σ cells slots) : T y cc nL ret hh R Q QX pc L st σ cells slots := by
  intro l p e s m args below meth c C D dA ad0 σ0 K ad H locs ls S hS hl hL hst
  intro T0 hT X
  obtain ⟨t, a1, o, b1, b2, b3⟩ := k l p e s m args below meth c C D dA ad0 σ0 K ad H locs ls S hS hl hL hst T0 hT X
  refine ⟨t, a1, o, b1, b2, ?_⟩
  rcases b3 with ⟨⟨⟨ad1, σ1, r1, e1, e2, e3, e4⟩, e5⟩, e6⟩ | ⟨q, e0, E, ce, L9, ⟨⟨ad1, σ1, e2, e3⟩, e5⟩, e6⟩
  · exact Or.inl ⟨⟨⟨ad1, σ1, r1, e1, h _ _ e2, e3, e4⟩, e5⟩, e6⟩
  · exact Or.inr ⟨q, e0, E, ce, L9, ⟨⟨ad1, σ1, hx _ _ e2, e3⟩, e5⟩, e6⟩
theorem z_iret {x : Int32} (d : decode cc pc = .ok (.ireturn, 1)) (hr : ret = some .int) (hc : cells ≤ R.cells) (hs : slots ≤ R.slots) (hq : Q (some (.int x)) σ) : T y cc nL ret hh R Q QX pc L [.int x] σ cells slots := by
  intro l p e s m args below meth c C D dA ad0 σ0 K ad H locs ls S hS hl hL hst
  refine W.widen hc hs (vx_ret ?_)
  exact W.iret C.1 C.2.1 (C.2.2.2.1.trans hr) (fun t ht hW => ⟨⟨ad, σ, some (.int x), rfl, hq, by rw [ht]; exact S, fun v e => by cases e; exact in_i⟩, hS.F ht⟩) hS.2.2 d C.2.2.2.2.1
theorem z_zret {x : Int32} (d : decode cc pc = .ok (.ireturn, 1)) (hr : ret = some .boolean) (hc : cells ≤ R.cells) (hs : slots ≤ R.slots) (hz : narrow .boolean (.int x) = .int x) (hq : Q (some (.int x)) σ) : T y cc nL ret hh R Q QX pc L [.int x] σ cells slots := by
  intro l p e s m args below meth c C D dA ad0 σ0 K ad H locs ls S hS hl hL hst
  refine W.widen hc hs (vx_ret ?_)
  exact W.zret C.1 C.2.1 (C.2.2.2.1.trans hr) hz (fun t ht hW => ⟨⟨ad, σ, some (.int x), rfl, hq, by rw [ht]; exact S, fun v e => by cases e; exact in_i⟩, hS.F ht⟩) hS.2.2 d C.2.2.2.2.1
theorem z_lret {x : Int64} (d : decode cc pc = .ok (.lreturn, 1)) (hr : ret = some .long) (hc : cells ≤ R.cells) (hs : slots ≤ R.slots) (hq : Q (some (.long x)) σ) : T y cc nL ret hh R Q QX pc L [.long x] σ cells slots := by
  intro l p e s m args below meth c C D dA ad0 σ0 K ad H locs ls S hS hl hL hst
  refine W.widen hc hs (vx_ret ?_)
  exact W.lret C.1 C.2.1 (C.2.2.2.1.trans hr) (fun t ht hW => ⟨⟨ad, σ, some (.long x), rfl, hq, by rw [ht]; exact S, fun v e => by cases e; exact in_l⟩, hS.F ht⟩) hS.2.2 d C.2.2.2.2.1
theorem z_vret (d : decode cc pc = .ok (.return_, 1)) (hr : ret = none) (hc : cells ≤ R.cells) (hs : slots ≤ R.slots) (hq : Q none σ) : T y cc nL ret hh R Q QX pc L [] σ cells slots := by
  intro l p e s m args below meth c C D dA ad0 σ0 K ad H locs ls S hS hl hL hst
  refine W.widen hc hs (vx_ret ?_)
  exact W.vret C.1 C.2.1 (C.2.2.2.1.trans hr) (fun t ht hW => ⟨⟨ad, σ, none, rfl, hq, by rw [ht]; exact S, fun v e => by cases e⟩, hS.F ht⟩) hS.2.2 d C.2.2.2.2.1
end TR
end
section
abbrev aI (n : Nat) (f : Nat → Int32) : pCell := .inl (0, n, .inl f)
abbrev aJ (n : Nat) (f : Nat → Int64) : pCell := .inl (1, n, .inr (.inl f))
abbrev aZ (n : Nat) (f : Nat → Int32) : pCell := .inl (2, n, .inl f)
abbrev aR (n : Nat) (g : Nat → Option Nat) : pCell := .inl (3, n, .inr (.inr g))
abbrev ob (ci : Nat) (fs : List Value) : pCell := .inr (ci, fs)
theorem Rp.one {D : va_G} {dA : Nat → ClassId} {ad : Nat → Nat} {σ : Wd} {H : Heap} (h : Rp D dA ad σ H) {n : Nat} {c : pCell} (hn : σ n = some c) : va_P D vwCl [(ad n, pa dA ad c)] H := by
  intro k q hk
  have hz : k < 1 := (List.getElem?_eq_some_iff.mp hk).1
  rw [show k = 0 by omega] at hk
  cases hk
  exact h.1 n c hn
theorem ne_of {σ : Wd} {n : Nat} {c : pCell} (h : σ n = some c) : σ n ≠ none := fun z => by rw [h] at z; cases z
section TH
variable {y : MethodName} {cc : ByteArray} {nL : Nat} {ret : Option FieldType} {hh : List (Nat × Nat × Nat × Nat)} {R : Room} {Q : Option Value → Wd → Prop} {QX : String → Wd → Prop} {pc : Nat} {L : List (Option Value)} {st : List Value} {σ : Wd} {cells slots : Nat}

theorem z_getf {o idx ci N : Nat} {Cn : String} {Tt : u_T} {ty0 : Nat → FieldType} {fs : List Value} {v : Value} (hc : Cls ci Cn Tt N ty0) (f : Nat) (hf : Cond.fieldLink y.cls idx (Tt f).1 (Tt f).2.1 (Tt f).2.2.1 ∈ WT) (d : decode cc pc = .ok (.getfield idx, 3)) (hk : f < N) (ho : σ o = some (.inr (ci, fs))) (hv : fs[f]? = some v) (k : T y cc nL ret hh R Q QX (pc + 3) L (v :: st) σ cells slots) : T y cc nL ret hh R Q QX pc L (.ref o :: st) σ cells slots := by
  intro l p e s m args below meth c C D dA ad0 σ0 K ad H locs ls S hS hl hL hst
  refine va_get (own := y.cls) C.1 C.2.1 C.2.2.2.2.2.2.2.1 hc.2.1 C.2.2.2.2.2.2.1 K.1 (S.1.one ho) 0 rfl hc.1 f hk (C.2.2.2.2.2.2.2.1 _ hf) (fun x h => h) (v := vmv ad v) (by rw [List.getElem?_map, hv]; rfl) d ?_
  exact k l p e s m args below meth c C D dA ad0 σ0 K ad H locs ls S hS hl hL (cl_c (S.1.2.2 o _ ho v (List.mem_of_getElem? hv)) (cl_t hst))
theorem z_putf {o idx ci N : Nat} {Cn : String} {Tt : u_T} {ty0 : Nat → FieldType} {fs : List Value} {v : Value} {ty : FieldType} (hc : Cls ci Cn Tt N ty0) (f : Nat) (hf : Cond.fieldLink y.cls idx (Tt f).1 (Tt f).2.1 (Tt f).2.2.1 ∈ WT) (d : decode cc pc = .ok (.putfield idx, 3)) (hk : f < N) (hfin : (Tt f).2.2.2 = false) (hd : parseFieldDescriptor (Tt f).2.2.1 = some ty) (hn : ∀ ad, narrow ty (vmv ad v) = vmv ad v ∧ fits ty (vmv ad v) = true) (ho : σ o = some (.inr (ci, fs))) (hlen : f < fs.length) (k : T y cc nL ret hh R Q QX (pc + 3) L st (up σ o (.inr (ci, fs.set f v))) cells slots) : T y cc nL ret hh R Q QX pc L (v :: .ref o :: st) σ cells slots := by
  intro l p e s m args below meth c C D dA ad0 σ0 K ad H locs ls S hS hl hL hst
  have hap := va_apart (own := y.cls) C.2.2.2.2.2.2.2.1 hc.2.1 ty0 hc.2.2.1 hc.2.2.2 K.1 hc.1
  obtain ⟨r, h1, cell, q1, q2, q3, q4⟩ := S.1.1 o _ ho
  have hr : r = (Cn, Tt, N) := Option.some.inj (h1.symm.trans hc.1)
  subst hr
  obtain ⟨hSl, hfc, kC, hkC, hkind⟩ := K.1.1 ci _ hc.1
  obtain ⟨cf, kf, fi, f9, hi, hsl⟩ := hSl f hk
  have hlay := C.2.2.2.2.2.2.2.1 _ (hc.2.1 _ (u_in_lay hk))
  unfold u_lay at hlay
  rw [if_neg (by rw [hfin]; decide)] at hlay
  have hst9 := (u_facts hfc hkC (u_lays C.2.2.2.2.2.2.2.1 hc.2.1 hk) hi).1
  have h6 := u_store hfc hkC hkind hlay hi hd (hn ad).1 (hn ad).2
  refine W.putK C.1 C.2.1 (f := f9) ⟨C.2.2.2.2.2.2.1, C.2.2.2.2.2.2.2.1 _ hf, ⟨_, _, _, hi⟩, hst9⟩ (by rw [q2]; exact h6) q1 q3 (by rw [hsl]; exact k2_hasslot (q4 f hk)) rfl rfl d fun H' e1 e2 e3 => ?_
  rw [hsl] at e1 ⊢
  have hcl : clC σ (.inr (ci, fs.set f v)) := fun u hu => by
    rcases List.mem_or_eq_of_mem_set hu with h | h
    · exact S.1.2.2 o _ ho u h
    · rw [h]; exact cl_h hst
  have hat : va_at D vwCl (ad o, pa dA ad (.inr (ci, fs.set f v))) H' := by
    refine ⟨_, hc.1, ?_⟩
    show t_OB (ad o) (D.1 ci) N (D.2 ci) H' (vp_V ((fs.set f v).map (vmv ad)))
    rw [List.map_set]
    exact t_OB.to (V := updV (vp_V (fs.map (vmv ad))) f (vmv ad v)) ⟨_, e1, q2, q3, t_set q4 hap hk _⟩ (fun j _ => vp_updV_set (by rw [List.length_map]; exact hlen) _ j)
  exact k l p e s m args below meth c C D dA ad0 σ0 K ad H' _ ls (S.put (ne_of ho) hcl hat e3) (hS.put e2 e3 (S.2.2 o (ne_of ho))) hl (fun i u hu => up_in (hL i u hu)) (up_clS (cl_t (cl_t hst)))
theorem z_putF {o idx ci N : Nat} {Cn : String} {Tt : u_T} {ty0 : Nat → FieldType} {fs : List Value} {v : Value} {ty : FieldType} (hc : Cls ci Cn Tt N ty0) (f : Nat) (hf : Cond.fieldLink y.cls idx (Tt f).1 (Tt f).2.1 (Tt f).2.2.1 ∈ WT) (d : decode cc pc = .ok (.putfield idx, 3)) (hk : f < N) (hfin : (Tt f).2.2.2 = true) (hin2 : y.name = "<init>") (hdecl : (Tt f).1 = y.cls) (hd : parseFieldDescriptor (Tt f).2.2.1 = some ty) (hn : ∀ ad, narrow ty (vmv ad v) = vmv ad v ∧ fits ty (vmv ad v) = true) (ho : σ o = some (.inr (ci, fs))) (hlen : f < fs.length) (k : T y cc nL ret hh R Q QX (pc + 3) L st (up σ o (.inr (ci, fs.set f v))) cells slots) : T y cc nL ret hh R Q QX pc L (v :: .ref o :: st) σ cells slots := by
  intro l p e s m args below meth c C D dA ad0 σ0 K ad H locs ls S hS hl hL hst
  have hap := va_apart (own := y.cls) C.2.2.2.2.2.2.2.1 hc.2.1 ty0 hc.2.2.1 hc.2.2.2 K.1 hc.1
  obtain ⟨r, h1, cell, q1, q2, q3, q4⟩ := S.1.1 o _ ho
  have hr : r = (Cn, Tt, N) := Option.some.inj (h1.symm.trans hc.1)
  subst hr
  obtain ⟨hSl, hfc, kC, hkC, hkind⟩ := K.1.1 ci _ hc.1
  obtain ⟨cf, kf, fi, f9, hi, hsl⟩ := hSl f hk
  have hlay := C.2.2.2.2.2.2.2.1 _ (hc.2.1 _ (u_in_lay hk))
  unfold u_lay at hlay
  rw [if_pos hfin] at hlay
  have hst9 := (u_facts hfc hkC (u_lays C.2.2.2.2.2.2.2.1 hc.2.1 hk) hi).1
  have hcf : m.cls = cf := by
    obtain ⟨_, _, c', _, _, _, -, -, hf', -, -, -, hown2, -⟩ := Cond.laysFinal_spec hlay
    have e1 : c' = cf := by have := hi.symm.trans hf'; simp at this; exact this.1.symm
    rw [hdecl] at hown2
    rw [← e1]; exact Option.some.inj (C.2.2.2.2.2.2.1.symm.trans hown2)
  have h6 := u_fits hfc hkC hkind (Or.inr hlay) hi hd (hn ad).1 (hn ad).2
  refine W.putFinK C.1 C.2.1 C.2.2.2.2.2.2.1 (C.2.2.2.2.2.2.2.1 _ hf) hi hst9 hcf (C.2.2.2.2.2.1.trans hin2) (by rw [q2]; exact h6) q1 q3 (by rw [hsl]; exact k2_hasslot (q4 f hk)) rfl rfl d fun H' e1 e2 e3 => ?_
  rw [hsl] at e1 ⊢
  have hcl : clC σ (.inr (ci, fs.set f v)) := fun u hu => by
    rcases List.mem_or_eq_of_mem_set hu with h | h
    · exact S.1.2.2 o _ ho u h
    · rw [h]; exact cl_h hst
  have hat : va_at D vwCl (ad o, pa dA ad (.inr (ci, fs.set f v))) H' := by
    refine ⟨_, hc.1, ?_⟩
    show t_OB (ad o) (D.1 ci) N (D.2 ci) H' (vp_V ((fs.set f v).map (vmv ad)))
    rw [List.map_set]
    exact t_OB.to (V := updV (vp_V (fs.map (vmv ad))) f (vmv ad v)) ⟨_, e1, q2, q3, t_set q4 hap hk _⟩ (fun j _ => vp_updV_set (by rw [List.length_map]; exact hlen) _ j)
  exact k l p e s m args below meth c C D dA ad0 σ0 K ad H' _ ls (S.put (ne_of ho) hcl hat e3) (hS.put e2 e3 (S.2.2 o (ne_of ho))) hl (fun i u hu => up_in (hL i u hu)) (up_clS (cl_t (cl_t hst)))
theorem z_iald {o n : Nat} {f : Nat → Int32} {i : Int32} (d : decode cc pc = .ok (.iaload, 1)) (ho : σ o = some (aI n f)) (j : Nat) (hi : i = nI j) (hj : j < n) (k : T y cc nL ret hh R Q QX (pc + 1) L (.int (f j) :: st) σ cells slots) (hn : n < 2147483648 := by decide) : T y cc nL ret hh R Q QX pc L (.int i :: .ref o :: st) σ cells slots := by
  intro l p e s m args below meth c C D dA ad0 σ0 K ad H locs ls S hS hl hL hst
  subst hi
  refine va_iald C.1 C.2.1 K.1 (S.1.one ho) 0 0 rfl rfl (vp_in_nI hj hn) d ?_
  rw [nI_clamp (Nat.lt_trans hj hn)]
  exact k l p e s m args below meth c C D dA ad0 σ0 K ad H locs ls S hS hl hL (cl_i (cl_t (cl_t hst)))
theorem z_zald {o n : Nat} {f : Nat → Int32} {i : Int32} (d : decode cc pc = .ok (.baload, 1)) (ho : σ o = some (aZ n f)) (j : Nat) (hi : i = nI j) (hj : j < n) (k : T y cc nL ret hh R Q QX (pc + 1) L (.int (f j) :: st) σ cells slots) (hn : n < 2147483648 := by decide) : T y cc nL ret hh R Q QX pc L (.int i :: .ref o :: st) σ cells slots := by
  intro l p e s m args below meth c C D dA ad0 σ0 K ad H locs ls S hS hl hL hst
  subst hi
  refine va_zald C.1 C.2.1 K.1 (S.1.one ho) 0 2 rfl rfl (vp_in_nI hj hn) d ?_
  rw [nI_clamp (Nat.lt_trans hj hn)]
  exact k l p e s m args below meth c C D dA ad0 σ0 K ad H locs ls S hS hl hL (cl_i (cl_t (cl_t hst)))
theorem z_lald {o n : Nat} {f : Nat → Int64} {i : Int32} (d : decode cc pc = .ok (.laload, 1)) (ho : σ o = some (aJ n f)) (j : Nat) (hi : i = nI j) (hj : j < n) (k : T y cc nL ret hh R Q QX (pc + 1) L (.long (f j) :: st) σ cells slots) (hn : n < 2147483648 := by decide) : T y cc nL ret hh R Q QX pc L (.int i :: .ref o :: st) σ cells slots := by
  intro l p e s m args below meth c C D dA ad0 σ0 K ad H locs ls S hS hl hL hst
  subst hi
  refine va_lald C.1 C.2.1 K.1 (S.1.one ho) 0 1 rfl rfl (vp_in_nI hj hn) d ?_
  rw [nI_clamp (Nat.lt_trans hj hn)]
  exact k l p e s m args below meth c C D dA ad0 σ0 K ad H locs ls S hS hl hL (cl_l (cl_t (cl_t hst)))
theorem z_aald {o n a : Nat} {g : Nat → Option Nat} {i : Int32} (d : decode cc pc = .ok (.aaload, 1)) (ho : σ o = some (aR n g)) (j : Nat) (hi : i = nI j) (hj : j < n) (ha : g j = some a) (k : T y cc nL ret hh R Q QX (pc + 1) L (.ref a :: st) σ cells slots) (hn : n < 2147483648 := by decide) : T y cc nL ret hh R Q QX pc L (.int i :: .ref o :: st) σ cells slots := by
  intro l p e s m args below meth c C D dA ad0 σ0 K ad H locs ls S hS hl hL hst
  subst hi
  refine va_aldq C.1 C.2.1 K.1 (S.1.one ho) 0 3 rfl rfl (vp_in_nI hj hn) d ?_
  rw [nI_clamp (Nat.lt_trans hj hn), ha]
  exact k l p e s m args below meth c C D dA ad0 σ0 K ad H locs ls S hS hl hL (cl_c (cl_r (S.1.2.2 o _ ho j a ha)) (cl_t (cl_t hst)))
theorem z_alen {o n t : Nat} {x : pArr} {v : Int32} (d : decode cc pc = .ok (.arraylength, 1)) (ho : σ o = some (.inl (t, n, x))) (ht : t < 4) (hv : Int32.ofNat n = v) (k : T y cc nL ret hh R Q QX (pc + 1) L (.int v :: st) σ cells slots) : T y cc nL ret hh R Q QX pc L (.ref o :: st) σ cells slots := by
  intro l p e s m args below meth c C D dA ad0 σ0 K ad H locs ls S hS hl hL hst
  have h9 : ∃ (ty : FieldType) (x9 : vp_A), (tysOf dA)[t]? = some (dA t, ty) ∧ pa dA ad (.inl (t, n, x)) = .inl (dA t, x9) ∧ x9.1 = n := by
    have a1 : ∃ ty : FieldType, (tysOf dA)[t]? = some (dA t, ty) := by
      match t, ht with
      | 0, _ => exact ⟨_, rfl⟩
      | 1, _ => exact ⟨_, rfl⟩
      | 2, _ => exact ⟨_, rfl⟩
      | 3, _ => exact ⟨_, rfl⟩
    obtain ⟨ty, hty⟩ := a1
    match x with
    | .inl f => exact ⟨ty, _, hty, rfl, rfl⟩
    | .inr (.inl f) => exact ⟨ty, _, hty, rfl, rfl⟩
    | .inr (.inr f) => exact ⟨ty, _, hty, rfl, rfl⟩
  obtain ⟨ty, x9, h1, h2, h3⟩ := h9
  have hP := S.1.one ho
  rw [h2] at hP
  refine va_alen C.1 C.2.1 K.1 hP 0 t (x := x9) (v := v) rfl h1 (by rw [h3]; exact hv) d ?_
  exact k l p e s m args below meth c C D dA ad0 σ0 K ad H locs ls S hS hl hL (cl_i (cl_t hst))
theorem z_iast {o n : Nat} {f : Nat → Int32} {i : Int32} {x : Int32} (d : decode cc pc = .ok (.iastore, 1))  (ho : σ o = some (aI n f)) (j : Nat) (hi : i = nI j) (hj : j < n) (k : T y cc nL ret hh R Q QX (pc + 1) L st (up σ o (aI n (upd f j x))) cells slots) (hn : n < 2147483648 := by decide) : T y cc nL ret hh R Q QX pc L (.int x :: .int i :: .ref o :: st) σ cells slots := by
  intro l p e s m args below meth c C D dA ad0 σ0 K ad H locs ls S hS hl hL hst
  subst hi
  have hin : vp_in (nI j) n := vp_in_nI hj hn
  have hcell : H[ad o]? = some (arrV (dA 0) n (fun q => .int (f q))) := S.1.1 o _ ho
  refine W.iast C.1 C.2.1 hcell ((K.1.2 0 _ rfl).1 n (fun q => .int (f q))) (fun q => by cases q) (by show ¬ (_ ∨ (arrV _ _ _).slots.size ≤ _); rw [arrV_size]; exact hin) rfl rfl d fun H1 e1 z1 oq => ?_
  rw [nI_clamp (Nat.lt_trans hj hn), arrV_store] at e1
  rw [nI_clamp (Nat.lt_trans hj hn)]
  have hat : va_at D vwCl (ad o, pa dA ad (aI n (upd f j x))) H1 := by
    show H1[ad o]? = some (arrV (dA 0) n (fun q => .int (upd f j x q)))
    rw [e1]
    congr 2
    funext q
    by_cases hq : q = j
    · subst hq
      simp [updV, upd]
    · simp [updV, upd, hq]
  exact k l p e s m args below meth c C D dA ad0 σ0 K ad H1 _ ls (S.put (ne_of ho) trivial hat oq) (hS.put z1 oq (S.2.2 o (ne_of ho))) hl (fun i u hu => up_in (hL i u hu)) (up_clS (cl_t (cl_t (cl_t hst))))
theorem z_last {o n : Nat} {f : Nat → Int64} {i : Int32} {x : Int64} (d : decode cc pc = .ok (.lastore, 1))  (ho : σ o = some (aJ n f)) (j : Nat) (hi : i = nI j) (hj : j < n) (k : T y cc nL ret hh R Q QX (pc + 1) L st (up σ o (aJ n (vp_updL f j x))) cells slots) (hn : n < 2147483648 := by decide) : T y cc nL ret hh R Q QX pc L (.long x :: .int i :: .ref o :: st) σ cells slots := by
  intro l p e s m args below meth c C D dA ad0 σ0 K ad H locs ls S hS hl hL hst
  subst hi
  have hin : vp_in (nI j) n := vp_in_nI hj hn
  have hcell : H[ad o]? = some (arrV (dA 1) n (fun q => .long (f q))) := S.1.1 o _ ho
  refine W.last C.1 C.2.1 hcell ((K.1.2 1 _ rfl).1 n (fun q => .long (f q))) (fun q => by cases q) (by show ¬ (_ ∨ (arrV _ _ _).slots.size ≤ _); rw [arrV_size]; exact hin) rfl rfl d fun H1 e1 z1 oq => ?_
  rw [nI_clamp (Nat.lt_trans hj hn), arrV_store] at e1
  rw [nI_clamp (Nat.lt_trans hj hn)]
  have hat : va_at D vwCl (ad o, pa dA ad (aJ n (vp_updL f j x))) H1 := by
    show H1[ad o]? = some (arrV (dA 1) n (fun q => .long (vp_updL f j x q)))
    rw [e1]
    congr 2
    funext q
    by_cases hq : q = j
    · subst hq
      simp [updV, vp_updL]
    · simp [updV, vp_updL, hq]
  exact k l p e s m args below meth c C D dA ad0 σ0 K ad H1 _ ls (S.put (ne_of ho) trivial hat oq) (hS.put z1 oq (S.2.2 o (ne_of ho))) hl (fun i u hu => up_in (hL i u hu)) (up_clS (cl_t (cl_t (cl_t hst))))
theorem z_zast {o n : Nat} {f : Nat → Int32} {i : Int32} {x : Int32} (d : decode cc pc = .ok (.bastore, 1)) (hz : narrow .boolean (.int x) = .int x) (ho : σ o = some (aZ n f)) (j : Nat) (hi : i = nI j) (hj : j < n) (k : T y cc nL ret hh R Q QX (pc + 1) L st (up σ o (aZ n (upd f j x))) cells slots) (hn : n < 2147483648 := by decide) : T y cc nL ret hh R Q QX pc L (.int x :: .int i :: .ref o :: st) σ cells slots := by
  intro l p e s m args below meth c C D dA ad0 σ0 K ad H locs ls S hS hl hL hst
  subst hi
  have hin : vp_in (nI j) n := vp_in_nI hj hn
  have hcell : H[ad o]? = some (arrV (dA 2) n (fun q => .int (f q))) := S.1.1 o _ ho
  refine W.zast C.1 C.2.1 hcell ((K.1.2 2 _ rfl).1 n (fun q => .int (f q))) (fun q => by cases q) (by show ¬ (_ ∨ (arrV _ _ _).slots.size ≤ _); rw [arrV_size]; exact hin) rfl rfl d fun H1 e1 z1 oq => ?_
  rw [nI_clamp (Nat.lt_trans hj hn), arrV_store] at e1
  rw [nI_clamp (Nat.lt_trans hj hn)]
  have hat : va_at D vwCl (ad o, pa dA ad (aZ n (upd f j x))) H1 := by
    show H1[ad o]? = some (arrV (dA 2) n (fun q => .int (upd f j x q)))
    rw [e1]
    congr 2
    funext q
    by_cases hq : q = j
    · subst hq
      simp [updV, upd, hz]
    · simp [updV, upd, hq]
  exact k l p e s m args below meth c C D dA ad0 σ0 K ad H1 _ ls (S.put (ne_of ho) trivial hat oq) (hS.put z1 oq (S.2.2 o (ne_of ho))) hl (fun i u hu => up_in (hL i u hu)) (up_clS (cl_t (cl_t (cl_t hst))))
end TH
end
section
/-! CONTRACTS -/
def CP (D : va_G) (dA : Nat → ClassId) (ad : Nat → Nat) (sz : Nat) (av : List Value) (σ : Wd) : Array Value → State → Prop := va_Pc (av.map (vmv ad)) (fun U => U.heap.size = sz ∧ Rp D dA ad σ U.heap ∧ clS σ av ∧ Kx D dA (AA ad σ sz) U U.heap)
/-- method y, called with av in the world σ, returns with Q or throws with QX, within the room R -/
def Ct (y : MethodName) (cc : ByteArray) (nL : Nat) (ret : Option FieldType) (R : Room) (av : List Value) (σ : Wd) (Q : Option Value → Wd → Prop) (QX : String → Wd → Prop) : Prop :=
  ∀ (l : Launch), l.stackTraces = false → ∀ (D : va_G) (dA : Nat → ClassId) (ad : Nat → Nat) (sz : Nat), vx_Met l y (Cond.code y cc nL ret :: WT) R (CP D dA ad sz av σ) (Po D dA ad σ Q) (PoX D dA ad σ QX) R.cells R.slots (AA ad σ sz)
/-- .. of a method with an exception table -/
def CtH (y : MethodName) (cc : ByteArray) (nL : Nat) (ret : Option FieldType) (hh : List (Nat × Nat × Nat × Nat)) (R : Room) (av : List Value) (σ : Wd) (Q : Option Value → Wd → Prop) (QX : String → Wd → Prop) : Prop :=
  ∀ (l : Launch), l.stackTraces = false → ∀ (D : va_G) (dA : Nat → ClassId) (ad : Nat → Nat) (sz : Nat), vx_Met l y (Cond.codeWith y cc nL ret hh :: WT) R (CP D dA ad sz av σ) (Po D dA ad σ Q) (PoX D dA ad σ QX) R.cells R.slots (AA ad σ sz)
def lent : List Value → List (Option Value)
  | [] => []
  | v :: r => some v :: (bif Nat.beq v.category 2 then none :: lent r else lent r)
def lent0 (nL : Nat) (av : List Value) : List (Option Value) := lent av ++ List.replicate (nL - (lent av).length) none
theorem lent_len (ad : Nat → Nat) : ∀ av : List Value, (lg_sl (av.map (vmv ad))).length = (lent av).length
  | [] => rfl
  | v :: r => by
    have ih := lent_len ad r
    unfold lg_sl at ih ⊢
    rw [List.map_cons, List.flatMap_cons, List.length_append, ih, vmv_cat, show lent (v :: r) = some v :: (bif Nat.beq v.category 2 then none :: lent r else lent r) from rfl]
    by_cases h : v.category = 2
    · rw [if_pos h]
      have : Nat.beq v.category 2 = true := by rw [h]; rfl
      rw [this]
      simp only [cond_true, List.length_cons, List.length_nil]
      omega
    · rw [if_neg h]
      have : Nat.beq v.category 2 = false := by
        cases hb : Nat.beq v.category 2 with
        | true => exact absurd (Nat.eq_of_beq_eq_true hb) h
        | false => rfl
      rw [this]
      simp only [cond_false, List.length_cons, List.length_nil]
      omega
theorem lget_app_none {A : List (Option Value)} {k i : Nat} {v : Value} (h : lget (A ++ List.replicate k none) i = some v) : lget A i = some v := by
  unfold lget at h ⊢
  by_cases hi : i < A.length
  · rw [List.getElem?_append_left hi] at h; exact h
  · rw [List.getElem?_append_right (by omega)] at h
    by_cases hk : i - A.length < k
    · rw [List.getElem?_replicate_of_lt hk] at h; cases h
    · rw [List.getElem?_eq_none (by rw [List.length_replicate]; omega)] at h; cases h
theorem lent_args (ad : Nat → Nat) : ∀ (av : List Value) (i j : Nat) (v : Value), lget (lent av) i = some v → (i + j, vmv ad v) ∈ lv_args j (av.map (vmv ad))
  | [], i, j, v, h => by simp [lent, lget] at h
  | u :: r, i, j, v, h => by
    rw [List.map_cons]
    unfold lv_args
    rw [vmv_cat]
    unfold lent at h
    cases i with
    | zero =>
      have e : u = v := by simpa [lget] using h
      subst e
      rw [Nat.zero_add]
      exact List.mem_cons_self
    | succ i =>
      refine List.mem_cons_of_mem _ ?_
      have h : lget (bif Nat.beq u.category 2 then none :: lent r else lent r) i = some v := by simpa [lget] using h
      by_cases hc : u.category = 2
      · rw [if_pos hc]
        have : Nat.beq u.category 2 = true := by rw [hc]; rfl
        rw [this] at h
        cases i with
        | zero => simp [lget] at h
        | succ i =>
          have h : lget (lent r) i = some v := by simpa [lget] using h
          have := lent_args ad r i (j + 2) v h
          rwa [show i + 1 + 1 + j = i + (j + 2) by omega]
      · rw [if_neg hc]
        have : Nat.beq u.category 2 = false := by
          cases hb : Nat.beq u.category 2 with
          | true => exact absurd (Nat.eq_of_beq_eq_true hb) hc
          | false => rfl
        rw [this] at h
        have := lent_args ad r i (j + 1) v h
        rwa [show i + 1 + j = i + (j + 1) by omega]
theorem lget_mem {σ : Wd} : ∀ {av : List Value} {i : Nat} {v : Value}, lget (lent av) i = some v → v ∈ av
  | [], i, v, h => by simp [lent, lget] at h
  | u :: r, i, v, h => by
    unfold lent at h
    cases i with
    | zero =>
      have e : u = v := by simpa [lget] using h
      subst e
      exact List.mem_cons_self
    | succ i =>
      have h : lget (bif Nat.beq u.category 2 then none :: lent r else lent r) i = some v := by simpa [lget] using h
      refine List.mem_cons_of_mem _ ?_
      cases hb : Nat.beq u.category 2 with
      | true =>
        rw [hb] at h
        cases i with
        | zero => simp [lget] at h
        | succ i => exact lget_mem (σ := σ) (i := i) (by simpa [lget] using h)
      | false =>
        rw [hb] at h
        exact lget_mem (σ := σ) h
theorem Ct.intro {y : MethodName} {cc : ByteArray} {nL : Nat} {ret : Option FieldType} {R : Room} {av : List Value} {σ : Wd} {Q : Option Value → Wd → Prop} {QX : String → Wd → Prop} (hy : plainName y.cls = true) (hlen : (lent av).length ≤ nL) (h : T y cc nL ret [] R Q QX 0 (lent0 nL av) [] σ 0 0) : Ct y cc nL ret R av σ Q QX := by
  intro l hl D dA ad sz
  refine vx_ofW hy rfl ?_
  intro p e s m args below meth c s₁ B hml ht hv
  obtain ⟨rfl, hsz, hP, hcl, hK⟩ := hv
  subst hsz
  have hts := atoms_spec (ws := Cond.code y cc nL ret :: WT) B.pre
  have hown : s.vm.findClass y.cls = some m.cls := findClass_of_methodNamed B.named
  have hnm : meth.name = y.name := (name_of_methodNamed B.named B.method).1
  have hent := lv_entry (av.map (vmv ad)) (n := nL) (by rw [lent_len]; exact hlen)
  rw [lg_entry_eq]
  generalize (lg_sl (av.map (vmv ad)) ++ List.replicate (nL - (lg_sl (av.map (vmv ad))).length) Slot.unset).toArray = ls at hent ⊢
  have htab : c.exceptionTable.toList = tableOf [] := List.eq_nil_iff_forall_not_mem.mpr ht
  refine h l p e s m _ below meth c ⟨B.exec, B.bytes, hml, B.returns, B.notSynchronized, hnm, hown, fun w hw => hts w (List.mem_cons_of_mem _ hw), htab, hl⟩ D dA ad σ hK ad s.heap [] ls ⟨hP, fun n hn => ⟨hn, rfl⟩, fun n hn => Or.inl ⟨n, hn, rfl⟩⟩ va_S.rf ⟨hent.1, hent.2.1, fun i v hi => hent.2.2 _ (lent_args ad av i 0 v (lget_app_none hi))⟩ (fun i v hi => hcl v (lget_mem (σ := σ) (lget_app_none hi))) (fun v hv => by cases hv)
theorem CtH.intro {y : MethodName} {cc : ByteArray} {nL : Nat} {ret : Option FieldType} {hh : List (Nat × Nat × Nat × Nat)} {R : Room} {av : List Value} {σ : Wd} {Q : Option Value → Wd → Prop} {QX : String → Wd → Prop} (hy : plainName y.cls = true) (hlen : (lent av).length ≤ nL) (h : T y cc nL ret hh R Q QX 0 (lent0 nL av) [] σ 0 0) : CtH y cc nL ret hh R av σ Q QX := by
  intro l hl D dA ad sz
  refine vx_ofWH hy rfl ?_
  intro p e s m args below meth c s₁ B hml hv
  obtain ⟨rfl, hsz, hP, hcl, hK⟩ := hv
  subst hsz
  have hts := atoms_spec (ws := Cond.codeWith y cc nL ret hh :: WT) B.pre
  have hown : s.vm.findClass y.cls = some m.cls := findClass_of_methodNamed B.named
  have hnm : meth.name = y.name := (name_of_methodNamed B.named B.method).1
  have hent := lv_entry (av.map (vmv ad)) (n := nL) (by rw [lent_len]; exact hlen)
  rw [lg_entry_eq]
  generalize (lg_sl (av.map (vmv ad)) ++ List.replicate (nL - (lg_sl (av.map (vmv ad))).length) Slot.unset).toArray = ls at hent ⊢
  have htab : c.exceptionTable.toList = tableOf hh := vx_table (x := y) B (hts _ List.mem_cons_self)
  refine h l p e s m _ below meth c ⟨B.exec, B.bytes, hml, B.returns, B.notSynchronized, hnm, hown, fun w hw => hts w (List.mem_cons_of_mem _ hw), htab, hl⟩ D dA ad σ hK ad s.heap [] ls ⟨hP, fun n hn => ⟨hn, rfl⟩, fun n hn => Or.inl ⟨n, hn, rfl⟩⟩ va_S.rf ⟨hent.1, hent.2.1, fun i v hi => hent.2.2 _ (lent_args ad av i 0 v (lget_app_none hi))⟩ (fun i v hi => hcl v (lget_mem (σ := σ) (lget_app_none hi))) (fun v hv => by cases hv)
theorem Sr.trans {D : va_G} {dA : Nat → ClassId} {ad0 ad ad' : Nat → Nat} {σ0 σ σ' : Wd} {sz sz' : Nat} {H H' : Heap} (h : Sr D dA ad0 σ0 sz ad σ H) (hz : sz ≤ sz') (h' : Sr D dA ad σ sz' ad' σ' H') : Sr D dA ad0 σ0 sz ad' σ' H' := by
  refine ⟨h'.1, fun n hn => ?_, fun n hn => ?_⟩
  · obtain ⟨a1, a2⟩ := h.2.1 n hn
    obtain ⟨b1, b2⟩ := h'.2.1 n a1
    exact ⟨b1, b2.trans a2⟩
  · rcases h'.2.2 n hn with ⟨q, h1, h2⟩ | h1
    · rw [h2]; exact h.2.2 q h1
    · exact Or.inr (Nat.le_trans hz h1)
theorem Sr.sub {D : va_G} {dA : Nat → ClassId} {ad0 ad : Nat → Nat} {σ0 σ : Wd} {sz sz' : Nat} {H : Heap} (h : Sr D dA ad0 σ0 sz ad σ H) (hz : sz ≤ sz') : ∀ q, AA ad σ sz' q → AA ad0 σ0 sz q := by
  rintro q (⟨n, h1, h2⟩ | h1)
  · rw [h2]; exact h.2.2 n h1
  · exact Or.inr (Nat.le_trans hz h1)
theorem vmv_agree {ad ad' : Nat → Nat} {σ : Wd} {v : Value} (h : ∀ n, σ n ≠ none → ad' n = ad n) (hv : inD σ v) : vmv ad' v = vmv ad v := by
  cases v with
  | ref n => show Value.ref _ = Value.ref _; rw [h n (hv n rfl)]
  | _ => rfl
theorem CP_blind {D : va_G} {dA : Nat → ClassId} {ad : Nat → Nat} {sz : Nat} {av : List Value} {σ : Wd} : FrameBlind (CP D dA ad sz av σ) := by
  rintro a U g mk ⟨q0, q1, q2, q3, q4⟩
  exact ⟨q0, q1, q2, q3, Kx.moved (u := U) (U := U.calling g mk a) (Vm.Alike.refl U.vm) (State.WarmedH.refl U) q4⟩
theorem goodV {own : String} {idx : Nat} {y : MethodName} {cc : ByteArray} {nL : Nat} {ret : Option FieldType} {n : Nat} (hm : MV own idx y cc nL ret n) : GoodIn WT (wsV own idx y.cls y (Cond.code y cc nL ret :: WT)) := by
  obtain ⟨⟨h1, h2, h3, h4, h5⟩, -⟩ := hm
  intro w hw
  refine WT_good w ?_
  simp only [wsV, List.cons_append, List.nil_append, List.mem_cons] at hw
  rcases hw with rfl | rfl | rfl | rfl | rfl | hw
  · exact h1
  · exact h2
  · exact h3
  · exact h4
  · exact h5
  · exact hw
theorem goodS {own : String} {idx : Nat} {y : MethodName} {cc : ByteArray} {nL : Nat} {ret : Option FieldType} {n : Nat} (hm : MS own idx y cc nL ret n) : GoodIn WT (va_wsS own idx y (Cond.code y cc nL ret :: WT)) := by
  obtain ⟨⟨h1, h2, h3, h4⟩, -⟩ := hm
  intro w hw
  refine WT_good w ?_
  simp only [va_wsS, List.cons_append, List.nil_append, List.mem_cons] at hw
  rcases hw with rfl | rfl | rfl | rfl | hw
  · exact h1
  · exact h2
  · exact h3
  · exact h4
  · exact hw
theorem goodSW {own : String} {idx : Nat} {y : MethodName} {cc : ByteArray} {nL : Nat} {ret : Option FieldType} {hh : List (Nat × Nat × Nat × Nat)} {n : Nat} (hm : MSW own idx y cc nL ret hh n) : GoodIn WT (va_wsS own idx y (Cond.codeWith y cc nL ret hh :: WT)) := by
  obtain ⟨⟨h1, h2, h3, h4⟩, -⟩ := hm
  intro w hw
  refine WT_good w ?_
  simp only [va_wsS, List.cons_append, List.nil_append, List.mem_cons] at hw
  rcases hw with rfl | rfl | rfl | rfl | hw
  · exact h1
  · exact h2
  · exact h3
  · exact h4
  · exact hw
section TC
variable {y : MethodName} {cc : ByteArray} {nL : Nat} {ret : Option FieldType} {hh : List (Nat × Nat × Nat × Nat)} {R : Room} {Q : Option Value → Wd → Prop} {QX : String → Wd → Prop} {pc : Nat} {L : List (Option Value)} {st : List Value} {σ : Wd} {cells slots : Nat}
/-- behind a call: what came back, or what was thrown -/
theorem z_run {Q' : Option Value → Wd → Prop} {QX' : String → Wd → Prop} {mc ms : Nat} (k : ∀ r u, Q' r u → T y cc nL ret hh R Q QX (pc + 3) L (r.toList ++ st) u (cells + mc) (slots + ms)) (kx : ∀ E u, QX' E u → TX y cc nL ret hh R Q QX pc L E u (cells + mc) (slots + ms))
    {l : Launch} {p : Program} {e : Env} {s : State} {m : MethodId} {args : Array Value} {below : List Frame} {meth : Method} {c : Code} (C : Cx l y cc nL ret hh p s m args meth c) {D : va_G} {dA : Nat → ClassId} {ad0 : Nat → Nat} {σ0 : Wd} (K : Kx D dA (AA ad0 σ0 s.heap.size) s s.heap)
    {ad : Nat → Nat} {H : Heap} {locs : List Loc} {ls : Array Slot} (S : Sr D dA ad0 σ0 s.heap.size ad σ H) (hS : va_S (AA ad0 σ0 s.heap.size) s.heap H locs) (hl : Lr ad ls nL L) (hL : clL σ L) (hst : clS σ st) {st0 : List Value} {a : Array Value}
    (hr : vx_Run p l e R s m args below meth c H locs cells slots mc ms (F0 m pc ls st0) (st.map (vmv ad)) (Po D dA ad σ Q' a) (PoX D dA ad σ QX') (AA ad σ H.size)) :
    W p l e R s m args below meth c H locs cells slots (vx_MQ below (Po D dA ad0 σ0 Q) (PoX D dA ad0 σ0 QX) args s R.cells R.slots (AA ad0 σ0 s.heap.size)) (F0 m pc ls st0) := by
  intro T0 hT X
  have hA := S.sub (sz' := H.size) hS.1
  rcases hr T0 hT X with ⟨v, st₀, t, T', L9, h0, X', hL9, e1, e2, ⟨⟨ad', σ', r, hv, hQ, hSr, hin⟩, hF⟩, go⟩ | ⟨q, st₀, t, T', L9, E, ce, h0, X', hL9, e1, e2, ⟨⟨ad', σ', hQ, hSr⟩, hF⟩, hce, hcv, hcl, go⟩
  · rw [h0] at hSr hF
    have hz : st₀.heap.size = H.size := by rw [h0]
    obtain ⟨-, -, hS'⟩ := vx_keep (A1 := AA ad σ H.size) h0 e1 hS (fun q _ h => hA q h) hA hL9 hF
    have hag : ∀ n, σ n ≠ none → ad' n = ad n := fun n hn => (hSr.2.1 n hn).2
    have hv : v = r.map (vmv ad') := by cases hv; rfl
    have hstk : v.toList ++ st.map (vmv ad) = (r.toList ++ st).map (vmv ad') := by
      rw [List.map_append, hv]
      congr 1
      · cases r <;> rfl
      · exact List.map_congr_left fun u hu => (vmv_agree hag (hst u hu)).symm
    obtain ⟨t2, a1, b1⟩ := k r σ' hQ l p e s m args below meth c C D dA ad0 σ0 K ad' T'.heap (locs ++ L9) ls (S.trans hS.1 (by rw [e1]; exact hSr)) hS' ⟨hl.1, hl.2.1, fun i u hu => by rw [vmv_agree hag (hL i u hu)]; exact hl.2.2 i u hu⟩ (fun i u hu n hn => (hSr.2.1 n (hL i u hu n hn)).1)
      (cl_app.mpr ⟨fun u hu => hin u (by cases r with | none => cases hu | some z => rw [List.mem_singleton.mp hu]), fun u hu n hn => (hSr.2.1 n (hst u hu n hn)).1⟩) T' rfl X'
    rw [← hstk] at a1
    exact ⟨t2, go t2 a1, b1⟩
  · rw [h0] at hSr hF
    have hz : st₀.heap.size = H.size := by rw [h0]
    obtain ⟨-, -, hS'⟩ := vx_keep (A1 := AA ad σ H.size) h0 e1 hS (fun q _ h => hA q h) hA hL9 hF
    have hag : ∀ n, σ n ≠ none → ad' n = ad n := fun n hn => (hSr.2.1 n hn).2
    obtain ⟨t2, a1, b1⟩ := kx E σ' hQ l p e s m args below meth c C D dA ad0 σ0 K ad' T'.heap (locs ++ L9) ls (st.map (vmv ad)) q ce (S.trans hS.1 (by rw [e1]; exact hSr)) hS' ⟨hl.1, hl.2.1, fun i u hu => by rw [vmv_agree hag (hL i u hu)]; exact hl.2.2 i u hu⟩ (fun i u hu n hn => (hSr.2.1 n (hL i u hu n hn)).1)
      (by rw [e1]; exact hce) hcv hcl T' rfl X'
    exact ⟨t2, go.trans a1, b1⟩
theorem z_pre {av : List Value} {s : State} {D : va_G} {dA : Nat → ClassId} {ad0 ad : Nat → Nat} {σ0 : Wd} {H : Heap} {locs : List Loc} (K : Kx D dA (AA ad0 σ0 s.heap.size) s s.heap) (S : Sr D dA ad0 σ0 s.heap.size ad σ H) (hS : va_S (AA ad0 σ0 s.heap.size) s.heap H locs) (hav : clS σ av) : ∀ U : State, U.heap = H → s.WarmedH U.vm → CP D dA ad H.size av σ (av.map (vmv ad)).toArray U := by
  intro U hU hW
  refine ⟨rfl, by rw [hU], by rw [hU]; exact S.1, hav, ?_⟩
  rw [hU]
  exact ((K.moved hW.alike hW).kept (fun a h1 h2 => hS.2.1 a h1 h2)).narrow (S.sub hS.1)
theorem z_sum {ad : Nat → Nat} {m : MethodId} {ls : Array Slot} {st0 : List Value} (hw : (st.map Value.category).sum ≤ 8) : 2 * (F0 m pc ls st0).monitorRoom + ((st.map (vmv ad)).map fun v => v.category).sum ≤ 8 := by
  have e : ((st.map (vmv ad)).map fun v => v.category) = st.map Value.category := by rw [List.map_map]; exact List.map_congr_left fun v _ => vmv_cat ad v
  rw [e]
  have h0 : (F0 m pc ls st0).monitorRoom = 0 := rfl
  rw [h0]
  omega

theorem z_callVX {y' : MethodName} {cc' : ByteArray} {nL' n idx : Nat} {ret' : Option FieldType} {R' : Room} {av : List Value} {Q' : Option Value → Wd → Prop} {QX' : String → Wd → Prop} {st0 : List Value} {o ci : Nat} {fs : List Value} (hc : Ct y' cc' nL' ret' R' (.ref o :: av) σ Q' QX') (hm : MV y.cls idx y' cc' nL' ret' n) (d : decode cc pc = .ok (.invokevirtual idx, 3)) (ho : σ o = some (.inr (ci, fs))) (hci : (vwCl[ci]?).map (·.1) = some y'.cls) (hst0 : st0 = av.reverse ++ .ref o :: st) (hn : av.length = n) (hR : R'.frames + 1 ≤ R.frames ∧ 8 + (nL' + 11) + R'.locals ≤ R.locals) (hw : (st.map Value.category).sum ≤ 8) (hcs : cells + R'.cells ≤ R.cells ∧ slots + R'.slots ≤ R.slots) (kx : ∀ E u, QX' E u → TX y cc nL ret hh R Q QX pc L E u (cells + R'.cells) (slots + R'.slots)) (k : ∀ r u, Q' r u → T y cc nL ret hh R Q QX (pc + 3) L (r.toList ++ st) u (cells + R'.cells) (slots + R'.slots)) : T y cc nL ret hh R Q QX pc L st0 σ cells slots := by
  intro l p e s m args below meth c C D dA ad0 σ0 K ad H locs ls S hS hl hL hst
  subst hst0
  obtain ⟨c1, c2⟩ := cl_app.mp hst
  have hav : clS σ (.ref o :: av) := cl_c (cl_h c2) (cl_rev c1)
  obtain ⟨q9, hq9, hq8⟩ := Option.map_eq_some_iff.mp hci
  have hrun := vx_runV (H := H) (b := ad o) (As := av.map (vmv ad)) (rest := st.map (vmv ad)) (g := F0 m pc ls ((av.reverse ++ .ref o :: st).map (vmv ad))) (below := below) (e := e) (locs := locs) (meth := meth) (cells := cells) (slots := slots) ⟨C.1, C.2.1, C.2.2.1, C.2.2.2.2.2.2.1, C.2.2.2.2.2.2.2.1⟩ (hc l C.2.2.2.2.2.2.2.2.2 D dA ad H.size) (cwV n C.2.2.2.2.2.2.2.1 (goodV hm) rfl rfl rfl ⟨rfl, hm.2⟩ hR) ⟨CP_blind, by
      obtain ⟨cell, e1, e2, e3⟩ := va_recv K.1 (S.1.one ho) (ci := ci) (q0 := 0) hq9 rfl
      exact ⟨cell, e1, e2, by rw [← hq8]; exact e3⟩, z_pre K S hS hav⟩ rfl (by rw [List.length_map]; exact hn) hl.1 (by simp [List.map_append, List.map_reverse, vmv]) (z_sum hw) d hcs
  exact z_run k kx C K S hS hl hL (cl_t c2) hrun
theorem z_callSX {y' : MethodName} {cc' : ByteArray} {nL' n idx : Nat} {ret' : Option FieldType} {R' : Room} {av : List Value} {Q' : Option Value → Wd → Prop} {QX' : String → Wd → Prop} {st0 : List Value} (hc : Ct y' cc' nL' ret' R' av σ Q' QX') (hm : MS y.cls idx y' cc' nL' ret' n) (d : decode cc pc = .ok (.invokestatic idx, 3)) (hst0 : st0 = av.reverse ++ st) (hn : av.length = n) (hR : R'.frames + 1 ≤ R.frames ∧ 8 + (nL' + 11) + R'.locals ≤ R.locals) (hw : (st.map Value.category).sum ≤ 8) (hcs : cells + R'.cells ≤ R.cells ∧ slots + R'.slots ≤ R.slots) (kx : ∀ E u, QX' E u → TX y cc nL ret hh R Q QX pc L E u (cells + R'.cells) (slots + R'.slots)) (k : ∀ r u, Q' r u → T y cc nL ret hh R Q QX (pc + 3) L (r.toList ++ st) u (cells + R'.cells) (slots + R'.slots)) : T y cc nL ret hh R Q QX pc L st0 σ cells slots := by
  intro l p e s m args below meth c C D dA ad0 σ0 K ad H locs ls S hS hl hL hst
  subst hst0
  obtain ⟨c1, c2⟩ := cl_app.mp hst
  have hrun := vx_runS (H := H) (As := av.map (vmv ad)) (rest := st.map (vmv ad)) (g := F0 m pc ls ((av.reverse ++ st).map (vmv ad))) (below := below) (e := e) (locs := locs) (meth := meth) (cells := cells) (slots := slots) ⟨C.1, C.2.1, C.2.2.1, C.2.2.2.2.2.2.1, C.2.2.2.2.2.2.2.1⟩ (hc l C.2.2.2.2.2.2.2.2.2 D dA ad H.size) (va_cwS n C.2.2.2.2.2.2.2.1 (goodS hm) rfl rfl rfl hm.2 hR) ⟨CP_blind, z_pre K S hS (cl_rev c1)⟩ rfl (by rw [List.length_map]; exact hn) hl.1 (by simp [List.map_append, List.map_reverse]) (z_sum hw) d hcs
  exact z_run k kx C K S hS hl hL c2 hrun
theorem z_callSW {y' : MethodName} {cc' : ByteArray} {nL' n idx : Nat} {ret' : Option FieldType} {R' : Room} {av : List Value} {Q' : Option Value → Wd → Prop} {QX' : String → Wd → Prop} {st0 : List Value} {hh' : List (Nat × Nat × Nat × Nat)} (hc : CtH y' cc' nL' ret' hh' R' av σ Q' QX') (hm : MSW y.cls idx y' cc' nL' ret' hh' n) (d : decode cc pc = .ok (.invokestatic idx, 3)) (hst0 : st0 = av.reverse ++ st) (hn : av.length = n) (hR : R'.frames + 1 ≤ R.frames ∧ 8 + (nL' + 11) + R'.locals ≤ R.locals) (hw : (st.map Value.category).sum ≤ 8) (hcs : cells + R'.cells ≤ R.cells ∧ slots + R'.slots ≤ R.slots) (kx : ∀ E u, QX' E u → TX y cc nL ret hh R Q QX pc L E u (cells + R'.cells) (slots + R'.slots)) (k : ∀ r u, Q' r u → T y cc nL ret hh R Q QX (pc + 3) L (r.toList ++ st) u (cells + R'.cells) (slots + R'.slots)) : T y cc nL ret hh R Q QX pc L st0 σ cells slots := by
  intro l p e s m args below meth c C D dA ad0 σ0 K ad H locs ls S hS hl hL hst
  subst hst0
  obtain ⟨c1, c2⟩ := cl_app.mp hst
  have hrun := vx_runSX (H := H) (As := av.map (vmv ad)) (rest := st.map (vmv ad)) (g := F0 m pc ls ((av.reverse ++ st).map (vmv ad))) (below := below) (e := e) (locs := locs) (meth := meth) (cells := cells) (slots := slots) ⟨C.1, C.2.1, C.2.2.1, C.2.2.2.2.2.2.1, C.2.2.2.2.2.2.2.1⟩ (hc l C.2.2.2.2.2.2.2.2.2 D dA ad H.size) (vx_cwSW n C.2.2.2.2.2.2.2.1 (goodSW hm) rfl rfl rfl hm.2 hR) ⟨CP_blind, z_pre K S hS (cl_rev c1)⟩ rfl (by rw [List.length_map]; exact hn) hl.1 (by simp [List.map_append, List.map_reverse]) (z_sum hw) d hcs
  exact z_run k kx C K S hS hl hL c2 hrun
end TC
end
section
section TN
variable {y : MethodName} {cc : ByteArray} {nL : Nat} {ret : Option FieldType} {hh : List (Nat × Nat × Nat × Nat)} {R : Room} {Q : Option Value → Wd → Prop} {QX : String → Wd → Prop} {pc : Nat} {L : List (Option Value)} {st : List Value} {σ : Wd} {cells slots : Nat}
theorem Ct.met {av : List Value} {Q : Option Value → Wd → Prop} (h : Ct y cc nL ret R av σ Q (fun _ _ => False)) {l : Launch} (hl : l.stackTraces = false) (D : va_G) (dA : Nat → ClassId) (ad : Nat → Nat) (sz : Nat) : Met l y (Cond.code y cc nL ret :: WT) R (CP D dA ad sz av σ) (Po D dA ad σ Q) R.cells R.slots (AA ad σ sz) := by
  intro p e a1 a2 a3 s m args below a4 a5 a6 a7
  obtain ⟨n, oc, b1, b2, b3, b4⟩ := h l hl D dA ad sz p e a1 a2 a3 s m args below a4 a5 a6 a7
  refine ⟨n, oc, b1, b2, b3, ?_⟩
  rcases b4 with b4 | ⟨q, -, E, ce, L9, ⟨⟨ad9, σ9, hf, -⟩, -⟩, -⟩
  · exact b4
  · exact hf.elim
theorem vx_of_va {p : Program} {l : Launch} {e : Env} {R : Room} {s : State} {m : MethodId} {args : Array Value} {below : List Frame} {meth : Method} {c : Code} {H : Heap} {locs : List Loc} {cells slots mc ms : Nat} {g : JFrame} {rest : List Value} {Qa : State → Outcome → State → Prop} {free : Addr → Prop} {XC : String → State → State → Prop} (h : va_Run p l e R s m args below meth c H locs cells slots mc ms g rest Qa free) : vx_Run p l e R s m args below meth c H locs cells slots mc ms g rest Qa XC free := fun T hT X => Or.inl (h T hT X)

theorem z_callI {y' : MethodName} {cc' : ByteArray} {nL' n idx : Nat} {R' : Room} {av : List Value} {Q' : Option Value → Wd → Prop} {st0 : List Value} {o : Nat} (hc : Ct y' cc' nL' none R' (.ref o :: av) σ Q' (fun _ _ => False)) (hm : MI y.cls idx y' cc' nL' n) (d : decode cc pc = .ok (.invokespecial idx, 3)) (hst0 : st0 = av.reverse ++ .ref o :: st) (hn : av.length = n) (hR : R'.frames + 1 ≤ R.frames ∧ 8 + (nL' + 11) + R'.locals ≤ R.locals) (hw : (st.map Value.category).sum ≤ 8) (hcs : cells + R'.cells ≤ R.cells ∧ slots + R'.slots ≤ R.slots) (k : ∀ r u, Q' r u → T y cc nL ret hh R Q QX (pc + 3) L (r.toList ++ st) u (cells + R'.cells) (slots + R'.slots)) : T y cc nL ret hh R Q QX pc L st0 σ cells slots := by
  intro l p e s m args below meth c C D dA ad0 σ0 K ad H locs ls S hS hl hL hst
  subst hst0
  obtain ⟨c1, c2⟩ := cl_app.mp hst
  have hts := C.2.2.2.2.2.2.2.1
  have hG : GoodIn WT (Cond.code y' cc' nL' none :: WT) := fun w hw => WT_good w (by
    rcases List.mem_cons.mp hw with rfl | hw
    · exact hm.1.2.2.2.1
    · exact hw)
  have hrun := va_runI (H := H) (b := ad o) (As := av.map (vmv ad)) (rest := st.map (vmv ad)) (g := F0 m pc ls ((av.reverse ++ .ref o :: st).map (vmv ad))) (below := below) (e := e) (locs := locs) (meth := meth) (cells := cells) (slots := slots) ⟨C.1, C.2.1, C.2.2.1, C.2.2.2.2.2.2.1, hts⟩ (hc.met C.2.2.2.2.2.2.2.2.2 D dA ad H.size) (cwI n hts hG rfl rfl rfl (hts _ hm.1.2.2.1) (hts _ hm.1.1) (hts _ hm.1.2.1) hm.1.2.2.2.2 hm.2 hR) ⟨CP_blind, z_pre K S hS (cl_c (cl_h c2) (cl_rev c1))⟩ rfl (by rw [List.length_map]; exact hn) hl.1 (by simp [List.map_append, List.map_reverse, vmv]) (z_sum hw) d hcs
  exact z_run (QX' := fun _ _ => False) k (fun _ _ h => h.elim) C K S hS hl hL (cl_t c2) (vx_of_va hrun)
/-- Atom's own constructor, private in the nest, called by Formula -/
theorem z_callIN {cc' : ByteArray} {nL' : Nat} {R' : Room} {Q' : Option Value → Wd → Prop} {st0 : List Value} {o : Nat} (hy : y.cls = RX3) (hc : Ct yX0_init cc' nL' none R' [.ref o] σ Q' (fun _ _ => False)) (hcode : Cond.code yX0_init cc' nL' none ∈ WT) (hin : Cond.instanceMethod yX0_init ∈ WT) (hini : Cond.initialized yX0_init.cls ∈ WT) (d : decode cc pc = .ok (.invokespecial 30, 3)) (hst0 : st0 = .ref o :: st) (hR : R'.frames + 1 ≤ R.frames ∧ 8 + (nL' + 11) + R'.locals ≤ R.locals) (hw : (st.map Value.category).sum ≤ 8) (hcs : cells + R'.cells ≤ R.cells ∧ slots + R'.slots ≤ R.slots) (k : ∀ r u, Q' r u → T y cc nL ret hh R Q QX (pc + 3) L (r.toList ++ st) u (cells + R'.cells) (slots + R'.slots)) : T y cc nL ret hh R Q QX pc L st0 σ cells slots := by
  intro l p e s m args below meth c C D dA ad0 σ0 K ad H locs ls S hS hl hL hst
  subst hst0
  have hts := C.2.2.2.2.2.2.2.1
  have hG : GoodIn WT (Cond.code yX0_init cc' nL' none :: WT) := fun w hw => WT_good w (by
    rcases List.mem_cons.mp hw with rfl | hw
    · exact hcode
    · exact hw)
  have hrun := va_runIN (H := H) (host := RX6) (index := 30) (own := RX3) (b := ad o) (As := []) (rest := st.map (vmv ad)) (g := F0 m pc ls ((.ref o :: st).map (vmv ad))) (below := below) (e := e) (locs := locs) (meth := meth) (cells := cells) (slots := slots) ⟨C.1, C.2.1, C.2.2.1, by rw [← hy]; exact C.2.2.2.2.2.2.1, hts⟩ (hc.met C.2.2.2.2.2.2.2.2.2 D dA ad H.size) ⟨va_cnB 0 hts hG rfl rfl rfl K.2.2.1 (hts _ hini) (by decide +kernel) hR, rfl, hts _ hin⟩ ⟨CP_blind, z_pre (av := [.ref o]) K S hS (cl_c (cl_h hst) (fun v hv => by cases hv))⟩ rfl rfl hl.1 rfl (z_sum hw) d hcs
  exact z_run (QX' := fun _ _ => False) k (fun _ _ h => h.elim) C K S hS hl hL (cl_t hst) (vx_of_va hrun)
theorem z_objInit {idx o : Nat} (hm : Cond.methodLink y.cls idx objectInit ∈ WT) (hi : Cond.instanceMethod objectInit ∈ WT) (hco : Cond.code objectInit ⟨#[0xb1]⟩ 1 none ∈ WT) (d : decode cc pc = .ok (.invokespecial idx, 3)) (hf : 1 ≤ R.frames) (hlo : (st.map Value.category).sum + 12 ≤ R.locals) (k : T y cc nL ret hh R Q QX (pc + 3) L st σ cells slots) : T y cc nL ret hh R Q QX pc L (.ref o :: st) σ cells slots := by
  intro l p e s m args below meth c C D dA ad0 σ0 K ad H locs ls S hS hl hL hst
  have hts := C.2.2.2.2.2.2.2.1
  have e9 : (((st.map (vmv ad)).map fun v => v.category)).sum = (st.map Value.category).sum := by rw [List.map_map]; exact congrArg List.sum (List.map_congr_left fun v _ => vmv_cat ad v)
  refine W.objInit C.1 C.2.1 C.2.2.2.2.2.2.1 (hts _ hm) (hts _ hi) (hts _ hco) (g := F0 m pc ls ((.ref o :: st).map (vmv ad))) (a := ad o) (rest := st.map (vmv ad)) rfl (hl.1.trans C.2.2.1.symm) rfl d hf (by rw [e9]; have h0 : (F0 m pc ls ((.ref o :: st).map (vmv ad))).monitorRoom = 0 := rfl; rw [h0]; omega) ?_
  exact k l p e s m args below meth c C D dA ad0 σ0 K ad H locs ls S hS hl hL (cl_t hst)
theorem z_new {idx ci N : Nat} {Cn : String} {Tt : u_T} {ty0 : Nat → FieldType} (hc : Cls ci Cn Tt N ty0) (hk : Cond.classLink y.cls idx Cn ∈ WT) (hi : Cond.instantiable Cn N ∈ WT) (hini : Cond.initialized Cn ∈ WT) (d : decode cc pc = .ok (.new idx, 3)) (q : Nat) (hq : σ q = none) (fs : List Value) (hfs : ∀ j, j < N → defaultValue (ty0 j) = vp_V fs j) (hfr : ∀ ad, fs.map (vmv ad) = fs) (hfc : ∀ v ∈ fs, ∀ n, v ≠ .ref n) (hcells : cells + 1 ≤ R.cells) (hslots : slots + N ≤ R.slots) (k : T y cc nL ret hh R Q QX (pc + 3) L (.ref q :: st) (up σ q (.inr (ci, fs))) (cells + 1) (slots + N)) : T y cc nL ret hh R Q QX pc L st σ cells slots := by
  intro l p e s m args below meth c C D dA ad0 σ0 K ad H locs ls S hS hl hL hst
  have hts := C.2.2.2.2.2.2.2.1
  have hKn := K.1.1 ci _ hc.1
  refine W.newcK C.1 C.2.1 C.2.2.2.2.2.2.1 (hts _ hk) (hts _ hi) (hts _ hini) rfl d hcells hslots hKn.2.1 rfl fun H1 kC hkC e1 z1 o1 => ?_
  have hat : va_at D vwCl (H.size, pa dA ad (.inr (ci, fs))) H1 := by
    refine ⟨_, hc.1, ?_⟩
    show t_OB H.size (D.1 ci) N (D.2 ci) H1 (vp_V (fs.map (vmv ad)))
    rw [hfr]
    exact (u_born ty0 hts hc.2.1 hKn hkC e1 hc.2.2.1).to hfs
  have hcl9 : clC σ (.inr (ci, fs)) := fun v hv n e => absurd e (hfc v hv n)
  have h9 := k l p e s m args below meth c C D dA ad0 σ0 K (va_up ad q H.size) H1 _ ls (S.new hS.1 hq hcl9 hat o1) ⟨Nat.le_trans hS.1 (by omega), fun x h1 h2 => (o1 x (Nat.lt_of_lt_of_le h1 hS.1)).trans (hS.2.1 x h1 h2), hS.2.2⟩ ⟨hl.1, hl.2.1, fun i u hu => by rw [vmv_up hq (hL i u hu)]; exact hl.2.2 i u hu⟩ (fun i u hu => up_in (hL i u hu)) (cl_c (cl_r (ne_of (up_self σ q _))) (up_clS hst))
  rw [List.map_cons, vmv_ups hq hst, show vmv (va_up ad q H.size) (.ref q) = .ref H.size from congrArg Value.ref (va_up_self ad q _)] at h9
  exact h9
theorem z_newaI {N : Nat} {n : Int32} (harr : Cond.arrayClass .int ∈ WT) (d : decode cc pc = .ok (.newarray .int, 2)) (q : Nat) (hq : σ q = none) (hn : n = nI N) (hN : N < 100000) (hcells : cells + 1 ≤ R.cells) (hslots : slots + N ≤ R.slots) (k : T y cc nL ret hh R Q QX (pc + 2) L (.ref q :: st) (up σ q (aI N (fun _ => 0))) (cells + 1) (slots + N)) : T y cc nL ret hh R Q QX pc L (.int n :: st) σ cells slots := by
  intro l p e s m args below meth c C D dA ad0 σ0 K ad H locs ls S hS hl hL hst
  have hts := C.2.2.2.2.2.2.2.1
  subst hn
  refine va_newaK C.1 C.2.1 (atype := .int) (hts _ harr) (g := F0 m pc ls ((.int (nI N) :: st).map (vmv ad))) rfl d rfl (nI_pos (by omega)) (nI_clamp (by omega)) (by show N * 4 ≤ 536870912; omega) hcells hslots rfl fun H1 cA e1 z1 o1 hAr hNm => ?_
  have hcA : cA = dA 0 := Option.some.inj (hNm.symm.trans (K.1.2 0 _ rfl).2)
  subst hcA
  have hat : va_at D vwCl (H.size, pa dA ad (aI N (fun _ => 0))) H1 := e1
  have h9 := k l p e s m args below meth c C D dA ad0 σ0 K (va_up ad q H.size) H1 _ ls (S.new hS.1 hq trivial hat o1) ⟨Nat.le_trans hS.1 (by omega), fun x h1 h2 => (o1 x (Nat.lt_of_lt_of_le h1 hS.1)).trans (hS.2.1 x h1 h2), hS.2.2⟩ ⟨hl.1, hl.2.1, fun i u hu => by rw [vmv_up hq (hL i u hu)]; exact hl.2.2 i u hu⟩ (fun i u hu => up_in (hL i u hu)) (cl_c (cl_r (ne_of (up_self σ q _))) (up_clS (cl_t hst)))
  rw [List.map_cons, vmv_ups hq (cl_t hst), show vmv (va_up ad q H.size) (.ref q) = .ref H.size from congrArg Value.ref (va_up_self ad q _)] at h9
  exact h9
theorem z_newaJ {N : Nat} {n : Int32} (harr : Cond.arrayClass .long ∈ WT) (d : decode cc pc = .ok (.newarray .long, 2)) (q : Nat) (hq : σ q = none) (hn : n = nI N) (hN : N < 100000) (hcells : cells + 1 ≤ R.cells) (hslots : slots + N ≤ R.slots) (k : T y cc nL ret hh R Q QX (pc + 2) L (.ref q :: st) (up σ q (aJ N (fun _ => 0))) (cells + 1) (slots + N)) : T y cc nL ret hh R Q QX pc L (.int n :: st) σ cells slots := by
  intro l p e s m args below meth c C D dA ad0 σ0 K ad H locs ls S hS hl hL hst
  have hts := C.2.2.2.2.2.2.2.1
  subst hn
  refine va_newaK C.1 C.2.1 (atype := .long) (hts _ harr) (g := F0 m pc ls ((.int (nI N) :: st).map (vmv ad))) rfl d rfl (nI_pos (by omega)) (nI_clamp (by omega)) (by show N * 8 ≤ 536870912; omega) hcells hslots rfl fun H1 cA e1 z1 o1 hAr hNm => ?_
  have hcA : cA = dA 1 := Option.some.inj (hNm.symm.trans (K.1.2 1 _ rfl).2)
  subst hcA
  have hat : va_at D vwCl (H.size, pa dA ad (aJ N (fun _ => 0))) H1 := e1
  have h9 := k l p e s m args below meth c C D dA ad0 σ0 K (va_up ad q H.size) H1 _ ls (S.new hS.1 hq trivial hat o1) ⟨Nat.le_trans hS.1 (by omega), fun x h1 h2 => (o1 x (Nat.lt_of_lt_of_le h1 hS.1)).trans (hS.2.1 x h1 h2), hS.2.2⟩ ⟨hl.1, hl.2.1, fun i u hu => by rw [vmv_up hq (hL i u hu)]; exact hl.2.2 i u hu⟩ (fun i u hu => up_in (hL i u hu)) (cl_c (cl_r (ne_of (up_self σ q _))) (up_clS (cl_t hst)))
  rw [List.map_cons, vmv_ups hq (cl_t hst), show vmv (va_up ad q H.size) (.ref q) = .ref H.size from congrArg Value.ref (va_up_self ad q _)] at h9
  exact h9
theorem z_newaZ {N : Nat} {n : Int32} (harr : Cond.arrayClass .boolean ∈ WT) (d : decode cc pc = .ok (.newarray .boolean, 2)) (q : Nat) (hq : σ q = none) (hn : n = nI N) (hN : N < 100000) (hcells : cells + 1 ≤ R.cells) (hslots : slots + N ≤ R.slots) (k : T y cc nL ret hh R Q QX (pc + 2) L (.ref q :: st) (up σ q (aZ N (fun _ => 0))) (cells + 1) (slots + N)) : T y cc nL ret hh R Q QX pc L (.int n :: st) σ cells slots := by
  intro l p e s m args below meth c C D dA ad0 σ0 K ad H locs ls S hS hl hL hst
  have hts := C.2.2.2.2.2.2.2.1
  subst hn
  refine va_newaK C.1 C.2.1 (atype := .boolean) (hts _ harr) (g := F0 m pc ls ((.int (nI N) :: st).map (vmv ad))) rfl d rfl (nI_pos (by omega)) (nI_clamp (by omega)) (by show N * 1 ≤ 536870912; omega) hcells hslots rfl fun H1 cA e1 z1 o1 hAr hNm => ?_
  have hcA : cA = dA 2 := Option.some.inj (hNm.symm.trans (K.1.2 2 _ rfl).2)
  subst hcA
  have hat : va_at D vwCl (H.size, pa dA ad (aZ N (fun _ => 0))) H1 := e1
  have h9 := k l p e s m args below meth c C D dA ad0 σ0 K (va_up ad q H.size) H1 _ ls (S.new hS.1 hq trivial hat o1) ⟨Nat.le_trans hS.1 (by omega), fun x h1 h2 => (o1 x (Nat.lt_of_lt_of_le h1 hS.1)).trans (hS.2.1 x h1 h2), hS.2.2⟩ ⟨hl.1, hl.2.1, fun i u hu => by rw [vmv_up hq (hL i u hu)]; exact hl.2.2 i u hu⟩ (fun i u hu => up_in (hL i u hu)) (cl_c (cl_r (ne_of (up_self σ q _))) (up_clS (cl_t hst)))
  rw [List.map_cons, vmv_ups hq (cl_t hst), show vmv (va_up ad q H.size) (.ref q) = .ref H.size from congrArg Value.ref (va_up_self ad q _)] at h9
  exact h9
theorem z_anew {N idx : Nat} {n : Int32} (hk : Cond.classLink y.cls idx RX0 ∈ WT) (d : decode cc pc = .ok (.anewarray idx, 3)) (q : Nat) (hq : σ q = none) (hn : n = nI N) (hN : N < 100000) (hcells : cells + 1 ≤ R.cells) (hslots : slots + N ≤ R.slots) (k : T y cc nL ret hh R Q QX (pc + 3) L (.ref q :: st) (up σ q (aR N (fun _ => none))) (cells + 1) (slots + N)) : T y cc nL ret hh R Q QX pc L (.int n :: st) σ cells slots := by
  intro l p e s m args below meth c C D dA ad0 σ0 K ad H locs ls S hS hl hL hst
  have hts := C.2.2.2.2.2.2.2.1
  subst hn
  have hcl0 : (nI N).toNatClampNeg = N := nI_clamp (by omega)
  refine W.anew C.1 C.2.1 C.2.2.2.2.2.2.1 (hts _ hk) (va_AO.use K.2.1) (g := F0 m pc ls ((.int (nI N) :: st).map (vmv ad))) rfl d rfl (nI_pos (by omega)) (by rw [hcl0]; omega) hcells (by rw [hcl0]; exact hslots) fun cA kA comp f1 f2 f3 f4 => ?_
  rw [hcl0]
  generalize hH1 : H.push ({ cls := cA, slots := Array.replicate N .null, vm := .none } : Cell) = H1
  have z1 : H1.size = H.size + 1 := by rw [← hH1, Array.size_push]
  have e1 : H1[H.size]? = some (arrV cA N (fun _ => .null)) := by rw [← hH1, Array.getElem?_push_size, ← arrV_new]
  have o1 : ∀ q : Nat, q < H.size → H1[q]? = H[q]? := fun q hq => by rw [← hH1, Array.getElem?_push, if_neg (Nat.ne_of_lt hq)]
  obtain ⟨kA9, comp9, g1, g2, g3, g4⟩ := (K.1.2 3 _ rfl).2
  have hcA : cA = dA 3 := Option.some.inj (f1.symm.trans g4)
  subst hcA
  have hat : va_at D vwCl (H.size, pa dA ad (aR N (fun _ => none))) H1 := e1
  have hcl9 : clC σ (aR N (fun _ => none)) := fun j m e => by cases e
  have h9 := k l p e s m args below meth c C D dA ad0 σ0 K (va_up ad q H.size) H1 _ ls (S.new hS.1 hq hcl9 hat o1) ⟨Nat.le_trans hS.1 (by omega), fun x h1 h2 => (o1 x (Nat.lt_of_lt_of_le h1 hS.1)).trans (hS.2.1 x h1 h2), hS.2.2⟩ ⟨hl.1, hl.2.1, fun i u hu => by rw [vmv_up hq (hL i u hu)]; exact hl.2.2 i u hu⟩ (fun i u hu => up_in (hL i u hu)) (cl_c (cl_r (ne_of (up_self σ q _))) (up_clS (cl_t hst)))
  rw [List.map_cons, vmv_ups hq (cl_t hst), show vmv (va_up ad q H.size) (.ref q) = .ref H.size from congrArg Value.ref (va_up_self ad q _)] at h9
  exact h9
theorem z_aast {o n a : Nat} {g : Nat → Option Nat} {i : Int32} {vs : List Value} (d : decode cc pc = .ok (.aastore, 1)) (ho : σ o = some (aR n g)) (ha : σ a = some (.inr (0, vs))) (j : Nat) (hi : i = nI j) (hj : j < n) (k : T y cc nL ret hh R Q QX (pc + 1) L st (up σ o (aR n (va_up g j (some a)))) cells slots) (hn : n < 2147483648 := by decide) : T y cc nL ret hh R Q QX pc L (.ref a :: .int i :: .ref o :: st) σ cells slots := by
  intro l p e s m args below meth c C D dA ad0 σ0 K ad H locs ls S hS hl hL hst
  subst hi
  have hin : vp_in (nI j) n := vp_in_nI hj hn
  have hcl0 : (nI j).toNatClampNeg = j := nI_clamp (Nat.lt_trans hj hn)
  have h0 : ¬ nI j < 0 := fun q => hin (Or.inl q)
  have hcell : H[ad o]? = some (arrV (dA 3) n (fun q => va_rf ((g q).map ad))) := S.1.1 o _ ho
  obtain ⟨r', hr', cellV, g1, g2, g3, -⟩ := S.1.1 a _ ha
  have hcls := (K.1.1 0 _ rfl).2
  obtain ⟨kA, comp, k1, k2, k3, -⟩ := (K.1.2 3 _ rfl).2
  have hcomp : comp = D.1 0 := Option.some.inj (k3.symm.trans hcls.1)
  subst hcomp
  obtain ⟨kC, hkC, -⟩ := hcls.2
  refine W.aast C.1 C.2.1 hcell (fun q h => by cases h) (fun h => by cases h) k1 k2 rfl hkC ⟨h0, by show _ < (arrV _ _ _).slots.size; rw [arrV_size, hcl0]; exact hj⟩ g1 (fun q h => by rw [g3] at h; cases h) (by rw [g2]; exact hkC) (by rw [g2]; exact va_assign hcls) rfl rfl d fun H1 e1 z1 oq => ?_
  rw [hcl0, arrV_store] at e1
  rw [hcl0]
  have hat : va_at D vwCl (ad o, pa dA ad (aR n (va_up g j (some a)))) H1 := by
    show H1[ad o]? = some (arrV (dA 3) n (fun q => va_rf ((va_up g j (some a) q).map ad)))
    rw [e1]
    congr 2
    funext q
    by_cases hq : q = j
    · subst hq
      simp [updV, va_up, va_rf, vmv]
    · simp [updV, va_up, hq]
  have hcl9 : clC σ (aR n (va_up g j (some a))) := fun q m9 e9 => by
    by_cases hq : q = j
    · subst hq; rw [va_up_self] at e9; cases e9; exact ne_of ha
    · rw [va_up_ne _ _ hq] at e9; exact S.1.2.2 o _ ho q m9 e9
  exact k l p e s m args below meth c C D dA ad0 σ0 K ad H1 _ ls (S.put (ne_of ho) hcl9 hat oq) (hS.put z1 oq (S.2.2 o (ne_of ho))) hl (fun i u hu => up_in (hL i u hu)) (up_clS (cl_t (cl_t (cl_t hst))))
theorem z_aret {x : Nat} {rt : FieldType} (d : decode cc pc = .ok (.areturn, 1)) (hr : ret = some rt) (hrt : (∃ n, rt = .object n) ∨ ∃ t, rt = .array t) (hc : cells ≤ R.cells) (hs : slots ≤ R.slots) (hq : Q (some (.ref x)) σ) : T y cc nL ret hh R Q QX pc L [.ref x] σ cells slots := by
  intro l p e s m args below meth c C D dA ad0 σ0 K ad H locs ls S hS hl hL hst
  refine W.widen hc hs (vx_ret ?_)
  exact W.aret C.1 C.2.1 (C.2.2.2.1.trans hr) hrt (Or.inr ⟨_, rfl⟩) (fun t ht hW => ⟨⟨ad, σ, some (.ref x), rfl, hq, by rw [ht]; exact S, fun v e => by cases e; exact cl_h hst⟩, hS.F ht⟩) hS.2.2 d C.2.2.2.2.1
/-- a throw that nothing here catches goes on to the caller -/
theorem z_out {E : String} (hh0 : hh = []) (hc : cells ≤ R.cells) (hs : slots ≤ R.slots) (hq : QX E σ) : TX y cc nL ret hh R Q QX pc L E σ cells slots := by
  intro l p e s m args below meth c C D dA ad0 σ0 K ad H locs ls rest q ce S hS hl hL hce hcv hcl
  have ht : c.exceptionTable.toList = [] := by rw [C.2.2.2.2.2.2.2.2.1, hh0]; rfl
  exact vx_out (E := E) (ce := ce) (fun x hx => by rw [ht] at hx; cases hx) C.2.2.2.2.1 hce hcv hcl (fun t ht hW => ⟨⟨ad, σ, hq, by rw [ht]; exact S⟩, hS.F ht⟩) hS.2.2 hc hs
end TN
end
section
abbrev xN : List String := ["java/lang/RuntimeException", "java/lang/Exception"]
/-- what a throw of E at the constant ic of y's class needs of the words -/
def TW (own : String) (ic : Nat) (E : String) : Prop := (∀ w ∈ vx_atS own ic E xN, w ∈ lw_tbl) ∧ (∀ w ∈ (vx_atS own ic E xN).filter (fun w => !goodWord w), w ∈ fcTab) ∧ (∀ w ∈ vx_atS own ic E xN, vx_ot w = true)
theorem tw_iae : TW RX6 45 "java/lang/IllegalArgumentException" := ⟨by decide +kernel, by decide +kernel, by decide +kernel⟩
theorem tw_ise : TW RX6 67 "java/lang/IllegalStateException" := ⟨by decide +kernel, by decide +kernel, by decide +kernel⟩
theorem tw_ioobe : TW RX6 134 "java/lang/IndexOutOfBoundsException" := ⟨by decide +kernel, by decide +kernel, by decide +kernel⟩
theorem z_throwS {y : MethodName} {cc : ByteArray} {nL : Nat} {ret : Option FieldType} {hh : List (Nat × Nat × Nat × Nat)} {R : Room} {Q : Option Value → Wd → Prop} {QX : String → Wd → Prop} {pc : Nat} {L : List (Option Value)} {st : List Value} {σ : Wd} {cells slots : Nat}
    {E text : String} {ik is ic : Nat} (hh0 : hh = []) (htw : TW y.cls ic E) (hk : Cond.classLink y.cls ik E ∈ WT) (hini : Cond.initialized E ∈ WT) (hs : (y.cls, is, text) ∈ strTab) (hfit : Bundle.fit E = true)
    (d0 : decode cc pc = .ok (.new ik, 3)) (d3 : decode cc (pc + 3) = .ok (.dup, 1)) (d4 : decode cc (pc + 4) = .ok (.ldc is, 2)) (d6 : decode cc (pc + 6) = .ok (.invokespecial ic, 3)) (d9 : decode cc (pc + 9) = .ok (.athrow, 1))
    (hfr : 5 < R.frames) (hlo : (st.map Value.category).sum + 82 ≤ R.locals) (hc : cells + 1 ≤ R.cells) (hsl : slots + 6 ≤ R.slots) (hq : QX E σ) : T y cc nL ret hh R Q QX pc L st σ cells slots := by
  intro l p e s m args below meth c C D dA ad0 σ0 K ad H locs ls S hS hl hL hst
  have hts := C.2.2.2.2.2.2.2.1
  obtain ⟨sa, hsa⟩ := K.2.2.2.1 _ hs
  have ht : c.exceptionTable.toList = [] := by rw [C.2.2.2.2.2.2.2.2.1, hh0]; rfl
  have e9 : (((st.map (vmv ad)).map fun v => v.category)).sum = (st.map Value.category).sum := by rw [List.map_map]; exact congrArg List.sum (List.map_congr_left fun v _ => vmv_cat ad v)
  have hat : ∀ w ∈ vx_atS y.cls ic E xN, w.before args s = true := vx_hat (B := fcTab) (fun w hw => hts w (WT_of (htw.1 w (List.mem_filter.mp hw).1) (List.mem_filter.mp hw).2)) htw.2.1 (fun w hw => va_Nw.use (fc_ok w hw).1 (K.2.2.2.2.2.1 w hw))
  have hgood : ∀ w ∈ Cond.classLink y.cls ik E :: Cond.initialized E :: vx_atS y.cls ic E xN, vx_ot w = true := by
    intro w hw
    rcases List.mem_cons.mp hw with rfl | hw
    · rfl
    · rcases List.mem_cons.mp hw with rfl | hw
      · rfl
      · exact htw.2.2 w hw
  refine vx_throwS C.1 C.2.1 C.2.2.2.2.2.2.2.2.2 C.2.2.2.2.2.2.1 hfit (by decide +kernel) (hts _ hk) (hts _ hini) hsa hat hgood K.2.2.2.2.2.2.1 K.2.2.2.2.2.2.2 hS (hl.1.trans C.2.2.1.symm) d0 d3 d4 d6 d9 (fun x hx => by rw [ht] at hx; cases hx) (by exact hfr) (by rw [e9]; exact hlo) hc hsl C.2.2.2.2.1 (fun t hW hz hq9 => ?_) hS.2.2 hc hsl
  have hR1 : Rp D dA ad σ t.heap := ⟨fun n d hd => (S.1.1 n d hd).kept (hq9 _ (S.1.1 n d hd).lt), S.1.2⟩
  exact ⟨⟨ad, σ, hq, hR1, S.2⟩, ⟨Nat.le_trans hS.1 hz, fun q h1 h2 => (hq9 q (Nat.lt_of_lt_of_le h1 hS.1)).trans (hS.2.1 q h1 h2)⟩⟩
theorem z_throwSW {y : MethodName} {cc : ByteArray} {nL : Nat} {ret : Option FieldType} {hh : List (Nat × Nat × Nat × Nat)} {R : Room} {Q : Option Value → Wd → Prop} {QX : String → Wd → Prop} {pc : Nat} {L : List (Option Value)} {st : List Value} {σ : Wd} {cells slots : Nat}
    {E text : String} {ik is ic : Nat} (hh0 : hh = []) (htw : TW y.cls ic E) (hk : Cond.classLink y.cls ik E ∈ WT) (hini : Cond.initialized E ∈ WT) (hs : (y.cls, is, text) ∈ strTab) (hfit : Bundle.fit E = true)
    (d0 : decode cc pc = .ok (.new ik, 3)) (d3 : decode cc (pc + 3) = .ok (.dup, 1)) (d4 : decode cc (pc + 4) = .ok (.ldc_w is, 3)) (d6 : decode cc (pc + 7) = .ok (.invokespecial ic, 3)) (d9 : decode cc (pc + 10) = .ok (.athrow, 1))
    (hfr : 5 < R.frames) (hlo : (st.map Value.category).sum + 82 ≤ R.locals) (hc : cells + 1 ≤ R.cells) (hsl : slots + 6 ≤ R.slots) (hq : QX E σ) : T y cc nL ret hh R Q QX pc L st σ cells slots := by
  intro l p e s m args below meth c C D dA ad0 σ0 K ad H locs ls S hS hl hL hst
  have hts := C.2.2.2.2.2.2.2.1
  obtain ⟨sa, hsa⟩ := K.2.2.2.1 _ hs
  have ht : c.exceptionTable.toList = [] := by rw [C.2.2.2.2.2.2.2.2.1, hh0]; rfl
  have e9 : (((st.map (vmv ad)).map fun v => v.category)).sum = (st.map Value.category).sum := by rw [List.map_map]; exact congrArg List.sum (List.map_congr_left fun v _ => vmv_cat ad v)
  have hat : ∀ w ∈ vx_atS y.cls ic E xN, w.before args s = true := vx_hat (B := fcTab) (fun w hw => hts w (WT_of (htw.1 w (List.mem_filter.mp hw).1) (List.mem_filter.mp hw).2)) htw.2.1 (fun w hw => va_Nw.use (fc_ok w hw).1 (K.2.2.2.2.2.1 w hw))
  have hgood : ∀ w ∈ Cond.classLink y.cls ik E :: Cond.initialized E :: vx_atS y.cls ic E xN, vx_ot w = true := by
    intro w hw
    rcases List.mem_cons.mp hw with rfl | hw
    · rfl
    · rcases List.mem_cons.mp hw with rfl | hw
      · rfl
      · exact htw.2.2 w hw
  refine vx_throwSW C.1 C.2.1 C.2.2.2.2.2.2.2.2.2 C.2.2.2.2.2.2.1 hfit (by decide +kernel) (hts _ hk) (hts _ hini) hsa hat hgood K.2.2.2.2.2.2.1 K.2.2.2.2.2.2.2 hS (hl.1.trans C.2.2.1.symm) d0 d3 d4 d6 d9 (fun x hx => by rw [ht] at hx; cases hx) (by exact hfr) (by rw [e9]; exact hlo) hc hsl C.2.2.2.2.1 (fun t hW hz hq9 => ?_) hS.2.2 hc hsl
  have hR1 : Rp D dA ad σ t.heap := ⟨fun n d hd => (S.1.1 n d hd).kept (hq9 _ (S.1.1 n d hd).lt), S.1.2⟩
  exact ⟨⟨ad, σ, hq, hR1, S.2⟩, ⟨Nat.le_trans hS.1 hz, fun q h1 h2 => (hq9 q (Nat.lt_of_lt_of_le h1 hS.1)).trans (hS.2.1 q h1 h2)⟩⟩
end
section
theorem dX0_init_0 : decode cX0_init 0 = .ok (.aload_n 0, 1) := by decide +kernel
theorem dX0_init_1 : decode cX0_init 1 = .ok (.invokespecial 3, 3) := by decide +kernel
theorem dX0_init_4 : decode cX0_init 4 = .ok (.aload_n 0, 1) := by decide +kernel
theorem dX0_init_5 : decode cX0_init 5 = .ok (.bipush 8, 2) := by decide +kernel
theorem dX0_init_7 : decode cX0_init 7 = .ok (.newarray .int, 2) := by decide +kernel
theorem dX0_init_9 : decode cX0_init 9 = .ok (.putfield 9, 3) := by decide +kernel
theorem dX0_init_12 : decode cX0_init 12 = .ok (.aload_n 0, 1) := by decide +kernel
theorem dX0_init_13 : decode cX0_init 13 = .ok (.sipush 256, 3) := by decide +kernel
theorem dX0_init_16 : decode cX0_init 16 = .ok (.newarray .int, 2) := by decide +kernel
theorem dX0_init_18 : decode cX0_init 18 = .ok (.putfield 17, 3) := by decide +kernel
theorem dX0_init_21 : decode cX0_init 21 = .ok (.aload_n 0, 1) := by decide +kernel
theorem dX0_init_22 : decode cX0_init 22 = .ok (.sipush 256, 3) := by decide +kernel
theorem dX0_init_25 : decode cX0_init 25 = .ok (.newarray .int, 2) := by decide +kernel
theorem dX0_init_27 : decode cX0_init 27 = .ok (.putfield 20, 3) := by decide +kernel
theorem dX0_init_30 : decode cX0_init 30 = .ok (.aload_n 0, 1) := by decide +kernel
theorem dX0_init_31 : decode cX0_init 31 = .ok (.sipush 257, 3) := by decide +kernel
theorem dX0_init_34 : decode cX0_init 34 = .ok (.newarray .int, 2) := by decide +kernel
theorem dX0_init_36 : decode cX0_init 36 = .ok (.putfield 23, 3) := by decide +kernel
theorem dX0_init_39 : decode cX0_init 39 = .ok (.return_, 1) := by decide +kernel
theorem dX0_become_0 : decode cX0_become 0 = .ok (.aload_n 0, 1) := by decide +kernel
theorem dX0_become_1 : decode cX0_become 1 = .ok (.iload_n 1, 1) := by decide +kernel
theorem dX0_become_2 : decode cX0_become 2 = .ok (.putfield 26, 3) := by decide +kernel
theorem dX0_become_5 : decode cX0_become 5 = .ok (.aload_n 0, 1) := by decide +kernel
theorem dX0_become_6 : decode cX0_become 6 = .ok (.iload_n 2, 1) := by decide +kernel
theorem dX0_become_7 : decode cX0_become 7 = .ok (.putfield 30, 3) := by decide +kernel
theorem dX0_become_10 : decode cX0_become 10 = .ok (.aload_n 0, 1) := by decide +kernel
theorem dX0_become_11 : decode cX0_become 11 = .ok (.iload_n 2, 1) := by decide +kernel
theorem dX0_become_12 : decode cX0_become 12 = .ok (.invokestatic 33, 3) := by decide +kernel
theorem dX0_become_15 : decode cX0_become 15 = .ok (.iconst 1, 1) := by decide +kernel
theorem dX0_become_16 : decode cX0_become 16 = .ok (.iadd, 1) := by decide +kernel
theorem dX0_become_17 : decode cX0_become 17 = .ok (.putfield 39, 3) := by decide +kernel
theorem dX0_become_20 : decode cX0_become 20 = .ok (.aload_n 0, 1) := by decide +kernel
theorem dX0_become_21 : decode cX0_become 21 = .ok (.iconst 0, 1) := by decide +kernel
theorem dX0_become_22 : decode cX0_become 22 = .ok (.putfield 42, 3) := by decide +kernel
theorem dX0_become_25 : decode cX0_become 25 = .ok (.iconst 0, 1) := by decide +kernel
theorem dX0_become_26 : decode cX0_become 26 = .ok (.istore 4, 2) := by decide +kernel
theorem dX0_become_28 : decode cX0_become 28 = .ok (.iload 4, 2) := by decide +kernel
theorem dX0_become_30 : decode cX0_become 30 = .ok (.bipush 8, 2) := by decide +kernel
theorem dX0_become_32 : decode cX0_become 32 = .ok (.if_icmp .ge 38, 3) := by decide +kernel
theorem dX0_become_35 : decode cX0_become 35 = .ok (.aload_n 0, 1) := by decide +kernel
theorem dX0_become_36 : decode cX0_become 36 = .ok (.getfield 9, 3) := by decide +kernel
theorem dX0_become_39 : decode cX0_become 39 = .ok (.iload 4, 2) := by decide +kernel
theorem dX0_become_41 : decode cX0_become 41 = .ok (.aload_n 3, 1) := by decide +kernel
theorem dX0_become_42 : decode cX0_become 42 = .ok (.iload 4, 2) := by decide +kernel
theorem dX0_become_44 : decode cX0_become 44 = .ok (.iaload, 1) := by decide +kernel
theorem dX0_become_45 : decode cX0_become 45 = .ok (.iastore, 1) := by decide +kernel
theorem dX0_become_46 : decode cX0_become 46 = .ok (.aload_n 0, 1) := by decide +kernel
theorem dX0_become_47 : decode cX0_become 47 = .ok (.aload_n 0, 1) := by decide +kernel
theorem dX0_become_48 : decode cX0_become 48 = .ok (.getfield 39, 3) := by decide +kernel
theorem dX0_become_51 : decode cX0_become 51 = .ok (.aload_n 3, 1) := by decide +kernel
theorem dX0_become_52 : decode cX0_become 52 = .ok (.iload 4, 2) := by decide +kernel
theorem dX0_become_54 : decode cX0_become 54 = .ok (.iaload, 1) := by decide +kernel
theorem dX0_become_55 : decode cX0_become 55 = .ok (.invokestatic 33, 3) := by decide +kernel
theorem dX0_become_58 : decode cX0_become 58 = .ok (.invokestatic 45, 3) := by decide +kernel
theorem dX0_become_61 : decode cX0_become 61 = .ok (.putfield 39, 3) := by decide +kernel
theorem dX0_become_64 : decode cX0_become 64 = .ok (.iinc 4 1, 3) := by decide +kernel
theorem dX0_become_67 : decode cX0_become 67 = .ok (.goto (-39), 3) := by decide +kernel
theorem dX0_become_70 : decode cX0_become 70 = .ok (.return_, 1) := by decide +kernel
theorem dX0_isTrueOf_0 : decode cX0_isTrueOf 0 = .ok (.iconst 0, 1) := by decide +kernel
theorem dX0_isTrueOf_1 : decode cX0_isTrueOf 1 = .ok (.istore_n 2, 1) := by decide +kernel
theorem dX0_isTrueOf_2 : decode cX0_isTrueOf 2 = .ok (.iconst 0, 1) := by decide +kernel
theorem dX0_isTrueOf_3 : decode cX0_isTrueOf 3 = .ok (.istore_n 3, 1) := by decide +kernel
theorem dX0_isTrueOf_4 : decode cX0_isTrueOf 4 = .ok (.iload_n 3, 1) := by decide +kernel
theorem dX0_isTrueOf_5 : decode cX0_isTrueOf 5 = .ok (.bipush 8, 2) := by decide +kernel
theorem dX0_isTrueOf_7 : decode cX0_isTrueOf 7 = .ok (.if_icmp .ge 22, 3) := by decide +kernel
theorem dX0_isTrueOf_10 : decode cX0_isTrueOf 10 = .ok (.iload_n 2, 1) := by decide +kernel
theorem dX0_isTrueOf_11 : decode cX0_isTrueOf 11 = .ok (.aload_n 0, 1) := by decide +kernel
theorem dX0_isTrueOf_12 : decode cX0_isTrueOf 12 = .ok (.getfield 9, 3) := by decide +kernel
theorem dX0_isTrueOf_15 : decode cX0_isTrueOf 15 = .ok (.iload_n 3, 1) := by decide +kernel
theorem dX0_isTrueOf_16 : decode cX0_isTrueOf 16 = .ok (.iaload, 1) := by decide +kernel
theorem dX0_isTrueOf_17 : decode cX0_isTrueOf 17 = .ok (.aload_n 1, 1) := by decide +kernel
theorem dX0_isTrueOf_18 : decode cX0_isTrueOf 18 = .ok (.iload_n 3, 1) := by decide +kernel
theorem dX0_isTrueOf_19 : decode cX0_isTrueOf 19 = .ok (.iaload, 1) := by decide +kernel
theorem dX0_isTrueOf_20 : decode cX0_isTrueOf 20 = .ok (.imul, 1) := by decide +kernel
theorem dX0_isTrueOf_21 : decode cX0_isTrueOf 21 = .ok (.iadd, 1) := by decide +kernel
theorem dX0_isTrueOf_22 : decode cX0_isTrueOf 22 = .ok (.istore_n 2, 1) := by decide +kernel
theorem dX0_isTrueOf_23 : decode cX0_isTrueOf 23 = .ok (.iinc 3 1, 3) := by decide +kernel
theorem dX0_isTrueOf_26 : decode cX0_isTrueOf 26 = .ok (.goto (-22), 3) := by decide +kernel
theorem dX0_isTrueOf_29 : decode cX0_isTrueOf 29 = .ok (.aload_n 0, 1) := by decide +kernel
theorem dX0_isTrueOf_30 : decode cX0_isTrueOf 30 = .ok (.aload_n 0, 1) := by decide +kernel
theorem dX0_isTrueOf_31 : decode cX0_isTrueOf 31 = .ok (.iload_n 2, 1) := by decide +kernel
theorem dX0_isTrueOf_32 : decode cX0_isTrueOf 32 = .ok (.invokevirtual 49, 3) := by decide +kernel
theorem dX0_isTrueOf_35 : decode cX0_isTrueOf 35 = .ok (.invokevirtual 52, 3) := by decide +kernel
theorem dX0_isTrueOf_38 : decode cX0_isTrueOf 38 = .ok (.ireturn, 1) := by decide +kernel
theorem dX0_beginning_0 : decode cX0_beginning 0 = .ok (.aload_n 0, 1) := by decide +kernel
theorem dX0_beginning_1 : decode cX0_beginning 1 = .ok (.aload_n 0, 1) := by decide +kernel
theorem dX0_beginning_2 : decode cX0_beginning 2 = .ok (.getfield 9, 3) := by decide +kernel
theorem dX0_beginning_5 : decode cX0_beginning 5 = .ok (.iload_n 1, 1) := by decide +kernel
theorem dX0_beginning_6 : decode cX0_beginning 6 = .ok (.iaload, 1) := by decide +kernel
theorem dX0_beginning_7 : decode cX0_beginning 7 = .ok (.invokevirtual 49, 3) := by decide +kernel
theorem dX0_beginning_10 : decode cX0_beginning 10 = .ok (.istore_n 2, 1) := by decide +kernel
theorem dX0_beginning_11 : decode cX0_beginning 11 = .ok (.iconst 1, 1) := by decide +kernel
theorem dX0_beginning_12 : decode cX0_beginning 12 = .ok (.iload_n 2, 1) := by decide +kernel
theorem dX0_beginning_13 : decode cX0_beginning 13 = .ok (.aload_n 0, 1) := by decide +kernel
theorem dX0_beginning_14 : decode cX0_beginning 14 = .ok (.iload_n 2, 1) := by decide +kernel
theorem dX0_beginning_15 : decode cX0_beginning 15 = .ok (.invokevirtual 52, 3) := by decide +kernel
theorem dX0_beginning_18 : decode cX0_beginning 18 = .ok (.invokestatic 56, 3) := by decide +kernel
theorem dX0_beginning_21 : decode cX0_beginning 21 = .ok (.ireturn, 1) := by decide +kernel
theorem dX0_afterMeeting_0 : decode cX0_afterMeeting 0 = .ok (.iload_n 1, 1) := by decide +kernel
theorem dX0_afterMeeting_1 : decode cX0_afterMeeting 1 = .ok (.invokestatic 60, 3) := by decide +kernel
theorem dX0_afterMeeting_4 : decode cX0_afterMeeting 4 = .ok (.istore_n 3, 1) := by decide +kernel
theorem dX0_afterMeeting_5 : decode cX0_afterMeeting 5 = .ok (.iload_n 3, 1) := by decide +kernel
theorem dX0_afterMeeting_6 : decode cX0_afterMeeting 6 = .ok (.ifCond .ne 16, 3) := by decide +kernel
theorem dX0_afterMeeting_9 : decode cX0_afterMeeting 9 = .ok (.iload_n 2, 1) := by decide +kernel
theorem dX0_afterMeeting_10 : decode cX0_afterMeeting 10 = .ok (.invokestatic 60, 3) := by decide +kernel
theorem dX0_afterMeeting_13 : decode cX0_afterMeeting 13 = .ok (.ifCond .ne 9, 3) := by decide +kernel
theorem dX0_afterMeeting_16 : decode cX0_afterMeeting 16 = .ok (.iload_n 1, 1) := by decide +kernel
theorem dX0_afterMeeting_17 : decode cX0_afterMeeting 17 = .ok (.iload_n 2, 1) := by decide +kernel
theorem dX0_afterMeeting_18 : decode cX0_afterMeeting 18 = .ok (.invokestatic 63, 3) := by decide +kernel
theorem dX0_afterMeeting_21 : decode cX0_afterMeeting 21 = .ok (.ireturn, 1) := by decide +kernel
theorem dX0_afterMeeting_22 : decode cX0_afterMeeting 22 = .ok (.iload_n 1, 1) := by decide +kernel
theorem dX0_afterMeeting_23 : decode cX0_afterMeeting 23 = .ok (.invokestatic 66, 3) := by decide +kernel
theorem dX0_afterMeeting_26 : decode cX0_afterMeeting 26 = .ok (.iload_n 2, 1) := by decide +kernel
theorem dX0_afterMeeting_27 : decode cX0_afterMeeting 27 = .ok (.invokestatic 66, 3) := by decide +kernel
theorem dX0_afterMeeting_30 : decode cX0_afterMeeting 30 = .ok (.iadd, 1) := by decide +kernel
theorem dX0_afterMeeting_31 : decode cX0_afterMeeting 31 = .ok (.istore 4, 2) := by decide +kernel
theorem dX0_afterMeeting_33 : decode cX0_afterMeeting 33 = .ok (.aload_n 0, 1) := by decide +kernel
theorem dX0_afterMeeting_34 : decode cX0_afterMeeting 34 = .ok (.getfield 26, 3) := by decide +kernel
theorem dX0_afterMeeting_37 : decode cX0_afterMeeting 37 = .ok (.ifCond .le 12, 3) := by decide +kernel
theorem dX0_afterMeeting_40 : decode cX0_afterMeeting 40 = .ok (.aload_n 0, 1) := by decide +kernel
theorem dX0_afterMeeting_41 : decode cX0_afterMeeting 41 = .ok (.iload 4, 2) := by decide +kernel
theorem dX0_afterMeeting_43 : decode cX0_afterMeeting 43 = .ok (.invokevirtual 49, 3) := by decide +kernel
theorem dX0_afterMeeting_46 : decode cX0_afterMeeting 46 = .ok (.goto 20, 3) := by decide +kernel
theorem dX0_afterMeeting_49 : decode cX0_afterMeeting 49 = .ok (.aload_n 0, 1) := by decide +kernel
theorem dX0_afterMeeting_50 : decode cX0_afterMeeting 50 = .ok (.getfield 39, 3) := by decide +kernel
theorem dX0_afterMeeting_53 : decode cX0_afterMeeting 53 = .ok (.ineg, 1) := by decide +kernel
theorem dX0_afterMeeting_54 : decode cX0_afterMeeting 54 = .ok (.aload_n 0, 1) := by decide +kernel
theorem dX0_afterMeeting_55 : decode cX0_afterMeeting 55 = .ok (.getfield 39, 3) := by decide +kernel
theorem dX0_afterMeeting_58 : decode cX0_afterMeeting 58 = .ok (.iload 4, 2) := by decide +kernel
theorem dX0_afterMeeting_60 : decode cX0_afterMeeting 60 = .ok (.invokestatic 69, 3) := by decide +kernel
theorem dX0_afterMeeting_63 : decode cX0_afterMeeting 63 = .ok (.invokestatic 45, 3) := by decide +kernel
theorem dX0_afterMeeting_66 : decode cX0_afterMeeting 66 = .ok (.istore 5, 2) := by decide +kernel
theorem dX0_afterMeeting_68 : decode cX0_afterMeeting 68 = .ok (.aload_n 0, 1) := by decide +kernel
theorem dX0_afterMeeting_69 : decode cX0_afterMeeting 69 = .ok (.getfield 26, 3) := by decide +kernel
theorem dX0_afterMeeting_72 : decode cX0_afterMeeting 72 = .ok (.ifCond .le 7, 3) := by decide +kernel
theorem dX0_afterMeeting_75 : decode cX0_afterMeeting 75 = .ok (.iconst 0, 1) := by decide +kernel
theorem dX0_afterMeeting_76 : decode cX0_afterMeeting 76 = .ok (.goto 8, 3) := by decide +kernel
theorem dX0_afterMeeting_79 : decode cX0_afterMeeting 79 = .ok (.iload 4, 2) := by decide +kernel
theorem dX0_afterMeeting_81 : decode cX0_afterMeeting 81 = .ok (.iload 5, 2) := by decide +kernel
theorem dX0_afterMeeting_83 : decode cX0_afterMeeting 83 = .ok (.isub, 1) := by decide +kernel
theorem dX0_afterMeeting_84 : decode cX0_afterMeeting 84 = .ok (.istore 6, 2) := by decide +kernel
theorem dX0_afterMeeting_86 : decode cX0_afterMeeting 86 = .ok (.aload_n 0, 1) := by decide +kernel
theorem dX0_afterMeeting_87 : decode cX0_afterMeeting 87 = .ok (.iload 5, 2) := by decide +kernel
theorem dX0_afterMeeting_89 : decode cX0_afterMeeting 89 = .ok (.invokevirtual 52, 3) := by decide +kernel
theorem dX0_afterMeeting_92 : decode cX0_afterMeeting 92 = .ok (.istore 7, 2) := by decide +kernel
theorem dX0_afterMeeting_94 : decode cX0_afterMeeting 94 = .ok (.iconst 1, 1) := by decide +kernel
theorem dX0_afterMeeting_95 : decode cX0_afterMeeting 95 = .ok (.iload 5, 2) := by decide +kernel
theorem dX0_afterMeeting_97 : decode cX0_afterMeeting 97 = .ok (.iload 7, 2) := by decide +kernel
theorem dX0_afterMeeting_99 : decode cX0_afterMeeting 99 = .ok (.invokestatic 56, 3) := by decide +kernel
theorem dX0_afterMeeting_102 : decode cX0_afterMeeting 102 = .ok (.istore 8, 2) := by decide +kernel
theorem dX0_afterMeeting_104 : decode cX0_afterMeeting 104 = .ok (.iconst 0, 1) := by decide +kernel
theorem dX0_afterMeeting_105 : decode cX0_afterMeeting 105 = .ok (.iload 6, 2) := by decide +kernel
theorem dX0_afterMeeting_107 : decode cX0_afterMeeting 107 = .ok (.iload 7, 2) := by decide +kernel
theorem dX0_afterMeeting_109 : decode cX0_afterMeeting 109 = .ok (.invokestatic 56, 3) := by decide +kernel
theorem dX0_afterMeeting_112 : decode cX0_afterMeeting 112 = .ok (.istore 9, 2) := by decide +kernel
theorem dX0_afterMeeting_114 : decode cX0_afterMeeting 114 = .ok (.iload_n 3, 1) := by decide +kernel
theorem dX0_afterMeeting_115 : decode cX0_afterMeeting 115 = .ok (.ifCond .eq 13, 3) := by decide +kernel
theorem dX0_afterMeeting_118 : decode cX0_afterMeeting 118 = .ok (.iload 8, 2) := by decide +kernel
theorem dX0_afterMeeting_120 : decode cX0_afterMeeting 120 = .ok (.iload 9, 2) := by decide +kernel
theorem dX0_afterMeeting_122 : decode cX0_afterMeeting 122 = .ok (.invokestatic 63, 3) := by decide +kernel
theorem dX0_afterMeeting_125 : decode cX0_afterMeeting 125 = .ok (.goto 10, 3) := by decide +kernel
theorem dX0_afterMeeting_128 : decode cX0_afterMeeting 128 = .ok (.iload 9, 2) := by decide +kernel
theorem dX0_afterMeeting_130 : decode cX0_afterMeeting 130 = .ok (.iload 8, 2) := by decide +kernel
theorem dX0_afterMeeting_132 : decode cX0_afterMeeting 132 = .ok (.invokestatic 63, 3) := by decide +kernel
theorem dX0_afterMeeting_135 : decode cX0_afterMeeting 135 = .ok (.ireturn, 1) := by decide +kernel
theorem dX0_reduce_0 : decode cX0_reduce 0 = .ok (.aload_n 0, 1) := by decide +kernel
theorem dX0_reduce_1 : decode cX0_reduce 1 = .ok (.getfield 26, 3) := by decide +kernel
theorem dX0_reduce_4 : decode cX0_reduce 4 = .ok (.ifCond .le 14, 3) := by decide +kernel
theorem dX0_reduce_7 : decode cX0_reduce 7 = .ok (.iload_n 1, 1) := by decide +kernel
theorem dX0_reduce_8 : decode cX0_reduce 8 = .ok (.aload_n 0, 1) := by decide +kernel
theorem dX0_reduce_9 : decode cX0_reduce 9 = .ok (.getfield 26, 3) := by decide +kernel
theorem dX0_reduce_12 : decode cX0_reduce 12 = .ok (.invokestatic 72, 3) := by decide +kernel
theorem dX0_reduce_15 : decode cX0_reduce 15 = .ok (.goto 4, 3) := by decide +kernel
theorem dX0_reduce_18 : decode cX0_reduce 18 = .ok (.iload_n 1, 1) := by decide +kernel
theorem dX0_reduce_19 : decode cX0_reduce 19 = .ok (.ireturn, 1) := by decide +kernel
theorem dX0_opinionOf_0 : decode cX0_opinionOf 0 = .ok (.aload_n 0, 1) := by decide +kernel
theorem dX0_opinionOf_1 : decode cX0_opinionOf 1 = .ok (.getfield 26, 3) := by decide +kernel
theorem dX0_opinionOf_4 : decode cX0_opinionOf 4 = .ok (.ifCond .le 19, 3) := by decide +kernel
theorem dX0_opinionOf_7 : decode cX0_opinionOf 7 = .ok (.iload_n 1, 1) := by decide +kernel
theorem dX0_opinionOf_8 : decode cX0_opinionOf 8 = .ok (.aload_n 0, 1) := by decide +kernel
theorem dX0_opinionOf_9 : decode cX0_opinionOf 9 = .ok (.getfield 30, 3) := by decide +kernel
theorem dX0_opinionOf_12 : decode cX0_opinionOf 12 = .ok (.if_icmp .ne 7, 3) := by decide +kernel
theorem dX0_opinionOf_15 : decode cX0_opinionOf 15 = .ok (.iconst 1, 1) := by decide +kernel
theorem dX0_opinionOf_16 : decode cX0_opinionOf 16 = .ok (.goto 20, 3) := by decide +kernel
theorem dX0_opinionOf_19 : decode cX0_opinionOf 19 = .ok (.iconst 0, 1) := by decide +kernel
theorem dX0_opinionOf_20 : decode cX0_opinionOf 20 = .ok (.goto 16, 3) := by decide +kernel
theorem dX0_opinionOf_23 : decode cX0_opinionOf 23 = .ok (.iload_n 1, 1) := by decide +kernel
theorem dX0_opinionOf_24 : decode cX0_opinionOf 24 = .ok (.aload_n 0, 1) := by decide +kernel
theorem dX0_opinionOf_25 : decode cX0_opinionOf 25 = .ok (.getfield 30, 3) := by decide +kernel
theorem dX0_opinionOf_28 : decode cX0_opinionOf 28 = .ok (.if_icmp .lt 7, 3) := by decide +kernel
theorem dX0_opinionOf_31 : decode cX0_opinionOf 31 = .ok (.iconst 1, 1) := by decide +kernel
theorem dX0_opinionOf_32 : decode cX0_opinionOf 32 = .ok (.goto 4, 3) := by decide +kernel
theorem dX0_opinionOf_35 : decode cX0_opinionOf 35 = .ok (.iconst 0, 1) := by decide +kernel
theorem dX0_opinionOf_36 : decode cX0_opinionOf 36 = .ok (.ireturn, 1) := by decide +kernel
theorem dX0_makeTable_0 : decode cX0_makeTable 0 = .ok (.aload_n 0, 1) := by decide +kernel
theorem dX0_makeTable_1 : decode cX0_makeTable 1 = .ok (.invokevirtual 75, 3) := by decide +kernel
theorem dX0_makeTable_4 : decode cX0_makeTable 4 = .ok (.aload_n 0, 1) := by decide +kernel
theorem dX0_makeTable_5 : decode cX0_makeTable 5 = .ok (.invokevirtual 78, 3) := by decide +kernel
theorem dX0_makeTable_8 : decode cX0_makeTable 8 = .ok (.aload_n 0, 1) := by decide +kernel
theorem dX0_makeTable_9 : decode cX0_makeTable 9 = .ok (.invokevirtual 81, 3) := by decide +kernel
theorem dX0_makeTable_12 : decode cX0_makeTable 12 = .ok (.return_, 1) := by decide +kernel
theorem dX0_findStates_0 : decode cX0_findStates 0 = .ok (.aload_n 0, 1) := by decide +kernel
theorem dX0_findStates_1 : decode cX0_findStates 1 = .ok (.getfield 20, 3) := by decide +kernel
theorem dX0_findStates_4 : decode cX0_findStates 4 = .ok (.iconst (-1), 1) := by decide +kernel
theorem dX0_findStates_5 : decode cX0_findStates 5 = .ok (.invokestatic 84, 3) := by decide +kernel
theorem dX0_findStates_8 : decode cX0_findStates 8 = .ok (.aload_n 0, 1) := by decide +kernel
theorem dX0_findStates_9 : decode cX0_findStates 9 = .ok (.iconst 0, 1) := by decide +kernel
theorem dX0_findStates_10 : decode cX0_findStates 10 = .ok (.putfield 42, 3) := by decide +kernel
theorem dX0_findStates_13 : decode cX0_findStates 13 = .ok (.iconst 0, 1) := by decide +kernel
theorem dX0_findStates_14 : decode cX0_findStates 14 = .ok (.istore_n 1, 1) := by decide +kernel
theorem dX0_findStates_15 : decode cX0_findStates 15 = .ok (.iload_n 1, 1) := by decide +kernel
theorem dX0_findStates_16 : decode cX0_findStates 16 = .ok (.bipush 8, 2) := by decide +kernel
theorem dX0_findStates_18 : decode cX0_findStates 18 = .ok (.if_icmp .ge 18, 3) := by decide +kernel
theorem dX0_findStates_21 : decode cX0_findStates 21 = .ok (.aload_n 0, 1) := by decide +kernel
theorem dX0_findStates_22 : decode cX0_findStates 22 = .ok (.aload_n 0, 1) := by decide +kernel
theorem dX0_findStates_23 : decode cX0_findStates 23 = .ok (.iload_n 1, 1) := by decide +kernel
theorem dX0_findStates_24 : decode cX0_findStates 24 = .ok (.invokevirtual 90, 3) := by decide +kernel
theorem dX0_findStates_27 : decode cX0_findStates 27 = .ok (.invokevirtual 93, 3) := by decide +kernel
theorem dX0_findStates_30 : decode cX0_findStates 30 = .ok (.iinc 1 1, 3) := by decide +kernel
theorem dX0_findStates_33 : decode cX0_findStates 33 = .ok (.goto (-18), 3) := by decide +kernel
theorem dX0_findStates_36 : decode cX0_findStates 36 = .ok (.iconst 0, 1) := by decide +kernel
theorem dX0_findStates_37 : decode cX0_findStates 37 = .ok (.istore_n 1, 1) := by decide +kernel
theorem dX0_findStates_38 : decode cX0_findStates 38 = .ok (.iload_n 1, 1) := by decide +kernel
theorem dX0_findStates_39 : decode cX0_findStates 39 = .ok (.aload_n 0, 1) := by decide +kernel
theorem dX0_findStates_40 : decode cX0_findStates 40 = .ok (.getfield 42, 3) := by decide +kernel
theorem dX0_findStates_43 : decode cX0_findStates 43 = .ok (.if_icmp .ge 69, 3) := by decide +kernel
theorem dX0_findStates_46 : decode cX0_findStates 46 = .ok (.iload_n 1, 1) := by decide +kernel
theorem dX0_findStates_47 : decode cX0_findStates 47 = .ok (.sipush 256, 3) := by decide +kernel
theorem dX0_findStates_50 : decode cX0_findStates 50 = .ok (.if_icmp .ge 62, 3) := by decide +kernel
theorem dX0_findStates_53 : decode cX0_findStates 53 = .ok (.iconst 0, 1) := by decide +kernel
theorem dX0_findStates_54 : decode cX0_findStates 54 = .ok (.istore_n 2, 1) := by decide +kernel
theorem dX0_findStates_55 : decode cX0_findStates 55 = .ok (.iload_n 2, 1) := by decide +kernel
theorem dX0_findStates_56 : decode cX0_findStates 56 = .ok (.iload_n 1, 1) := by decide +kernel
theorem dX0_findStates_57 : decode cX0_findStates 57 = .ok (.if_icmp .gt 49, 3) := by decide +kernel
theorem dX0_findStates_60 : decode cX0_findStates 60 = .ok (.aload_n 0, 1) := by decide +kernel
theorem dX0_findStates_61 : decode cX0_findStates 61 = .ok (.aload_n 0, 1) := by decide +kernel
theorem dX0_findStates_62 : decode cX0_findStates 62 = .ok (.aload_n 0, 1) := by decide +kernel
theorem dX0_findStates_63 : decode cX0_findStates 63 = .ok (.getfield 17, 3) := by decide +kernel
theorem dX0_findStates_66 : decode cX0_findStates 66 = .ok (.iload_n 1, 1) := by decide +kernel
theorem dX0_findStates_67 : decode cX0_findStates 67 = .ok (.iaload, 1) := by decide +kernel
theorem dX0_findStates_68 : decode cX0_findStates 68 = .ok (.aload_n 0, 1) := by decide +kernel
theorem dX0_findStates_69 : decode cX0_findStates 69 = .ok (.getfield 17, 3) := by decide +kernel
theorem dX0_findStates_72 : decode cX0_findStates 72 = .ok (.iload_n 2, 1) := by decide +kernel
theorem dX0_findStates_73 : decode cX0_findStates 73 = .ok (.iaload, 1) := by decide +kernel
theorem dX0_findStates_74 : decode cX0_findStates 74 = .ok (.invokevirtual 97, 3) := by decide +kernel
theorem dX0_findStates_77 : decode cX0_findStates 77 = .ok (.invokevirtual 100, 3) := by decide +kernel
theorem dX0_findStates_80 : decode cX0_findStates 80 = .ok (.aload_n 0, 1) := by decide +kernel
theorem dX0_findStates_81 : decode cX0_findStates 81 = .ok (.aload_n 0, 1) := by decide +kernel
theorem dX0_findStates_82 : decode cX0_findStates 82 = .ok (.aload_n 0, 1) := by decide +kernel
theorem dX0_findStates_83 : decode cX0_findStates 83 = .ok (.getfield 17, 3) := by decide +kernel
theorem dX0_findStates_86 : decode cX0_findStates 86 = .ok (.iload_n 2, 1) := by decide +kernel
theorem dX0_findStates_87 : decode cX0_findStates 87 = .ok (.iaload, 1) := by decide +kernel
theorem dX0_findStates_88 : decode cX0_findStates 88 = .ok (.aload_n 0, 1) := by decide +kernel
theorem dX0_findStates_89 : decode cX0_findStates 89 = .ok (.getfield 17, 3) := by decide +kernel
theorem dX0_findStates_92 : decode cX0_findStates 92 = .ok (.iload_n 1, 1) := by decide +kernel
theorem dX0_findStates_93 : decode cX0_findStates 93 = .ok (.iaload, 1) := by decide +kernel
theorem dX0_findStates_94 : decode cX0_findStates 94 = .ok (.invokevirtual 97, 3) := by decide +kernel
theorem dX0_findStates_97 : decode cX0_findStates 97 = .ok (.invokevirtual 100, 3) := by decide +kernel
theorem dX0_findStates_100 : decode cX0_findStates 100 = .ok (.iinc 2 1, 3) := by decide +kernel
theorem dX0_findStates_103 : decode cX0_findStates 103 = .ok (.goto (-48), 3) := by decide +kernel
theorem dX0_findStates_106 : decode cX0_findStates 106 = .ok (.iinc 1 1, 3) := by decide +kernel
theorem dX0_findStates_109 : decode cX0_findStates 109 = .ok (.goto (-71), 3) := by decide +kernel
theorem dX0_findStates_112 : decode cX0_findStates 112 = .ok (.return_, 1) := by decide +kernel
theorem dX0_learnBoth_0 : decode cX0_learnBoth 0 = .ok (.aload_n 0, 1) := by decide +kernel
theorem dX0_learnBoth_1 : decode cX0_learnBoth 1 = .ok (.iload_n 1, 1) := by decide +kernel
theorem dX0_learnBoth_2 : decode cX0_learnBoth 2 = .ok (.invokestatic 103, 3) := by decide +kernel
theorem dX0_learnBoth_5 : decode cX0_learnBoth 5 = .ok (.invokevirtual 93, 3) := by decide +kernel
theorem dX0_learnBoth_8 : decode cX0_learnBoth 8 = .ok (.aload_n 0, 1) := by decide +kernel
theorem dX0_learnBoth_9 : decode cX0_learnBoth 9 = .ok (.iload_n 1, 1) := by decide +kernel
theorem dX0_learnBoth_10 : decode cX0_learnBoth 10 = .ok (.invokestatic 106, 3) := by decide +kernel
theorem dX0_learnBoth_13 : decode cX0_learnBoth 13 = .ok (.invokevirtual 93, 3) := by decide +kernel
theorem dX0_learnBoth_16 : decode cX0_learnBoth 16 = .ok (.return_, 1) := by decide +kernel
theorem dX0_learn_0 : decode cX0_learn 0 = .ok (.aload_n 0, 1) := by decide +kernel
theorem dX0_learn_1 : decode cX0_learn 1 = .ok (.getfield 20, 3) := by decide +kernel
theorem dX0_learn_4 : decode cX0_learn 4 = .ok (.iload_n 1, 1) := by decide +kernel
theorem dX0_learn_5 : decode cX0_learn 5 = .ok (.iaload, 1) := by decide +kernel
theorem dX0_learn_6 : decode cX0_learn 6 = .ok (.iconst (-1), 1) := by decide +kernel
theorem dX0_learn_7 : decode cX0_learn 7 = .ok (.if_icmp .ne 33, 3) := by decide +kernel
theorem dX0_learn_10 : decode cX0_learn 10 = .ok (.aload_n 0, 1) := by decide +kernel
theorem dX0_learn_11 : decode cX0_learn 11 = .ok (.getfield 20, 3) := by decide +kernel
theorem dX0_learn_14 : decode cX0_learn 14 = .ok (.iload_n 1, 1) := by decide +kernel
theorem dX0_learn_15 : decode cX0_learn 15 = .ok (.aload_n 0, 1) := by decide +kernel
theorem dX0_learn_16 : decode cX0_learn 16 = .ok (.getfield 42, 3) := by decide +kernel
theorem dX0_learn_19 : decode cX0_learn 19 = .ok (.iastore, 1) := by decide +kernel
theorem dX0_learn_20 : decode cX0_learn 20 = .ok (.aload_n 0, 1) := by decide +kernel
theorem dX0_learn_21 : decode cX0_learn 21 = .ok (.getfield 17, 3) := by decide +kernel
theorem dX0_learn_24 : decode cX0_learn 24 = .ok (.aload_n 0, 1) := by decide +kernel
theorem dX0_learn_25 : decode cX0_learn 25 = .ok (.getfield 42, 3) := by decide +kernel
theorem dX0_learn_28 : decode cX0_learn 28 = .ok (.iload_n 1, 1) := by decide +kernel
theorem dX0_learn_29 : decode cX0_learn 29 = .ok (.iastore, 1) := by decide +kernel
theorem dX0_learn_30 : decode cX0_learn 30 = .ok (.aload_n 0, 1) := by decide +kernel
theorem dX0_learn_31 : decode cX0_learn 31 = .ok (.dup, 1) := by decide +kernel
theorem dX0_learn_32 : decode cX0_learn 32 = .ok (.getfield 42, 3) := by decide +kernel
theorem dX0_learn_35 : decode cX0_learn 35 = .ok (.iconst 1, 1) := by decide +kernel
theorem dX0_learn_36 : decode cX0_learn 36 = .ok (.iadd, 1) := by decide +kernel
theorem dX0_learn_37 : decode cX0_learn 37 = .ok (.putfield 42, 3) := by decide +kernel
theorem dX0_learn_40 : decode cX0_learn 40 = .ok (.return_, 1) := by decide +kernel
theorem dX0_numberStates_0 : decode cX0_numberStates 0 = .ok (.iconst 0, 1) := by decide +kernel
theorem dX0_numberStates_1 : decode cX0_numberStates 1 = .ok (.istore_n 1, 1) := by decide +kernel
theorem dX0_numberStates_2 : decode cX0_numberStates 2 = .ok (.iconst 0, 1) := by decide +kernel
theorem dX0_numberStates_3 : decode cX0_numberStates 3 = .ok (.istore_n 2, 1) := by decide +kernel
theorem dX0_numberStates_4 : decode cX0_numberStates 4 = .ok (.iload_n 2, 1) := by decide +kernel
theorem dX0_numberStates_5 : decode cX0_numberStates 5 = .ok (.sipush 256, 3) := by decide +kernel
theorem dX0_numberStates_8 : decode cX0_numberStates 8 = .ok (.if_icmp .ge 36, 3) := by decide +kernel
theorem dX0_numberStates_11 : decode cX0_numberStates 11 = .ok (.aload_n 0, 1) := by decide +kernel
theorem dX0_numberStates_12 : decode cX0_numberStates 12 = .ok (.getfield 20, 3) := by decide +kernel
theorem dX0_numberStates_15 : decode cX0_numberStates 15 = .ok (.iload_n 2, 1) := by decide +kernel
theorem dX0_numberStates_16 : decode cX0_numberStates 16 = .ok (.iaload, 1) := by decide +kernel
theorem dX0_numberStates_17 : decode cX0_numberStates 17 = .ok (.iconst (-1), 1) := by decide +kernel
theorem dX0_numberStates_18 : decode cX0_numberStates 18 = .ok (.if_icmp .eq 20, 3) := by decide +kernel
theorem dX0_numberStates_21 : decode cX0_numberStates 21 = .ok (.aload_n 0, 1) := by decide +kernel
theorem dX0_numberStates_22 : decode cX0_numberStates 22 = .ok (.getfield 20, 3) := by decide +kernel
theorem dX0_numberStates_25 : decode cX0_numberStates 25 = .ok (.iload_n 2, 1) := by decide +kernel
theorem dX0_numberStates_26 : decode cX0_numberStates 26 = .ok (.iload_n 1, 1) := by decide +kernel
theorem dX0_numberStates_27 : decode cX0_numberStates 27 = .ok (.iastore, 1) := by decide +kernel
theorem dX0_numberStates_28 : decode cX0_numberStates 28 = .ok (.aload_n 0, 1) := by decide +kernel
theorem dX0_numberStates_29 : decode cX0_numberStates 29 = .ok (.getfield 17, 3) := by decide +kernel
theorem dX0_numberStates_32 : decode cX0_numberStates 32 = .ok (.iload_n 1, 1) := by decide +kernel
theorem dX0_numberStates_33 : decode cX0_numberStates 33 = .ok (.iload_n 2, 1) := by decide +kernel
theorem dX0_numberStates_34 : decode cX0_numberStates 34 = .ok (.iastore, 1) := by decide +kernel
theorem dX0_numberStates_35 : decode cX0_numberStates 35 = .ok (.iinc 1 1, 3) := by decide +kernel
theorem dX0_numberStates_38 : decode cX0_numberStates 38 = .ok (.iinc 2 1, 3) := by decide +kernel
theorem dX0_numberStates_41 : decode cX0_numberStates 41 = .ok (.goto (-37), 3) := by decide +kernel
theorem dX0_numberStates_44 : decode cX0_numberStates 44 = .ok (.return_, 1) := by decide +kernel
theorem dX0_countRules_0 : decode cX0_countRules 0 = .ok (.aload_n 0, 1) := by decide +kernel
theorem dX0_countRules_1 : decode cX0_countRules 1 = .ok (.getfield 23, 3) := by decide +kernel
theorem dX0_countRules_4 : decode cX0_countRules 4 = .ok (.iconst 0, 1) := by decide +kernel
theorem dX0_countRules_5 : decode cX0_countRules 5 = .ok (.iconst 0, 1) := by decide +kernel
theorem dX0_countRules_6 : decode cX0_countRules 6 = .ok (.iastore, 1) := by decide +kernel
theorem dX0_countRules_7 : decode cX0_countRules 7 = .ok (.iconst 0, 1) := by decide +kernel
theorem dX0_countRules_8 : decode cX0_countRules 8 = .ok (.istore_n 1, 1) := by decide +kernel
theorem dX0_countRules_9 : decode cX0_countRules 9 = .ok (.iload_n 1, 1) := by decide +kernel
theorem dX0_countRules_10 : decode cX0_countRules 10 = .ok (.aload_n 0, 1) := by decide +kernel
theorem dX0_countRules_11 : decode cX0_countRules 11 = .ok (.getfield 42, 3) := by decide +kernel
theorem dX0_countRules_14 : decode cX0_countRules 14 = .ok (.if_icmp .ge 55, 3) := by decide +kernel
theorem dX0_countRules_17 : decode cX0_countRules 17 = .ok (.iconst 0, 1) := by decide +kernel
theorem dX0_countRules_18 : decode cX0_countRules 18 = .ok (.istore_n 2, 1) := by decide +kernel
theorem dX0_countRules_19 : decode cX0_countRules 19 = .ok (.iconst 0, 1) := by decide +kernel
theorem dX0_countRules_20 : decode cX0_countRules 20 = .ok (.istore_n 3, 1) := by decide +kernel
theorem dX0_countRules_21 : decode cX0_countRules 21 = .ok (.iload_n 3, 1) := by decide +kernel
theorem dX0_countRules_22 : decode cX0_countRules 22 = .ok (.aload_n 0, 1) := by decide +kernel
theorem dX0_countRules_23 : decode cX0_countRules 23 = .ok (.getfield 42, 3) := by decide +kernel
theorem dX0_countRules_26 : decode cX0_countRules 26 = .ok (.if_icmp .ge 21, 3) := by decide +kernel
theorem dX0_countRules_29 : decode cX0_countRules 29 = .ok (.aload_n 0, 1) := by decide +kernel
theorem dX0_countRules_30 : decode cX0_countRules 30 = .ok (.iload_n 1, 1) := by decide +kernel
theorem dX0_countRules_31 : decode cX0_countRules 31 = .ok (.iload_n 3, 1) := by decide +kernel
theorem dX0_countRules_32 : decode cX0_countRules 32 = .ok (.invokevirtual 109, 3) := by decide +kernel
theorem dX0_countRules_35 : decode cX0_countRules 35 = .ok (.ifCond .eq 6, 3) := by decide +kernel
theorem dX0_countRules_38 : decode cX0_countRules 38 = .ok (.iinc 2 1, 3) := by decide +kernel
theorem dX0_countRules_41 : decode cX0_countRules 41 = .ok (.iinc 3 1, 3) := by decide +kernel
theorem dX0_countRules_44 : decode cX0_countRules 44 = .ok (.goto (-23), 3) := by decide +kernel
theorem dX0_countRules_47 : decode cX0_countRules 47 = .ok (.aload_n 0, 1) := by decide +kernel
theorem dX0_countRules_48 : decode cX0_countRules 48 = .ok (.getfield 23, 3) := by decide +kernel
theorem dX0_countRules_51 : decode cX0_countRules 51 = .ok (.iload_n 1, 1) := by decide +kernel
theorem dX0_countRules_52 : decode cX0_countRules 52 = .ok (.iconst 1, 1) := by decide +kernel
theorem dX0_countRules_53 : decode cX0_countRules 53 = .ok (.iadd, 1) := by decide +kernel
theorem dX0_countRules_54 : decode cX0_countRules 54 = .ok (.aload_n 0, 1) := by decide +kernel
theorem dX0_countRules_55 : decode cX0_countRules 55 = .ok (.getfield 23, 3) := by decide +kernel
theorem dX0_countRules_58 : decode cX0_countRules 58 = .ok (.iload_n 1, 1) := by decide +kernel
theorem dX0_countRules_59 : decode cX0_countRules 59 = .ok (.iaload, 1) := by decide +kernel
theorem dX0_countRules_60 : decode cX0_countRules 60 = .ok (.iload_n 2, 1) := by decide +kernel
theorem dX0_countRules_61 : decode cX0_countRules 61 = .ok (.iadd, 1) := by decide +kernel
theorem dX0_countRules_62 : decode cX0_countRules 62 = .ok (.iastore, 1) := by decide +kernel
theorem dX0_countRules_63 : decode cX0_countRules 63 = .ok (.iinc 1 1, 3) := by decide +kernel
theorem dX0_countRules_66 : decode cX0_countRules 66 = .ok (.goto (-57), 3) := by decide +kernel
theorem dX0_countRules_69 : decode cX0_countRules 69 = .ok (.return_, 1) := by decide +kernel
theorem dX0_isRule_0 : decode cX0_isRule 0 = .ok (.aload_n 0, 1) := by decide +kernel
theorem dX0_isRule_1 : decode cX0_isRule 1 = .ok (.aload_n 0, 1) := by decide +kernel
theorem dX0_isRule_2 : decode cX0_isRule 2 = .ok (.getfield 17, 3) := by decide +kernel
theorem dX0_isRule_5 : decode cX0_isRule 5 = .ok (.iload_n 1, 1) := by decide +kernel
theorem dX0_isRule_6 : decode cX0_isRule 6 = .ok (.iaload, 1) := by decide +kernel
theorem dX0_isRule_7 : decode cX0_isRule 7 = .ok (.aload_n 0, 1) := by decide +kernel
theorem dX0_isRule_8 : decode cX0_isRule 8 = .ok (.getfield 17, 3) := by decide +kernel
theorem dX0_isRule_11 : decode cX0_isRule 11 = .ok (.iload_n 2, 1) := by decide +kernel
theorem dX0_isRule_12 : decode cX0_isRule 12 = .ok (.iaload, 1) := by decide +kernel
theorem dX0_isRule_13 : decode cX0_isRule 13 = .ok (.invokevirtual 97, 3) := by decide +kernel
theorem dX0_isRule_16 : decode cX0_isRule 16 = .ok (.aload_n 0, 1) := by decide +kernel
theorem dX0_isRule_17 : decode cX0_isRule 17 = .ok (.getfield 17, 3) := by decide +kernel
theorem dX0_isRule_20 : decode cX0_isRule 20 = .ok (.iload_n 1, 1) := by decide +kernel
theorem dX0_isRule_21 : decode cX0_isRule 21 = .ok (.iaload, 1) := by decide +kernel
theorem dX0_isRule_22 : decode cX0_isRule 22 = .ok (.aload_n 0, 1) := by decide +kernel
theorem dX0_isRule_23 : decode cX0_isRule 23 = .ok (.getfield 17, 3) := by decide +kernel
theorem dX0_isRule_26 : decode cX0_isRule 26 = .ok (.iload_n 2, 1) := by decide +kernel
theorem dX0_isRule_27 : decode cX0_isRule 27 = .ok (.iaload, 1) := by decide +kernel
theorem dX0_isRule_28 : decode cX0_isRule 28 = .ok (.invokestatic 63, 3) := by decide +kernel
theorem dX0_isRule_31 : decode cX0_isRule 31 = .ok (.if_icmp .eq 7, 3) := by decide +kernel
theorem dX0_isRule_34 : decode cX0_isRule 34 = .ok (.iconst 1, 1) := by decide +kernel
theorem dX0_isRule_35 : decode cX0_isRule 35 = .ok (.goto 4, 3) := by decide +kernel
theorem dX0_isRule_38 : decode cX0_isRule 38 = .ok (.iconst 0, 1) := by decide +kernel
theorem dX0_isRule_39 : decode cX0_isRule 39 = .ok (.ireturn, 1) := by decide +kernel
theorem dX0_stateCount_0 : decode cX0_stateCount 0 = .ok (.aload_n 0, 1) := by decide +kernel
theorem dX0_stateCount_1 : decode cX0_stateCount 1 = .ok (.getfield 42, 3) := by decide +kernel
theorem dX0_stateCount_4 : decode cX0_stateCount 4 = .ok (.ireturn, 1) := by decide +kernel
theorem dX0_ruleCount_0 : decode cX0_ruleCount 0 = .ok (.aload_n 0, 1) := by decide +kernel
theorem dX0_ruleCount_1 : decode cX0_ruleCount 1 = .ok (.getfield 23, 3) := by decide +kernel
theorem dX0_ruleCount_4 : decode cX0_ruleCount 4 = .ok (.aload_n 0, 1) := by decide +kernel
theorem dX0_ruleCount_5 : decode cX0_ruleCount 5 = .ok (.getfield 42, 3) := by decide +kernel
theorem dX0_ruleCount_8 : decode cX0_ruleCount 8 = .ok (.iaload, 1) := by decide +kernel
theorem dX0_ruleCount_9 : decode cX0_ruleCount 9 = .ok (.ireturn, 1) := by decide +kernel
theorem dX0_codeOf_0 : decode cX0_codeOf 0 = .ok (.aload_n 0, 1) := by decide +kernel
theorem dX0_codeOf_1 : decode cX0_codeOf 1 = .ok (.getfield 17, 3) := by decide +kernel
theorem dX0_codeOf_4 : decode cX0_codeOf 4 = .ok (.iload_n 1, 1) := by decide +kernel
theorem dX0_codeOf_5 : decode cX0_codeOf 5 = .ok (.iaload, 1) := by decide +kernel
theorem dX0_codeOf_6 : decode cX0_codeOf 6 = .ok (.ireturn, 1) := by decide +kernel
theorem dX0_ruleFact_0 : decode cX0_ruleFact 0 = .ok (.aload_n 0, 1) := by decide +kernel
theorem dX0_ruleFact_1 : decode cX0_ruleFact 1 = .ok (.iload_n 1, 1) := by decide +kernel
theorem dX0_ruleFact_2 : decode cX0_ruleFact 2 = .ok (.invokevirtual 113, 3) := by decide +kernel
theorem dX0_ruleFact_5 : decode cX0_ruleFact 5 = .ok (.istore_n 3, 1) := by decide +kernel
theorem dX0_ruleFact_6 : decode cX0_ruleFact 6 = .ok (.aload_n 0, 1) := by decide +kernel
theorem dX0_ruleFact_7 : decode cX0_ruleFact 7 = .ok (.iload_n 1, 1) := by decide +kernel
theorem dX0_ruleFact_8 : decode cX0_ruleFact 8 = .ok (.iload_n 3, 1) := by decide +kernel
theorem dX0_ruleFact_9 : decode cX0_ruleFact 9 = .ok (.invokevirtual 116, 3) := by decide +kernel
theorem dX0_ruleFact_12 : decode cX0_ruleFact 12 = .ok (.istore 4, 2) := by decide +kernel
theorem dX0_ruleFact_14 : decode cX0_ruleFact 14 = .ok (.iload_n 2, 1) := by decide +kernel
theorem dX0_ruleFact_15 : decode cX0_ruleFact 15 = .ok (.ifCond .ne 5, 3) := by decide +kernel
theorem dX0_ruleFact_18 : decode cX0_ruleFact 18 = .ok (.iload_n 3, 1) := by decide +kernel
theorem dX0_ruleFact_19 : decode cX0_ruleFact 19 = .ok (.ireturn, 1) := by decide +kernel
theorem dX0_ruleFact_20 : decode cX0_ruleFact 20 = .ok (.iload_n 2, 1) := by decide +kernel
theorem dX0_ruleFact_21 : decode cX0_ruleFact 21 = .ok (.iconst 1, 1) := by decide +kernel
theorem dX0_ruleFact_22 : decode cX0_ruleFact 22 = .ok (.if_icmp .ne 6, 3) := by decide +kernel
theorem dX0_ruleFact_25 : decode cX0_ruleFact 25 = .ok (.iload 4, 2) := by decide +kernel
theorem dX0_ruleFact_27 : decode cX0_ruleFact 27 = .ok (.ireturn, 1) := by decide +kernel
theorem dX0_ruleFact_28 : decode cX0_ruleFact 28 = .ok (.aload_n 0, 1) := by decide +kernel
theorem dX0_ruleFact_29 : decode cX0_ruleFact 29 = .ok (.aload_n 0, 1) := by decide +kernel
theorem dX0_ruleFact_30 : decode cX0_ruleFact 30 = .ok (.getfield 17, 3) := by decide +kernel
theorem dX0_ruleFact_33 : decode cX0_ruleFact 33 = .ok (.iload_n 3, 1) := by decide +kernel
theorem dX0_ruleFact_34 : decode cX0_ruleFact 34 = .ok (.iaload, 1) := by decide +kernel
theorem dX0_ruleFact_35 : decode cX0_ruleFact 35 = .ok (.aload_n 0, 1) := by decide +kernel
theorem dX0_ruleFact_36 : decode cX0_ruleFact 36 = .ok (.getfield 17, 3) := by decide +kernel
theorem dX0_ruleFact_39 : decode cX0_ruleFact 39 = .ok (.iload 4, 2) := by decide +kernel
theorem dX0_ruleFact_41 : decode cX0_ruleFact 41 = .ok (.iaload, 1) := by decide +kernel
theorem dX0_ruleFact_42 : decode cX0_ruleFact 42 = .ok (.invokevirtual 97, 3) := by decide +kernel
theorem dX0_ruleFact_45 : decode cX0_ruleFact 45 = .ok (.istore 5, 2) := by decide +kernel
theorem dX0_ruleFact_47 : decode cX0_ruleFact 47 = .ok (.aload_n 0, 1) := by decide +kernel
theorem dX0_ruleFact_48 : decode cX0_ruleFact 48 = .ok (.getfield 20, 3) := by decide +kernel
theorem dX0_ruleFact_51 : decode cX0_ruleFact 51 = .ok (.iload_n 2, 1) := by decide +kernel
theorem dX0_ruleFact_52 : decode cX0_ruleFact 52 = .ok (.iconst 2, 1) := by decide +kernel
theorem dX0_ruleFact_53 : decode cX0_ruleFact 53 = .ok (.if_icmp .ne 11, 3) := by decide +kernel
theorem dX0_ruleFact_56 : decode cX0_ruleFact 56 = .ok (.iload 5, 2) := by decide +kernel
theorem dX0_ruleFact_58 : decode cX0_ruleFact 58 = .ok (.invokestatic 103, 3) := by decide +kernel
theorem dX0_ruleFact_61 : decode cX0_ruleFact 61 = .ok (.goto 8, 3) := by decide +kernel
theorem dX0_ruleFact_64 : decode cX0_ruleFact 64 = .ok (.iload 5, 2) := by decide +kernel
theorem dX0_ruleFact_66 : decode cX0_ruleFact 66 = .ok (.invokestatic 106, 3) := by decide +kernel
theorem dX0_ruleFact_69 : decode cX0_ruleFact 69 = .ok (.iaload, 1) := by decide +kernel
theorem dX0_ruleFact_70 : decode cX0_ruleFact 70 = .ok (.ireturn, 1) := by decide +kernel
theorem dX0_firstOfRule_0 : decode cX0_firstOfRule 0 = .ok (.iconst 0, 1) := by decide +kernel
theorem dX0_firstOfRule_1 : decode cX0_firstOfRule 1 = .ok (.istore_n 2, 1) := by decide +kernel
theorem dX0_firstOfRule_2 : decode cX0_firstOfRule 2 = .ok (.iload_n 2, 1) := by decide +kernel
theorem dX0_firstOfRule_3 : decode cX0_firstOfRule 3 = .ok (.aload_n 0, 1) := by decide +kernel
theorem dX0_firstOfRule_4 : decode cX0_firstOfRule 4 = .ok (.getfield 42, 3) := by decide +kernel
theorem dX0_firstOfRule_7 : decode cX0_firstOfRule 7 = .ok (.iconst 1, 1) := by decide +kernel
theorem dX0_firstOfRule_8 : decode cX0_firstOfRule 8 = .ok (.isub, 1) := by decide +kernel
theorem dX0_firstOfRule_9 : decode cX0_firstOfRule 9 = .ok (.if_icmp .ge 21, 3) := by decide +kernel
theorem dX0_firstOfRule_12 : decode cX0_firstOfRule 12 = .ok (.aload_n 0, 1) := by decide +kernel
theorem dX0_firstOfRule_13 : decode cX0_firstOfRule 13 = .ok (.getfield 23, 3) := by decide +kernel
theorem dX0_firstOfRule_16 : decode cX0_firstOfRule 16 = .ok (.iload_n 2, 1) := by decide +kernel
theorem dX0_firstOfRule_17 : decode cX0_firstOfRule 17 = .ok (.iconst 1, 1) := by decide +kernel
theorem dX0_firstOfRule_18 : decode cX0_firstOfRule 18 = .ok (.iadd, 1) := by decide +kernel
theorem dX0_firstOfRule_19 : decode cX0_firstOfRule 19 = .ok (.iaload, 1) := by decide +kernel
theorem dX0_firstOfRule_20 : decode cX0_firstOfRule 20 = .ok (.iload_n 1, 1) := by decide +kernel
theorem dX0_firstOfRule_21 : decode cX0_firstOfRule 21 = .ok (.if_icmp .gt 9, 3) := by decide +kernel
theorem dX0_firstOfRule_24 : decode cX0_firstOfRule 24 = .ok (.iinc 2 1, 3) := by decide +kernel
theorem dX0_firstOfRule_27 : decode cX0_firstOfRule 27 = .ok (.goto (-25), 3) := by decide +kernel
theorem dX0_firstOfRule_30 : decode cX0_firstOfRule 30 = .ok (.iload_n 2, 1) := by decide +kernel
theorem dX0_firstOfRule_31 : decode cX0_firstOfRule 31 = .ok (.ireturn, 1) := by decide +kernel
theorem dX0_secondOfRule_0 : decode cX0_secondOfRule 0 = .ok (.aload_n 0, 1) := by decide +kernel
theorem dX0_secondOfRule_1 : decode cX0_secondOfRule 1 = .ok (.getfield 23, 3) := by decide +kernel
theorem dX0_secondOfRule_4 : decode cX0_secondOfRule 4 = .ok (.iload_n 2, 1) := by decide +kernel
theorem dX0_secondOfRule_5 : decode cX0_secondOfRule 5 = .ok (.iaload, 1) := by decide +kernel
theorem dX0_secondOfRule_6 : decode cX0_secondOfRule 6 = .ok (.istore_n 3, 1) := by decide +kernel
theorem dX0_secondOfRule_7 : decode cX0_secondOfRule 7 = .ok (.iconst 0, 1) := by decide +kernel
theorem dX0_secondOfRule_8 : decode cX0_secondOfRule 8 = .ok (.istore 4, 2) := by decide +kernel
theorem dX0_secondOfRule_10 : decode cX0_secondOfRule 10 = .ok (.iload 4, 2) := by decide +kernel
theorem dX0_secondOfRule_12 : decode cX0_secondOfRule 12 = .ok (.aload_n 0, 1) := by decide +kernel
theorem dX0_secondOfRule_13 : decode cX0_secondOfRule 13 = .ok (.getfield 42, 3) := by decide +kernel
theorem dX0_secondOfRule_16 : decode cX0_secondOfRule 16 = .ok (.if_icmp .ge 30, 3) := by decide +kernel
theorem dX0_secondOfRule_19 : decode cX0_secondOfRule 19 = .ok (.aload_n 0, 1) := by decide +kernel
theorem dX0_secondOfRule_20 : decode cX0_secondOfRule 20 = .ok (.iload_n 2, 1) := by decide +kernel
theorem dX0_secondOfRule_21 : decode cX0_secondOfRule 21 = .ok (.iload 4, 2) := by decide +kernel
theorem dX0_secondOfRule_23 : decode cX0_secondOfRule 23 = .ok (.invokevirtual 109, 3) := by decide +kernel
theorem dX0_secondOfRule_26 : decode cX0_secondOfRule 26 = .ok (.ifCond .eq 14, 3) := by decide +kernel
theorem dX0_secondOfRule_29 : decode cX0_secondOfRule 29 = .ok (.iload_n 3, 1) := by decide +kernel
theorem dX0_secondOfRule_30 : decode cX0_secondOfRule 30 = .ok (.iload_n 1, 1) := by decide +kernel
theorem dX0_secondOfRule_31 : decode cX0_secondOfRule 31 = .ok (.if_icmp .ne 6, 3) := by decide +kernel
theorem dX0_secondOfRule_34 : decode cX0_secondOfRule 34 = .ok (.iload 4, 2) := by decide +kernel
theorem dX0_secondOfRule_36 : decode cX0_secondOfRule 36 = .ok (.ireturn, 1) := by decide +kernel
theorem dX0_secondOfRule_37 : decode cX0_secondOfRule 37 = .ok (.iinc 3 1, 3) := by decide +kernel
theorem dX0_secondOfRule_40 : decode cX0_secondOfRule 40 = .ok (.iinc 4 1, 3) := by decide +kernel
theorem dX0_secondOfRule_43 : decode cX0_secondOfRule 43 = .ok (.goto (-33), 3) := by decide +kernel
theorem dX0_secondOfRule_46 : decode cX0_secondOfRule 46 = .ok (.iconst 0, 1) := by decide +kernel
theorem dX0_secondOfRule_47 : decode cX0_secondOfRule 47 = .ok (.ireturn, 1) := by decide +kernel
theorem dX1_of_0 : decode cX1_of 0 = .ok (.iload_n 1, 1) := by decide +kernel
theorem dX1_of_1 : decode cX1_of 1 = .ok (.bipush 32, 2) := by decide +kernel
theorem dX1_of_3 : decode cX1_of 3 = .ok (.iadd, 1) := by decide +kernel
theorem dX1_of_4 : decode cX1_of 4 = .ok (.iconst 1, 1) := by decide +kernel
theorem dX1_of_5 : decode cX1_of 5 = .ok (.ishl, 1) := by decide +kernel
theorem dX1_of_6 : decode cX1_of 6 = .ok (.istore_n 3, 1) := by decide +kernel
theorem dX1_of_7 : decode cX1_of 7 = .ok (.iload_n 0, 1) := by decide +kernel
theorem dX1_of_8 : decode cX1_of 8 = .ok (.ifCond .eq 9, 3) := by decide +kernel
theorem dX1_of_11 : decode cX1_of 11 = .ok (.iload_n 3, 1) := by decide +kernel
theorem dX1_of_12 : decode cX1_of 12 = .ok (.sipush 128, 3) := by decide +kernel
theorem dX1_of_15 : decode cX1_of 15 = .ok (.ior, 1) := by decide +kernel
theorem dX1_of_16 : decode cX1_of 16 = .ok (.istore_n 3, 1) := by decide +kernel
theorem dX1_of_17 : decode cX1_of 17 = .ok (.iload_n 2, 1) := by decide +kernel
theorem dX1_of_18 : decode cX1_of 18 = .ok (.ifCond .eq 9, 3) := by decide +kernel
theorem dX1_of_21 : decode cX1_of 21 = .ok (.iload_n 3, 1) := by decide +kernel
theorem dX1_of_22 : decode cX1_of 22 = .ok (.iconst 1, 1) := by decide +kernel
theorem dX1_of_23 : decode cX1_of 23 = .ok (.ior, 1) := by decide +kernel
theorem dX1_of_24 : decode cX1_of 24 = .ok (.goto 4, 3) := by decide +kernel
theorem dX1_of_27 : decode cX1_of 27 = .ok (.iload_n 3, 1) := by decide +kernel
theorem dX1_of_28 : decode cX1_of 28 = .ok (.ireturn, 1) := by decide +kernel
theorem dX1_value_0 : decode cX1_value 0 = .ok (.iload_n 0, 1) := by decide +kernel
theorem dX1_value_1 : decode cX1_value 1 = .ok (.iconst 1, 1) := by decide +kernel
theorem dX1_value_2 : decode cX1_value 2 = .ok (.ishr, 1) := by decide +kernel
theorem dX1_value_3 : decode cX1_value 3 = .ok (.bipush 63, 2) := by decide +kernel
theorem dX1_value_5 : decode cX1_value 5 = .ok (.iand, 1) := by decide +kernel
theorem dX1_value_6 : decode cX1_value 6 = .ok (.bipush 32, 2) := by decide +kernel
theorem dX1_value_8 : decode cX1_value 8 = .ok (.isub, 1) := by decide +kernel
theorem dX1_value_9 : decode cX1_value 9 = .ok (.ireturn, 1) := by decide +kernel
theorem dX1_leads_0 : decode cX1_leads 0 = .ok (.iload_n 0, 1) := by decide +kernel
theorem dX1_leads_1 : decode cX1_leads 1 = .ok (.sipush 128, 3) := by decide +kernel
theorem dX1_leads_4 : decode cX1_leads 4 = .ok (.iand, 1) := by decide +kernel
theorem dX1_leads_5 : decode cX1_leads 5 = .ok (.ifCond .eq 7, 3) := by decide +kernel
theorem dX1_leads_8 : decode cX1_leads 8 = .ok (.iconst 1, 1) := by decide +kernel
theorem dX1_leads_9 : decode cX1_leads 9 = .ok (.goto 4, 3) := by decide +kernel
theorem dX1_leads_12 : decode cX1_leads 12 = .ok (.iconst 0, 1) := by decide +kernel
theorem dX1_leads_13 : decode cX1_leads 13 = .ok (.ireturn, 1) := by decide +kernel
theorem dX1_opinion_0 : decode cX1_opinion 0 = .ok (.iload_n 0, 1) := by decide +kernel
theorem dX1_opinion_1 : decode cX1_opinion 1 = .ok (.iconst 1, 1) := by decide +kernel
theorem dX1_opinion_2 : decode cX1_opinion 2 = .ok (.iand, 1) := by decide +kernel
theorem dX1_opinion_3 : decode cX1_opinion 3 = .ok (.ireturn, 1) := by decide +kernel
theorem dX1_fact_0 : decode cX1_fact 0 = .ok (.iload_n 1, 1) := by decide +kernel
theorem dX1_fact_1 : decode cX1_fact 1 = .ok (.ifCond .ne 8, 3) := by decide +kernel
theorem dX1_fact_4 : decode cX1_fact 4 = .ok (.iload_n 0, 1) := by decide +kernel
theorem dX1_fact_5 : decode cX1_fact 5 = .ok (.invokestatic 9, 3) := by decide +kernel
theorem dX1_fact_8 : decode cX1_fact 8 = .ok (.ireturn, 1) := by decide +kernel
theorem dX1_fact_9 : decode cX1_fact 9 = .ok (.iload_n 1, 1) := by decide +kernel
theorem dX1_fact_10 : decode cX1_fact 10 = .ok (.iconst 1, 1) := by decide +kernel
theorem dX1_fact_11 : decode cX1_fact 11 = .ok (.if_icmp .ne 16, 3) := by decide +kernel
theorem dX1_fact_14 : decode cX1_fact 14 = .ok (.iload_n 0, 1) := by decide +kernel
theorem dX1_fact_15 : decode cX1_fact 15 = .ok (.invokestatic 13, 3) := by decide +kernel
theorem dX1_fact_18 : decode cX1_fact 18 = .ok (.ifCond .eq 7, 3) := by decide +kernel
theorem dX1_fact_21 : decode cX1_fact 21 = .ok (.iconst 1, 1) := by decide +kernel
theorem dX1_fact_22 : decode cX1_fact 22 = .ok (.goto 4, 3) := by decide +kernel
theorem dX1_fact_25 : decode cX1_fact 25 = .ok (.iconst 0, 1) := by decide +kernel
theorem dX1_fact_26 : decode cX1_fact 26 = .ok (.ireturn, 1) := by decide +kernel
theorem dX1_fact_27 : decode cX1_fact 27 = .ok (.iload_n 0, 1) := by decide +kernel
theorem dX1_fact_28 : decode cX1_fact 28 = .ok (.invokestatic 17, 3) := by decide +kernel
theorem dX1_fact_31 : decode cX1_fact 31 = .ok (.ireturn, 1) := by decide +kernel
theorem dX1_pair_0 : decode cX1_pair 0 = .ok (.iload_n 0, 1) := by decide +kernel
theorem dX1_pair_1 : decode cX1_pair 1 = .ok (.bipush 8, 2) := by decide +kernel
theorem dX1_pair_3 : decode cX1_pair 3 = .ok (.ishl, 1) := by decide +kernel
theorem dX1_pair_4 : decode cX1_pair 4 = .ok (.iload_n 1, 1) := by decide +kernel
theorem dX1_pair_5 : decode cX1_pair 5 = .ok (.ior, 1) := by decide +kernel
theorem dX1_pair_6 : decode cX1_pair 6 = .ok (.ireturn, 1) := by decide +kernel
theorem dX1_first_0 : decode cX1_first 0 = .ok (.iload_n 0, 1) := by decide +kernel
theorem dX1_first_1 : decode cX1_first 1 = .ok (.bipush 8, 2) := by decide +kernel
theorem dX1_first_3 : decode cX1_first 3 = .ok (.ishr, 1) := by decide +kernel
theorem dX1_first_4 : decode cX1_first 4 = .ok (.sipush 255, 3) := by decide +kernel
theorem dX1_first_7 : decode cX1_first 7 = .ok (.iand, 1) := by decide +kernel
theorem dX1_first_8 : decode cX1_first 8 = .ok (.ireturn, 1) := by decide +kernel
theorem dX1_second_0 : decode cX1_second 0 = .ok (.iload_n 0, 1) := by decide +kernel
theorem dX1_second_1 : decode cX1_second 1 = .ok (.sipush 255, 3) := by decide +kernel
theorem dX1_second_4 : decode cX1_second 4 = .ok (.iand, 1) := by decide +kernel
theorem dX1_second_5 : decode cX1_second 5 = .ok (.ireturn, 1) := by decide +kernel
theorem dX1_ofAtom_0 : decode cX1_ofAtom 0 = .ok (.lload_n 0, 1) := by decide +kernel
theorem dX1_ofAtom_1 : decode cX1_ofAtom 1 = .ok (.iload_n 2, 1) := by decide +kernel
theorem dX1_ofAtom_2 : decode cX1_ofAtom 2 = .ok (.bipush 8, 2) := by decide +kernel
theorem dX1_ofAtom_4 : decode cX1_ofAtom 4 = .ok (.imul, 1) := by decide +kernel
theorem dX1_ofAtom_5 : decode cX1_ofAtom 5 = .ok (.lshr, 1) := by decide +kernel
theorem dX1_ofAtom_6 : decode cX1_ofAtom 6 = .ok (.l2i, 1) := by decide +kernel
theorem dX1_ofAtom_7 : decode cX1_ofAtom 7 = .ok (.sipush 255, 3) := by decide +kernel
theorem dX1_ofAtom_10 : decode cX1_ofAtom 10 = .ok (.iand, 1) := by decide +kernel
theorem dX1_ofAtom_11 : decode cX1_ofAtom 11 = .ok (.ireturn, 1) := by decide +kernel
theorem dX1_atAtom_0 : decode cX1_atAtom 0 = .ok (.iload_n 0, 1) := by decide +kernel
theorem dX1_atAtom_1 : decode cX1_atAtom 1 = .ok (.i2l, 1) := by decide +kernel
theorem dX1_atAtom_2 : decode cX1_atAtom 2 = .ok (.iload_n 1, 1) := by decide +kernel
theorem dX1_atAtom_3 : decode cX1_atAtom 3 = .ok (.bipush 8, 2) := by decide +kernel
theorem dX1_atAtom_5 : decode cX1_atAtom 5 = .ok (.imul, 1) := by decide +kernel
theorem dX1_atAtom_6 : decode cX1_atAtom 6 = .ok (.lshl, 1) := by decide +kernel
theorem dX1_atAtom_7 : decode cX1_atAtom 7 = .ok (.lreturn, 1) := by decide +kernel
theorem dX1_leadsSomewhere_0 : decode cX1_leadsSomewhere 0 = .ok (.lload_n 0, 1) := by decide +kernel
theorem dX1_leadsSomewhere_1 : decode cX1_leadsSomewhere 1 = .ok (.ldc2_w 20, 3) := by decide +kernel
theorem dX1_leadsSomewhere_4 : decode cX1_leadsSomewhere 4 = .ok (.land, 1) := by decide +kernel
theorem dX1_leadsSomewhere_5 : decode cX1_leadsSomewhere 5 = .ok (.lconst 0, 1) := by decide +kernel
theorem dX1_leadsSomewhere_6 : decode cX1_leadsSomewhere 6 = .ok (.lcmp, 1) := by decide +kernel
theorem dX1_leadsSomewhere_7 : decode cX1_leadsSomewhere 7 = .ok (.ifCond .eq 7, 3) := by decide +kernel
theorem dX1_leadsSomewhere_10 : decode cX1_leadsSomewhere 10 = .ok (.iconst 1, 1) := by decide +kernel
theorem dX1_leadsSomewhere_11 : decode cX1_leadsSomewhere 11 = .ok (.goto 4, 3) := by decide +kernel
theorem dX1_leadsSomewhere_14 : decode cX1_leadsSomewhere 14 = .ok (.iconst 0, 1) := by decide +kernel
theorem dX1_leadsSomewhere_15 : decode cX1_leadsSomewhere 15 = .ok (.ireturn, 1) := by decide +kernel
theorem dX2_init_0 : decode cX2_init 0 = .ok (.aload_n 0, 1) := by decide +kernel
theorem dX2_init_1 : decode cX2_init 1 = .ok (.invokespecial 3, 3) := by decide +kernel
theorem dX2_init_4 : decode cX2_init 4 = .ok (.aload_n 0, 1) := by decide +kernel
theorem dX2_init_5 : decode cX2_init 5 = .ok (.sipush 200, 3) := by decide +kernel
theorem dX2_init_8 : decode cX2_init 8 = .ok (.newarray .long, 2) := by decide +kernel
theorem dX2_init_10 : decode cX2_init 10 = .ok (.putfield 9, 3) := by decide +kernel
theorem dX2_init_13 : decode cX2_init 13 = .ok (.aload_n 0, 1) := by decide +kernel
theorem dX2_init_14 : decode cX2_init 14 = .ok (.bipush 8, 2) := by decide +kernel
theorem dX2_init_16 : decode cX2_init 16 = .ok (.newarray .int, 2) := by decide +kernel
theorem dX2_init_18 : decode cX2_init 18 = .ok (.putfield 15, 3) := by decide +kernel
theorem dX2_init_21 : decode cX2_init 21 = .ok (.aload_n 0, 1) := by decide +kernel
theorem dX2_init_22 : decode cX2_init 22 = .ok (.aload_n 1, 1) := by decide +kernel
theorem dX2_init_23 : decode cX2_init 23 = .ok (.putfield 19, 3) := by decide +kernel
theorem dX2_init_26 : decode cX2_init 26 = .ok (.aload_n 0, 1) := by decide +kernel
theorem dX2_init_27 : decode cX2_init 27 = .ok (.new 23, 3) := by decide +kernel
theorem dX2_init_30 : decode cX2_init 30 = .ok (.dup, 1) := by decide +kernel
theorem dX2_init_31 : decode cX2_init 31 = .ok (.aload_n 1, 1) := by decide +kernel
theorem dX2_init_32 : decode cX2_init 32 = .ok (.invokespecial 25, 3) := by decide +kernel
theorem dX2_init_35 : decode cX2_init 35 = .ok (.putfield 28, 3) := by decide +kernel
theorem dX2_init_38 : decode cX2_init 38 = .ok (.return_, 1) := by decide +kernel
theorem dX2_reset_0 : decode cX2_reset 0 = .ok (.aload_n 0, 1) := by decide +kernel
theorem dX2_reset_1 : decode cX2_reset 1 = .ok (.getfield 15, 3) := by decide +kernel
theorem dX2_reset_4 : decode cX2_reset 4 = .ok (.iconst 0, 1) := by decide +kernel
theorem dX2_reset_5 : decode cX2_reset 5 = .ok (.invokestatic 32, 3) := by decide +kernel
theorem dX2_reset_8 : decode cX2_reset 8 = .ok (.aload_n 0, 1) := by decide +kernel
theorem dX2_reset_9 : decode cX2_reset 9 = .ok (.iconst 0, 1) := by decide +kernel
theorem dX2_reset_10 : decode cX2_reset 10 = .ok (.putfield 38, 3) := by decide +kernel
theorem dX2_reset_13 : decode cX2_reset 13 = .ok (.return_, 1) := by decide +kernel
theorem dX2_count_0 : decode cX2_count 0 = .ok (.aload_n 0, 1) := by decide +kernel
theorem dX2_count_1 : decode cX2_count 1 = .ok (.getfield 38, 3) := by decide +kernel
theorem dX2_count_4 : decode cX2_count 4 = .ok (.ireturn, 1) := by decide +kernel
theorem dX2_hasAgent_0 : decode cX2_hasAgent 0 = .ok (.iload_n 1, 1) := by decide +kernel
theorem dX2_hasAgent_1 : decode cX2_hasAgent 1 = .ok (.ifCond .lt 15, 3) := by decide +kernel
theorem dX2_hasAgent_4 : decode cX2_hasAgent 4 = .ok (.iload_n 1, 1) := by decide +kernel
theorem dX2_hasAgent_5 : decode cX2_hasAgent 5 = .ok (.aload_n 0, 1) := by decide +kernel
theorem dX2_hasAgent_6 : decode cX2_hasAgent 6 = .ok (.getfield 38, 3) := by decide +kernel
theorem dX2_hasAgent_9 : decode cX2_hasAgent 9 = .ok (.if_icmp .ge 7, 3) := by decide +kernel
theorem dX2_hasAgent_12 : decode cX2_hasAgent 12 = .ok (.iconst 1, 1) := by decide +kernel
theorem dX2_hasAgent_13 : decode cX2_hasAgent 13 = .ok (.goto 4, 3) := by decide +kernel
theorem dX2_hasAgent_16 : decode cX2_hasAgent 16 = .ok (.iconst 0, 1) := by decide +kernel
theorem dX2_hasAgent_17 : decode cX2_hasAgent 17 = .ok (.ireturn, 1) := by decide +kernel
theorem dX2_agent_0 : decode cX2_agent 0 = .ok (.aload_n 0, 1) := by decide +kernel
theorem dX2_agent_1 : decode cX2_agent 1 = .ok (.getfield 9, 3) := by decide +kernel
theorem dX2_agent_4 : decode cX2_agent 4 = .ok (.iload_n 1, 1) := by decide +kernel
theorem dX2_agent_5 : decode cX2_agent 5 = .ok (.laload, 1) := by decide +kernel
theorem dX2_agent_6 : decode cX2_agent 6 = .ok (.lreturn, 1) := by decide +kernel
theorem dX2_letterCounts_0 : decode cX2_letterCounts 0 = .ok (.aload_n 0, 1) := by decide +kernel
theorem dX2_letterCounts_1 : decode cX2_letterCounts 1 = .ok (.getfield 15, 3) := by decide +kernel
theorem dX2_letterCounts_4 : decode cX2_letterCounts 4 = .ok (.areturn, 1) := by decide +kernel
theorem dX2_admit_0 : decode cX2_admit 0 = .ok (.aload_n 0, 1) := by decide +kernel
theorem dX2_admit_1 : decode cX2_admit 1 = .ok (.getfield 19, 3) := by decide +kernel
theorem dX2_admit_4 : decode cX2_admit 4 = .ok (.iload_n 1, 1) := by decide +kernel
theorem dX2_admit_5 : decode cX2_admit 5 = .ok (.invokevirtual 42, 3) := by decide +kernel
theorem dX2_admit_8 : decode cX2_admit 8 = .ok (.lstore_n 3, 1) := by decide +kernel
theorem dX2_admit_9 : decode cX2_admit 9 = .ok (.iconst 0, 1) := by decide +kernel
theorem dX2_admit_10 : decode cX2_admit 10 = .ok (.istore 5, 2) := by decide +kernel
theorem dX2_admit_12 : decode cX2_admit 12 = .ok (.iload 5, 2) := by decide +kernel
theorem dX2_admit_14 : decode cX2_admit 14 = .ok (.iload_n 2, 1) := by decide +kernel
theorem dX2_admit_15 : decode cX2_admit 15 = .ok (.if_icmp .ge 29, 3) := by decide +kernel
theorem dX2_admit_18 : decode cX2_admit 18 = .ok (.aload_n 0, 1) := by decide +kernel
theorem dX2_admit_19 : decode cX2_admit 19 = .ok (.getfield 9, 3) := by decide +kernel
theorem dX2_admit_22 : decode cX2_admit 22 = .ok (.aload_n 0, 1) := by decide +kernel
theorem dX2_admit_23 : decode cX2_admit 23 = .ok (.getfield 38, 3) := by decide +kernel
theorem dX2_admit_26 : decode cX2_admit 26 = .ok (.lload_n 3, 1) := by decide +kernel
theorem dX2_admit_27 : decode cX2_admit 27 = .ok (.lastore, 1) := by decide +kernel
theorem dX2_admit_28 : decode cX2_admit 28 = .ok (.aload_n 0, 1) := by decide +kernel
theorem dX2_admit_29 : decode cX2_admit 29 = .ok (.dup, 1) := by decide +kernel
theorem dX2_admit_30 : decode cX2_admit 30 = .ok (.getfield 38, 3) := by decide +kernel
theorem dX2_admit_33 : decode cX2_admit 33 = .ok (.iconst 1, 1) := by decide +kernel
theorem dX2_admit_34 : decode cX2_admit 34 = .ok (.iadd, 1) := by decide +kernel
theorem dX2_admit_35 : decode cX2_admit 35 = .ok (.putfield 38, 3) := by decide +kernel
theorem dX2_admit_38 : decode cX2_admit 38 = .ok (.iinc 5 1, 3) := by decide +kernel
theorem dX2_admit_41 : decode cX2_admit 41 = .ok (.goto (-29), 3) := by decide +kernel
theorem dX2_admit_44 : decode cX2_admit 44 = .ok (.aload_n 0, 1) := by decide +kernel
theorem dX2_admit_45 : decode cX2_admit 45 = .ok (.getfield 15, 3) := by decide +kernel
theorem dX2_admit_48 : decode cX2_admit 48 = .ok (.iload_n 1, 1) := by decide +kernel
theorem dX2_admit_49 : decode cX2_admit 49 = .ok (.dup2, 1) := by decide +kernel
theorem dX2_admit_50 : decode cX2_admit 50 = .ok (.iaload, 1) := by decide +kernel
theorem dX2_admit_51 : decode cX2_admit 51 = .ok (.iload_n 2, 1) := by decide +kernel
theorem dX2_admit_52 : decode cX2_admit 52 = .ok (.iadd, 1) := by decide +kernel
theorem dX2_admit_53 : decode cX2_admit 53 = .ok (.iastore, 1) := by decide +kernel
theorem dX2_admit_54 : decode cX2_admit 54 = .ok (.return_, 1) := by decide +kernel
theorem dX2_bringTogether_0 : decode cX2_bringTogether 0 = .ok (.aload_n 0, 1) := by decide +kernel
theorem dX2_bringTogether_1 : decode cX2_bringTogether 1 = .ok (.getfield 28, 3) := by decide +kernel
theorem dX2_bringTogether_4 : decode cX2_bringTogether 4 = .ok (.aload_n 0, 1) := by decide +kernel
theorem dX2_bringTogether_5 : decode cX2_bringTogether 5 = .ok (.getfield 9, 3) := by decide +kernel
theorem dX2_bringTogether_8 : decode cX2_bringTogether 8 = .ok (.iload_n 1, 1) := by decide +kernel
theorem dX2_bringTogether_9 : decode cX2_bringTogether 9 = .ok (.laload, 1) := by decide +kernel
theorem dX2_bringTogether_10 : decode cX2_bringTogether 10 = .ok (.aload_n 0, 1) := by decide +kernel
theorem dX2_bringTogether_11 : decode cX2_bringTogether 11 = .ok (.getfield 9, 3) := by decide +kernel
theorem dX2_bringTogether_14 : decode cX2_bringTogether 14 = .ok (.iload_n 2, 1) := by decide +kernel
theorem dX2_bringTogether_15 : decode cX2_bringTogether 15 = .ok (.laload, 1) := by decide +kernel
theorem dX2_bringTogether_16 : decode cX2_bringTogether 16 = .ok (.invokevirtual 48, 3) := by decide +kernel
theorem dX2_bringTogether_19 : decode cX2_bringTogether 19 = .ok (.istore_n 3, 1) := by decide +kernel
theorem dX2_bringTogether_20 : decode cX2_bringTogether 20 = .ok (.aload_n 0, 1) := by decide +kernel
theorem dX2_bringTogether_21 : decode cX2_bringTogether 21 = .ok (.getfield 9, 3) := by decide +kernel
theorem dX2_bringTogether_24 : decode cX2_bringTogether 24 = .ok (.iload_n 1, 1) := by decide +kernel
theorem dX2_bringTogether_25 : decode cX2_bringTogether 25 = .ok (.aload_n 0, 1) := by decide +kernel
theorem dX2_bringTogether_26 : decode cX2_bringTogether 26 = .ok (.getfield 28, 3) := by decide +kernel
theorem dX2_bringTogether_29 : decode cX2_bringTogether 29 = .ok (.invokevirtual 52, 3) := by decide +kernel
theorem dX2_bringTogether_32 : decode cX2_bringTogether 32 = .ok (.lastore, 1) := by decide +kernel
theorem dX2_bringTogether_33 : decode cX2_bringTogether 33 = .ok (.aload_n 0, 1) := by decide +kernel
theorem dX2_bringTogether_34 : decode cX2_bringTogether 34 = .ok (.getfield 9, 3) := by decide +kernel
theorem dX2_bringTogether_37 : decode cX2_bringTogether 37 = .ok (.iload_n 2, 1) := by decide +kernel
theorem dX2_bringTogether_38 : decode cX2_bringTogether 38 = .ok (.aload_n 0, 1) := by decide +kernel
theorem dX2_bringTogether_39 : decode cX2_bringTogether 39 = .ok (.getfield 28, 3) := by decide +kernel
theorem dX2_bringTogether_42 : decode cX2_bringTogether 42 = .ok (.invokevirtual 56, 3) := by decide +kernel
theorem dX2_bringTogether_45 : decode cX2_bringTogether 45 = .ok (.lastore, 1) := by decide +kernel
theorem dX2_bringTogether_46 : decode cX2_bringTogether 46 = .ok (.iload_n 3, 1) := by decide +kernel
theorem dX2_bringTogether_47 : decode cX2_bringTogether 47 = .ok (.ireturn, 1) := by decide +kernel
theorem dX2_sweepOften_0 : decode cX2_sweepOften 0 = .ok (.iconst 0, 1) := by decide +kernel
theorem dX2_sweepOften_1 : decode cX2_sweepOften 1 = .ok (.istore_n 2, 1) := by decide +kernel
theorem dX2_sweepOften_2 : decode cX2_sweepOften 2 = .ok (.iconst 0, 1) := by decide +kernel
theorem dX2_sweepOften_3 : decode cX2_sweepOften 3 = .ok (.istore_n 3, 1) := by decide +kernel
theorem dX2_sweepOften_4 : decode cX2_sweepOften 4 = .ok (.iload_n 3, 1) := by decide +kernel
theorem dX2_sweepOften_5 : decode cX2_sweepOften 5 = .ok (.iload_n 1, 1) := by decide +kernel
theorem dX2_sweepOften_6 : decode cX2_sweepOften 6 = .ok (.if_icmp .ge 28, 3) := by decide +kernel
theorem dX2_sweepOften_9 : decode cX2_sweepOften 9 = .ok (.aload_n 0, 1) := by decide +kernel
theorem dX2_sweepOften_10 : decode cX2_sweepOften 10 = .ok (.invokevirtual 59, 3) := by decide +kernel
theorem dX2_sweepOften_13 : decode cX2_sweepOften 13 = .ok (.istore 4, 2) := by decide +kernel
theorem dX2_sweepOften_15 : decode cX2_sweepOften 15 = .ok (.iload 4, 2) := by decide +kernel
theorem dX2_sweepOften_17 : decode cX2_sweepOften 17 = .ok (.ifCond .ne 6, 3) := by decide +kernel
theorem dX2_sweepOften_20 : decode cX2_sweepOften 20 = .ok (.goto 14, 3) := by decide +kernel
theorem dX2_sweepOften_23 : decode cX2_sweepOften 23 = .ok (.iload_n 2, 1) := by decide +kernel
theorem dX2_sweepOften_24 : decode cX2_sweepOften 24 = .ok (.iload 4, 2) := by decide +kernel
theorem dX2_sweepOften_26 : decode cX2_sweepOften 26 = .ok (.iadd, 1) := by decide +kernel
theorem dX2_sweepOften_27 : decode cX2_sweepOften 27 = .ok (.istore_n 2, 1) := by decide +kernel
theorem dX2_sweepOften_28 : decode cX2_sweepOften 28 = .ok (.iinc 3 1, 3) := by decide +kernel
theorem dX2_sweepOften_31 : decode cX2_sweepOften 31 = .ok (.goto (-27), 3) := by decide +kernel
theorem dX2_sweepOften_34 : decode cX2_sweepOften 34 = .ok (.iload_n 2, 1) := by decide +kernel
theorem dX2_sweepOften_35 : decode cX2_sweepOften 35 = .ok (.ireturn, 1) := by decide +kernel
theorem dX2_sweepOnce_0 : decode cX2_sweepOnce 0 = .ok (.iconst 0, 1) := by decide +kernel
theorem dX2_sweepOnce_1 : decode cX2_sweepOnce 1 = .ok (.istore_n 1, 1) := by decide +kernel
theorem dX2_sweepOnce_2 : decode cX2_sweepOnce 2 = .ok (.aload_n 0, 1) := by decide +kernel
theorem dX2_sweepOnce_3 : decode cX2_sweepOnce 3 = .ok (.invokevirtual 63, 3) := by decide +kernel
theorem dX2_sweepOnce_6 : decode cX2_sweepOnce 6 = .ok (.istore_n 2, 1) := by decide +kernel
theorem dX2_sweepOnce_7 : decode cX2_sweepOnce 7 = .ok (.iconst 0, 1) := by decide +kernel
theorem dX2_sweepOnce_8 : decode cX2_sweepOnce 8 = .ok (.istore_n 3, 1) := by decide +kernel
theorem dX2_sweepOnce_9 : decode cX2_sweepOnce 9 = .ok (.iload_n 3, 1) := by decide +kernel
theorem dX2_sweepOnce_10 : decode cX2_sweepOnce 10 = .ok (.aload_n 0, 1) := by decide +kernel
theorem dX2_sweepOnce_11 : decode cX2_sweepOnce 11 = .ok (.getfield 38, 3) := by decide +kernel
theorem dX2_sweepOnce_14 : decode cX2_sweepOnce 14 = .ok (.if_icmp .ge 62, 3) := by decide +kernel
theorem dX2_sweepOnce_17 : decode cX2_sweepOnce 17 = .ok (.aload_n 0, 1) := by decide +kernel
theorem dX2_sweepOnce_18 : decode cX2_sweepOnce 18 = .ok (.getfield 9, 3) := by decide +kernel
theorem dX2_sweepOnce_21 : decode cX2_sweepOnce 21 = .ok (.iload_n 3, 1) := by decide +kernel
theorem dX2_sweepOnce_22 : decode cX2_sweepOnce 22 = .ok (.laload, 1) := by decide +kernel
theorem dX2_sweepOnce_23 : decode cX2_sweepOnce 23 = .ok (.invokestatic 66, 3) := by decide +kernel
theorem dX2_sweepOnce_26 : decode cX2_sweepOnce 26 = .ok (.ifCond .eq 10, 3) := by decide +kernel
theorem dX2_sweepOnce_29 : decode cX2_sweepOnce 29 = .ok (.aload_n 0, 1) := by decide +kernel
theorem dX2_sweepOnce_30 : decode cX2_sweepOnce 30 = .ok (.getfield 38, 3) := by decide +kernel
theorem dX2_sweepOnce_33 : decode cX2_sweepOnce 33 = .ok (.goto 4, 3) := by decide +kernel
theorem dX2_sweepOnce_36 : decode cX2_sweepOnce 36 = .ok (.iload_n 2, 1) := by decide +kernel
theorem dX2_sweepOnce_37 : decode cX2_sweepOnce 37 = .ok (.istore 4, 2) := by decide +kernel
theorem dX2_sweepOnce_39 : decode cX2_sweepOnce 39 = .ok (.iload_n 3, 1) := by decide +kernel
theorem dX2_sweepOnce_40 : decode cX2_sweepOnce 40 = .ok (.iconst 1, 1) := by decide +kernel
theorem dX2_sweepOnce_41 : decode cX2_sweepOnce 41 = .ok (.iadd, 1) := by decide +kernel
theorem dX2_sweepOnce_42 : decode cX2_sweepOnce 42 = .ok (.istore 5, 2) := by decide +kernel
theorem dX2_sweepOnce_44 : decode cX2_sweepOnce 44 = .ok (.iload 5, 2) := by decide +kernel
theorem dX2_sweepOnce_46 : decode cX2_sweepOnce 46 = .ok (.iload 4, 2) := by decide +kernel
theorem dX2_sweepOnce_48 : decode cX2_sweepOnce 48 = .ok (.if_icmp .ge 22, 3) := by decide +kernel
theorem dX2_sweepOnce_51 : decode cX2_sweepOnce 51 = .ok (.aload_n 0, 1) := by decide +kernel
theorem dX2_sweepOnce_52 : decode cX2_sweepOnce 52 = .ok (.iload_n 3, 1) := by decide +kernel
theorem dX2_sweepOnce_53 : decode cX2_sweepOnce 53 = .ok (.iload 5, 2) := by decide +kernel
theorem dX2_sweepOnce_55 : decode cX2_sweepOnce 55 = .ok (.invokevirtual 72, 3) := by decide +kernel
theorem dX2_sweepOnce_58 : decode cX2_sweepOnce 58 = .ok (.ifCond .eq 6, 3) := by decide +kernel
theorem dX2_sweepOnce_61 : decode cX2_sweepOnce 61 = .ok (.iinc 1 1, 3) := by decide +kernel
theorem dX2_sweepOnce_64 : decode cX2_sweepOnce 64 = .ok (.iinc 5 1, 3) := by decide +kernel
theorem dX2_sweepOnce_67 : decode cX2_sweepOnce 67 = .ok (.goto (-23), 3) := by decide +kernel
theorem dX2_sweepOnce_70 : decode cX2_sweepOnce 70 = .ok (.iinc 3 1, 3) := by decide +kernel
theorem dX2_sweepOnce_73 : decode cX2_sweepOnce 73 = .ok (.goto (-64), 3) := by decide +kernel
theorem dX2_sweepOnce_76 : decode cX2_sweepOnce 76 = .ok (.iload_n 1, 1) := by decide +kernel
theorem dX2_sweepOnce_77 : decode cX2_sweepOnce 77 = .ok (.ireturn, 1) := by decide +kernel
theorem dX2_behindLastLeader_0 : decode cX2_behindLastLeader 0 = .ok (.aload_n 0, 1) := by decide +kernel
theorem dX2_behindLastLeader_1 : decode cX2_behindLastLeader 1 = .ok (.getfield 38, 3) := by decide +kernel
theorem dX2_behindLastLeader_4 : decode cX2_behindLastLeader 4 = .ok (.istore_n 1, 1) := by decide +kernel
theorem dX2_behindLastLeader_5 : decode cX2_behindLastLeader 5 = .ok (.iload_n 1, 1) := by decide +kernel
theorem dX2_behindLastLeader_6 : decode cX2_behindLastLeader 6 = .ok (.ifCond .le 23, 3) := by decide +kernel
theorem dX2_behindLastLeader_9 : decode cX2_behindLastLeader 9 = .ok (.aload_n 0, 1) := by decide +kernel
theorem dX2_behindLastLeader_10 : decode cX2_behindLastLeader 10 = .ok (.getfield 9, 3) := by decide +kernel
theorem dX2_behindLastLeader_13 : decode cX2_behindLastLeader 13 = .ok (.iload_n 1, 1) := by decide +kernel
theorem dX2_behindLastLeader_14 : decode cX2_behindLastLeader 14 = .ok (.iconst 1, 1) := by decide +kernel
theorem dX2_behindLastLeader_15 : decode cX2_behindLastLeader 15 = .ok (.isub, 1) := by decide +kernel
theorem dX2_behindLastLeader_16 : decode cX2_behindLastLeader 16 = .ok (.laload, 1) := by decide +kernel
theorem dX2_behindLastLeader_17 : decode cX2_behindLastLeader 17 = .ok (.invokestatic 66, 3) := by decide +kernel
theorem dX2_behindLastLeader_20 : decode cX2_behindLastLeader 20 = .ok (.ifCond .ne 9, 3) := by decide +kernel
theorem dX2_behindLastLeader_23 : decode cX2_behindLastLeader 23 = .ok (.iinc 1 (-1), 3) := by decide +kernel
theorem dX2_behindLastLeader_26 : decode cX2_behindLastLeader 26 = .ok (.goto (-21), 3) := by decide +kernel
theorem dX2_behindLastLeader_29 : decode cX2_behindLastLeader 29 = .ok (.iload_n 1, 1) := by decide +kernel
theorem dX2_behindLastLeader_30 : decode cX2_behindLastLeader 30 = .ok (.ireturn, 1) := by decide +kernel
theorem dX2_isQuiet_0 : decode cX2_isQuiet 0 = .ok (.aload_n 0, 1) := by decide +kernel
theorem dX2_isQuiet_1 : decode cX2_isQuiet 1 = .ok (.getfield 28, 3) := by decide +kernel
theorem dX2_isQuiet_4 : decode cX2_isQuiet 4 = .ok (.aload_n 0, 1) := by decide +kernel
theorem dX2_isQuiet_5 : decode cX2_isQuiet 5 = .ok (.getfield 9, 3) := by decide +kernel
theorem dX2_isQuiet_8 : decode cX2_isQuiet 8 = .ok (.iconst 0, 1) := by decide +kernel
theorem dX2_isQuiet_9 : decode cX2_isQuiet 9 = .ok (.aload_n 0, 1) := by decide +kernel
theorem dX2_isQuiet_10 : decode cX2_isQuiet 10 = .ok (.getfield 38, 3) := by decide +kernel
theorem dX2_isQuiet_13 : decode cX2_isQuiet 13 = .ok (.invokevirtual 76, 3) := by decide +kernel
theorem dX2_isQuiet_16 : decode cX2_isQuiet 16 = .ok (.ireturn, 1) := by decide +kernel
theorem dX2_isOfOneMind_0 : decode cX2_isOfOneMind 0 = .ok (.aload_n 0, 1) := by decide +kernel
theorem dX2_isOfOneMind_1 : decode cX2_isOfOneMind 1 = .ok (.getfield 38, 3) := by decide +kernel
theorem dX2_isOfOneMind_4 : decode cX2_isOfOneMind 4 = .ok (.ifCond .eq 35, 3) := by decide +kernel
theorem dX2_isOfOneMind_7 : decode cX2_isOfOneMind 7 = .ok (.aload_n 0, 1) := by decide +kernel
theorem dX2_isOfOneMind_8 : decode cX2_isOfOneMind 8 = .ok (.getfield 19, 3) := by decide +kernel
theorem dX2_isOfOneMind_11 : decode cX2_isOfOneMind 11 = .ok (.aload_n 0, 1) := by decide +kernel
theorem dX2_isOfOneMind_12 : decode cX2_isOfOneMind 12 = .ok (.getfield 19, 3) := by decide +kernel
theorem dX2_isOfOneMind_15 : decode cX2_isOfOneMind 15 = .ok (.aload_n 0, 1) := by decide +kernel
theorem dX2_isOfOneMind_16 : decode cX2_isOfOneMind 16 = .ok (.getfield 9, 3) := by decide +kernel
theorem dX2_isOfOneMind_19 : decode cX2_isOfOneMind 19 = .ok (.iconst 0, 1) := by decide +kernel
theorem dX2_isOfOneMind_20 : decode cX2_isOfOneMind 20 = .ok (.laload, 1) := by decide +kernel
theorem dX2_isOfOneMind_21 : decode cX2_isOfOneMind 21 = .ok (.invokevirtual 80, 3) := by decide +kernel
theorem dX2_isOfOneMind_24 : decode cX2_isOfOneMind 24 = .ok (.aload_n 0, 1) := by decide +kernel
theorem dX2_isOfOneMind_25 : decode cX2_isOfOneMind 25 = .ok (.getfield 9, 3) := by decide +kernel
theorem dX2_isOfOneMind_28 : decode cX2_isOfOneMind 28 = .ok (.iconst 0, 1) := by decide +kernel
theorem dX2_isOfOneMind_29 : decode cX2_isOfOneMind 29 = .ok (.aload_n 0, 1) := by decide +kernel
theorem dX2_isOfOneMind_30 : decode cX2_isOfOneMind 30 = .ok (.getfield 38, 3) := by decide +kernel
theorem dX2_isOfOneMind_33 : decode cX2_isOfOneMind 33 = .ok (.invokevirtual 83, 3) := by decide +kernel
theorem dX2_isOfOneMind_36 : decode cX2_isOfOneMind 36 = .ok (.ifCond .eq 7, 3) := by decide +kernel
theorem dX2_isOfOneMind_39 : decode cX2_isOfOneMind 39 = .ok (.iconst 1, 1) := by decide +kernel
theorem dX2_isOfOneMind_40 : decode cX2_isOfOneMind 40 = .ok (.goto 4, 3) := by decide +kernel
theorem dX2_isOfOneMind_43 : decode cX2_isOfOneMind 43 = .ok (.iconst 0, 1) := by decide +kernel
theorem dX2_isOfOneMind_44 : decode cX2_isOfOneMind 44 = .ok (.ireturn, 1) := by decide +kernel
theorem dX3_init_0 : decode cX3_init 0 = .ok (.aload_n 0, 1) := by decide +kernel
theorem dX3_init_1 : decode cX3_init 1 = .ok (.invokespecial 3, 3) := by decide +kernel
theorem dX3_init_4 : decode cX3_init 4 = .ok (.aload_n 0, 1) := by decide +kernel
theorem dX3_init_5 : decode cX3_init 5 = .ok (.bipush 8, 2) := by decide +kernel
theorem dX3_init_7 : decode cX3_init 7 = .ok (.newarray .int, 2) := by decide +kernel
theorem dX3_init_9 : decode cX3_init 9 = .ok (.putfield 9, 3) := by decide +kernel
theorem dX3_init_12 : decode cX3_init 12 = .ok (.aload_n 0, 1) := by decide +kernel
theorem dX3_init_13 : decode cX3_init 13 = .ok (.bipush 20, 2) := by decide +kernel
theorem dX3_init_15 : decode cX3_init 15 = .ok (.newarray .int, 2) := by decide +kernel
theorem dX3_init_17 : decode cX3_init 17 = .ok (.putfield 15, 3) := by decide +kernel
theorem dX3_init_20 : decode cX3_init 20 = .ok (.aload_n 0, 1) := by decide +kernel
theorem dX3_init_21 : decode cX3_init 21 = .ok (.bipush 20, 2) := by decide +kernel
theorem dX3_init_23 : decode cX3_init 23 = .ok (.newarray .int, 2) := by decide +kernel
theorem dX3_init_25 : decode cX3_init 25 = .ok (.putfield 18, 3) := by decide +kernel
theorem dX3_init_28 : decode cX3_init 28 = .ok (.aload_n 0, 1) := by decide +kernel
theorem dX3_init_29 : decode cX3_init 29 = .ok (.bipush 20, 2) := by decide +kernel
theorem dX3_init_31 : decode cX3_init 31 = .ok (.newarray .int, 2) := by decide +kernel
theorem dX3_init_33 : decode cX3_init 33 = .ok (.putfield 21, 3) := by decide +kernel
theorem dX3_init_36 : decode cX3_init 36 = .ok (.aload_n 0, 1) := by decide +kernel
theorem dX3_init_37 : decode cX3_init 37 = .ok (.iconst 5, 1) := by decide +kernel
theorem dX3_init_38 : decode cX3_init 38 = .ok (.anewarray 24, 3) := by decide +kernel
theorem dX3_init_41 : decode cX3_init 41 = .ok (.putfield 26, 3) := by decide +kernel
theorem dX3_init_44 : decode cX3_init 44 = .ok (.iconst 0, 1) := by decide +kernel
theorem dX3_init_45 : decode cX3_init 45 = .ok (.istore_n 1, 1) := by decide +kernel
theorem dX3_init_46 : decode cX3_init 46 = .ok (.iload_n 1, 1) := by decide +kernel
theorem dX3_init_47 : decode cX3_init 47 = .ok (.iconst 5, 1) := by decide +kernel
theorem dX3_init_48 : decode cX3_init 48 = .ok (.if_icmp .ge 22, 3) := by decide +kernel
theorem dX3_init_51 : decode cX3_init 51 = .ok (.aload_n 0, 1) := by decide +kernel
theorem dX3_init_52 : decode cX3_init 52 = .ok (.getfield 26, 3) := by decide +kernel
theorem dX3_init_55 : decode cX3_init 55 = .ok (.iload_n 1, 1) := by decide +kernel
theorem dX3_init_56 : decode cX3_init 56 = .ok (.new 24, 3) := by decide +kernel
theorem dX3_init_59 : decode cX3_init 59 = .ok (.dup, 1) := by decide +kernel
theorem dX3_init_60 : decode cX3_init 60 = .ok (.invokespecial 30, 3) := by decide +kernel
theorem dX3_init_63 : decode cX3_init 63 = .ok (.aastore, 1) := by decide +kernel
theorem dX3_init_64 : decode cX3_init 64 = .ok (.iinc 1 1, 3) := by decide +kernel
theorem dX3_init_67 : decode cX3_init 67 = .ok (.goto (-21), 3) := by decide +kernel
theorem dX3_init_70 : decode cX3_init 70 = .ok (.return_, 1) := by decide +kernel
theorem dX3_reset_0 : decode cX3_reset 0 = .ok (.aload_n 0, 1) := by decide +kernel
theorem dX3_reset_1 : decode cX3_reset 1 = .ok (.getfield 9, 3) := by decide +kernel
theorem dX3_reset_4 : decode cX3_reset 4 = .ok (.iconst 0, 1) := by decide +kernel
theorem dX3_reset_5 : decode cX3_reset 5 = .ok (.invokestatic 31, 3) := by decide +kernel
theorem dX3_reset_8 : decode cX3_reset 8 = .ok (.aload_n 0, 1) := by decide +kernel
theorem dX3_reset_9 : decode cX3_reset 9 = .ok (.iconst 0, 1) := by decide +kernel
theorem dX3_reset_10 : decode cX3_reset 10 = .ok (.putfield 37, 3) := by decide +kernel
theorem dX3_reset_13 : decode cX3_reset 13 = .ok (.aload_n 0, 1) := by decide +kernel
theorem dX3_reset_14 : decode cX3_reset 14 = .ok (.iconst 0, 1) := by decide +kernel
theorem dX3_reset_15 : decode cX3_reset 15 = .ok (.putfield 41, 3) := by decide +kernel
theorem dX3_reset_18 : decode cX3_reset 18 = .ok (.aload_n 0, 1) := by decide +kernel
theorem dX3_reset_19 : decode cX3_reset 19 = .ok (.iconst 0, 1) := by decide +kernel
theorem dX3_reset_20 : decode cX3_reset 20 = .ok (.putfield 44, 3) := by decide +kernel
theorem dX3_reset_23 : decode cX3_reset 23 = .ok (.return_, 1) := by decide +kernel
theorem dX3_setPending_0 : decode cX3_setPending 0 = .ok (.aload_n 0, 1) := by decide +kernel
theorem dX3_setPending_1 : decode cX3_setPending 1 = .ok (.getfield 9, 3) := by decide +kernel
theorem dX3_setPending_4 : decode cX3_setPending 4 = .ok (.iload_n 1, 1) := by decide +kernel
theorem dX3_setPending_5 : decode cX3_setPending 5 = .ok (.iaload, 1) := by decide +kernel
theorem dX3_setPending_6 : decode cX3_setPending 6 = .ok (.istore_n 3, 1) := by decide +kernel
theorem dX3_setPending_7 : decode cX3_setPending 7 = .ok (.aload_n 0, 1) := by decide +kernel
theorem dX3_setPending_8 : decode cX3_setPending 8 = .ok (.getfield 9, 3) := by decide +kernel
theorem dX3_setPending_11 : decode cX3_setPending 11 = .ok (.iload_n 1, 1) := by decide +kernel
theorem dX3_setPending_12 : decode cX3_setPending 12 = .ok (.iload_n 2, 1) := by decide +kernel
theorem dX3_setPending_13 : decode cX3_setPending 13 = .ok (.iastore, 1) := by decide +kernel
theorem dX3_setPending_14 : decode cX3_setPending 14 = .ok (.iload_n 3, 1) := by decide +kernel
theorem dX3_setPending_15 : decode cX3_setPending 15 = .ok (.ireturn, 1) := by decide +kernel
theorem dX3_takesNode_0 : decode cX3_takesNode 0 = .ok (.aload_n 0, 1) := by decide +kernel
theorem dX3_takesNode_1 : decode cX3_takesNode 1 = .ok (.getfield 44, 3) := by decide +kernel
theorem dX3_takesNode_4 : decode cX3_takesNode 4 = .ok (.ifCond .ne 16, 3) := by decide +kernel
theorem dX3_takesNode_7 : decode cX3_takesNode 7 = .ok (.aload_n 0, 1) := by decide +kernel
theorem dX3_takesNode_8 : decode cX3_takesNode 8 = .ok (.getfield 37, 3) := by decide +kernel
theorem dX3_takesNode_11 : decode cX3_takesNode 11 = .ok (.bipush 20, 2) := by decide +kernel
theorem dX3_takesNode_13 : decode cX3_takesNode 13 = .ok (.if_icmp .ge 7, 3) := by decide +kernel
theorem dX3_takesNode_16 : decode cX3_takesNode 16 = .ok (.iconst 1, 1) := by decide +kernel
theorem dX3_takesNode_17 : decode cX3_takesNode 17 = .ok (.goto 4, 3) := by decide +kernel
theorem dX3_takesNode_20 : decode cX3_takesNode 20 = .ok (.iconst 0, 1) := by decide +kernel
theorem dX3_takesNode_21 : decode cX3_takesNode 21 = .ok (.ireturn, 1) := by decide +kernel
theorem dX3_takesAtom_0 : decode cX3_takesAtom 0 = .ok (.aload_n 0, 1) := by decide +kernel
theorem dX3_takesAtom_1 : decode cX3_takesAtom 1 = .ok (.invokevirtual 48, 3) := by decide +kernel
theorem dX3_takesAtom_4 : decode cX3_takesAtom 4 = .ok (.ifCond .eq 15, 3) := by decide +kernel
theorem dX3_takesAtom_7 : decode cX3_takesAtom 7 = .ok (.aload_n 0, 1) := by decide +kernel
theorem dX3_takesAtom_8 : decode cX3_takesAtom 8 = .ok (.getfield 41, 3) := by decide +kernel
theorem dX3_takesAtom_11 : decode cX3_takesAtom 11 = .ok (.iconst 5, 1) := by decide +kernel
theorem dX3_takesAtom_12 : decode cX3_takesAtom 12 = .ok (.if_icmp .ge 7, 3) := by decide +kernel
theorem dX3_takesAtom_15 : decode cX3_takesAtom 15 = .ok (.iconst 1, 1) := by decide +kernel
theorem dX3_takesAtom_16 : decode cX3_takesAtom 16 = .ok (.goto 4, 3) := by decide +kernel
theorem dX3_takesAtom_19 : decode cX3_takesAtom 19 = .ok (.iconst 0, 1) := by decide +kernel
theorem dX3_takesAtom_20 : decode cX3_takesAtom 20 = .ok (.ireturn, 1) := by decide +kernel
theorem dX3_hasNode_0 : decode cX3_hasNode 0 = .ok (.iload_n 1, 1) := by decide +kernel
theorem dX3_hasNode_1 : decode cX3_hasNode 1 = .ok (.ifCond .lt 15, 3) := by decide +kernel
theorem dX3_hasNode_4 : decode cX3_hasNode 4 = .ok (.iload_n 1, 1) := by decide +kernel
theorem dX3_hasNode_5 : decode cX3_hasNode 5 = .ok (.aload_n 0, 1) := by decide +kernel
theorem dX3_hasNode_6 : decode cX3_hasNode 6 = .ok (.getfield 37, 3) := by decide +kernel
theorem dX3_hasNode_9 : decode cX3_hasNode 9 = .ok (.if_icmp .ge 7, 3) := by decide +kernel
theorem dX3_hasNode_12 : decode cX3_hasNode 12 = .ok (.iconst 1, 1) := by decide +kernel
theorem dX3_hasNode_13 : decode cX3_hasNode 13 = .ok (.goto 4, 3) := by decide +kernel
theorem dX3_hasNode_16 : decode cX3_hasNode 16 = .ok (.iconst 0, 1) := by decide +kernel
theorem dX3_hasNode_17 : decode cX3_hasNode 17 = .ok (.ireturn, 1) := by decide +kernel
theorem dX3_hasAtom_0 : decode cX3_hasAtom 0 = .ok (.iload_n 1, 1) := by decide +kernel
theorem dX3_hasAtom_1 : decode cX3_hasAtom 1 = .ok (.ifCond .lt 15, 3) := by decide +kernel
theorem dX3_hasAtom_4 : decode cX3_hasAtom 4 = .ok (.iload_n 1, 1) := by decide +kernel
theorem dX3_hasAtom_5 : decode cX3_hasAtom 5 = .ok (.aload_n 0, 1) := by decide +kernel
theorem dX3_hasAtom_6 : decode cX3_hasAtom 6 = .ok (.getfield 41, 3) := by decide +kernel
theorem dX3_hasAtom_9 : decode cX3_hasAtom 9 = .ok (.if_icmp .ge 7, 3) := by decide +kernel
theorem dX3_hasAtom_12 : decode cX3_hasAtom 12 = .ok (.iconst 1, 1) := by decide +kernel
theorem dX3_hasAtom_13 : decode cX3_hasAtom 13 = .ok (.goto 4, 3) := by decide +kernel
theorem dX3_hasAtom_16 : decode cX3_hasAtom 16 = .ok (.iconst 0, 1) := by decide +kernel
theorem dX3_hasAtom_17 : decode cX3_hasAtom 17 = .ok (.ireturn, 1) := by decide +kernel
theorem dX3_isCompiled_0 : decode cX3_isCompiled 0 = .ok (.aload_n 0, 1) := by decide +kernel
theorem dX3_isCompiled_1 : decode cX3_isCompiled 1 = .ok (.getfield 44, 3) := by decide +kernel
theorem dX3_isCompiled_4 : decode cX3_isCompiled 4 = .ok (.ireturn, 1) := by decide +kernel
theorem dX3_isEmpty_0 : decode cX3_isEmpty 0 = .ok (.aload_n 0, 1) := by decide +kernel
theorem dX3_isEmpty_1 : decode cX3_isEmpty 1 = .ok (.getfield 37, 3) := by decide +kernel
theorem dX3_isEmpty_4 : decode cX3_isEmpty 4 = .ok (.ifCond .ne 7, 3) := by decide +kernel
theorem dX3_isEmpty_7 : decode cX3_isEmpty 7 = .ok (.iconst 1, 1) := by decide +kernel
theorem dX3_isEmpty_8 : decode cX3_isEmpty 8 = .ok (.goto 4, 3) := by decide +kernel
theorem dX3_isEmpty_11 : decode cX3_isEmpty 11 = .ok (.iconst 0, 1) := by decide +kernel
theorem dX3_isEmpty_12 : decode cX3_isEmpty 12 = .ok (.ireturn, 1) := by decide +kernel
theorem dX3_atom_0 : decode cX3_atom 0 = .ok (.aload_n 0, 1) := by decide +kernel
theorem dX3_atom_1 : decode cX3_atom 1 = .ok (.getfield 26, 3) := by decide +kernel
theorem dX3_atom_4 : decode cX3_atom 4 = .ok (.iload_n 1, 1) := by decide +kernel
theorem dX3_atom_5 : decode cX3_atom 5 = .ok (.aaload, 1) := by decide +kernel
theorem dX3_atom_6 : decode cX3_atom 6 = .ok (.areturn, 1) := by decide +kernel
theorem dX3_atomCount_0 : decode cX3_atomCount 0 = .ok (.aload_n 0, 1) := by decide +kernel
theorem dX3_atomCount_1 : decode cX3_atomCount 1 = .ok (.getfield 41, 3) := by decide +kernel
theorem dX3_atomCount_4 : decode cX3_atomCount 4 = .ok (.ireturn, 1) := by decide +kernel
theorem dX3_addAtom_0 : decode cX3_addAtom 0 = .ok (.aload_n 0, 1) := by decide +kernel
theorem dX3_addAtom_1 : decode cX3_addAtom 1 = .ok (.getfield 26, 3) := by decide +kernel
theorem dX3_addAtom_4 : decode cX3_addAtom 4 = .ok (.aload_n 0, 1) := by decide +kernel
theorem dX3_addAtom_5 : decode cX3_addAtom 5 = .ok (.getfield 41, 3) := by decide +kernel
theorem dX3_addAtom_8 : decode cX3_addAtom 8 = .ok (.aaload, 1) := by decide +kernel
theorem dX3_addAtom_9 : decode cX3_addAtom 9 = .ok (.iload_n 1, 1) := by decide +kernel
theorem dX3_addAtom_10 : decode cX3_addAtom 10 = .ok (.iload_n 2, 1) := by decide +kernel
theorem dX3_addAtom_11 : decode cX3_addAtom 11 = .ok (.aload_n 0, 1) := by decide +kernel
theorem dX3_addAtom_12 : decode cX3_addAtom 12 = .ok (.getfield 9, 3) := by decide +kernel
theorem dX3_addAtom_15 : decode cX3_addAtom 15 = .ok (.invokevirtual 52, 3) := by decide +kernel
theorem dX3_addAtom_18 : decode cX3_addAtom 18 = .ok (.aload_n 0, 1) := by decide +kernel
theorem dX3_addAtom_19 : decode cX3_addAtom 19 = .ok (.getfield 9, 3) := by decide +kernel
theorem dX3_addAtom_22 : decode cX3_addAtom 22 = .ok (.iconst 0, 1) := by decide +kernel
theorem dX3_addAtom_23 : decode cX3_addAtom 23 = .ok (.invokestatic 31, 3) := by decide +kernel
theorem dX3_addAtom_26 : decode cX3_addAtom 26 = .ok (.aload_n 0, 1) := by decide +kernel
theorem dX3_addAtom_27 : decode cX3_addAtom 27 = .ok (.iconst 3, 1) := by decide +kernel
theorem dX3_addAtom_28 : decode cX3_addAtom 28 = .ok (.aload_n 0, 1) := by decide +kernel
theorem dX3_addAtom_29 : decode cX3_addAtom 29 = .ok (.getfield 41, 3) := by decide +kernel
theorem dX3_addAtom_32 : decode cX3_addAtom 32 = .ok (.iconst 0, 1) := by decide +kernel
theorem dX3_addAtom_33 : decode cX3_addAtom 33 = .ok (.invokevirtual 56, 3) := by decide +kernel
theorem dX3_addAtom_36 : decode cX3_addAtom 36 = .ok (.istore_n 3, 1) := by decide +kernel
theorem dX3_addAtom_37 : decode cX3_addAtom 37 = .ok (.aload_n 0, 1) := by decide +kernel
theorem dX3_addAtom_38 : decode cX3_addAtom 38 = .ok (.dup, 1) := by decide +kernel
theorem dX3_addAtom_39 : decode cX3_addAtom 39 = .ok (.getfield 41, 3) := by decide +kernel
theorem dX3_addAtom_42 : decode cX3_addAtom 42 = .ok (.iconst 1, 1) := by decide +kernel
theorem dX3_addAtom_43 : decode cX3_addAtom 43 = .ok (.iadd, 1) := by decide +kernel
theorem dX3_addAtom_44 : decode cX3_addAtom 44 = .ok (.putfield 41, 3) := by decide +kernel
theorem dX3_addAtom_47 : decode cX3_addAtom 47 = .ok (.iload_n 3, 1) := by decide +kernel
theorem dX3_addAtom_48 : decode cX3_addAtom 48 = .ok (.ireturn, 1) := by decide +kernel
theorem dX3_addNode_0 : decode cX3_addNode 0 = .ok (.aload_n 0, 1) := by decide +kernel
theorem dX3_addNode_1 : decode cX3_addNode 1 = .ok (.getfield 37, 3) := by decide +kernel
theorem dX3_addNode_4 : decode cX3_addNode 4 = .ok (.istore 4, 2) := by decide +kernel
theorem dX3_addNode_6 : decode cX3_addNode 6 = .ok (.aload_n 0, 1) := by decide +kernel
theorem dX3_addNode_7 : decode cX3_addNode 7 = .ok (.getfield 15, 3) := by decide +kernel
theorem dX3_addNode_10 : decode cX3_addNode 10 = .ok (.iload 4, 2) := by decide +kernel
theorem dX3_addNode_12 : decode cX3_addNode 12 = .ok (.iload_n 1, 1) := by decide +kernel
theorem dX3_addNode_13 : decode cX3_addNode 13 = .ok (.iastore, 1) := by decide +kernel
theorem dX3_addNode_14 : decode cX3_addNode 14 = .ok (.aload_n 0, 1) := by decide +kernel
theorem dX3_addNode_15 : decode cX3_addNode 15 = .ok (.getfield 18, 3) := by decide +kernel
theorem dX3_addNode_18 : decode cX3_addNode 18 = .ok (.iload 4, 2) := by decide +kernel
theorem dX3_addNode_20 : decode cX3_addNode 20 = .ok (.iload_n 2, 1) := by decide +kernel
theorem dX3_addNode_21 : decode cX3_addNode 21 = .ok (.iastore, 1) := by decide +kernel
theorem dX3_addNode_22 : decode cX3_addNode 22 = .ok (.aload_n 0, 1) := by decide +kernel
theorem dX3_addNode_23 : decode cX3_addNode 23 = .ok (.getfield 21, 3) := by decide +kernel
theorem dX3_addNode_26 : decode cX3_addNode 26 = .ok (.iload 4, 2) := by decide +kernel
theorem dX3_addNode_28 : decode cX3_addNode 28 = .ok (.iload_n 3, 1) := by decide +kernel
theorem dX3_addNode_29 : decode cX3_addNode 29 = .ok (.iastore, 1) := by decide +kernel
theorem dX3_addNode_30 : decode cX3_addNode 30 = .ok (.aload_n 0, 1) := by decide +kernel
theorem dX3_addNode_31 : decode cX3_addNode 31 = .ok (.dup, 1) := by decide +kernel
theorem dX3_addNode_32 : decode cX3_addNode 32 = .ok (.getfield 37, 3) := by decide +kernel
theorem dX3_addNode_35 : decode cX3_addNode 35 = .ok (.iconst 1, 1) := by decide +kernel
theorem dX3_addNode_36 : decode cX3_addNode 36 = .ok (.iadd, 1) := by decide +kernel
theorem dX3_addNode_37 : decode cX3_addNode 37 = .ok (.putfield 37, 3) := by decide +kernel
theorem dX3_addNode_40 : decode cX3_addNode 40 = .ok (.iload 4, 2) := by decide +kernel
theorem dX3_addNode_42 : decode cX3_addNode 42 = .ok (.ireturn, 1) := by decide +kernel
theorem dX3_hasSharedNode_0 : decode cX3_hasSharedNode 0 = .ok (.iconst 0, 1) := by decide +kernel
theorem dX3_hasSharedNode_1 : decode cX3_hasSharedNode 1 = .ok (.istore_n 1, 1) := by decide +kernel
theorem dX3_hasSharedNode_2 : decode cX3_hasSharedNode 2 = .ok (.iconst 0, 1) := by decide +kernel
theorem dX3_hasSharedNode_3 : decode cX3_hasSharedNode 3 = .ok (.istore_n 2, 1) := by decide +kernel
theorem dX3_hasSharedNode_4 : decode cX3_hasSharedNode 4 = .ok (.iload_n 2, 1) := by decide +kernel
theorem dX3_hasSharedNode_5 : decode cX3_hasSharedNode 5 = .ok (.aload_n 0, 1) := by decide +kernel
theorem dX3_hasSharedNode_6 : decode cX3_hasSharedNode 6 = .ok (.getfield 37, 3) := by decide +kernel
theorem dX3_hasSharedNode_9 : decode cX3_hasSharedNode 9 = .ok (.if_icmp .ge 90, 3) := by decide +kernel
theorem dX3_hasSharedNode_12 : decode cX3_hasSharedNode 12 = .ok (.aload_n 0, 1) := by decide +kernel
theorem dX3_hasSharedNode_13 : decode cX3_hasSharedNode 13 = .ok (.getfield 15, 3) := by decide +kernel
end
section
theorem dX3_hasSharedNode_16 : decode cX3_hasSharedNode 16 = .ok (.iload_n 2, 1) := by decide +kernel
theorem dX3_hasSharedNode_17 : decode cX3_hasSharedNode 17 = .ok (.iaload, 1) := by decide +kernel
theorem dX3_hasSharedNode_18 : decode cX3_hasSharedNode 18 = .ok (.iconst 3, 1) := by decide +kernel
theorem dX3_hasSharedNode_19 : decode cX3_hasSharedNode 19 = .ok (.if_icmp .ne 7, 3) := by decide +kernel
theorem dX3_hasSharedNode_22 : decode cX3_hasSharedNode 22 = .ok (.iconst 0, 1) := by decide +kernel
theorem dX3_hasSharedNode_23 : decode cX3_hasSharedNode 23 = .ok (.goto 11, 3) := by decide +kernel
theorem dX3_hasSharedNode_26 : decode cX3_hasSharedNode 26 = .ok (.iconst 1, 1) := by decide +kernel
theorem dX3_hasSharedNode_27 : decode cX3_hasSharedNode 27 = .ok (.aload_n 0, 1) := by decide +kernel
theorem dX3_hasSharedNode_28 : decode cX3_hasSharedNode 28 = .ok (.getfield 18, 3) := by decide +kernel
theorem dX3_hasSharedNode_31 : decode cX3_hasSharedNode 31 = .ok (.iload_n 2, 1) := by decide +kernel
theorem dX3_hasSharedNode_32 : decode cX3_hasSharedNode 32 = .ok (.iaload, 1) := by decide +kernel
theorem dX3_hasSharedNode_33 : decode cX3_hasSharedNode 33 = .ok (.ishl, 1) := by decide +kernel
theorem dX3_hasSharedNode_34 : decode cX3_hasSharedNode 34 = .ok (.istore_n 3, 1) := by decide +kernel
theorem dX3_hasSharedNode_35 : decode cX3_hasSharedNode 35 = .ok (.aload_n 0, 1) := by decide +kernel
theorem dX3_hasSharedNode_36 : decode cX3_hasSharedNode 36 = .ok (.getfield 15, 3) := by decide +kernel
theorem dX3_hasSharedNode_39 : decode cX3_hasSharedNode 39 = .ok (.iload_n 2, 1) := by decide +kernel
theorem dX3_hasSharedNode_40 : decode cX3_hasSharedNode 40 = .ok (.iaload, 1) := by decide +kernel
theorem dX3_hasSharedNode_41 : decode cX3_hasSharedNode 41 = .ok (.ifCond .eq 13, 3) := by decide +kernel
theorem dX3_hasSharedNode_44 : decode cX3_hasSharedNode 44 = .ok (.aload_n 0, 1) := by decide +kernel
theorem dX3_hasSharedNode_45 : decode cX3_hasSharedNode 45 = .ok (.getfield 15, 3) := by decide +kernel
theorem dX3_hasSharedNode_48 : decode cX3_hasSharedNode 48 = .ok (.iload_n 2, 1) := by decide +kernel
theorem dX3_hasSharedNode_49 : decode cX3_hasSharedNode 49 = .ok (.iaload, 1) := by decide +kernel
theorem dX3_hasSharedNode_50 : decode cX3_hasSharedNode 50 = .ok (.iconst 1, 1) := by decide +kernel
theorem dX3_hasSharedNode_51 : decode cX3_hasSharedNode 51 = .ok (.if_icmp .ne 14, 3) := by decide +kernel
theorem dX3_hasSharedNode_54 : decode cX3_hasSharedNode 54 = .ok (.iconst 1, 1) := by decide +kernel
theorem dX3_hasSharedNode_55 : decode cX3_hasSharedNode 55 = .ok (.aload_n 0, 1) := by decide +kernel
theorem dX3_hasSharedNode_56 : decode cX3_hasSharedNode 56 = .ok (.getfield 21, 3) := by decide +kernel
theorem dX3_hasSharedNode_59 : decode cX3_hasSharedNode 59 = .ok (.iload_n 2, 1) := by decide +kernel
theorem dX3_hasSharedNode_60 : decode cX3_hasSharedNode 60 = .ok (.iaload, 1) := by decide +kernel
theorem dX3_hasSharedNode_61 : decode cX3_hasSharedNode 61 = .ok (.ishl, 1) := by decide +kernel
theorem dX3_hasSharedNode_62 : decode cX3_hasSharedNode 62 = .ok (.goto 4, 3) := by decide +kernel
theorem dX3_hasSharedNode_65 : decode cX3_hasSharedNode 65 = .ok (.iconst 0, 1) := by decide +kernel
theorem dX3_hasSharedNode_66 : decode cX3_hasSharedNode 66 = .ok (.istore 4, 2) := by decide +kernel
theorem dX3_hasSharedNode_68 : decode cX3_hasSharedNode 68 = .ok (.iload_n 1, 1) := by decide +kernel
theorem dX3_hasSharedNode_69 : decode cX3_hasSharedNode 69 = .ok (.iload_n 3, 1) := by decide +kernel
theorem dX3_hasSharedNode_70 : decode cX3_hasSharedNode 70 = .ok (.iload 4, 2) := by decide +kernel
theorem dX3_hasSharedNode_72 : decode cX3_hasSharedNode 72 = .ok (.ior, 1) := by decide +kernel
theorem dX3_hasSharedNode_73 : decode cX3_hasSharedNode 73 = .ok (.iand, 1) := by decide +kernel
theorem dX3_hasSharedNode_74 : decode cX3_hasSharedNode 74 = .ok (.ifCond .ne 10, 3) := by decide +kernel
theorem dX3_hasSharedNode_77 : decode cX3_hasSharedNode 77 = .ok (.iload_n 3, 1) := by decide +kernel
theorem dX3_hasSharedNode_78 : decode cX3_hasSharedNode 78 = .ok (.iload 4, 2) := by decide +kernel
theorem dX3_hasSharedNode_80 : decode cX3_hasSharedNode 80 = .ok (.iand, 1) := by decide +kernel
theorem dX3_hasSharedNode_81 : decode cX3_hasSharedNode 81 = .ok (.ifCond .eq 5, 3) := by decide +kernel
theorem dX3_hasSharedNode_84 : decode cX3_hasSharedNode 84 = .ok (.iconst 1, 1) := by decide +kernel
theorem dX3_hasSharedNode_85 : decode cX3_hasSharedNode 85 = .ok (.ireturn, 1) := by decide +kernel
theorem dX3_hasSharedNode_86 : decode cX3_hasSharedNode 86 = .ok (.iload_n 1, 1) := by decide +kernel
theorem dX3_hasSharedNode_87 : decode cX3_hasSharedNode 87 = .ok (.iload_n 3, 1) := by decide +kernel
theorem dX3_hasSharedNode_88 : decode cX3_hasSharedNode 88 = .ok (.iload 4, 2) := by decide +kernel
theorem dX3_hasSharedNode_90 : decode cX3_hasSharedNode 90 = .ok (.ior, 1) := by decide +kernel
theorem dX3_hasSharedNode_91 : decode cX3_hasSharedNode 91 = .ok (.ior, 1) := by decide +kernel
theorem dX3_hasSharedNode_92 : decode cX3_hasSharedNode 92 = .ok (.istore_n 1, 1) := by decide +kernel
theorem dX3_hasSharedNode_93 : decode cX3_hasSharedNode 93 = .ok (.iinc 2 1, 3) := by decide +kernel
theorem dX3_hasSharedNode_96 : decode cX3_hasSharedNode 96 = .ok (.goto (-92), 3) := by decide +kernel
theorem dX3_hasSharedNode_99 : decode cX3_hasSharedNode 99 = .ok (.iconst 0, 1) := by decide +kernel
theorem dX3_hasSharedNode_100 : decode cX3_hasSharedNode 100 = .ok (.ireturn, 1) := by decide +kernel
theorem dX3_makeRules_0 : decode cX3_makeRules 0 = .ok (.iconst 0, 1) := by decide +kernel
theorem dX3_makeRules_1 : decode cX3_makeRules 1 = .ok (.istore_n 1, 1) := by decide +kernel
theorem dX3_makeRules_2 : decode cX3_makeRules 2 = .ok (.iconst 0, 1) := by decide +kernel
theorem dX3_makeRules_3 : decode cX3_makeRules 3 = .ok (.istore_n 2, 1) := by decide +kernel
theorem dX3_makeRules_4 : decode cX3_makeRules 4 = .ok (.iload_n 2, 1) := by decide +kernel
theorem dX3_makeRules_5 : decode cX3_makeRules 5 = .ok (.aload_n 0, 1) := by decide +kernel
theorem dX3_makeRules_6 : decode cX3_makeRules 6 = .ok (.getfield 41, 3) := by decide +kernel
theorem dX3_makeRules_9 : decode cX3_makeRules 9 = .ok (.if_icmp .ge 30, 3) := by decide +kernel
theorem dX3_makeRules_12 : decode cX3_makeRules 12 = .ok (.aload_n 0, 1) := by decide +kernel
theorem dX3_makeRules_13 : decode cX3_makeRules 13 = .ok (.getfield 26, 3) := by decide +kernel
theorem dX3_makeRules_16 : decode cX3_makeRules 16 = .ok (.iload_n 2, 1) := by decide +kernel
theorem dX3_makeRules_17 : decode cX3_makeRules 17 = .ok (.aaload, 1) := by decide +kernel
theorem dX3_makeRules_18 : decode cX3_makeRules 18 = .ok (.invokevirtual 60, 3) := by decide +kernel
theorem dX3_makeRules_21 : decode cX3_makeRules 21 = .ok (.iload_n 1, 1) := by decide +kernel
theorem dX3_makeRules_22 : decode cX3_makeRules 22 = .ok (.aload_n 0, 1) := by decide +kernel
theorem dX3_makeRules_23 : decode cX3_makeRules 23 = .ok (.getfield 26, 3) := by decide +kernel
theorem dX3_makeRules_26 : decode cX3_makeRules 26 = .ok (.iload_n 2, 1) := by decide +kernel
theorem dX3_makeRules_27 : decode cX3_makeRules 27 = .ok (.aaload, 1) := by decide +kernel
theorem dX3_makeRules_28 : decode cX3_makeRules 28 = .ok (.invokevirtual 63, 3) := by decide +kernel
theorem dX3_makeRules_31 : decode cX3_makeRules 31 = .ok (.iadd, 1) := by decide +kernel
theorem dX3_makeRules_32 : decode cX3_makeRules 32 = .ok (.istore_n 1, 1) := by decide +kernel
theorem dX3_makeRules_33 : decode cX3_makeRules 33 = .ok (.iinc 2 1, 3) := by decide +kernel
theorem dX3_makeRules_36 : decode cX3_makeRules 36 = .ok (.goto (-32), 3) := by decide +kernel
theorem dX3_makeRules_39 : decode cX3_makeRules 39 = .ok (.aload_n 0, 1) := by decide +kernel
theorem dX3_makeRules_40 : decode cX3_makeRules 40 = .ok (.iconst 1, 1) := by decide +kernel
theorem dX3_makeRules_41 : decode cX3_makeRules 41 = .ok (.putfield 44, 3) := by decide +kernel
theorem dX3_makeRules_44 : decode cX3_makeRules 44 = .ok (.iload_n 1, 1) := by decide +kernel
theorem dX3_makeRules_45 : decode cX3_makeRules 45 = .ok (.ireturn, 1) := by decide +kernel
theorem dX3_beginning_0 : decode cX3_beginning 0 = .ok (.lconst 0, 1) := by decide +kernel
theorem dX3_beginning_1 : decode cX3_beginning 1 = .ok (.lstore_n 2, 1) := by decide +kernel
theorem dX3_beginning_2 : decode cX3_beginning 2 = .ok (.iconst 0, 1) := by decide +kernel
theorem dX3_beginning_3 : decode cX3_beginning 3 = .ok (.istore 4, 2) := by decide +kernel
theorem dX3_beginning_5 : decode cX3_beginning 5 = .ok (.iload 4, 2) := by decide +kernel
theorem dX3_beginning_7 : decode cX3_beginning 7 = .ok (.aload_n 0, 1) := by decide +kernel
theorem dX3_beginning_8 : decode cX3_beginning 8 = .ok (.getfield 41, 3) := by decide +kernel
theorem dX3_beginning_11 : decode cX3_beginning 11 = .ok (.if_icmp .ge 28, 3) := by decide +kernel
theorem dX3_beginning_14 : decode cX3_beginning 14 = .ok (.lload_n 2, 1) := by decide +kernel
theorem dX3_beginning_15 : decode cX3_beginning 15 = .ok (.aload_n 0, 1) := by decide +kernel
theorem dX3_beginning_16 : decode cX3_beginning 16 = .ok (.getfield 26, 3) := by decide +kernel
theorem dX3_beginning_19 : decode cX3_beginning 19 = .ok (.iload 4, 2) := by decide +kernel
theorem dX3_beginning_21 : decode cX3_beginning 21 = .ok (.aaload, 1) := by decide +kernel
theorem dX3_beginning_22 : decode cX3_beginning 22 = .ok (.iload_n 1, 1) := by decide +kernel
theorem dX3_beginning_23 : decode cX3_beginning 23 = .ok (.invokevirtual 67, 3) := by decide +kernel
theorem dX3_beginning_26 : decode cX3_beginning 26 = .ok (.iload 4, 2) := by decide +kernel
theorem dX3_beginning_28 : decode cX3_beginning 28 = .ok (.invokestatic 71, 3) := by decide +kernel
theorem dX3_beginning_31 : decode cX3_beginning 31 = .ok (.lor, 1) := by decide +kernel
theorem dX3_beginning_32 : decode cX3_beginning 32 = .ok (.lstore_n 2, 1) := by decide +kernel
theorem dX3_beginning_33 : decode cX3_beginning 33 = .ok (.iinc 4 1, 3) := by decide +kernel
theorem dX3_beginning_36 : decode cX3_beginning 36 = .ok (.goto (-31), 3) := by decide +kernel
theorem dX3_beginning_39 : decode cX3_beginning 39 = .ok (.lload_n 2, 1) := by decide +kernel
theorem dX3_beginning_40 : decode cX3_beginning 40 = .ok (.lreturn, 1) := by decide +kernel
theorem dX3_isTrueOf_0 : decode cX3_isTrueOf 0 = .ok (.iconst 0, 1) := by decide +kernel
theorem dX3_isTrueOf_1 : decode cX3_isTrueOf 1 = .ok (.istore_n 2, 1) := by decide +kernel
theorem dX3_isTrueOf_2 : decode cX3_isTrueOf 2 = .ok (.iconst 0, 1) := by decide +kernel
theorem dX3_isTrueOf_3 : decode cX3_isTrueOf 3 = .ok (.istore_n 3, 1) := by decide +kernel
theorem dX3_isTrueOf_4 : decode cX3_isTrueOf 4 = .ok (.iload_n 3, 1) := by decide +kernel
theorem dX3_isTrueOf_5 : decode cX3_isTrueOf 5 = .ok (.aload_n 0, 1) := by decide +kernel
theorem dX3_isTrueOf_6 : decode cX3_isTrueOf 6 = .ok (.getfield 41, 3) := by decide +kernel
theorem dX3_isTrueOf_9 : decode cX3_isTrueOf 9 = .ok (.if_icmp .ge 28, 3) := by decide +kernel
theorem dX3_isTrueOf_12 : decode cX3_isTrueOf 12 = .ok (.aload_n 0, 1) := by decide +kernel
theorem dX3_isTrueOf_13 : decode cX3_isTrueOf 13 = .ok (.getfield 26, 3) := by decide +kernel
theorem dX3_isTrueOf_16 : decode cX3_isTrueOf 16 = .ok (.iload_n 3, 1) := by decide +kernel
theorem dX3_isTrueOf_17 : decode cX3_isTrueOf 17 = .ok (.aaload, 1) := by decide +kernel
theorem dX3_isTrueOf_18 : decode cX3_isTrueOf 18 = .ok (.aload_n 1, 1) := by decide +kernel
theorem dX3_isTrueOf_19 : decode cX3_isTrueOf 19 = .ok (.invokevirtual 77, 3) := by decide +kernel
theorem dX3_isTrueOf_22 : decode cX3_isTrueOf 22 = .ok (.ifCond .eq 9, 3) := by decide +kernel
theorem dX3_isTrueOf_25 : decode cX3_isTrueOf 25 = .ok (.iload_n 2, 1) := by decide +kernel
theorem dX3_isTrueOf_26 : decode cX3_isTrueOf 26 = .ok (.iconst 1, 1) := by decide +kernel
theorem dX3_isTrueOf_27 : decode cX3_isTrueOf 27 = .ok (.iload_n 3, 1) := by decide +kernel
theorem dX3_isTrueOf_28 : decode cX3_isTrueOf 28 = .ok (.ishl, 1) := by decide +kernel
theorem dX3_isTrueOf_29 : decode cX3_isTrueOf 29 = .ok (.ior, 1) := by decide +kernel
theorem dX3_isTrueOf_30 : decode cX3_isTrueOf 30 = .ok (.istore_n 2, 1) := by decide +kernel
theorem dX3_isTrueOf_31 : decode cX3_isTrueOf 31 = .ok (.iinc 3 1, 3) := by decide +kernel
theorem dX3_isTrueOf_34 : decode cX3_isTrueOf 34 = .ok (.goto (-30), 3) := by decide +kernel
theorem dX3_isTrueOf_37 : decode cX3_isTrueOf 37 = .ok (.aload_n 0, 1) := by decide +kernel
theorem dX3_isTrueOf_38 : decode cX3_isTrueOf 38 = .ok (.iload_n 2, 1) := by decide +kernel
theorem dX3_isTrueOf_39 : decode cX3_isTrueOf 39 = .ok (.invokevirtual 81, 3) := by decide +kernel
theorem dX3_isTrueOf_42 : decode cX3_isTrueOf 42 = .ok (.ireturn, 1) := by decide +kernel
theorem dX3_outputOf_0 : decode cX3_outputOf 0 = .ok (.iconst 0, 1) := by decide +kernel
theorem dX3_outputOf_1 : decode cX3_outputOf 1 = .ok (.istore_n 3, 1) := by decide +kernel
theorem dX3_outputOf_2 : decode cX3_outputOf 2 = .ok (.iconst 0, 1) := by decide +kernel
theorem dX3_outputOf_3 : decode cX3_outputOf 3 = .ok (.istore 4, 2) := by decide +kernel
theorem dX3_outputOf_5 : decode cX3_outputOf 5 = .ok (.iload 4, 2) := by decide +kernel
theorem dX3_outputOf_7 : decode cX3_outputOf 7 = .ok (.aload_n 0, 1) := by decide +kernel
theorem dX3_outputOf_8 : decode cX3_outputOf 8 = .ok (.getfield 41, 3) := by decide +kernel
theorem dX3_outputOf_11 : decode cX3_outputOf 11 = .ok (.if_icmp .ge 24, 3) := by decide +kernel
theorem dX3_outputOf_14 : decode cX3_outputOf 14 = .ok (.iload_n 3, 1) := by decide +kernel
theorem dX3_outputOf_15 : decode cX3_outputOf 15 = .ok (.lload_n 1, 1) := by decide +kernel
theorem dX3_outputOf_16 : decode cX3_outputOf 16 = .ok (.iload 4, 2) := by decide +kernel
theorem dX3_outputOf_18 : decode cX3_outputOf 18 = .ok (.invokestatic 85, 3) := by decide +kernel
theorem dX3_outputOf_21 : decode cX3_outputOf 21 = .ok (.invokestatic 89, 3) := by decide +kernel
theorem dX3_outputOf_24 : decode cX3_outputOf 24 = .ok (.iload 4, 2) := by decide +kernel
theorem dX3_outputOf_26 : decode cX3_outputOf 26 = .ok (.ishl, 1) := by decide +kernel
theorem dX3_outputOf_27 : decode cX3_outputOf 27 = .ok (.ior, 1) := by decide +kernel
theorem dX3_outputOf_28 : decode cX3_outputOf 28 = .ok (.istore_n 3, 1) := by decide +kernel
theorem dX3_outputOf_29 : decode cX3_outputOf 29 = .ok (.iinc 4 1, 3) := by decide +kernel
theorem dX3_outputOf_32 : decode cX3_outputOf 32 = .ok (.goto (-27), 3) := by decide +kernel
theorem dX3_outputOf_35 : decode cX3_outputOf 35 = .ok (.aload_n 0, 1) := by decide +kernel
theorem dX3_outputOf_36 : decode cX3_outputOf 36 = .ok (.iload_n 3, 1) := by decide +kernel
theorem dX3_outputOf_37 : decode cX3_outputOf 37 = .ok (.invokevirtual 81, 3) := by decide +kernel
theorem dX3_outputOf_40 : decode cX3_outputOf 40 = .ok (.ireturn, 1) := by decide +kernel
theorem dX3_allOutputsAre_0 : decode cX3_allOutputsAre 0 = .ok (.iconst 0, 1) := by decide +kernel
theorem dX3_allOutputsAre_1 : decode cX3_allOutputsAre 1 = .ok (.istore 5, 2) := by decide +kernel
theorem dX3_allOutputsAre_3 : decode cX3_allOutputsAre 3 = .ok (.iload 5, 2) := by decide +kernel
theorem dX3_allOutputsAre_5 : decode cX3_allOutputsAre 5 = .ok (.iload 4, 2) := by decide +kernel
theorem dX3_allOutputsAre_7 : decode cX3_allOutputsAre 7 = .ok (.if_icmp .ge 25, 3) := by decide +kernel
theorem dX3_allOutputsAre_10 : decode cX3_allOutputsAre 10 = .ok (.aload_n 0, 1) := by decide +kernel
theorem dX3_allOutputsAre_11 : decode cX3_allOutputsAre 11 = .ok (.aload_n 2, 1) := by decide +kernel
theorem dX3_allOutputsAre_12 : decode cX3_allOutputsAre 12 = .ok (.iload_n 3, 1) := by decide +kernel
theorem dX3_allOutputsAre_13 : decode cX3_allOutputsAre 13 = .ok (.iload 5, 2) := by decide +kernel
theorem dX3_allOutputsAre_15 : decode cX3_allOutputsAre 15 = .ok (.iadd, 1) := by decide +kernel
theorem dX3_allOutputsAre_16 : decode cX3_allOutputsAre 16 = .ok (.laload, 1) := by decide +kernel
theorem dX3_allOutputsAre_17 : decode cX3_allOutputsAre 17 = .ok (.invokevirtual 92, 3) := by decide +kernel
theorem dX3_allOutputsAre_20 : decode cX3_allOutputsAre 20 = .ok (.iload_n 1, 1) := by decide +kernel
theorem dX3_allOutputsAre_21 : decode cX3_allOutputsAre 21 = .ok (.if_icmp .eq 5, 3) := by decide +kernel
theorem dX3_allOutputsAre_24 : decode cX3_allOutputsAre 24 = .ok (.iconst 0, 1) := by decide +kernel
theorem dX3_allOutputsAre_25 : decode cX3_allOutputsAre 25 = .ok (.ireturn, 1) := by decide +kernel
theorem dX3_allOutputsAre_26 : decode cX3_allOutputsAre 26 = .ok (.iinc 5 1, 3) := by decide +kernel
theorem dX3_allOutputsAre_29 : decode cX3_allOutputsAre 29 = .ok (.goto (-26), 3) := by decide +kernel
theorem dX3_allOutputsAre_32 : decode cX3_allOutputsAre 32 = .ok (.iconst 1, 1) := by decide +kernel
theorem dX3_allOutputsAre_33 : decode cX3_allOutputsAre 33 = .ok (.ireturn, 1) := by decide +kernel
theorem dX3_evaluate_0 : decode cX3_evaluate 0 = .ok (.iconst 0, 1) := by decide +kernel
theorem dX3_evaluate_1 : decode cX3_evaluate 1 = .ok (.istore_n 2, 1) := by decide +kernel
theorem dX3_evaluate_2 : decode cX3_evaluate 2 = .ok (.iconst 0, 1) := by decide +kernel
theorem dX3_evaluate_3 : decode cX3_evaluate 3 = .ok (.istore_n 3, 1) := by decide +kernel
theorem dX3_evaluate_4 : decode cX3_evaluate 4 = .ok (.iload_n 3, 1) := by decide +kernel
theorem dX3_evaluate_5 : decode cX3_evaluate 5 = .ok (.aload_n 0, 1) := by decide +kernel
theorem dX3_evaluate_6 : decode cX3_evaluate 6 = .ok (.getfield 37, 3) := by decide +kernel
theorem dX3_evaluate_9 : decode cX3_evaluate 9 = .ok (.if_icmp .ge 21, 3) := by decide +kernel
theorem dX3_evaluate_12 : decode cX3_evaluate 12 = .ok (.iload_n 2, 1) := by decide +kernel
theorem dX3_evaluate_13 : decode cX3_evaluate 13 = .ok (.aload_n 0, 1) := by decide +kernel
theorem dX3_evaluate_14 : decode cX3_evaluate 14 = .ok (.iload_n 3, 1) := by decide +kernel
theorem dX3_evaluate_15 : decode cX3_evaluate 15 = .ok (.iload_n 1, 1) := by decide +kernel
theorem dX3_evaluate_16 : decode cX3_evaluate 16 = .ok (.iload_n 2, 1) := by decide +kernel
theorem dX3_evaluate_17 : decode cX3_evaluate 17 = .ok (.invokevirtual 96, 3) := by decide +kernel
theorem dX3_evaluate_20 : decode cX3_evaluate 20 = .ok (.iload_n 3, 1) := by decide +kernel
theorem dX3_evaluate_21 : decode cX3_evaluate 21 = .ok (.ishl, 1) := by decide +kernel
theorem dX3_evaluate_22 : decode cX3_evaluate 22 = .ok (.ior, 1) := by decide +kernel
theorem dX3_evaluate_23 : decode cX3_evaluate 23 = .ok (.istore_n 2, 1) := by decide +kernel
theorem dX3_evaluate_24 : decode cX3_evaluate 24 = .ok (.iinc 3 1, 3) := by decide +kernel
theorem dX3_evaluate_27 : decode cX3_evaluate 27 = .ok (.goto (-23), 3) := by decide +kernel
theorem dX3_evaluate_30 : decode cX3_evaluate 30 = .ok (.aload_n 0, 1) := by decide +kernel
theorem dX3_evaluate_31 : decode cX3_evaluate 31 = .ok (.getfield 37, 3) := by decide +kernel
theorem dX3_evaluate_34 : decode cX3_evaluate 34 = .ok (.ifCond .le 21, 3) := by decide +kernel
theorem dX3_evaluate_37 : decode cX3_evaluate 37 = .ok (.iload_n 2, 1) := by decide +kernel
theorem dX3_evaluate_38 : decode cX3_evaluate 38 = .ok (.aload_n 0, 1) := by decide +kernel
theorem dX3_evaluate_39 : decode cX3_evaluate 39 = .ok (.getfield 37, 3) := by decide +kernel
theorem dX3_evaluate_42 : decode cX3_evaluate 42 = .ok (.iconst 1, 1) := by decide +kernel
theorem dX3_evaluate_43 : decode cX3_evaluate 43 = .ok (.isub, 1) := by decide +kernel
theorem dX3_evaluate_44 : decode cX3_evaluate 44 = .ok (.invokestatic 99, 3) := by decide +kernel
theorem dX3_evaluate_47 : decode cX3_evaluate 47 = .ok (.iconst 1, 1) := by decide +kernel
theorem dX3_evaluate_48 : decode cX3_evaluate 48 = .ok (.if_icmp .ne 7, 3) := by decide +kernel
theorem dX3_evaluate_51 : decode cX3_evaluate 51 = .ok (.iconst 1, 1) := by decide +kernel
theorem dX3_evaluate_52 : decode cX3_evaluate 52 = .ok (.goto 4, 3) := by decide +kernel
theorem dX3_evaluate_55 : decode cX3_evaluate 55 = .ok (.iconst 0, 1) := by decide +kernel
theorem dX3_evaluate_56 : decode cX3_evaluate 56 = .ok (.ireturn, 1) := by decide +kernel
theorem dX3_nodeTruth_0 : decode cX3_nodeTruth 0 = .ok (.aload_n 0, 1) := by decide +kernel
theorem dX3_nodeTruth_1 : decode cX3_nodeTruth 1 = .ok (.getfield 15, 3) := by decide +kernel
theorem dX3_nodeTruth_4 : decode cX3_nodeTruth 4 = .ok (.iload_n 1, 1) := by decide +kernel
theorem dX3_nodeTruth_5 : decode cX3_nodeTruth 5 = .ok (.iaload, 1) := by decide +kernel
theorem dX3_nodeTruth_6 : decode cX3_nodeTruth 6 = .ok (.tableswitch 85 0 3 #[41, 63, 85, 30], 30) := by decide +kernel
theorem dX3_nodeTruth_36 : decode cX3_nodeTruth 36 = .ok (.iload_n 2, 1) := by decide +kernel
theorem dX3_nodeTruth_37 : decode cX3_nodeTruth 37 = .ok (.aload_n 0, 1) := by decide +kernel
theorem dX3_nodeTruth_38 : decode cX3_nodeTruth 38 = .ok (.getfield 18, 3) := by decide +kernel
theorem dX3_nodeTruth_41 : decode cX3_nodeTruth 41 = .ok (.iload_n 1, 1) := by decide +kernel
theorem dX3_nodeTruth_42 : decode cX3_nodeTruth 42 = .ok (.iaload, 1) := by decide +kernel
theorem dX3_nodeTruth_43 : decode cX3_nodeTruth 43 = .ok (.invokestatic 99, 3) := by decide +kernel
theorem dX3_nodeTruth_46 : decode cX3_nodeTruth 46 = .ok (.ireturn, 1) := by decide +kernel
theorem dX3_nodeTruth_47 : decode cX3_nodeTruth 47 = .ok (.iload_n 3, 1) := by decide +kernel
theorem dX3_nodeTruth_48 : decode cX3_nodeTruth 48 = .ok (.aload_n 0, 1) := by decide +kernel
theorem dX3_nodeTruth_49 : decode cX3_nodeTruth 49 = .ok (.getfield 18, 3) := by decide +kernel
theorem dX3_nodeTruth_52 : decode cX3_nodeTruth 52 = .ok (.iload_n 1, 1) := by decide +kernel
theorem dX3_nodeTruth_53 : decode cX3_nodeTruth 53 = .ok (.iaload, 1) := by decide +kernel
theorem dX3_nodeTruth_54 : decode cX3_nodeTruth 54 = .ok (.invokestatic 99, 3) := by decide +kernel
theorem dX3_nodeTruth_57 : decode cX3_nodeTruth 57 = .ok (.iload_n 3, 1) := by decide +kernel
theorem dX3_nodeTruth_58 : decode cX3_nodeTruth 58 = .ok (.aload_n 0, 1) := by decide +kernel
theorem dX3_nodeTruth_59 : decode cX3_nodeTruth 59 = .ok (.getfield 21, 3) := by decide +kernel
theorem dX3_nodeTruth_62 : decode cX3_nodeTruth 62 = .ok (.iload_n 1, 1) := by decide +kernel
theorem dX3_nodeTruth_63 : decode cX3_nodeTruth 63 = .ok (.iaload, 1) := by decide +kernel
theorem dX3_nodeTruth_64 : decode cX3_nodeTruth 64 = .ok (.invokestatic 99, 3) := by decide +kernel
theorem dX3_nodeTruth_67 : decode cX3_nodeTruth 67 = .ok (.iand, 1) := by decide +kernel
theorem dX3_nodeTruth_68 : decode cX3_nodeTruth 68 = .ok (.ireturn, 1) := by decide +kernel
theorem dX3_nodeTruth_69 : decode cX3_nodeTruth 69 = .ok (.iload_n 3, 1) := by decide +kernel
theorem dX3_nodeTruth_70 : decode cX3_nodeTruth 70 = .ok (.aload_n 0, 1) := by decide +kernel
theorem dX3_nodeTruth_71 : decode cX3_nodeTruth 71 = .ok (.getfield 18, 3) := by decide +kernel
theorem dX3_nodeTruth_74 : decode cX3_nodeTruth 74 = .ok (.iload_n 1, 1) := by decide +kernel
theorem dX3_nodeTruth_75 : decode cX3_nodeTruth 75 = .ok (.iaload, 1) := by decide +kernel
theorem dX3_nodeTruth_76 : decode cX3_nodeTruth 76 = .ok (.invokestatic 99, 3) := by decide +kernel
theorem dX3_nodeTruth_79 : decode cX3_nodeTruth 79 = .ok (.iload_n 3, 1) := by decide +kernel
theorem dX3_nodeTruth_80 : decode cX3_nodeTruth 80 = .ok (.aload_n 0, 1) := by decide +kernel
theorem dX3_nodeTruth_81 : decode cX3_nodeTruth 81 = .ok (.getfield 21, 3) := by decide +kernel
theorem dX3_nodeTruth_84 : decode cX3_nodeTruth 84 = .ok (.iload_n 1, 1) := by decide +kernel
theorem dX3_nodeTruth_85 : decode cX3_nodeTruth 85 = .ok (.iaload, 1) := by decide +kernel
theorem dX3_nodeTruth_86 : decode cX3_nodeTruth 86 = .ok (.invokestatic 99, 3) := by decide +kernel
theorem dX3_nodeTruth_89 : decode cX3_nodeTruth 89 = .ok (.ior, 1) := by decide +kernel
theorem dX3_nodeTruth_90 : decode cX3_nodeTruth 90 = .ok (.ireturn, 1) := by decide +kernel
theorem dX3_nodeTruth_91 : decode cX3_nodeTruth 91 = .ok (.iconst 1, 1) := by decide +kernel
theorem dX3_nodeTruth_92 : decode cX3_nodeTruth 92 = .ok (.iload_n 3, 1) := by decide +kernel
theorem dX3_nodeTruth_93 : decode cX3_nodeTruth 93 = .ok (.aload_n 0, 1) := by decide +kernel
theorem dX3_nodeTruth_94 : decode cX3_nodeTruth 94 = .ok (.getfield 18, 3) := by decide +kernel
theorem dX3_nodeTruth_97 : decode cX3_nodeTruth 97 = .ok (.iload_n 1, 1) := by decide +kernel
theorem dX3_nodeTruth_98 : decode cX3_nodeTruth 98 = .ok (.iaload, 1) := by decide +kernel
theorem dX3_nodeTruth_99 : decode cX3_nodeTruth 99 = .ok (.invokestatic 99, 3) := by decide +kernel
theorem dX3_nodeTruth_102 : decode cX3_nodeTruth 102 = .ok (.isub, 1) := by decide +kernel
theorem dX3_nodeTruth_103 : decode cX3_nodeTruth 103 = .ok (.ireturn, 1) := by decide +kernel
theorem dX3_bit_0 : decode cX3_bit 0 = .ok (.iload_n 0, 1) := by decide +kernel
theorem dX3_bit_1 : decode cX3_bit 1 = .ok (.iload_n 1, 1) := by decide +kernel
theorem dX3_bit_2 : decode cX3_bit 2 = .ok (.ishr, 1) := by decide +kernel
theorem dX3_bit_3 : decode cX3_bit 3 = .ok (.iconst 1, 1) := by decide +kernel
theorem dX3_bit_4 : decode cX3_bit 4 = .ok (.iand, 1) := by decide +kernel
theorem dX3_bit_5 : decode cX3_bit 5 = .ok (.ireturn, 1) := by decide +kernel
theorem dX4_init_0 : decode cX4_init 0 = .ok (.aload_n 0, 1) := by decide +kernel
theorem dX4_init_1 : decode cX4_init 1 = .ok (.invokespecial 1, 3) := by decide +kernel
theorem dX4_init_4 : decode cX4_init 4 = .ok (.aload_n 0, 1) := by decide +kernel
theorem dX4_init_5 : decode cX4_init 5 = .ok (.aload_n 1, 1) := by decide +kernel
theorem dX4_init_6 : decode cX4_init 6 = .ok (.putfield 7, 3) := by decide +kernel
theorem dX4_init_9 : decode cX4_init 9 = .ok (.return_, 1) := by decide +kernel
theorem dX4_changes_0 : decode cX4_changes 0 = .ok (.aload_n 0, 1) := by decide +kernel
theorem dX4_changes_1 : decode cX4_changes 1 = .ok (.lload_n 1, 1) := by decide +kernel
theorem dX4_changes_2 : decode cX4_changes 2 = .ok (.putfield 13, 3) := by decide +kernel
theorem dX4_changes_5 : decode cX4_changes 5 = .ok (.aload_n 0, 1) := by decide +kernel
theorem dX4_changes_6 : decode cX4_changes 6 = .ok (.lload_n 3, 1) := by decide +kernel
theorem dX4_changes_7 : decode cX4_changes 7 = .ok (.putfield 17, 3) := by decide +kernel
theorem dX4_changes_10 : decode cX4_changes 10 = .ok (.lload_n 1, 1) := by decide +kernel
theorem dX4_changes_11 : decode cX4_changes 11 = .ok (.lload_n 3, 1) := by decide +kernel
theorem dX4_changes_12 : decode cX4_changes 12 = .ok (.lor, 1) := by decide +kernel
theorem dX4_changes_13 : decode cX4_changes 13 = .ok (.invokestatic 20, 3) := by decide +kernel
theorem dX4_changes_16 : decode cX4_changes 16 = .ok (.ifCond .ne 5, 3) := by decide +kernel
theorem dX4_changes_19 : decode cX4_changes 19 = .ok (.iconst 0, 1) := by decide +kernel
theorem dX4_changes_20 : decode cX4_changes 20 = .ok (.ireturn, 1) := by decide +kernel
theorem dX4_changes_21 : decode cX4_changes 21 = .ok (.aload_n 0, 1) := by decide +kernel
theorem dX4_changes_22 : decode cX4_changes 22 = .ok (.lconst 0, 1) := by decide +kernel
theorem dX4_changes_23 : decode cX4_changes 23 = .ok (.putfield 13, 3) := by decide +kernel
theorem dX4_changes_26 : decode cX4_changes 26 = .ok (.aload_n 0, 1) := by decide +kernel
theorem dX4_changes_27 : decode cX4_changes 27 = .ok (.lconst 0, 1) := by decide +kernel
theorem dX4_changes_28 : decode cX4_changes 28 = .ok (.putfield 17, 3) := by decide +kernel
theorem dX4_changes_31 : decode cX4_changes 31 = .ok (.iconst 0, 1) := by decide +kernel
theorem dX4_changes_32 : decode cX4_changes 32 = .ok (.istore 5, 2) := by decide +kernel
theorem dX4_changes_34 : decode cX4_changes 34 = .ok (.iload 5, 2) := by decide +kernel
theorem dX4_changes_36 : decode cX4_changes 36 = .ok (.aload_n 0, 1) := by decide +kernel
theorem dX4_changes_37 : decode cX4_changes 37 = .ok (.getfield 7, 3) := by decide +kernel
theorem dX4_changes_40 : decode cX4_changes 40 = .ok (.invokevirtual 26, 3) := by decide +kernel
theorem dX4_changes_43 : decode cX4_changes 43 = .ok (.if_icmp .ge 73, 3) := by decide +kernel
theorem dX4_changes_46 : decode cX4_changes 46 = .ok (.aload_n 0, 1) := by decide +kernel
theorem dX4_changes_47 : decode cX4_changes 47 = .ok (.getfield 7, 3) := by decide +kernel
theorem dX4_changes_50 : decode cX4_changes 50 = .ok (.iload 5, 2) := by decide +kernel
theorem dX4_changes_52 : decode cX4_changes 52 = .ok (.invokevirtual 32, 3) := by decide +kernel
theorem dX4_changes_55 : decode cX4_changes 55 = .ok (.lload_n 1, 1) := by decide +kernel
theorem dX4_changes_56 : decode cX4_changes 56 = .ok (.iload 5, 2) := by decide +kernel
theorem dX4_changes_58 : decode cX4_changes 58 = .ok (.invokestatic 36, 3) := by decide +kernel
theorem dX4_changes_61 : decode cX4_changes 61 = .ok (.lload_n 3, 1) := by decide +kernel
theorem dX4_changes_62 : decode cX4_changes 62 = .ok (.iload 5, 2) := by decide +kernel
theorem dX4_changes_64 : decode cX4_changes 64 = .ok (.invokestatic 36, 3) := by decide +kernel
theorem dX4_changes_67 : decode cX4_changes 67 = .ok (.invokevirtual 40, 3) := by decide +kernel
theorem dX4_changes_70 : decode cX4_changes 70 = .ok (.istore 6, 2) := by decide +kernel
theorem dX4_changes_72 : decode cX4_changes 72 = .ok (.aload_n 0, 1) := by decide +kernel
theorem dX4_changes_73 : decode cX4_changes 73 = .ok (.dup, 1) := by decide +kernel
theorem dX4_changes_74 : decode cX4_changes 74 = .ok (.getfield 13, 3) := by decide +kernel
theorem dX4_changes_77 : decode cX4_changes 77 = .ok (.iload 6, 2) := by decide +kernel
theorem dX4_changes_79 : decode cX4_changes 79 = .ok (.invokestatic 46, 3) := by decide +kernel
theorem dX4_changes_82 : decode cX4_changes 82 = .ok (.iload 5, 2) := by decide +kernel
theorem dX4_changes_84 : decode cX4_changes 84 = .ok (.invokestatic 49, 3) := by decide +kernel
theorem dX4_changes_87 : decode cX4_changes 87 = .ok (.lor, 1) := by decide +kernel
theorem dX4_changes_88 : decode cX4_changes 88 = .ok (.putfield 13, 3) := by decide +kernel
theorem dX4_changes_91 : decode cX4_changes 91 = .ok (.aload_n 0, 1) := by decide +kernel
theorem dX4_changes_92 : decode cX4_changes 92 = .ok (.dup, 1) := by decide +kernel
theorem dX4_changes_93 : decode cX4_changes 93 = .ok (.getfield 17, 3) := by decide +kernel
theorem dX4_changes_96 : decode cX4_changes 96 = .ok (.iload 6, 2) := by decide +kernel
theorem dX4_changes_98 : decode cX4_changes 98 = .ok (.invokestatic 53, 3) := by decide +kernel
theorem dX4_changes_101 : decode cX4_changes 101 = .ok (.iload 5, 2) := by decide +kernel
theorem dX4_changes_103 : decode cX4_changes 103 = .ok (.invokestatic 49, 3) := by decide +kernel
theorem dX4_changes_106 : decode cX4_changes 106 = .ok (.lor, 1) := by decide +kernel
theorem dX4_changes_107 : decode cX4_changes 107 = .ok (.putfield 17, 3) := by decide +kernel
theorem dX4_changes_110 : decode cX4_changes 110 = .ok (.iinc 5 1, 3) := by decide +kernel
theorem dX4_changes_113 : decode cX4_changes 113 = .ok (.goto (-79), 3) := by decide +kernel
theorem dX4_changes_116 : decode cX4_changes 116 = .ok (.aload_n 0, 1) := by decide +kernel
theorem dX4_changes_117 : decode cX4_changes 117 = .ok (.getfield 13, 3) := by decide +kernel
theorem dX4_changes_120 : decode cX4_changes 120 = .ok (.lload_n 1, 1) := by decide +kernel
theorem dX4_changes_121 : decode cX4_changes 121 = .ok (.lcmp, 1) := by decide +kernel
theorem dX4_changes_122 : decode cX4_changes 122 = .ok (.ifCond .ne 12, 3) := by decide +kernel
theorem dX4_changes_125 : decode cX4_changes 125 = .ok (.aload_n 0, 1) := by decide +kernel
theorem dX4_changes_126 : decode cX4_changes 126 = .ok (.getfield 17, 3) := by decide +kernel
theorem dX4_changes_129 : decode cX4_changes 129 = .ok (.lload_n 3, 1) := by decide +kernel
theorem dX4_changes_130 : decode cX4_changes 130 = .ok (.lcmp, 1) := by decide +kernel
theorem dX4_changes_131 : decode cX4_changes 131 = .ok (.ifCond .eq 7, 3) := by decide +kernel
theorem dX4_changes_134 : decode cX4_changes 134 = .ok (.iconst 1, 1) := by decide +kernel
theorem dX4_changes_135 : decode cX4_changes 135 = .ok (.goto 4, 3) := by decide +kernel
theorem dX4_changes_138 : decode cX4_changes 138 = .ok (.iconst 0, 1) := by decide +kernel
theorem dX4_changes_139 : decode cX4_changes 139 = .ok (.ireturn, 1) := by decide +kernel
theorem dX4_first_0 : decode cX4_first 0 = .ok (.aload_n 0, 1) := by decide +kernel
theorem dX4_first_1 : decode cX4_first 1 = .ok (.getfield 13, 3) := by decide +kernel
theorem dX4_first_4 : decode cX4_first 4 = .ok (.lreturn, 1) := by decide +kernel
theorem dX4_second_0 : decode cX4_second 0 = .ok (.aload_n 0, 1) := by decide +kernel
theorem dX4_second_1 : decode cX4_second 1 = .ok (.getfield 17, 3) := by decide +kernel
theorem dX4_second_4 : decode cX4_second 4 = .ok (.lreturn, 1) := by decide +kernel
theorem dX4_changesNone_0 : decode cX4_changesNone 0 = .ok (.iconst 0, 1) := by decide +kernel
theorem dX4_changesNone_1 : decode cX4_changesNone 1 = .ok (.istore 4, 2) := by decide +kernel
theorem dX4_changesNone_3 : decode cX4_changesNone 3 = .ok (.iload 4, 2) := by decide +kernel
theorem dX4_changesNone_5 : decode cX4_changesNone 5 = .ok (.iload_n 3, 1) := by decide +kernel
theorem dX4_changesNone_6 : decode cX4_changesNone 6 = .ok (.if_icmp .ge 52, 3) := by decide +kernel
theorem dX4_changesNone_9 : decode cX4_changesNone 9 = .ok (.iconst 0, 1) := by decide +kernel
theorem dX4_changesNone_10 : decode cX4_changesNone 10 = .ok (.istore 5, 2) := by decide +kernel
theorem dX4_changesNone_12 : decode cX4_changesNone 12 = .ok (.iload 5, 2) := by decide +kernel
theorem dX4_changesNone_14 : decode cX4_changesNone 14 = .ok (.iload_n 3, 1) := by decide +kernel
theorem dX4_changesNone_15 : decode cX4_changesNone 15 = .ok (.if_icmp .ge 37, 3) := by decide +kernel
theorem dX4_changesNone_18 : decode cX4_changesNone 18 = .ok (.iload 4, 2) := by decide +kernel
theorem dX4_changesNone_20 : decode cX4_changesNone 20 = .ok (.iload 5, 2) := by decide +kernel
theorem dX4_changesNone_22 : decode cX4_changesNone 22 = .ok (.if_icmp .eq 24, 3) := by decide +kernel
theorem dX4_changesNone_25 : decode cX4_changesNone 25 = .ok (.aload_n 0, 1) := by decide +kernel
theorem dX4_changesNone_26 : decode cX4_changesNone 26 = .ok (.aload_n 1, 1) := by decide +kernel
theorem dX4_changesNone_27 : decode cX4_changesNone 27 = .ok (.iload_n 2, 1) := by decide +kernel
theorem dX4_changesNone_28 : decode cX4_changesNone 28 = .ok (.iload 4, 2) := by decide +kernel
theorem dX4_changesNone_30 : decode cX4_changesNone 30 = .ok (.iadd, 1) := by decide +kernel
theorem dX4_changesNone_31 : decode cX4_changesNone 31 = .ok (.laload, 1) := by decide +kernel
theorem dX4_changesNone_32 : decode cX4_changesNone 32 = .ok (.aload_n 1, 1) := by decide +kernel
theorem dX4_changesNone_33 : decode cX4_changesNone 33 = .ok (.iload_n 2, 1) := by decide +kernel
theorem dX4_changesNone_34 : decode cX4_changesNone 34 = .ok (.iload 5, 2) := by decide +kernel
theorem dX4_changesNone_36 : decode cX4_changesNone 36 = .ok (.iadd, 1) := by decide +kernel
theorem dX4_changesNone_37 : decode cX4_changesNone 37 = .ok (.laload, 1) := by decide +kernel
theorem dX4_changesNone_38 : decode cX4_changesNone 38 = .ok (.invokevirtual 55, 3) := by decide +kernel
theorem dX4_changesNone_41 : decode cX4_changesNone 41 = .ok (.ifCond .eq 5, 3) := by decide +kernel
theorem dX4_changesNone_44 : decode cX4_changesNone 44 = .ok (.iconst 0, 1) := by decide +kernel
theorem dX4_changesNone_45 : decode cX4_changesNone 45 = .ok (.ireturn, 1) := by decide +kernel
theorem dX4_changesNone_46 : decode cX4_changesNone 46 = .ok (.iinc 5 1, 3) := by decide +kernel
theorem dX4_changesNone_49 : decode cX4_changesNone 49 = .ok (.goto (-37), 3) := by decide +kernel
theorem dX4_changesNone_52 : decode cX4_changesNone 52 = .ok (.iinc 4 1, 3) := by decide +kernel
theorem dX4_changesNone_55 : decode cX4_changesNone 55 = .ok (.goto (-52), 3) := by decide +kernel
theorem dX4_changesNone_58 : decode cX4_changesNone 58 = .ok (.iconst 1, 1) := by decide +kernel
theorem dX4_changesNone_59 : decode cX4_changesNone 59 = .ok (.ireturn, 1) := by decide +kernel
theorem dX5_init_0 : decode cX5_init 0 = .ok (.aload_n 0, 1) := by decide +kernel
theorem dX5_init_1 : decode cX5_init 1 = .ok (.invokespecial 3, 3) := by decide +kernel
theorem dX5_init_4 : decode cX5_init 4 = .ok (.aload_n 0, 1) := by decide +kernel
theorem dX5_init_5 : decode cX5_init 5 = .ok (.sipush 18000, 3) := by decide +kernel
theorem dX5_init_8 : decode cX5_init 8 = .ok (.newarray .long, 2) := by decide +kernel
theorem dX5_init_10 : decode cX5_init 10 = .ok (.putfield 9, 3) := by decide +kernel
theorem dX5_init_13 : decode cX5_init 13 = .ok (.aload_n 0, 1) := by decide +kernel
theorem dX5_init_14 : decode cX5_init 14 = .ok (.sipush 8192, 3) := by decide +kernel
theorem dX5_init_17 : decode cX5_init 17 = .ok (.newarray .int, 2) := by decide +kernel
theorem dX5_init_19 : decode cX5_init 19 = .ok (.putfield 15, 3) := by decide +kernel
theorem dX5_init_22 : decode cX5_init 22 = .ok (.aload_n 0, 1) := by decide +kernel
theorem dX5_init_23 : decode cX5_init 23 = .ok (.sipush 3000, 3) := by decide +kernel
theorem dX5_init_26 : decode cX5_init 26 = .ok (.newarray .boolean, 2) := by decide +kernel
theorem dX5_init_28 : decode cX5_init 28 = .ok (.putfield 19, 3) := by decide +kernel
theorem dX5_init_31 : decode cX5_init 31 = .ok (.aload_n 0, 1) := by decide +kernel
theorem dX5_init_32 : decode cX5_init 32 = .ok (.bipush 6, 2) := by decide +kernel
theorem dX5_init_34 : decode cX5_init 34 = .ok (.newarray .long, 2) := by decide +kernel
theorem dX5_init_36 : decode cX5_init 36 = .ok (.putfield 23, 3) := by decide +kernel
theorem dX5_init_39 : decode cX5_init 39 = .ok (.aload_n 0, 1) := by decide +kernel
theorem dX5_init_40 : decode cX5_init 40 = .ok (.aload_n 1, 1) := by decide +kernel
theorem dX5_init_41 : decode cX5_init 41 = .ok (.putfield 26, 3) := by decide +kernel
theorem dX5_init_44 : decode cX5_init 44 = .ok (.aload_n 0, 1) := by decide +kernel
theorem dX5_init_45 : decode cX5_init 45 = .ok (.new 30, 3) := by decide +kernel
theorem dX5_init_48 : decode cX5_init 48 = .ok (.dup, 1) := by decide +kernel
theorem dX5_init_49 : decode cX5_init 49 = .ok (.aload_n 1, 1) := by decide +kernel
theorem dX5_init_50 : decode cX5_init 50 = .ok (.invokespecial 32, 3) := by decide +kernel
theorem dX5_init_53 : decode cX5_init 53 = .ok (.putfield 35, 3) := by decide +kernel
theorem dX5_init_56 : decode cX5_init 56 = .ok (.return_, 1) := by decide +kernel
theorem dX5_findAll_0 : decode cX5_findAll 0 = .ok (.aload_n 0, 1) := by decide +kernel
theorem dX5_findAll_1 : decode cX5_findAll 1 = .ok (.getfield 15, 3) := by decide +kernel
theorem dX5_findAll_4 : decode cX5_findAll 4 = .ok (.iconst (-1), 1) := by decide +kernel
theorem dX5_findAll_5 : decode cX5_findAll 5 = .ok (.invokestatic 39, 3) := by decide +kernel
theorem dX5_findAll_8 : decode cX5_findAll 8 = .ok (.aload_n 0, 1) := by decide +kernel
theorem dX5_findAll_9 : decode cX5_findAll 9 = .ok (.aload_n 1, 1) := by decide +kernel
theorem dX5_findAll_10 : decode cX5_findAll 10 = .ok (.invokevirtual 45, 3) := by decide +kernel
theorem dX5_findAll_13 : decode cX5_findAll 13 = .ok (.putfield 51, 3) := by decide +kernel
theorem dX5_findAll_16 : decode cX5_findAll 16 = .ok (.aload_n 0, 1) := by decide +kernel
theorem dX5_findAll_17 : decode cX5_findAll 17 = .ok (.iconst 0, 1) := by decide +kernel
theorem dX5_findAll_18 : decode cX5_findAll 18 = .ok (.putfield 55, 3) := by decide +kernel
theorem dX5_findAll_21 : decode cX5_findAll 21 = .ok (.iconst 0, 1) := by decide +kernel
theorem dX5_findAll_22 : decode cX5_findAll 22 = .ok (.istore_n 3, 1) := by decide +kernel
theorem dX5_findAll_23 : decode cX5_findAll 23 = .ok (.iload_n 3, 1) := by decide +kernel
theorem dX5_findAll_24 : decode cX5_findAll 24 = .ok (.aload_n 0, 1) := by decide +kernel
theorem dX5_findAll_25 : decode cX5_findAll 25 = .ok (.getfield 51, 3) := by decide +kernel
theorem dX5_findAll_28 : decode cX5_findAll 28 = .ok (.if_icmp .ge 20, 3) := by decide +kernel
theorem dX5_findAll_31 : decode cX5_findAll 31 = .ok (.aload_n 0, 1) := by decide +kernel
theorem dX5_findAll_32 : decode cX5_findAll 32 = .ok (.getfield 23, 3) := by decide +kernel
theorem dX5_findAll_35 : decode cX5_findAll 35 = .ok (.iload_n 3, 1) := by decide +kernel
theorem dX5_findAll_36 : decode cX5_findAll 36 = .ok (.aload_n 1, 1) := by decide +kernel
theorem dX5_findAll_37 : decode cX5_findAll 37 = .ok (.iload_n 3, 1) := by decide +kernel
theorem dX5_findAll_38 : decode cX5_findAll 38 = .ok (.invokevirtual 58, 3) := by decide +kernel
theorem dX5_findAll_41 : decode cX5_findAll 41 = .ok (.lastore, 1) := by decide +kernel
theorem dX5_findAll_42 : decode cX5_findAll 42 = .ok (.iinc 3 1, 3) := by decide +kernel
theorem dX5_findAll_45 : decode cX5_findAll 45 = .ok (.goto (-22), 3) := by decide +kernel
theorem dX5_findAll_48 : decode cX5_findAll 48 = .ok (.aload_n 0, 1) := by decide +kernel
theorem dX5_findAll_49 : decode cX5_findAll 49 = .ok (.invokevirtual 62, 3) := by decide +kernel
theorem dX5_findAll_52 : decode cX5_findAll 52 = .ok (.aload_n 0, 1) := by decide +kernel
theorem dX5_findAll_53 : decode cX5_findAll 53 = .ok (.aload_n 0, 1) := by decide +kernel
theorem dX5_findAll_54 : decode cX5_findAll 54 = .ok (.invokevirtual 65, 3) := by decide +kernel
theorem dX5_findAll_57 : decode cX5_findAll 57 = .ok (.invokevirtual 68, 3) := by decide +kernel
theorem dX5_findAll_60 : decode cX5_findAll 60 = .ok (.iconst 0, 1) := by decide +kernel
theorem dX5_findAll_61 : decode cX5_findAll 61 = .ok (.istore_n 3, 1) := by decide +kernel
theorem dX5_findAll_62 : decode cX5_findAll 62 = .ok (.iload_n 3, 1) := by decide +kernel
theorem dX5_findAll_63 : decode cX5_findAll 63 = .ok (.aload_n 0, 1) := by decide +kernel
theorem dX5_findAll_64 : decode cX5_findAll 64 = .ok (.getfield 55, 3) := by decide +kernel
theorem dX5_findAll_67 : decode cX5_findAll 67 = .ok (.if_icmp .ge 25, 3) := by decide +kernel
theorem dX5_findAll_70 : decode cX5_findAll 70 = .ok (.iload_n 3, 1) := by decide +kernel
theorem dX5_findAll_71 : decode cX5_findAll 71 = .ok (.iload_n 2, 1) := by decide +kernel
theorem dX5_findAll_72 : decode cX5_findAll 72 = .ok (.if_icmp .ge 20, 3) := by decide +kernel
theorem dX5_findAll_75 : decode cX5_findAll 75 = .ok (.aload_n 0, 1) := by decide +kernel
theorem dX5_findAll_76 : decode cX5_findAll 76 = .ok (.iload_n 3, 1) := by decide +kernel
theorem dX5_findAll_77 : decode cX5_findAll 77 = .ok (.iload_n 2, 1) := by decide +kernel
theorem dX5_findAll_78 : decode cX5_findAll 78 = .ok (.invokevirtual 72, 3) := by decide +kernel
theorem dX5_findAll_81 : decode cX5_findAll 81 = .ok (.ifCond .ne 5, 3) := by decide +kernel
theorem dX5_findAll_84 : decode cX5_findAll 84 = .ok (.iconst (-1), 1) := by decide +kernel
theorem dX5_findAll_85 : decode cX5_findAll 85 = .ok (.ireturn, 1) := by decide +kernel
theorem dX5_findAll_86 : decode cX5_findAll 86 = .ok (.iinc 3 1, 3) := by decide +kernel
theorem dX5_findAll_89 : decode cX5_findAll 89 = .ok (.goto (-27), 3) := by decide +kernel
theorem dX5_findAll_92 : decode cX5_findAll 92 = .ok (.aload_n 0, 1) := by decide +kernel
theorem dX5_findAll_93 : decode cX5_findAll 93 = .ok (.getfield 55, 3) := by decide +kernel
theorem dX5_findAll_96 : decode cX5_findAll 96 = .ok (.ireturn, 1) := by decide +kernel
theorem dX5_keepAllAfter_0 : decode cX5_keepAllAfter 0 = .ok (.iconst 0, 1) := by decide +kernel
theorem dX5_keepAllAfter_1 : decode cX5_keepAllAfter 1 = .ok (.istore_n 3, 1) := by decide +kernel
theorem dX5_keepAllAfter_2 : decode cX5_keepAllAfter 2 = .ok (.iload_n 3, 1) := by decide +kernel
theorem dX5_keepAllAfter_3 : decode cX5_keepAllAfter 3 = .ok (.aload_n 0, 1) := by decide +kernel
theorem dX5_keepAllAfter_4 : decode cX5_keepAllAfter 4 = .ok (.getfield 51, 3) := by decide +kernel
theorem dX5_keepAllAfter_7 : decode cX5_keepAllAfter 7 = .ok (.if_icmp .ge 77, 3) := by decide +kernel
theorem dX5_keepAllAfter_10 : decode cX5_keepAllAfter 10 = .ok (.iconst 0, 1) := by decide +kernel
theorem dX5_keepAllAfter_11 : decode cX5_keepAllAfter 11 = .ok (.istore 4, 2) := by decide +kernel
theorem dX5_keepAllAfter_13 : decode cX5_keepAllAfter 13 = .ok (.iload 4, 2) := by decide +kernel
theorem dX5_keepAllAfter_15 : decode cX5_keepAllAfter 15 = .ok (.aload_n 0, 1) := by decide +kernel
theorem dX5_keepAllAfter_16 : decode cX5_keepAllAfter 16 = .ok (.getfield 51, 3) := by decide +kernel
theorem dX5_keepAllAfter_19 : decode cX5_keepAllAfter 19 = .ok (.if_icmp .ge 59, 3) := by decide +kernel
theorem dX5_keepAllAfter_22 : decode cX5_keepAllAfter 22 = .ok (.iload_n 3, 1) := by decide +kernel
theorem dX5_keepAllAfter_23 : decode cX5_keepAllAfter 23 = .ok (.iload 4, 2) := by decide +kernel
theorem dX5_keepAllAfter_25 : decode cX5_keepAllAfter 25 = .ok (.if_icmp .eq 47, 3) := by decide +kernel
theorem dX5_keepAllAfter_28 : decode cX5_keepAllAfter 28 = .ok (.aload_n 0, 1) := by decide +kernel
theorem dX5_keepAllAfter_29 : decode cX5_keepAllAfter 29 = .ok (.iload_n 1, 1) := by decide +kernel
theorem dX5_keepAllAfter_30 : decode cX5_keepAllAfter 30 = .ok (.iload_n 3, 1) := by decide +kernel
theorem dX5_keepAllAfter_31 : decode cX5_keepAllAfter 31 = .ok (.iload 4, 2) := by decide +kernel
theorem dX5_keepAllAfter_33 : decode cX5_keepAllAfter 33 = .ok (.invokevirtual 76, 3) := by decide +kernel
theorem dX5_keepAllAfter_36 : decode cX5_keepAllAfter 36 = .ok (.ifCond .eq 36, 3) := by decide +kernel
theorem dX5_keepAllAfter_39 : decode cX5_keepAllAfter 39 = .ok (.aload_n 0, 1) := by decide +kernel
theorem dX5_keepAllAfter_40 : decode cX5_keepAllAfter 40 = .ok (.invokevirtual 65, 3) := by decide +kernel
theorem dX5_keepAllAfter_43 : decode cX5_keepAllAfter 43 = .ok (.istore 5, 2) := by decide +kernel
theorem dX5_keepAllAfter_45 : decode cX5_keepAllAfter 45 = .ok (.aload_n 0, 1) := by decide +kernel
theorem dX5_keepAllAfter_46 : decode cX5_keepAllAfter 46 = .ok (.getfield 15, 3) := by decide +kernel
theorem dX5_keepAllAfter_49 : decode cX5_keepAllAfter 49 = .ok (.iload 5, 2) := by decide +kernel
theorem dX5_keepAllAfter_51 : decode cX5_keepAllAfter 51 = .ok (.iaload, 1) := by decide +kernel
theorem dX5_keepAllAfter_52 : decode cX5_keepAllAfter 52 = .ok (.iconst (-1), 1) := by decide +kernel
theorem dX5_keepAllAfter_53 : decode cX5_keepAllAfter 53 = .ok (.if_icmp .ne 19, 3) := by decide +kernel
theorem dX5_keepAllAfter_56 : decode cX5_keepAllAfter 56 = .ok (.aload_n 0, 1) := by decide +kernel
theorem dX5_keepAllAfter_57 : decode cX5_keepAllAfter 57 = .ok (.getfield 55, 3) := by decide +kernel
theorem dX5_keepAllAfter_60 : decode cX5_keepAllAfter 60 = .ok (.iload_n 2, 1) := by decide +kernel
theorem dX5_keepAllAfter_61 : decode cX5_keepAllAfter 61 = .ok (.if_icmp .ne 5, 3) := by decide +kernel
theorem dX5_keepAllAfter_64 : decode cX5_keepAllAfter 64 = .ok (.iconst 0, 1) := by decide +kernel
theorem dX5_keepAllAfter_65 : decode cX5_keepAllAfter 65 = .ok (.ireturn, 1) := by decide +kernel
theorem dX5_keepAllAfter_66 : decode cX5_keepAllAfter 66 = .ok (.aload_n 0, 1) := by decide +kernel
theorem dX5_keepAllAfter_67 : decode cX5_keepAllAfter 67 = .ok (.iload 5, 2) := by decide +kernel
theorem dX5_keepAllAfter_69 : decode cX5_keepAllAfter 69 = .ok (.invokevirtual 68, 3) := by decide +kernel
theorem dX5_keepAllAfter_72 : decode cX5_keepAllAfter 72 = .ok (.iinc 4 1, 3) := by decide +kernel
theorem dX5_keepAllAfter_75 : decode cX5_keepAllAfter 75 = .ok (.goto (-62), 3) := by decide +kernel
theorem dX5_keepAllAfter_78 : decode cX5_keepAllAfter 78 = .ok (.iinc 3 1, 3) := by decide +kernel
theorem dX5_keepAllAfter_81 : decode cX5_keepAllAfter 81 = .ok (.goto (-79), 3) := by decide +kernel
theorem dX5_keepAllAfter_84 : decode cX5_keepAllAfter 84 = .ok (.iconst 1, 1) := by decide +kernel
theorem dX5_keepAllAfter_85 : decode cX5_keepAllAfter 85 = .ok (.ireturn, 1) := by decide +kernel
theorem dX5_stepToNext_0 : decode cX5_stepToNext 0 = .ok (.iload_n 1, 1) := by decide +kernel
theorem dX5_stepToNext_1 : decode cX5_stepToNext 1 = .ok (.aload_n 0, 1) := by decide +kernel
theorem dX5_stepToNext_2 : decode cX5_stepToNext 2 = .ok (.getfield 51, 3) := by decide +kernel
theorem dX5_stepToNext_5 : decode cX5_stepToNext 5 = .ok (.imul, 1) := by decide +kernel
theorem dX5_stepToNext_6 : decode cX5_stepToNext 6 = .ok (.istore 4, 2) := by decide +kernel
theorem dX5_stepToNext_8 : decode cX5_stepToNext 8 = .ok (.aload_n 0, 1) := by decide +kernel
theorem dX5_stepToNext_9 : decode cX5_stepToNext 9 = .ok (.getfield 35, 3) := by decide +kernel
theorem dX5_stepToNext_12 : decode cX5_stepToNext 12 = .ok (.aload_n 0, 1) := by decide +kernel
theorem dX5_stepToNext_13 : decode cX5_stepToNext 13 = .ok (.getfield 9, 3) := by decide +kernel
theorem dX5_stepToNext_16 : decode cX5_stepToNext 16 = .ok (.iload 4, 2) := by decide +kernel
theorem dX5_stepToNext_18 : decode cX5_stepToNext 18 = .ok (.iload_n 2, 1) := by decide +kernel
theorem dX5_stepToNext_19 : decode cX5_stepToNext 19 = .ok (.iadd, 1) := by decide +kernel
theorem dX5_stepToNext_20 : decode cX5_stepToNext 20 = .ok (.laload, 1) := by decide +kernel
theorem dX5_stepToNext_21 : decode cX5_stepToNext 21 = .ok (.aload_n 0, 1) := by decide +kernel
theorem dX5_stepToNext_22 : decode cX5_stepToNext 22 = .ok (.getfield 9, 3) := by decide +kernel
theorem dX5_stepToNext_25 : decode cX5_stepToNext 25 = .ok (.iload 4, 2) := by decide +kernel
theorem dX5_stepToNext_27 : decode cX5_stepToNext 27 = .ok (.iload_n 3, 1) := by decide +kernel
theorem dX5_stepToNext_28 : decode cX5_stepToNext 28 = .ok (.iadd, 1) := by decide +kernel
theorem dX5_stepToNext_29 : decode cX5_stepToNext 29 = .ok (.laload, 1) := by decide +kernel
theorem dX5_stepToNext_30 : decode cX5_stepToNext 30 = .ok (.invokevirtual 80, 3) := by decide +kernel
theorem dX5_stepToNext_33 : decode cX5_stepToNext 33 = .ok (.ifCond .ne 5, 3) := by decide +kernel
theorem dX5_stepToNext_36 : decode cX5_stepToNext 36 = .ok (.iconst 0, 1) := by decide +kernel
theorem dX5_stepToNext_37 : decode cX5_stepToNext 37 = .ok (.ireturn, 1) := by decide +kernel
theorem dX5_stepToNext_38 : decode cX5_stepToNext 38 = .ok (.iconst 0, 1) := by decide +kernel
theorem dX5_stepToNext_39 : decode cX5_stepToNext 39 = .ok (.istore 5, 2) := by decide +kernel
theorem dX5_stepToNext_41 : decode cX5_stepToNext 41 = .ok (.iload 5, 2) := by decide +kernel
theorem dX5_stepToNext_43 : decode cX5_stepToNext 43 = .ok (.aload_n 0, 1) := by decide +kernel
theorem dX5_stepToNext_44 : decode cX5_stepToNext 44 = .ok (.getfield 51, 3) := by decide +kernel
theorem dX5_stepToNext_47 : decode cX5_stepToNext 47 = .ok (.if_icmp .ge 26, 3) := by decide +kernel
theorem dX5_stepToNext_50 : decode cX5_stepToNext 50 = .ok (.aload_n 0, 1) := by decide +kernel
theorem dX5_stepToNext_51 : decode cX5_stepToNext 51 = .ok (.getfield 23, 3) := by decide +kernel
theorem dX5_stepToNext_54 : decode cX5_stepToNext 54 = .ok (.iload 5, 2) := by decide +kernel
theorem dX5_stepToNext_56 : decode cX5_stepToNext 56 = .ok (.aload_n 0, 1) := by decide +kernel
theorem dX5_stepToNext_57 : decode cX5_stepToNext 57 = .ok (.getfield 9, 3) := by decide +kernel
theorem dX5_stepToNext_60 : decode cX5_stepToNext 60 = .ok (.iload 4, 2) := by decide +kernel
theorem dX5_stepToNext_62 : decode cX5_stepToNext 62 = .ok (.iload 5, 2) := by decide +kernel
theorem dX5_stepToNext_64 : decode cX5_stepToNext 64 = .ok (.iadd, 1) := by decide +kernel
theorem dX5_stepToNext_65 : decode cX5_stepToNext 65 = .ok (.laload, 1) := by decide +kernel
theorem dX5_stepToNext_66 : decode cX5_stepToNext 66 = .ok (.lastore, 1) := by decide +kernel
theorem dX5_stepToNext_67 : decode cX5_stepToNext 67 = .ok (.iinc 5 1, 3) := by decide +kernel
theorem dX5_stepToNext_70 : decode cX5_stepToNext 70 = .ok (.goto (-29), 3) := by decide +kernel
theorem dX5_stepToNext_73 : decode cX5_stepToNext 73 = .ok (.aload_n 0, 1) := by decide +kernel
theorem dX5_stepToNext_74 : decode cX5_stepToNext 74 = .ok (.getfield 23, 3) := by decide +kernel
theorem dX5_stepToNext_77 : decode cX5_stepToNext 77 = .ok (.iload_n 2, 1) := by decide +kernel
theorem dX5_stepToNext_78 : decode cX5_stepToNext 78 = .ok (.aload_n 0, 1) := by decide +kernel
theorem dX5_stepToNext_79 : decode cX5_stepToNext 79 = .ok (.getfield 35, 3) := by decide +kernel
theorem dX5_stepToNext_82 : decode cX5_stepToNext 82 = .ok (.invokevirtual 84, 3) := by decide +kernel
theorem dX5_stepToNext_85 : decode cX5_stepToNext 85 = .ok (.lastore, 1) := by decide +kernel
theorem dX5_stepToNext_86 : decode cX5_stepToNext 86 = .ok (.aload_n 0, 1) := by decide +kernel
theorem dX5_stepToNext_87 : decode cX5_stepToNext 87 = .ok (.getfield 23, 3) := by decide +kernel
theorem dX5_stepToNext_90 : decode cX5_stepToNext 90 = .ok (.iload_n 3, 1) := by decide +kernel
theorem dX5_stepToNext_91 : decode cX5_stepToNext 91 = .ok (.aload_n 0, 1) := by decide +kernel
theorem dX5_stepToNext_92 : decode cX5_stepToNext 92 = .ok (.getfield 35, 3) := by decide +kernel
theorem dX5_stepToNext_95 : decode cX5_stepToNext 95 = .ok (.invokevirtual 88, 3) := by decide +kernel
theorem dX5_stepToNext_98 : decode cX5_stepToNext 98 = .ok (.lastore, 1) := by decide +kernel
theorem dX5_stepToNext_99 : decode cX5_stepToNext 99 = .ok (.aload_n 0, 1) := by decide +kernel
theorem dX5_stepToNext_100 : decode cX5_stepToNext 100 = .ok (.invokevirtual 62, 3) := by decide +kernel
theorem dX5_stepToNext_103 : decode cX5_stepToNext 103 = .ok (.iconst 1, 1) := by decide +kernel
theorem dX5_stepToNext_104 : decode cX5_stepToNext 104 = .ok (.ireturn, 1) := by decide +kernel
theorem dX5_sortNext_0 : decode cX5_sortNext 0 = .ok (.iconst 1, 1) := by decide +kernel
theorem dX5_sortNext_1 : decode cX5_sortNext 1 = .ok (.istore_n 1, 1) := by decide +kernel
theorem dX5_sortNext_2 : decode cX5_sortNext 2 = .ok (.iload_n 1, 1) := by decide +kernel
theorem dX5_sortNext_3 : decode cX5_sortNext 3 = .ok (.aload_n 0, 1) := by decide +kernel
theorem dX5_sortNext_4 : decode cX5_sortNext 4 = .ok (.getfield 51, 3) := by decide +kernel
theorem dX5_sortNext_7 : decode cX5_sortNext 7 = .ok (.if_icmp .ge 68, 3) := by decide +kernel
theorem dX5_sortNext_10 : decode cX5_sortNext 10 = .ok (.aload_n 0, 1) := by decide +kernel
theorem dX5_sortNext_11 : decode cX5_sortNext 11 = .ok (.getfield 23, 3) := by decide +kernel
theorem dX5_sortNext_14 : decode cX5_sortNext 14 = .ok (.iload_n 1, 1) := by decide +kernel
theorem dX5_sortNext_15 : decode cX5_sortNext 15 = .ok (.laload, 1) := by decide +kernel
theorem dX5_sortNext_16 : decode cX5_sortNext 16 = .ok (.lstore_n 2, 1) := by decide +kernel
theorem dX5_sortNext_17 : decode cX5_sortNext 17 = .ok (.iload_n 1, 1) := by decide +kernel
theorem dX5_sortNext_18 : decode cX5_sortNext 18 = .ok (.istore 4, 2) := by decide +kernel
theorem dX5_sortNext_20 : decode cX5_sortNext 20 = .ok (.iload 4, 2) := by decide +kernel
theorem dX5_sortNext_22 : decode cX5_sortNext 22 = .ok (.ifCond .le 39, 3) := by decide +kernel
theorem dX5_sortNext_25 : decode cX5_sortNext 25 = .ok (.aload_n 0, 1) := by decide +kernel
theorem dX5_sortNext_26 : decode cX5_sortNext 26 = .ok (.getfield 23, 3) := by decide +kernel
theorem dX5_sortNext_29 : decode cX5_sortNext 29 = .ok (.iload 4, 2) := by decide +kernel
theorem dX5_sortNext_31 : decode cX5_sortNext 31 = .ok (.iconst 1, 1) := by decide +kernel
theorem dX5_sortNext_32 : decode cX5_sortNext 32 = .ok (.isub, 1) := by decide +kernel
theorem dX5_sortNext_33 : decode cX5_sortNext 33 = .ok (.laload, 1) := by decide +kernel
theorem dX5_sortNext_34 : decode cX5_sortNext 34 = .ok (.lload_n 2, 1) := by decide +kernel
theorem dX5_sortNext_35 : decode cX5_sortNext 35 = .ok (.lcmp, 1) := by decide +kernel
theorem dX5_sortNext_36 : decode cX5_sortNext 36 = .ok (.ifCond .le 25, 3) := by decide +kernel
theorem dX5_sortNext_39 : decode cX5_sortNext 39 = .ok (.aload_n 0, 1) := by decide +kernel
theorem dX5_sortNext_40 : decode cX5_sortNext 40 = .ok (.getfield 23, 3) := by decide +kernel
theorem dX5_sortNext_43 : decode cX5_sortNext 43 = .ok (.iload 4, 2) := by decide +kernel
theorem dX5_sortNext_45 : decode cX5_sortNext 45 = .ok (.aload_n 0, 1) := by decide +kernel
theorem dX5_sortNext_46 : decode cX5_sortNext 46 = .ok (.getfield 23, 3) := by decide +kernel
theorem dX5_sortNext_49 : decode cX5_sortNext 49 = .ok (.iload 4, 2) := by decide +kernel
theorem dX5_sortNext_51 : decode cX5_sortNext 51 = .ok (.iconst 1, 1) := by decide +kernel
theorem dX5_sortNext_52 : decode cX5_sortNext 52 = .ok (.isub, 1) := by decide +kernel
theorem dX5_sortNext_53 : decode cX5_sortNext 53 = .ok (.laload, 1) := by decide +kernel
theorem dX5_sortNext_54 : decode cX5_sortNext 54 = .ok (.lastore, 1) := by decide +kernel
theorem dX5_sortNext_55 : decode cX5_sortNext 55 = .ok (.iinc 4 (-1), 3) := by decide +kernel
theorem dX5_sortNext_58 : decode cX5_sortNext 58 = .ok (.goto (-38), 3) := by decide +kernel
theorem dX5_sortNext_61 : decode cX5_sortNext 61 = .ok (.aload_n 0, 1) := by decide +kernel
theorem dX5_sortNext_62 : decode cX5_sortNext 62 = .ok (.getfield 23, 3) := by decide +kernel
theorem dX5_sortNext_65 : decode cX5_sortNext 65 = .ok (.iload 4, 2) := by decide +kernel
theorem dX5_sortNext_67 : decode cX5_sortNext 67 = .ok (.lload_n 2, 1) := by decide +kernel
theorem dX5_sortNext_68 : decode cX5_sortNext 68 = .ok (.lastore, 1) := by decide +kernel
theorem dX5_sortNext_69 : decode cX5_sortNext 69 = .ok (.iinc 1 1, 3) := by decide +kernel
theorem dX5_sortNext_72 : decode cX5_sortNext 72 = .ok (.goto (-70), 3) := by decide +kernel
theorem dX5_sortNext_75 : decode cX5_sortNext 75 = .ok (.return_, 1) := by decide +kernel
theorem dX5_keepNext_0 : decode cX5_keepNext 0 = .ok (.aload_n 0, 1) := by decide +kernel
theorem dX5_keepNext_1 : decode cX5_keepNext 1 = .ok (.getfield 15, 3) := by decide +kernel
theorem dX5_keepNext_4 : decode cX5_keepNext 4 = .ok (.iload_n 1, 1) := by decide +kernel
theorem dX5_keepNext_5 : decode cX5_keepNext 5 = .ok (.aload_n 0, 1) := by decide +kernel
theorem dX5_keepNext_6 : decode cX5_keepNext 6 = .ok (.getfield 55, 3) := by decide +kernel
theorem dX5_keepNext_9 : decode cX5_keepNext 9 = .ok (.iastore, 1) := by decide +kernel
theorem dX5_keepNext_10 : decode cX5_keepNext 10 = .ok (.iconst 0, 1) := by decide +kernel
theorem dX5_keepNext_11 : decode cX5_keepNext 11 = .ok (.istore_n 2, 1) := by decide +kernel
theorem dX5_keepNext_12 : decode cX5_keepNext 12 = .ok (.iload_n 2, 1) := by decide +kernel
theorem dX5_keepNext_13 : decode cX5_keepNext 13 = .ok (.aload_n 0, 1) := by decide +kernel
theorem dX5_keepNext_14 : decode cX5_keepNext 14 = .ok (.getfield 51, 3) := by decide +kernel
theorem dX5_keepNext_17 : decode cX5_keepNext 17 = .ok (.if_icmp .ge 31, 3) := by decide +kernel
theorem dX5_keepNext_20 : decode cX5_keepNext 20 = .ok (.aload_n 0, 1) := by decide +kernel
theorem dX5_keepNext_21 : decode cX5_keepNext 21 = .ok (.getfield 9, 3) := by decide +kernel
theorem dX5_keepNext_24 : decode cX5_keepNext 24 = .ok (.aload_n 0, 1) := by decide +kernel
theorem dX5_keepNext_25 : decode cX5_keepNext 25 = .ok (.getfield 55, 3) := by decide +kernel
theorem dX5_keepNext_28 : decode cX5_keepNext 28 = .ok (.aload_n 0, 1) := by decide +kernel
theorem dX5_keepNext_29 : decode cX5_keepNext 29 = .ok (.getfield 51, 3) := by decide +kernel
theorem dX5_keepNext_32 : decode cX5_keepNext 32 = .ok (.imul, 1) := by decide +kernel
theorem dX5_keepNext_33 : decode cX5_keepNext 33 = .ok (.iload_n 2, 1) := by decide +kernel
theorem dX5_keepNext_34 : decode cX5_keepNext 34 = .ok (.iadd, 1) := by decide +kernel
theorem dX5_keepNext_35 : decode cX5_keepNext 35 = .ok (.aload_n 0, 1) := by decide +kernel
theorem dX5_keepNext_36 : decode cX5_keepNext 36 = .ok (.getfield 23, 3) := by decide +kernel
theorem dX5_keepNext_39 : decode cX5_keepNext 39 = .ok (.iload_n 2, 1) := by decide +kernel
theorem dX5_keepNext_40 : decode cX5_keepNext 40 = .ok (.laload, 1) := by decide +kernel
theorem dX5_keepNext_41 : decode cX5_keepNext 41 = .ok (.lastore, 1) := by decide +kernel
theorem dX5_keepNext_42 : decode cX5_keepNext 42 = .ok (.iinc 2 1, 3) := by decide +kernel
theorem dX5_keepNext_45 : decode cX5_keepNext 45 = .ok (.goto (-33), 3) := by decide +kernel
theorem dX5_keepNext_48 : decode cX5_keepNext 48 = .ok (.aload_n 0, 1) := by decide +kernel
theorem dX5_keepNext_49 : decode cX5_keepNext 49 = .ok (.dup, 1) := by decide +kernel
theorem dX5_keepNext_50 : decode cX5_keepNext 50 = .ok (.getfield 55, 3) := by decide +kernel
theorem dX5_keepNext_53 : decode cX5_keepNext 53 = .ok (.iconst 1, 1) := by decide +kernel
theorem dX5_keepNext_54 : decode cX5_keepNext 54 = .ok (.iadd, 1) := by decide +kernel
theorem dX5_keepNext_55 : decode cX5_keepNext 55 = .ok (.putfield 55, 3) := by decide +kernel
theorem dX5_keepNext_58 : decode cX5_keepNext 58 = .ok (.return_, 1) := by decide +kernel
theorem dX5_slotOfNext_0 : decode cX5_slotOfNext 0 = .ok (.lconst 0, 1) := by decide +kernel
theorem dX5_slotOfNext_1 : decode cX5_slotOfNext 1 = .ok (.lstore_n 1, 1) := by decide +kernel
theorem dX5_slotOfNext_2 : decode cX5_slotOfNext 2 = .ok (.iconst 0, 1) := by decide +kernel
theorem dX5_slotOfNext_3 : decode cX5_slotOfNext 3 = .ok (.istore_n 3, 1) := by decide +kernel
theorem dX5_slotOfNext_4 : decode cX5_slotOfNext 4 = .ok (.iload_n 3, 1) := by decide +kernel
theorem dX5_slotOfNext_5 : decode cX5_slotOfNext 5 = .ok (.aload_n 0, 1) := by decide +kernel
theorem dX5_slotOfNext_6 : decode cX5_slotOfNext 6 = .ok (.getfield 51, 3) := by decide +kernel
theorem dX5_slotOfNext_9 : decode cX5_slotOfNext 9 = .ok (.if_icmp .ge 22, 3) := by decide +kernel
theorem dX5_slotOfNext_12 : decode cX5_slotOfNext 12 = .ok (.lload_n 1, 1) := by decide +kernel
theorem dX5_slotOfNext_13 : decode cX5_slotOfNext 13 = .ok (.aload_n 0, 1) := by decide +kernel
theorem dX5_slotOfNext_14 : decode cX5_slotOfNext 14 = .ok (.getfield 23, 3) := by decide +kernel
theorem dX5_slotOfNext_17 : decode cX5_slotOfNext 17 = .ok (.iload_n 3, 1) := by decide +kernel
theorem dX5_slotOfNext_18 : decode cX5_slotOfNext 18 = .ok (.laload, 1) := by decide +kernel
theorem dX5_slotOfNext_19 : decode cX5_slotOfNext 19 = .ok (.ladd, 1) := by decide +kernel
theorem dX5_slotOfNext_20 : decode cX5_slotOfNext 20 = .ok (.ldc2_w 91, 3) := by decide +kernel
theorem dX5_slotOfNext_23 : decode cX5_slotOfNext 23 = .ok (.lmul, 1) := by decide +kernel
theorem dX5_slotOfNext_24 : decode cX5_slotOfNext 24 = .ok (.lstore_n 1, 1) := by decide +kernel
theorem dX5_slotOfNext_25 : decode cX5_slotOfNext 25 = .ok (.iinc 3 1, 3) := by decide +kernel
theorem dX5_slotOfNext_28 : decode cX5_slotOfNext 28 = .ok (.goto (-24), 3) := by decide +kernel
theorem dX5_slotOfNext_31 : decode cX5_slotOfNext 31 = .ok (.lload_n 1, 1) := by decide +kernel
theorem dX5_slotOfNext_32 : decode cX5_slotOfNext 32 = .ok (.bipush 51, 2) := by decide +kernel
theorem dX5_slotOfNext_34 : decode cX5_slotOfNext 34 = .ok (.lushr, 1) := by decide +kernel
theorem dX5_slotOfNext_35 : decode cX5_slotOfNext 35 = .ok (.l2i, 1) := by decide +kernel
theorem dX5_slotOfNext_36 : decode cX5_slotOfNext 36 = .ok (.istore_n 3, 1) := by decide +kernel
theorem dX5_slotOfNext_37 : decode cX5_slotOfNext 37 = .ok (.iconst 0, 1) := by decide +kernel
theorem dX5_slotOfNext_38 : decode cX5_slotOfNext 38 = .ok (.istore 4, 2) := by decide +kernel
theorem dX5_slotOfNext_40 : decode cX5_slotOfNext 40 = .ok (.iload 4, 2) := by decide +kernel
theorem dX5_slotOfNext_42 : decode cX5_slotOfNext 42 = .ok (.sipush 8192, 3) := by decide +kernel
theorem dX5_slotOfNext_45 : decode cX5_slotOfNext 45 = .ok (.if_icmp .ge 42, 3) := by decide +kernel
theorem dX5_slotOfNext_48 : decode cX5_slotOfNext 48 = .ok (.aload_n 0, 1) := by decide +kernel
theorem dX5_slotOfNext_49 : decode cX5_slotOfNext 49 = .ok (.getfield 15, 3) := by decide +kernel
theorem dX5_slotOfNext_52 : decode cX5_slotOfNext 52 = .ok (.iload_n 3, 1) := by decide +kernel
theorem dX5_slotOfNext_53 : decode cX5_slotOfNext 53 = .ok (.iaload, 1) := by decide +kernel
theorem dX5_slotOfNext_54 : decode cX5_slotOfNext 54 = .ok (.iconst (-1), 1) := by decide +kernel
theorem dX5_slotOfNext_55 : decode cX5_slotOfNext 55 = .ok (.if_icmp .eq 16, 3) := by decide +kernel
theorem dX5_slotOfNext_58 : decode cX5_slotOfNext 58 = .ok (.aload_n 0, 1) := by decide +kernel
theorem dX5_slotOfNext_59 : decode cX5_slotOfNext 59 = .ok (.aload_n 0, 1) := by decide +kernel
theorem dX5_slotOfNext_60 : decode cX5_slotOfNext 60 = .ok (.getfield 15, 3) := by decide +kernel
theorem dX5_slotOfNext_63 : decode cX5_slotOfNext 63 = .ok (.iload_n 3, 1) := by decide +kernel
theorem dX5_slotOfNext_64 : decode cX5_slotOfNext 64 = .ok (.iaload, 1) := by decide +kernel
theorem dX5_slotOfNext_65 : decode cX5_slotOfNext 65 = .ok (.invokevirtual 93, 3) := by decide +kernel
theorem dX5_slotOfNext_68 : decode cX5_slotOfNext 68 = .ok (.ifCond .eq 5, 3) := by decide +kernel
theorem dX5_slotOfNext_71 : decode cX5_slotOfNext 71 = .ok (.iload_n 3, 1) := by decide +kernel
theorem dX5_slotOfNext_72 : decode cX5_slotOfNext 72 = .ok (.ireturn, 1) := by decide +kernel
theorem dX5_slotOfNext_73 : decode cX5_slotOfNext 73 = .ok (.iload_n 3, 1) := by decide +kernel
theorem dX5_slotOfNext_74 : decode cX5_slotOfNext 74 = .ok (.iconst 1, 1) := by decide +kernel
theorem dX5_slotOfNext_75 : decode cX5_slotOfNext 75 = .ok (.iadd, 1) := by decide +kernel
theorem dX5_slotOfNext_76 : decode cX5_slotOfNext 76 = .ok (.sipush 8192, 3) := by decide +kernel
theorem dX5_slotOfNext_79 : decode cX5_slotOfNext 79 = .ok (.irem, 1) := by decide +kernel
theorem dX5_slotOfNext_80 : decode cX5_slotOfNext 80 = .ok (.istore_n 3, 1) := by decide +kernel
theorem dX5_slotOfNext_81 : decode cX5_slotOfNext 81 = .ok (.iinc 4 1, 3) := by decide +kernel
theorem dX5_slotOfNext_84 : decode cX5_slotOfNext 84 = .ok (.goto (-44), 3) := by decide +kernel
theorem dX5_slotOfNext_87 : decode cX5_slotOfNext 87 = .ok (.iload_n 3, 1) := by decide +kernel
theorem dX5_slotOfNext_88 : decode cX5_slotOfNext 88 = .ok (.ireturn, 1) := by decide +kernel
theorem dX5_isNext_0 : decode cX5_isNext 0 = .ok (.iconst 0, 1) := by decide +kernel
theorem dX5_isNext_1 : decode cX5_isNext 1 = .ok (.istore_n 2, 1) := by decide +kernel
theorem dX5_isNext_2 : decode cX5_isNext 2 = .ok (.iload_n 2, 1) := by decide +kernel
theorem dX5_isNext_3 : decode cX5_isNext 3 = .ok (.aload_n 0, 1) := by decide +kernel
theorem dX5_isNext_4 : decode cX5_isNext 4 = .ok (.getfield 51, 3) := by decide +kernel
theorem dX5_isNext_7 : decode cX5_isNext 7 = .ok (.if_icmp .ge 34, 3) := by decide +kernel
theorem dX5_isNext_10 : decode cX5_isNext 10 = .ok (.aload_n 0, 1) := by decide +kernel
theorem dX5_isNext_11 : decode cX5_isNext 11 = .ok (.getfield 9, 3) := by decide +kernel
theorem dX5_isNext_14 : decode cX5_isNext 14 = .ok (.iload_n 1, 1) := by decide +kernel
theorem dX5_isNext_15 : decode cX5_isNext 15 = .ok (.aload_n 0, 1) := by decide +kernel
theorem dX5_isNext_16 : decode cX5_isNext 16 = .ok (.getfield 51, 3) := by decide +kernel
theorem dX5_isNext_19 : decode cX5_isNext 19 = .ok (.imul, 1) := by decide +kernel
theorem dX5_isNext_20 : decode cX5_isNext 20 = .ok (.iload_n 2, 1) := by decide +kernel
theorem dX5_isNext_21 : decode cX5_isNext 21 = .ok (.iadd, 1) := by decide +kernel
theorem dX5_isNext_22 : decode cX5_isNext 22 = .ok (.laload, 1) := by decide +kernel
theorem dX5_isNext_23 : decode cX5_isNext 23 = .ok (.aload_n 0, 1) := by decide +kernel
theorem dX5_isNext_24 : decode cX5_isNext 24 = .ok (.getfield 23, 3) := by decide +kernel
theorem dX5_isNext_27 : decode cX5_isNext 27 = .ok (.iload_n 2, 1) := by decide +kernel
theorem dX5_isNext_28 : decode cX5_isNext 28 = .ok (.laload, 1) := by decide +kernel
theorem dX5_isNext_29 : decode cX5_isNext 29 = .ok (.lcmp, 1) := by decide +kernel
theorem dX5_isNext_30 : decode cX5_isNext 30 = .ok (.ifCond .eq 5, 3) := by decide +kernel
theorem dX5_isNext_33 : decode cX5_isNext 33 = .ok (.iconst 0, 1) := by decide +kernel
theorem dX5_isNext_34 : decode cX5_isNext 34 = .ok (.ireturn, 1) := by decide +kernel
theorem dX5_isNext_35 : decode cX5_isNext 35 = .ok (.iinc 2 1, 3) := by decide +kernel
theorem dX5_isNext_38 : decode cX5_isNext 38 = .ok (.goto (-36), 3) := by decide +kernel
theorem dX5_isNext_41 : decode cX5_isNext 41 = .ok (.iconst 1, 1) := by decide +kernel
theorem dX5_isNext_42 : decode cX5_isNext 42 = .ok (.ireturn, 1) := by decide +kernel
theorem dX5_allCanEndRight_0 : decode cX5_allCanEndRight 0 = .ok (.aload_n 0, 1) := by decide +kernel
theorem dX5_allCanEndRight_1 : decode cX5_allCanEndRight 1 = .ok (.getfield 55, 3) := by decide +kernel
theorem dX5_allCanEndRight_4 : decode cX5_allCanEndRight 4 = .ok (.istore_n 2, 1) := by decide +kernel
theorem dX5_allCanEndRight_5 : decode cX5_allCanEndRight 5 = .ok (.iconst 0, 1) := by decide +kernel
theorem dX5_allCanEndRight_6 : decode cX5_allCanEndRight 6 = .ok (.istore_n 3, 1) := by decide +kernel
theorem dX5_allCanEndRight_7 : decode cX5_allCanEndRight 7 = .ok (.iload_n 3, 1) := by decide +kernel
theorem dX5_allCanEndRight_8 : decode cX5_allCanEndRight 8 = .ok (.aload_n 0, 1) := by decide +kernel
theorem dX5_allCanEndRight_9 : decode cX5_allCanEndRight 9 = .ok (.getfield 55, 3) := by decide +kernel
theorem dX5_allCanEndRight_12 : decode cX5_allCanEndRight 12 = .ok (.if_icmp .ge 38, 3) := by decide +kernel
theorem dX5_allCanEndRight_15 : decode cX5_allCanEndRight 15 = .ok (.aload_n 0, 1) := by decide +kernel
theorem dX5_allCanEndRight_16 : decode cX5_allCanEndRight 16 = .ok (.getfield 19, 3) := by decide +kernel
theorem dX5_allCanEndRight_19 : decode cX5_allCanEndRight 19 = .ok (.iload_n 3, 1) := by decide +kernel
theorem dX5_allCanEndRight_20 : decode cX5_allCanEndRight 20 = .ok (.aload_n 0, 1) := by decide +kernel
theorem dX5_allCanEndRight_21 : decode cX5_allCanEndRight 21 = .ok (.iload_n 3, 1) := by decide +kernel
theorem dX5_allCanEndRight_22 : decode cX5_allCanEndRight 22 = .ok (.iload_n 1, 1) := by decide +kernel
theorem dX5_allCanEndRight_23 : decode cX5_allCanEndRight 23 = .ok (.invokevirtual 97, 3) := by decide +kernel
theorem dX5_allCanEndRight_26 : decode cX5_allCanEndRight 26 = .ok (.bastore, 1) := by decide +kernel
theorem dX5_allCanEndRight_27 : decode cX5_allCanEndRight 27 = .ok (.iload_n 2, 1) := by decide +kernel
theorem dX5_allCanEndRight_28 : decode cX5_allCanEndRight 28 = .ok (.aload_n 0, 1) := by decide +kernel
theorem dX5_allCanEndRight_29 : decode cX5_allCanEndRight 29 = .ok (.getfield 19, 3) := by decide +kernel
theorem dX5_allCanEndRight_32 : decode cX5_allCanEndRight 32 = .ok (.iload_n 3, 1) := by decide +kernel
theorem dX5_allCanEndRight_33 : decode cX5_allCanEndRight 33 = .ok (.baload, 1) := by decide +kernel
theorem dX5_allCanEndRight_34 : decode cX5_allCanEndRight 34 = .ok (.ifCond .eq 7, 3) := by decide +kernel
theorem dX5_allCanEndRight_37 : decode cX5_allCanEndRight 37 = .ok (.iconst 1, 1) := by decide +kernel
theorem dX5_allCanEndRight_38 : decode cX5_allCanEndRight 38 = .ok (.goto 4, 3) := by decide +kernel
theorem dX5_allCanEndRight_41 : decode cX5_allCanEndRight 41 = .ok (.iconst 0, 1) := by decide +kernel
theorem dX5_allCanEndRight_42 : decode cX5_allCanEndRight 42 = .ok (.isub, 1) := by decide +kernel
theorem dX5_allCanEndRight_43 : decode cX5_allCanEndRight 43 = .ok (.istore_n 2, 1) := by decide +kernel
theorem dX5_allCanEndRight_44 : decode cX5_allCanEndRight 44 = .ok (.iinc 3 1, 3) := by decide +kernel
theorem dX5_allCanEndRight_47 : decode cX5_allCanEndRight 47 = .ok (.goto (-40), 3) := by decide +kernel
theorem dX5_allCanEndRight_50 : decode cX5_allCanEndRight 50 = .ok (.iconst 0, 1) := by decide +kernel
theorem dX5_allCanEndRight_51 : decode cX5_allCanEndRight 51 = .ok (.istore_n 3, 1) := by decide +kernel
theorem dX5_allCanEndRight_52 : decode cX5_allCanEndRight 52 = .ok (.iload_n 3, 1) := by decide +kernel
theorem dX5_allCanEndRight_53 : decode cX5_allCanEndRight 53 = .ok (.aload_n 0, 1) := by decide +kernel
theorem dX5_allCanEndRight_54 : decode cX5_allCanEndRight 54 = .ok (.getfield 55, 3) := by decide +kernel
theorem dX5_allCanEndRight_57 : decode cX5_allCanEndRight 57 = .ok (.if_icmp .ge 73, 3) := by decide +kernel
theorem dX5_allCanEndRight_60 : decode cX5_allCanEndRight 60 = .ok (.iload_n 2, 1) := by decide +kernel
theorem dX5_allCanEndRight_61 : decode cX5_allCanEndRight 61 = .ok (.ifCond .le 69, 3) := by decide +kernel
theorem dX5_allCanEndRight_64 : decode cX5_allCanEndRight 64 = .ok (.iload_n 2, 1) := by decide +kernel
theorem dX5_allCanEndRight_65 : decode cX5_allCanEndRight 65 = .ok (.istore 4, 2) := by decide +kernel
theorem dX5_allCanEndRight_67 : decode cX5_allCanEndRight 67 = .ok (.aload_n 0, 1) := by decide +kernel
theorem dX5_allCanEndRight_68 : decode cX5_allCanEndRight 68 = .ok (.getfield 55, 3) := by decide +kernel
theorem dX5_allCanEndRight_71 : decode cX5_allCanEndRight 71 = .ok (.iconst 1, 1) := by decide +kernel
theorem dX5_allCanEndRight_72 : decode cX5_allCanEndRight 72 = .ok (.isub, 1) := by decide +kernel
theorem dX5_allCanEndRight_73 : decode cX5_allCanEndRight 73 = .ok (.istore 5, 2) := by decide +kernel
theorem dX5_allCanEndRight_75 : decode cX5_allCanEndRight 75 = .ok (.iload 5, 2) := by decide +kernel
theorem dX5_allCanEndRight_77 : decode cX5_allCanEndRight 77 = .ok (.ifCond .lt 39, 3) := by decide +kernel
theorem dX5_allCanEndRight_80 : decode cX5_allCanEndRight 80 = .ok (.aload_n 0, 1) := by decide +kernel
theorem dX5_allCanEndRight_81 : decode cX5_allCanEndRight 81 = .ok (.getfield 19, 3) := by decide +kernel
theorem dX5_allCanEndRight_84 : decode cX5_allCanEndRight 84 = .ok (.iload 5, 2) := by decide +kernel
theorem dX5_allCanEndRight_86 : decode cX5_allCanEndRight 86 = .ok (.baload, 1) := by decide +kernel
theorem dX5_allCanEndRight_87 : decode cX5_allCanEndRight 87 = .ok (.ifCond .ne 23, 3) := by decide +kernel
theorem dX5_allCanEndRight_90 : decode cX5_allCanEndRight 90 = .ok (.aload_n 0, 1) := by decide +kernel
theorem dX5_allCanEndRight_91 : decode cX5_allCanEndRight 91 = .ok (.iload 5, 2) := by decide +kernel
theorem dX5_allCanEndRight_93 : decode cX5_allCanEndRight 93 = .ok (.invokevirtual 101, 3) := by decide +kernel
theorem dX5_allCanEndRight_96 : decode cX5_allCanEndRight 96 = .ok (.ifCond .eq 14, 3) := by decide +kernel
theorem dX5_allCanEndRight_99 : decode cX5_allCanEndRight 99 = .ok (.aload_n 0, 1) := by decide +kernel
theorem dX5_allCanEndRight_100 : decode cX5_allCanEndRight 100 = .ok (.getfield 19, 3) := by decide +kernel
theorem dX5_allCanEndRight_103 : decode cX5_allCanEndRight 103 = .ok (.iload 5, 2) := by decide +kernel
theorem dX5_allCanEndRight_105 : decode cX5_allCanEndRight 105 = .ok (.iconst 1, 1) := by decide +kernel
theorem dX5_allCanEndRight_106 : decode cX5_allCanEndRight 106 = .ok (.bastore, 1) := by decide +kernel
theorem dX5_allCanEndRight_107 : decode cX5_allCanEndRight 107 = .ok (.iinc 2 (-1), 3) := by decide +kernel
theorem dX5_allCanEndRight_110 : decode cX5_allCanEndRight 110 = .ok (.iinc 5 (-1), 3) := by decide +kernel
theorem dX5_allCanEndRight_113 : decode cX5_allCanEndRight 113 = .ok (.goto (-38), 3) := by decide +kernel
theorem dX5_allCanEndRight_116 : decode cX5_allCanEndRight 116 = .ok (.iload_n 2, 1) := by decide +kernel
theorem dX5_allCanEndRight_117 : decode cX5_allCanEndRight 117 = .ok (.iload 4, 2) := by decide +kernel
theorem dX5_allCanEndRight_119 : decode cX5_allCanEndRight 119 = .ok (.if_icmp .ne 5, 3) := by decide +kernel
theorem dX5_allCanEndRight_122 : decode cX5_allCanEndRight 122 = .ok (.iconst 0, 1) := by decide +kernel
theorem dX5_allCanEndRight_123 : decode cX5_allCanEndRight 123 = .ok (.ireturn, 1) := by decide +kernel
theorem dX5_allCanEndRight_124 : decode cX5_allCanEndRight 124 = .ok (.iinc 3 1, 3) := by decide +kernel
theorem dX5_allCanEndRight_127 : decode cX5_allCanEndRight 127 = .ok (.goto (-75), 3) := by decide +kernel
theorem dX5_allCanEndRight_130 : decode cX5_allCanEndRight 130 = .ok (.iload_n 2, 1) := by decide +kernel
theorem dX5_allCanEndRight_131 : decode cX5_allCanEndRight 131 = .ok (.ifCond .ne 7, 3) := by decide +kernel
theorem dX5_allCanEndRight_134 : decode cX5_allCanEndRight 134 = .ok (.iconst 1, 1) := by decide +kernel
theorem dX5_allCanEndRight_135 : decode cX5_allCanEndRight 135 = .ok (.goto 4, 3) := by decide +kernel
theorem dX5_allCanEndRight_138 : decode cX5_allCanEndRight 138 = .ok (.iconst 0, 1) := by decide +kernel
theorem dX5_allCanEndRight_139 : decode cX5_allCanEndRight 139 = .ok (.ireturn, 1) := by decide +kernel
theorem dX5_isRightEnd_0 : decode cX5_isRightEnd 0 = .ok (.iload_n 1, 1) := by decide +kernel
theorem dX5_isRightEnd_1 : decode cX5_isRightEnd 1 = .ok (.aload_n 0, 1) := by decide +kernel
theorem dX5_isRightEnd_2 : decode cX5_isRightEnd 2 = .ok (.getfield 51, 3) := by decide +kernel
theorem dX5_isRightEnd_5 : decode cX5_isRightEnd 5 = .ok (.imul, 1) := by decide +kernel
theorem dX5_isRightEnd_6 : decode cX5_isRightEnd 6 = .ok (.istore_n 3, 1) := by decide +kernel
theorem dX5_isRightEnd_7 : decode cX5_isRightEnd 7 = .ok (.aload_n 0, 1) := by decide +kernel
theorem dX5_isRightEnd_8 : decode cX5_isRightEnd 8 = .ok (.getfield 26, 3) := by decide +kernel
theorem dX5_isRightEnd_11 : decode cX5_isRightEnd 11 = .ok (.iload_n 2, 1) := by decide +kernel
theorem dX5_isRightEnd_12 : decode cX5_isRightEnd 12 = .ok (.aload_n 0, 1) := by decide +kernel
theorem dX5_isRightEnd_13 : decode cX5_isRightEnd 13 = .ok (.getfield 9, 3) := by decide +kernel
theorem dX5_isRightEnd_16 : decode cX5_isRightEnd 16 = .ok (.iload_n 3, 1) := by decide +kernel
theorem dX5_isRightEnd_17 : decode cX5_isRightEnd 17 = .ok (.aload_n 0, 1) := by decide +kernel
theorem dX5_isRightEnd_18 : decode cX5_isRightEnd 18 = .ok (.getfield 51, 3) := by decide +kernel
theorem dX5_isRightEnd_21 : decode cX5_isRightEnd 21 = .ok (.invokevirtual 104, 3) := by decide +kernel
theorem dX5_isRightEnd_24 : decode cX5_isRightEnd 24 = .ok (.ifCond .eq 26, 3) := by decide +kernel
theorem dX5_isRightEnd_27 : decode cX5_isRightEnd 27 = .ok (.aload_n 0, 1) := by decide +kernel
theorem dX5_isRightEnd_28 : decode cX5_isRightEnd 28 = .ok (.getfield 35, 3) := by decide +kernel
theorem dX5_isRightEnd_31 : decode cX5_isRightEnd 31 = .ok (.aload_n 0, 1) := by decide +kernel
theorem dX5_isRightEnd_32 : decode cX5_isRightEnd 32 = .ok (.getfield 9, 3) := by decide +kernel
theorem dX5_isRightEnd_35 : decode cX5_isRightEnd 35 = .ok (.iload_n 3, 1) := by decide +kernel
theorem dX5_isRightEnd_36 : decode cX5_isRightEnd 36 = .ok (.aload_n 0, 1) := by decide +kernel
theorem dX5_isRightEnd_37 : decode cX5_isRightEnd 37 = .ok (.getfield 51, 3) := by decide +kernel
theorem dX5_isRightEnd_40 : decode cX5_isRightEnd 40 = .ok (.invokevirtual 110, 3) := by decide +kernel
theorem dX5_isRightEnd_43 : decode cX5_isRightEnd 43 = .ok (.ifCond .eq 7, 3) := by decide +kernel
theorem dX5_isRightEnd_46 : decode cX5_isRightEnd 46 = .ok (.iconst 1, 1) := by decide +kernel
theorem dX5_isRightEnd_47 : decode cX5_isRightEnd 47 = .ok (.goto 4, 3) := by decide +kernel
theorem dX5_isRightEnd_50 : decode cX5_isRightEnd 50 = .ok (.iconst 0, 1) := by decide +kernel
theorem dX5_isRightEnd_51 : decode cX5_isRightEnd 51 = .ok (.ireturn, 1) := by decide +kernel
theorem dX5_leadsToRightEnd_0 : decode cX5_leadsToRightEnd 0 = .ok (.iconst 0, 1) := by decide +kernel
theorem dX5_leadsToRightEnd_1 : decode cX5_leadsToRightEnd 1 = .ok (.istore_n 2, 1) := by decide +kernel
theorem dX5_leadsToRightEnd_2 : decode cX5_leadsToRightEnd 2 = .ok (.iload_n 2, 1) := by decide +kernel
theorem dX5_leadsToRightEnd_3 : decode cX5_leadsToRightEnd 3 = .ok (.aload_n 0, 1) := by decide +kernel
theorem dX5_leadsToRightEnd_4 : decode cX5_leadsToRightEnd 4 = .ok (.getfield 51, 3) := by decide +kernel
theorem dX5_leadsToRightEnd_7 : decode cX5_leadsToRightEnd 7 = .ok (.if_icmp .ge 69, 3) := by decide +kernel
theorem dX5_leadsToRightEnd_10 : decode cX5_leadsToRightEnd 10 = .ok (.iconst 0, 1) := by decide +kernel
theorem dX5_leadsToRightEnd_11 : decode cX5_leadsToRightEnd 11 = .ok (.istore_n 3, 1) := by decide +kernel
theorem dX5_leadsToRightEnd_12 : decode cX5_leadsToRightEnd 12 = .ok (.iload_n 3, 1) := by decide +kernel
theorem dX5_leadsToRightEnd_13 : decode cX5_leadsToRightEnd 13 = .ok (.aload_n 0, 1) := by decide +kernel
theorem dX5_leadsToRightEnd_14 : decode cX5_leadsToRightEnd 14 = .ok (.getfield 51, 3) := by decide +kernel
theorem dX5_leadsToRightEnd_17 : decode cX5_leadsToRightEnd 17 = .ok (.if_icmp .ge 53, 3) := by decide +kernel
theorem dX5_leadsToRightEnd_20 : decode cX5_leadsToRightEnd 20 = .ok (.iload_n 2, 1) := by decide +kernel
theorem dX5_leadsToRightEnd_21 : decode cX5_leadsToRightEnd 21 = .ok (.iload_n 3, 1) := by decide +kernel
theorem dX5_leadsToRightEnd_22 : decode cX5_leadsToRightEnd 22 = .ok (.if_icmp .eq 42, 3) := by decide +kernel
theorem dX5_leadsToRightEnd_25 : decode cX5_leadsToRightEnd 25 = .ok (.aload_n 0, 1) := by decide +kernel
theorem dX5_leadsToRightEnd_26 : decode cX5_leadsToRightEnd 26 = .ok (.iload_n 1, 1) := by decide +kernel
theorem dX5_leadsToRightEnd_27 : decode cX5_leadsToRightEnd 27 = .ok (.iload_n 2, 1) := by decide +kernel
theorem dX5_leadsToRightEnd_28 : decode cX5_leadsToRightEnd 28 = .ok (.iload_n 3, 1) := by decide +kernel
theorem dX5_leadsToRightEnd_29 : decode cX5_leadsToRightEnd 29 = .ok (.invokevirtual 76, 3) := by decide +kernel
theorem dX5_leadsToRightEnd_32 : decode cX5_leadsToRightEnd 32 = .ok (.ifCond .eq 32, 3) := by decide +kernel
theorem dX5_leadsToRightEnd_35 : decode cX5_leadsToRightEnd 35 = .ok (.aload_n 0, 1) := by decide +kernel
theorem dX5_leadsToRightEnd_36 : decode cX5_leadsToRightEnd 36 = .ok (.getfield 15, 3) := by decide +kernel
theorem dX5_leadsToRightEnd_39 : decode cX5_leadsToRightEnd 39 = .ok (.aload_n 0, 1) := by decide +kernel
theorem dX5_leadsToRightEnd_40 : decode cX5_leadsToRightEnd 40 = .ok (.invokevirtual 65, 3) := by decide +kernel
theorem dX5_leadsToRightEnd_43 : decode cX5_leadsToRightEnd 43 = .ok (.iaload, 1) := by decide +kernel
theorem dX5_leadsToRightEnd_44 : decode cX5_leadsToRightEnd 44 = .ok (.istore 4, 2) := by decide +kernel
theorem dX5_leadsToRightEnd_46 : decode cX5_leadsToRightEnd 46 = .ok (.iload 4, 2) := by decide +kernel
theorem dX5_leadsToRightEnd_48 : decode cX5_leadsToRightEnd 48 = .ok (.iconst (-1), 1) := by decide +kernel
theorem dX5_leadsToRightEnd_49 : decode cX5_leadsToRightEnd 49 = .ok (.if_icmp .eq 15, 3) := by decide +kernel
theorem dX5_leadsToRightEnd_52 : decode cX5_leadsToRightEnd 52 = .ok (.aload_n 0, 1) := by decide +kernel
theorem dX5_leadsToRightEnd_53 : decode cX5_leadsToRightEnd 53 = .ok (.getfield 19, 3) := by decide +kernel
theorem dX5_leadsToRightEnd_56 : decode cX5_leadsToRightEnd 56 = .ok (.iload 4, 2) := by decide +kernel
theorem dX5_leadsToRightEnd_58 : decode cX5_leadsToRightEnd 58 = .ok (.baload, 1) := by decide +kernel
theorem dX5_leadsToRightEnd_59 : decode cX5_leadsToRightEnd 59 = .ok (.ifCond .eq 5, 3) := by decide +kernel
theorem dX5_leadsToRightEnd_62 : decode cX5_leadsToRightEnd 62 = .ok (.iconst 1, 1) := by decide +kernel
theorem dX5_leadsToRightEnd_63 : decode cX5_leadsToRightEnd 63 = .ok (.ireturn, 1) := by decide +kernel
theorem dX5_leadsToRightEnd_64 : decode cX5_leadsToRightEnd 64 = .ok (.iinc 3 1, 3) := by decide +kernel
theorem dX5_leadsToRightEnd_67 : decode cX5_leadsToRightEnd 67 = .ok (.goto (-55), 3) := by decide +kernel
theorem dX5_leadsToRightEnd_70 : decode cX5_leadsToRightEnd 70 = .ok (.iinc 2 1, 3) := by decide +kernel
theorem dX5_leadsToRightEnd_73 : decode cX5_leadsToRightEnd 73 = .ok (.goto (-71), 3) := by decide +kernel
theorem dX5_leadsToRightEnd_76 : decode cX5_leadsToRightEnd 76 = .ok (.iconst 0, 1) := by decide +kernel
theorem dX5_leadsToRightEnd_77 : decode cX5_leadsToRightEnd 77 = .ok (.ireturn, 1) := by decide +kernel
theorem dX6_init_0 : decode cX6_init 0 = .ok (.aload_n 0, 1) := by decide +kernel
theorem dX6_init_1 : decode cX6_init 1 = .ok (.invokespecial 1, 3) := by decide +kernel
theorem dX6_init_4 : decode cX6_init 4 = .ok (.aload_n 0, 1) := by decide +kernel
theorem dX6_init_5 : decode cX6_init 5 = .ok (.new 7, 3) := by decide +kernel
theorem dX6_init_8 : decode cX6_init 8 = .ok (.dup, 1) := by decide +kernel
theorem dX6_init_9 : decode cX6_init 9 = .ok (.invokespecial 9, 3) := by decide +kernel
theorem dX6_init_12 : decode cX6_init 12 = .ok (.putfield 10, 3) := by decide +kernel
theorem dX6_init_15 : decode cX6_init 15 = .ok (.aload_n 0, 1) := by decide +kernel
theorem dX6_init_16 : decode cX6_init 16 = .ok (.new 16, 3) := by decide +kernel
theorem dX6_init_19 : decode cX6_init 19 = .ok (.dup, 1) := by decide +kernel
theorem dX6_init_20 : decode cX6_init 20 = .ok (.aload_n 0, 1) := by decide +kernel
theorem dX6_init_21 : decode cX6_init 21 = .ok (.getfield 10, 3) := by decide +kernel
theorem dX6_init_24 : decode cX6_init 24 = .ok (.invokespecial 18, 3) := by decide +kernel
theorem dX6_init_27 : decode cX6_init 27 = .ok (.putfield 21, 3) := by decide +kernel
theorem dX6_init_30 : decode cX6_init 30 = .ok (.aload_n 0, 1) := by decide +kernel
theorem dX6_init_31 : decode cX6_init 31 = .ok (.aconst_null, 1) := by decide +kernel
theorem dX6_init_32 : decode cX6_init 32 = .ok (.putfield 25, 3) := by decide +kernel
theorem dX6_init_35 : decode cX6_init 35 = .ok (.aload_n 0, 1) := by decide +kernel
theorem dX6_init_36 : decode cX6_init 36 = .ok (.iconst 0, 1) := by decide +kernel
theorem dX6_init_37 : decode cX6_init 37 = .ok (.putfield 29, 3) := by decide +kernel
theorem dX6_init_40 : decode cX6_init 40 = .ok (.return_, 1) := by decide +kernel
theorem dX6_clear_0 : decode cX6_clear 0 = .ok (.aload_n 0, 1) := by decide +kernel
theorem dX6_clear_1 : decode cX6_clear 1 = .ok (.getfield 10, 3) := by decide +kernel
theorem dX6_clear_4 : decode cX6_clear 4 = .ok (.invokevirtual 33, 3) := by decide +kernel
theorem dX6_clear_7 : decode cX6_clear 7 = .ok (.aload_n 0, 1) := by decide +kernel
theorem dX6_clear_8 : decode cX6_clear 8 = .ok (.getfield 21, 3) := by decide +kernel
theorem dX6_clear_11 : decode cX6_clear 11 = .ok (.invokevirtual 36, 3) := by decide +kernel
theorem dX6_clear_14 : decode cX6_clear 14 = .ok (.aload_n 0, 1) := by decide +kernel
theorem dX6_clear_15 : decode cX6_clear 15 = .ok (.iconst 0, 1) := by decide +kernel
theorem dX6_clear_16 : decode cX6_clear 16 = .ok (.putfield 29, 3) := by decide +kernel
theorem dX6_clear_19 : decode cX6_clear 19 = .ok (.return_, 1) := by decide +kernel
theorem dX6_coef_0 : decode cX6_coef 0 = .ok (.iload_n 1, 1) := by decide +kernel
theorem dX6_coef_1 : decode cX6_coef 1 = .ok (.invokestatic 37, 3) := by decide +kernel
theorem dX6_coef_4 : decode cX6_coef 4 = .ok (.ifCond .ne 13, 3) := by decide +kernel
theorem dX6_coef_7 : decode cX6_coef 7 = .ok (.new 41, 3) := by decide +kernel
theorem dX6_coef_10 : decode cX6_coef 10 = .ok (.dup, 1) := by decide +kernel
theorem dX6_coef_11 : decode cX6_coef 11 = .ok (.ldc 43, 2) := by decide +kernel
theorem dX6_coef_13 : decode cX6_coef 13 = .ok (.invokespecial 45, 3) := by decide +kernel
theorem dX6_coef_16 : decode cX6_coef 16 = .ok (.athrow, 1) := by decide +kernel
theorem dX6_coef_17 : decode cX6_coef 17 = .ok (.iload_n 2, 1) := by decide +kernel
theorem dX6_coef_18 : decode cX6_coef 18 = .ok (.invokestatic 48, 3) := by decide +kernel
theorem dX6_coef_21 : decode cX6_coef 21 = .ok (.ifCond .ne 13, 3) := by decide +kernel
theorem dX6_coef_24 : decode cX6_coef 24 = .ok (.new 41, 3) := by decide +kernel
theorem dX6_coef_27 : decode cX6_coef 27 = .ok (.dup, 1) := by decide +kernel
theorem dX6_coef_28 : decode cX6_coef 28 = .ok (.ldc 51, 2) := by decide +kernel
theorem dX6_coef_30 : decode cX6_coef 30 = .ok (.invokespecial 45, 3) := by decide +kernel
theorem dX6_coef_33 : decode cX6_coef 33 = .ok (.athrow, 1) := by decide +kernel
theorem dX6_coef_34 : decode cX6_coef 34 = .ok (.aload_n 0, 1) := by decide +kernel
theorem dX6_coef_35 : decode cX6_coef 35 = .ok (.getfield 10, 3) := by decide +kernel
theorem dX6_coef_38 : decode cX6_coef 38 = .ok (.iload_n 1, 1) := by decide +kernel
theorem dX6_coef_39 : decode cX6_coef 39 = .ok (.iload_n 2, 1) := by decide +kernel
theorem dX6_coef_40 : decode cX6_coef 40 = .ok (.invokevirtual 53, 3) := by decide +kernel
theorem dX6_coef_43 : decode cX6_coef 43 = .ok (.ireturn, 1) := by decide +kernel
theorem dX6_sum_0 : decode cX6_sum 0 = .ok (.iload_n 1, 1) := by decide +kernel
theorem dX6_sum_1 : decode cX6_sum 1 = .ok (.invokestatic 48, 3) := by decide +kernel
theorem dX6_sum_4 : decode cX6_sum 4 = .ok (.ifCond .ne 13, 3) := by decide +kernel
theorem dX6_sum_7 : decode cX6_sum 7 = .ok (.new 41, 3) := by decide +kernel
theorem dX6_sum_10 : decode cX6_sum 10 = .ok (.dup, 1) := by decide +kernel
theorem dX6_sum_11 : decode cX6_sum 11 = .ok (.ldc 57, 2) := by decide +kernel
theorem dX6_sum_13 : decode cX6_sum 13 = .ok (.invokespecial 45, 3) := by decide +kernel
theorem dX6_sum_16 : decode cX6_sum 16 = .ok (.athrow, 1) := by decide +kernel
theorem dX6_sum_17 : decode cX6_sum 17 = .ok (.aload_n 0, 1) := by decide +kernel
theorem dX6_sum_18 : decode cX6_sum 18 = .ok (.getfield 10, 3) := by decide +kernel
theorem dX6_sum_21 : decode cX6_sum 21 = .ok (.invokevirtual 59, 3) := by decide +kernel
theorem dX6_sum_24 : decode cX6_sum 24 = .ok (.ifCond .ne 13, 3) := by decide +kernel
theorem dX6_sum_27 : decode cX6_sum 27 = .ok (.new 63, 3) := by decide +kernel
theorem dX6_sum_30 : decode cX6_sum 30 = .ok (.dup, 1) := by decide +kernel
theorem dX6_sum_31 : decode cX6_sum 31 = .ok (.ldc 65, 2) := by decide +kernel
theorem dX6_sum_33 : decode cX6_sum 33 = .ok (.invokespecial 67, 3) := by decide +kernel
theorem dX6_sum_36 : decode cX6_sum 36 = .ok (.athrow, 1) := by decide +kernel
theorem dX6_sum_37 : decode cX6_sum 37 = .ok (.aload_n 0, 1) := by decide +kernel
theorem dX6_sum_38 : decode cX6_sum 38 = .ok (.getfield 10, 3) := by decide +kernel
theorem dX6_sum_41 : decode cX6_sum 41 = .ok (.iconst 0, 1) := by decide +kernel
theorem dX6_sum_42 : decode cX6_sum 42 = .ok (.iload_n 1, 1) := by decide +kernel
theorem dX6_sum_43 : decode cX6_sum 43 = .ok (.invokevirtual 70, 3) := by decide +kernel
theorem dX6_sum_46 : decode cX6_sum 46 = .ok (.ireturn, 1) := by decide +kernel
theorem dX6_mod_0 : decode cX6_mod 0 = .ok (.iload_n 2, 1) := by decide +kernel
theorem dX6_mod_1 : decode cX6_mod 1 = .ok (.iconst 2, 1) := by decide +kernel
theorem dX6_mod_2 : decode cX6_mod 2 = .ok (.if_icmp .lt 9, 3) := by decide +kernel
theorem dX6_mod_5 : decode cX6_mod 5 = .ok (.iload_n 2, 1) := by decide +kernel
theorem dX6_mod_6 : decode cX6_mod 6 = .ok (.bipush 16, 2) := by decide +kernel
theorem dX6_mod_8 : decode cX6_mod 8 = .ok (.if_icmp .le 13, 3) := by decide +kernel
theorem dX6_mod_11 : decode cX6_mod 11 = .ok (.new 41, 3) := by decide +kernel
theorem dX6_mod_14 : decode cX6_mod 14 = .ok (.dup, 1) := by decide +kernel
theorem dX6_mod_15 : decode cX6_mod 15 = .ok (.ldc 73, 2) := by decide +kernel
theorem dX6_mod_17 : decode cX6_mod 17 = .ok (.invokespecial 45, 3) := by decide +kernel
theorem dX6_mod_20 : decode cX6_mod 20 = .ok (.athrow, 1) := by decide +kernel
theorem dX6_mod_21 : decode cX6_mod 21 = .ok (.iload_n 1, 1) := by decide +kernel
theorem dX6_mod_22 : decode cX6_mod 22 = .ok (.ifCond .lt 8, 3) := by decide +kernel
theorem dX6_mod_25 : decode cX6_mod 25 = .ok (.iload_n 1, 1) := by decide +kernel
theorem dX6_mod_26 : decode cX6_mod 26 = .ok (.iload_n 2, 1) := by decide +kernel
theorem dX6_mod_27 : decode cX6_mod 27 = .ok (.if_icmp .lt 13, 3) := by decide +kernel
theorem dX6_mod_30 : decode cX6_mod 30 = .ok (.new 41, 3) := by decide +kernel
theorem dX6_mod_33 : decode cX6_mod 33 = .ok (.dup, 1) := by decide +kernel
theorem dX6_mod_34 : decode cX6_mod 34 = .ok (.ldc 75, 2) := by decide +kernel
theorem dX6_mod_36 : decode cX6_mod 36 = .ok (.invokespecial 45, 3) := by decide +kernel
theorem dX6_mod_39 : decode cX6_mod 39 = .ok (.athrow, 1) := by decide +kernel
theorem dX6_mod_40 : decode cX6_mod 40 = .ok (.aload_n 0, 1) := by decide +kernel
theorem dX6_mod_41 : decode cX6_mod 41 = .ok (.getfield 10, 3) := by decide +kernel
theorem dX6_mod_44 : decode cX6_mod 44 = .ok (.invokevirtual 59, 3) := by decide +kernel
theorem dX6_mod_47 : decode cX6_mod 47 = .ok (.ifCond .ne 13, 3) := by decide +kernel
theorem dX6_mod_50 : decode cX6_mod 50 = .ok (.new 63, 3) := by decide +kernel
theorem dX6_mod_53 : decode cX6_mod 53 = .ok (.dup, 1) := by decide +kernel
theorem dX6_mod_54 : decode cX6_mod 54 = .ok (.ldc 65, 2) := by decide +kernel
theorem dX6_mod_56 : decode cX6_mod 56 = .ok (.invokespecial 67, 3) := by decide +kernel
theorem dX6_mod_59 : decode cX6_mod 59 = .ok (.athrow, 1) := by decide +kernel
theorem dX6_mod_60 : decode cX6_mod 60 = .ok (.aload_n 0, 1) := by decide +kernel
theorem dX6_mod_61 : decode cX6_mod 61 = .ok (.getfield 10, 3) := by decide +kernel
theorem dX6_mod_64 : decode cX6_mod 64 = .ok (.iload_n 2, 1) := by decide +kernel
theorem dX6_mod_65 : decode cX6_mod 65 = .ok (.iload_n 1, 1) := by decide +kernel
theorem dX6_mod_66 : decode cX6_mod 66 = .ok (.invokevirtual 70, 3) := by decide +kernel
theorem dX6_mod_69 : decode cX6_mod 69 = .ok (.ireturn, 1) := by decide +kernel
theorem dX6_combine_0 : decode cX6_combine 0 = .ok (.iload_n 1, 1) := by decide +kernel
theorem dX6_combine_1 : decode cX6_combine 1 = .ok (.ifCond .eq 23, 3) := by decide +kernel
theorem dX6_combine_4 : decode cX6_combine 4 = .ok (.iload_n 1, 1) := by decide +kernel
theorem dX6_combine_5 : decode cX6_combine 5 = .ok (.iconst 1, 1) := by decide +kernel
theorem dX6_combine_6 : decode cX6_combine 6 = .ok (.if_icmp .eq 18, 3) := by decide +kernel
theorem dX6_combine_9 : decode cX6_combine 9 = .ok (.iload_n 1, 1) := by decide +kernel
theorem dX6_combine_10 : decode cX6_combine 10 = .ok (.iconst 2, 1) := by decide +kernel
theorem dX6_combine_11 : decode cX6_combine 11 = .ok (.if_icmp .eq 13, 3) := by decide +kernel
theorem dX6_combine_14 : decode cX6_combine 14 = .ok (.new 41, 3) := by decide +kernel
theorem dX6_combine_17 : decode cX6_combine 17 = .ok (.dup, 1) := by decide +kernel
theorem dX6_combine_18 : decode cX6_combine 18 = .ok (.ldc 77, 2) := by decide +kernel
end
section
theorem dX6_combine_20 : decode cX6_combine 20 = .ok (.invokespecial 45, 3) := by decide +kernel
theorem dX6_combine_23 : decode cX6_combine 23 = .ok (.athrow, 1) := by decide +kernel
theorem dX6_combine_24 : decode cX6_combine 24 = .ok (.aload_n 0, 1) := by decide +kernel
theorem dX6_combine_25 : decode cX6_combine 25 = .ok (.getfield 10, 3) := by decide +kernel
theorem dX6_combine_28 : decode cX6_combine 28 = .ok (.iload_n 2, 1) := by decide +kernel
theorem dX6_combine_29 : decode cX6_combine 29 = .ok (.invokevirtual 79, 3) := by decide +kernel
theorem dX6_combine_32 : decode cX6_combine 32 = .ok (.ifCond .eq 19, 3) := by decide +kernel
theorem dX6_combine_35 : decode cX6_combine 35 = .ok (.iload_n 1, 1) := by decide +kernel
theorem dX6_combine_36 : decode cX6_combine 36 = .ok (.iconst 2, 1) := by decide +kernel
theorem dX6_combine_37 : decode cX6_combine 37 = .ok (.if_icmp .eq 24, 3) := by decide +kernel
theorem dX6_combine_40 : decode cX6_combine 40 = .ok (.aload_n 0, 1) := by decide +kernel
theorem dX6_combine_41 : decode cX6_combine 41 = .ok (.getfield 10, 3) := by decide +kernel
theorem dX6_combine_44 : decode cX6_combine 44 = .ok (.iload_n 3, 1) := by decide +kernel
theorem dX6_combine_45 : decode cX6_combine 45 = .ok (.invokevirtual 79, 3) := by decide +kernel
theorem dX6_combine_48 : decode cX6_combine 48 = .ok (.ifCond .ne 13, 3) := by decide +kernel
theorem dX6_combine_51 : decode cX6_combine 51 = .ok (.new 41, 3) := by decide +kernel
theorem dX6_combine_54 : decode cX6_combine 54 = .ok (.dup, 1) := by decide +kernel
theorem dX6_combine_55 : decode cX6_combine 55 = .ok (.ldc 82, 2) := by decide +kernel
theorem dX6_combine_57 : decode cX6_combine 57 = .ok (.invokespecial 45, 3) := by decide +kernel
theorem dX6_combine_60 : decode cX6_combine 60 = .ok (.athrow, 1) := by decide +kernel
theorem dX6_combine_61 : decode cX6_combine 61 = .ok (.aload_n 0, 1) := by decide +kernel
theorem dX6_combine_62 : decode cX6_combine 62 = .ok (.getfield 10, 3) := by decide +kernel
theorem dX6_combine_65 : decode cX6_combine 65 = .ok (.invokevirtual 84, 3) := by decide +kernel
theorem dX6_combine_68 : decode cX6_combine 68 = .ok (.ifCond .ne 13, 3) := by decide +kernel
theorem dX6_combine_71 : decode cX6_combine 71 = .ok (.new 63, 3) := by decide +kernel
theorem dX6_combine_74 : decode cX6_combine 74 = .ok (.dup, 1) := by decide +kernel
theorem dX6_combine_75 : decode cX6_combine 75 = .ok (.ldc 87, 2) := by decide +kernel
theorem dX6_combine_77 : decode cX6_combine 77 = .ok (.invokespecial 67, 3) := by decide +kernel
theorem dX6_combine_80 : decode cX6_combine 80 = .ok (.athrow, 1) := by decide +kernel
theorem dX6_combine_81 : decode cX6_combine 81 = .ok (.aload_n 0, 1) := by decide +kernel
theorem dX6_combine_82 : decode cX6_combine 82 = .ok (.getfield 10, 3) := by decide +kernel
theorem dX6_combine_85 : decode cX6_combine 85 = .ok (.iload_n 1, 1) := by decide +kernel
theorem dX6_combine_86 : decode cX6_combine 86 = .ok (.iload_n 2, 1) := by decide +kernel
theorem dX6_combine_87 : decode cX6_combine 87 = .ok (.iload_n 3, 1) := by decide +kernel
theorem dX6_combine_88 : decode cX6_combine 88 = .ok (.invokevirtual 89, 3) := by decide +kernel
theorem dX6_combine_91 : decode cX6_combine 91 = .ok (.ireturn, 1) := by decide +kernel
theorem dX6_compile_0 : decode cX6_compile 0 = .ok (.aload_n 0, 1) := by decide +kernel
theorem dX6_compile_1 : decode cX6_compile 1 = .ok (.getfield 10, 3) := by decide +kernel
theorem dX6_compile_4 : decode cX6_compile 4 = .ok (.invokevirtual 93, 3) := by decide +kernel
theorem dX6_compile_7 : decode cX6_compile 7 = .ok (.ifCond .eq 13, 3) := by decide +kernel
theorem dX6_compile_10 : decode cX6_compile 10 = .ok (.new 63, 3) := by decide +kernel
theorem dX6_compile_13 : decode cX6_compile 13 = .ok (.dup, 1) := by decide +kernel
theorem dX6_compile_14 : decode cX6_compile 14 = .ok (.ldc 96, 2) := by decide +kernel
theorem dX6_compile_16 : decode cX6_compile 16 = .ok (.invokespecial 67, 3) := by decide +kernel
theorem dX6_compile_19 : decode cX6_compile 19 = .ok (.athrow, 1) := by decide +kernel
theorem dX6_compile_20 : decode cX6_compile 20 = .ok (.aload_n 0, 1) := by decide +kernel
theorem dX6_compile_21 : decode cX6_compile 21 = .ok (.getfield 10, 3) := by decide +kernel
theorem dX6_compile_24 : decode cX6_compile 24 = .ok (.invokevirtual 98, 3) := by decide +kernel
theorem dX6_compile_27 : decode cX6_compile 27 = .ok (.ifCond .eq 13, 3) := by decide +kernel
theorem dX6_compile_30 : decode cX6_compile 30 = .ok (.new 63, 3) := by decide +kernel
theorem dX6_compile_33 : decode cX6_compile 33 = .ok (.dup, 1) := by decide +kernel
theorem dX6_compile_34 : decode cX6_compile 34 = .ok (.ldc 101, 2) := by decide +kernel
theorem dX6_compile_36 : decode cX6_compile 36 = .ok (.invokespecial 67, 3) := by decide +kernel
theorem dX6_compile_39 : decode cX6_compile 39 = .ok (.athrow, 1) := by decide +kernel
theorem dX6_compile_40 : decode cX6_compile 40 = .ok (.aload_n 0, 1) := by decide +kernel
theorem dX6_compile_41 : decode cX6_compile 41 = .ok (.getfield 10, 3) := by decide +kernel
theorem dX6_compile_44 : decode cX6_compile 44 = .ok (.invokevirtual 103, 3) := by decide +kernel
theorem dX6_compile_47 : decode cX6_compile 47 = .ok (.ifCond .eq 13, 3) := by decide +kernel
theorem dX6_compile_50 : decode cX6_compile 50 = .ok (.new 63, 3) := by decide +kernel
theorem dX6_compile_53 : decode cX6_compile 53 = .ok (.dup, 1) := by decide +kernel
theorem dX6_compile_54 : decode cX6_compile 54 = .ok (.ldc 106, 2) := by decide +kernel
theorem dX6_compile_56 : decode cX6_compile 56 = .ok (.invokespecial 67, 3) := by decide +kernel
theorem dX6_compile_59 : decode cX6_compile 59 = .ok (.athrow, 1) := by decide +kernel
theorem dX6_compile_60 : decode cX6_compile 60 = .ok (.aload_n 0, 1) := by decide +kernel
theorem dX6_compile_61 : decode cX6_compile 61 = .ok (.getfield 10, 3) := by decide +kernel
theorem dX6_compile_64 : decode cX6_compile 64 = .ok (.invokevirtual 108, 3) := by decide +kernel
theorem dX6_compile_67 : decode cX6_compile 67 = .ok (.ireturn, 1) := by decide +kernel
theorem dX6_add_0 : decode cX6_add 0 = .ok (.iload_n 1, 1) := by decide +kernel
theorem dX6_add_1 : decode cX6_add 1 = .ok (.invokestatic 37, 3) := by decide +kernel
theorem dX6_add_4 : decode cX6_add 4 = .ok (.ifCond .ne 13, 3) := by decide +kernel
theorem dX6_add_7 : decode cX6_add 7 = .ok (.new 41, 3) := by decide +kernel
theorem dX6_add_10 : decode cX6_add 10 = .ok (.dup, 1) := by decide +kernel
theorem dX6_add_11 : decode cX6_add 11 = .ok (.ldc 43, 2) := by decide +kernel
theorem dX6_add_13 : decode cX6_add 13 = .ok (.invokespecial 45, 3) := by decide +kernel
theorem dX6_add_16 : decode cX6_add 16 = .ok (.athrow, 1) := by decide +kernel
theorem dX6_add_17 : decode cX6_add 17 = .ok (.iload_n 2, 1) := by decide +kernel
theorem dX6_add_18 : decode cX6_add 18 = .ok (.ifCond .ge 13, 3) := by decide +kernel
theorem dX6_add_21 : decode cX6_add 21 = .ok (.new 41, 3) := by decide +kernel
theorem dX6_add_24 : decode cX6_add 24 = .ok (.dup, 1) := by decide +kernel
theorem dX6_add_25 : decode cX6_add 25 = .ok (.ldc 112, 2) := by decide +kernel
theorem dX6_add_27 : decode cX6_add 27 = .ok (.invokespecial 45, 3) := by decide +kernel
theorem dX6_add_30 : decode cX6_add 30 = .ok (.athrow, 1) := by decide +kernel
theorem dX6_add_31 : decode cX6_add 31 = .ok (.aload_n 0, 1) := by decide +kernel
theorem dX6_add_32 : decode cX6_add 32 = .ok (.getfield 10, 3) := by decide +kernel
theorem dX6_add_35 : decode cX6_add 35 = .ok (.invokevirtual 93, 3) := by decide +kernel
theorem dX6_add_38 : decode cX6_add 38 = .ok (.ifCond .ne 13, 3) := by decide +kernel
theorem dX6_add_41 : decode cX6_add 41 = .ok (.new 63, 3) := by decide +kernel
theorem dX6_add_44 : decode cX6_add 44 = .ok (.dup, 1) := by decide +kernel
theorem dX6_add_45 : decode cX6_add 45 = .ok (.ldc 114, 2) := by decide +kernel
theorem dX6_add_47 : decode cX6_add 47 = .ok (.invokespecial 67, 3) := by decide +kernel
theorem dX6_add_50 : decode cX6_add 50 = .ok (.athrow, 1) := by decide +kernel
theorem dX6_add_51 : decode cX6_add 51 = .ok (.iload_n 2, 1) := by decide +kernel
theorem dX6_add_52 : decode cX6_add 52 = .ok (.sipush 200, 3) := by decide +kernel
theorem dX6_add_55 : decode cX6_add 55 = .ok (.aload_n 0, 1) := by decide +kernel
theorem dX6_add_56 : decode cX6_add 56 = .ok (.getfield 21, 3) := by decide +kernel
theorem dX6_add_59 : decode cX6_add 59 = .ok (.invokevirtual 116, 3) := by decide +kernel
theorem dX6_add_62 : decode cX6_add 62 = .ok (.isub, 1) := by decide +kernel
theorem dX6_add_63 : decode cX6_add 63 = .ok (.if_icmp .le 13, 3) := by decide +kernel
theorem dX6_add_66 : decode cX6_add 66 = .ok (.new 63, 3) := by decide +kernel
theorem dX6_add_69 : decode cX6_add 69 = .ok (.dup, 1) := by decide +kernel
theorem dX6_add_70 : decode cX6_add 70 = .ok (.ldc 119, 2) := by decide +kernel
theorem dX6_add_72 : decode cX6_add 72 = .ok (.invokespecial 67, 3) := by decide +kernel
theorem dX6_add_75 : decode cX6_add 75 = .ok (.athrow, 1) := by decide +kernel
theorem dX6_add_76 : decode cX6_add 76 = .ok (.iload_n 2, 1) := by decide +kernel
theorem dX6_add_77 : decode cX6_add 77 = .ok (.ifCond .le 17, 3) := by decide +kernel
theorem dX6_add_80 : decode cX6_add 80 = .ok (.aload_n 0, 1) := by decide +kernel
theorem dX6_add_81 : decode cX6_add 81 = .ok (.getfield 21, 3) := by decide +kernel
theorem dX6_add_84 : decode cX6_add 84 = .ok (.iload_n 1, 1) := by decide +kernel
theorem dX6_add_85 : decode cX6_add 85 = .ok (.iload_n 2, 1) := by decide +kernel
theorem dX6_add_86 : decode cX6_add 86 = .ok (.invokevirtual 121, 3) := by decide +kernel
theorem dX6_add_89 : decode cX6_add 89 = .ok (.aload_n 0, 1) := by decide +kernel
theorem dX6_add_90 : decode cX6_add 90 = .ok (.iconst 0, 1) := by decide +kernel
theorem dX6_add_91 : decode cX6_add 91 = .ok (.putfield 29, 3) := by decide +kernel
theorem dX6_add_94 : decode cX6_add 94 = .ok (.aload_n 0, 1) := by decide +kernel
theorem dX6_add_95 : decode cX6_add 95 = .ok (.getfield 21, 3) := by decide +kernel
theorem dX6_add_98 : decode cX6_add 98 = .ok (.invokevirtual 116, 3) := by decide +kernel
theorem dX6_add_101 : decode cX6_add 101 = .ok (.ireturn, 1) := by decide +kernel
theorem dX6_size_0 : decode cX6_size 0 = .ok (.aload_n 0, 1) := by decide +kernel
theorem dX6_size_1 : decode cX6_size 1 = .ok (.getfield 21, 3) := by decide +kernel
theorem dX6_size_4 : decode cX6_size 4 = .ok (.invokevirtual 116, 3) := by decide +kernel
theorem dX6_size_7 : decode cX6_size 7 = .ok (.ireturn, 1) := by decide +kernel
theorem dX6_meet_0 : decode cX6_meet 0 = .ok (.iload_n 1, 1) := by decide +kernel
theorem dX6_meet_1 : decode cX6_meet 1 = .ok (.iload_n 2, 1) := by decide +kernel
theorem dX6_meet_2 : decode cX6_meet 2 = .ok (.if_icmp .ne 13, 3) := by decide +kernel
theorem dX6_meet_5 : decode cX6_meet 5 = .ok (.new 41, 3) := by decide +kernel
theorem dX6_meet_8 : decode cX6_meet 8 = .ok (.dup, 1) := by decide +kernel
theorem dX6_meet_9 : decode cX6_meet 9 = .ok (.ldc 125, 2) := by decide +kernel
theorem dX6_meet_11 : decode cX6_meet 11 = .ok (.invokespecial 45, 3) := by decide +kernel
theorem dX6_meet_14 : decode cX6_meet 14 = .ok (.athrow, 1) := by decide +kernel
theorem dX6_meet_15 : decode cX6_meet 15 = .ok (.aload_n 0, 1) := by decide +kernel
theorem dX6_meet_16 : decode cX6_meet 16 = .ok (.getfield 21, 3) := by decide +kernel
theorem dX6_meet_19 : decode cX6_meet 19 = .ok (.iload_n 1, 1) := by decide +kernel
theorem dX6_meet_20 : decode cX6_meet 20 = .ok (.invokevirtual 127, 3) := by decide +kernel
theorem dX6_meet_23 : decode cX6_meet 23 = .ok (.ifCond .eq 14, 3) := by decide +kernel
theorem dX6_meet_26 : decode cX6_meet 26 = .ok (.aload_n 0, 1) := by decide +kernel
theorem dX6_meet_27 : decode cX6_meet 27 = .ok (.getfield 21, 3) := by decide +kernel
theorem dX6_meet_30 : decode cX6_meet 30 = .ok (.iload_n 2, 1) := by decide +kernel
theorem dX6_meet_31 : decode cX6_meet 31 = .ok (.invokevirtual 127, 3) := by decide +kernel
theorem dX6_meet_34 : decode cX6_meet 34 = .ok (.ifCond .ne 13, 3) := by decide +kernel
theorem dX6_meet_37 : decode cX6_meet 37 = .ok (.new 130, 3) := by decide +kernel
theorem dX6_meet_40 : decode cX6_meet 40 = .ok (.dup, 1) := by decide +kernel
theorem dX6_meet_41 : decode cX6_meet 41 = .ok (.ldc 132, 2) := by decide +kernel
theorem dX6_meet_43 : decode cX6_meet 43 = .ok (.invokespecial 134, 3) := by decide +kernel
theorem dX6_meet_46 : decode cX6_meet 46 = .ok (.athrow, 1) := by decide +kernel
theorem dX6_meet_47 : decode cX6_meet 47 = .ok (.aload_n 0, 1) := by decide +kernel
theorem dX6_meet_48 : decode cX6_meet 48 = .ok (.getfield 21, 3) := by decide +kernel
theorem dX6_meet_51 : decode cX6_meet 51 = .ok (.iload_n 1, 1) := by decide +kernel
theorem dX6_meet_52 : decode cX6_meet 52 = .ok (.iload_n 2, 1) := by decide +kernel
theorem dX6_meet_53 : decode cX6_meet 53 = .ok (.invokevirtual 135, 3) := by decide +kernel
theorem dX6_meet_56 : decode cX6_meet 56 = .ok (.istore_n 3, 1) := by decide +kernel
theorem dX6_meet_57 : decode cX6_meet 57 = .ok (.iload_n 3, 1) := by decide +kernel
theorem dX6_meet_58 : decode cX6_meet 58 = .ok (.ifCond .eq 8, 3) := by decide +kernel
theorem dX6_meet_61 : decode cX6_meet 61 = .ok (.aload_n 0, 1) := by decide +kernel
theorem dX6_meet_62 : decode cX6_meet 62 = .ok (.iconst 0, 1) := by decide +kernel
theorem dX6_meet_63 : decode cX6_meet 63 = .ok (.putfield 29, 3) := by decide +kernel
theorem dX6_meet_66 : decode cX6_meet 66 = .ok (.iload_n 3, 1) := by decide +kernel
theorem dX6_meet_67 : decode cX6_meet 67 = .ok (.ireturn, 1) := by decide +kernel
theorem dX6_sweep_0 : decode cX6_sweep 0 = .ok (.iload_n 1, 1) := by decide +kernel
theorem dX6_sweep_1 : decode cX6_sweep 1 = .ok (.iconst 1, 1) := by decide +kernel
theorem dX6_sweep_2 : decode cX6_sweep 2 = .ok (.if_icmp .lt 10, 3) := by decide +kernel
theorem dX6_sweep_5 : decode cX6_sweep 5 = .ok (.iload_n 1, 1) := by decide +kernel
theorem dX6_sweep_6 : decode cX6_sweep 6 = .ok (.sipush 500, 3) := by decide +kernel
theorem dX6_sweep_9 : decode cX6_sweep 9 = .ok (.if_icmp .le 13, 3) := by decide +kernel
theorem dX6_sweep_12 : decode cX6_sweep 12 = .ok (.new 41, 3) := by decide +kernel
theorem dX6_sweep_15 : decode cX6_sweep 15 = .ok (.dup, 1) := by decide +kernel
theorem dX6_sweep_16 : decode cX6_sweep 16 = .ok (.ldc 139, 2) := by decide +kernel
theorem dX6_sweep_18 : decode cX6_sweep 18 = .ok (.invokespecial 45, 3) := by decide +kernel
theorem dX6_sweep_21 : decode cX6_sweep 21 = .ok (.athrow, 1) := by decide +kernel
theorem dX6_sweep_22 : decode cX6_sweep 22 = .ok (.aload_n 0, 1) := by decide +kernel
theorem dX6_sweep_23 : decode cX6_sweep 23 = .ok (.getfield 21, 3) := by decide +kernel
theorem dX6_sweep_26 : decode cX6_sweep 26 = .ok (.iload_n 1, 1) := by decide +kernel
theorem dX6_sweep_27 : decode cX6_sweep 27 = .ok (.invokevirtual 141, 3) := by decide +kernel
theorem dX6_sweep_30 : decode cX6_sweep 30 = .ok (.istore_n 2, 1) := by decide +kernel
theorem dX6_sweep_31 : decode cX6_sweep 31 = .ok (.iload_n 2, 1) := by decide +kernel
theorem dX6_sweep_32 : decode cX6_sweep 32 = .ok (.ifCond .le 8, 3) := by decide +kernel
theorem dX6_sweep_35 : decode cX6_sweep 35 = .ok (.aload_n 0, 1) := by decide +kernel
theorem dX6_sweep_36 : decode cX6_sweep 36 = .ok (.iconst 0, 1) := by decide +kernel
theorem dX6_sweep_37 : decode cX6_sweep 37 = .ok (.putfield 29, 3) := by decide +kernel
theorem dX6_sweep_40 : decode cX6_sweep 40 = .ok (.iload_n 2, 1) := by decide +kernel
theorem dX6_sweep_41 : decode cX6_sweep 41 = .ok (.ireturn, 1) := by decide +kernel
theorem dX6_output_0 : decode cX6_output 0 = .ok (.aload_n 0, 1) := by decide +kernel
theorem dX6_output_1 : decode cX6_output 1 = .ok (.getfield 21, 3) := by decide +kernel
theorem dX6_output_4 : decode cX6_output 4 = .ok (.iload_n 1, 1) := by decide +kernel
theorem dX6_output_5 : decode cX6_output 5 = .ok (.invokevirtual 127, 3) := by decide +kernel
theorem dX6_output_8 : decode cX6_output 8 = .ok (.ifCond .ne 13, 3) := by decide +kernel
theorem dX6_output_11 : decode cX6_output 11 = .ok (.new 130, 3) := by decide +kernel
theorem dX6_output_14 : decode cX6_output 14 = .ok (.dup, 1) := by decide +kernel
theorem dX6_output_15 : decode cX6_output 15 = .ok (.ldc 132, 2) := by decide +kernel
theorem dX6_output_17 : decode cX6_output 17 = .ok (.invokespecial 134, 3) := by decide +kernel
theorem dX6_output_20 : decode cX6_output 20 = .ok (.athrow, 1) := by decide +kernel
theorem dX6_output_21 : decode cX6_output 21 = .ok (.aload_n 0, 1) := by decide +kernel
theorem dX6_output_22 : decode cX6_output 22 = .ok (.getfield 10, 3) := by decide +kernel
theorem dX6_output_25 : decode cX6_output 25 = .ok (.aload_n 0, 1) := by decide +kernel
theorem dX6_output_26 : decode cX6_output 26 = .ok (.getfield 21, 3) := by decide +kernel
theorem dX6_output_29 : decode cX6_output 29 = .ok (.iload_n 1, 1) := by decide +kernel
theorem dX6_output_30 : decode cX6_output 30 = .ok (.invokevirtual 145, 3) := by decide +kernel
theorem dX6_output_33 : decode cX6_output 33 = .ok (.invokevirtual 149, 3) := by decide +kernel
theorem dX6_output_36 : decode cX6_output 36 = .ok (.ireturn, 1) := by decide +kernel
theorem dX6_state_0 : decode cX6_state 0 = .ok (.aload_n 0, 1) := by decide +kernel
theorem dX6_state_1 : decode cX6_state 1 = .ok (.getfield 21, 3) := by decide +kernel
theorem dX6_state_4 : decode cX6_state 4 = .ok (.iload_n 1, 1) := by decide +kernel
theorem dX6_state_5 : decode cX6_state 5 = .ok (.invokevirtual 127, 3) := by decide +kernel
theorem dX6_state_8 : decode cX6_state 8 = .ok (.ifCond .eq 22, 3) := by decide +kernel
theorem dX6_state_11 : decode cX6_state 11 = .ok (.aload_n 0, 1) := by decide +kernel
theorem dX6_state_12 : decode cX6_state 12 = .ok (.getfield 10, 3) := by decide +kernel
theorem dX6_state_15 : decode cX6_state 15 = .ok (.iload_n 2, 1) := by decide +kernel
theorem dX6_state_16 : decode cX6_state 16 = .ok (.invokevirtual 153, 3) := by decide +kernel
theorem dX6_state_19 : decode cX6_state 19 = .ok (.ifCond .eq 11, 3) := by decide +kernel
theorem dX6_state_22 : decode cX6_state 22 = .ok (.iload_n 3, 1) := by decide +kernel
theorem dX6_state_23 : decode cX6_state 23 = .ok (.iconst 3, 1) := by decide +kernel
theorem dX6_state_24 : decode cX6_state 24 = .ok (.invokestatic 156, 3) := by decide +kernel
theorem dX6_state_27 : decode cX6_state 27 = .ok (.ifCond .ne 13, 3) := by decide +kernel
theorem dX6_state_30 : decode cX6_state 30 = .ok (.new 130, 3) := by decide +kernel
theorem dX6_state_33 : decode cX6_state 33 = .ok (.dup, 1) := by decide +kernel
theorem dX6_state_34 : decode cX6_state 34 = .ok (.ldc 159, 2) := by decide +kernel
theorem dX6_state_36 : decode cX6_state 36 = .ok (.invokespecial 134, 3) := by decide +kernel
theorem dX6_state_39 : decode cX6_state 39 = .ok (.athrow, 1) := by decide +kernel
theorem dX6_state_40 : decode cX6_state 40 = .ok (.aload_n 0, 1) := by decide +kernel
theorem dX6_state_41 : decode cX6_state 41 = .ok (.getfield 21, 3) := by decide +kernel
theorem dX6_state_44 : decode cX6_state 44 = .ok (.iload_n 1, 1) := by decide +kernel
theorem dX6_state_45 : decode cX6_state 45 = .ok (.invokevirtual 145, 3) := by decide +kernel
theorem dX6_state_48 : decode cX6_state 48 = .ok (.iload_n 2, 1) := by decide +kernel
theorem dX6_state_49 : decode cX6_state 49 = .ok (.invokestatic 161, 3) := by decide +kernel
theorem dX6_state_52 : decode cX6_state 52 = .ok (.iload_n 3, 1) := by decide +kernel
theorem dX6_state_53 : decode cX6_state 53 = .ok (.invokestatic 167, 3) := by decide +kernel
theorem dX6_state_56 : decode cX6_state 56 = .ok (.ireturn, 1) := by decide +kernel
theorem dX6_truth_0 : decode cX6_truth 0 = .ok (.aload_n 0, 1) := by decide +kernel
theorem dX6_truth_1 : decode cX6_truth 1 = .ok (.getfield 10, 3) := by decide +kernel
theorem dX6_truth_4 : decode cX6_truth 4 = .ok (.invokevirtual 93, 3) := by decide +kernel
theorem dX6_truth_7 : decode cX6_truth 7 = .ok (.ifCond .ne 13, 3) := by decide +kernel
theorem dX6_truth_10 : decode cX6_truth 10 = .ok (.new 63, 3) := by decide +kernel
theorem dX6_truth_13 : decode cX6_truth 13 = .ok (.dup, 1) := by decide +kernel
theorem dX6_truth_14 : decode cX6_truth 14 = .ok (.ldc 114, 2) := by decide +kernel
theorem dX6_truth_16 : decode cX6_truth 16 = .ok (.invokespecial 67, 3) := by decide +kernel
theorem dX6_truth_19 : decode cX6_truth 19 = .ok (.athrow, 1) := by decide +kernel
theorem dX6_truth_20 : decode cX6_truth 20 = .ok (.aload_n 0, 1) := by decide +kernel
theorem dX6_truth_21 : decode cX6_truth 21 = .ok (.getfield 10, 3) := by decide +kernel
theorem dX6_truth_24 : decode cX6_truth 24 = .ok (.aload_n 0, 1) := by decide +kernel
theorem dX6_truth_25 : decode cX6_truth 25 = .ok (.getfield 21, 3) := by decide +kernel
theorem dX6_truth_28 : decode cX6_truth 28 = .ok (.invokevirtual 170, 3) := by decide +kernel
theorem dX6_truth_31 : decode cX6_truth 31 = .ok (.invokevirtual 174, 3) := by decide +kernel
theorem dX6_truth_34 : decode cX6_truth 34 = .ok (.ireturn, 1) := by decide +kernel
theorem dX6_silent_0 : decode cX6_silent 0 = .ok (.aload_n 0, 1) := by decide +kernel
theorem dX6_silent_1 : decode cX6_silent 1 = .ok (.getfield 21, 3) := by decide +kernel
theorem dX6_silent_4 : decode cX6_silent 4 = .ok (.invokevirtual 178, 3) := by decide +kernel
theorem dX6_silent_7 : decode cX6_silent 7 = .ok (.ireturn, 1) := by decide +kernel
theorem dX6_agree_0 : decode cX6_agree 0 = .ok (.aload_n 0, 1) := by decide +kernel
theorem dX6_agree_1 : decode cX6_agree 1 = .ok (.getfield 21, 3) := by decide +kernel
theorem dX6_agree_4 : decode cX6_agree 4 = .ok (.invokevirtual 181, 3) := by decide +kernel
theorem dX6_agree_7 : decode cX6_agree 7 = .ok (.ireturn, 1) := by decide +kernel
theorem dX6_explore_0 : decode cX6_explore 0 = .ok (.iload_n 1, 1) := by decide +kernel
theorem dX6_explore_1 : decode cX6_explore 1 = .ok (.iconst 1, 1) := by decide +kernel
theorem dX6_explore_2 : decode cX6_explore 2 = .ok (.if_icmp .lt 10, 3) := by decide +kernel
theorem dX6_explore_5 : decode cX6_explore 5 = .ok (.iload_n 1, 1) := by decide +kernel
theorem dX6_explore_6 : decode cX6_explore 6 = .ok (.sipush 3000, 3) := by decide +kernel
theorem dX6_explore_9 : decode cX6_explore 9 = .ok (.if_icmp .le 13, 3) := by decide +kernel
theorem dX6_explore_12 : decode cX6_explore 12 = .ok (.new 41, 3) := by decide +kernel
theorem dX6_explore_15 : decode cX6_explore 15 = .ok (.dup, 1) := by decide +kernel
theorem dX6_explore_16 : decode cX6_explore 16 = .ok (.ldc 184, 2) := by decide +kernel
theorem dX6_explore_18 : decode cX6_explore 18 = .ok (.invokespecial 45, 3) := by decide +kernel
theorem dX6_explore_21 : decode cX6_explore 21 = .ok (.athrow, 1) := by decide +kernel
theorem dX6_explore_22 : decode cX6_explore 22 = .ok (.aload_n 0, 1) := by decide +kernel
theorem dX6_explore_23 : decode cX6_explore 23 = .ok (.getfield 21, 3) := by decide +kernel
theorem dX6_explore_26 : decode cX6_explore 26 = .ok (.invokevirtual 116, 3) := by decide +kernel
theorem dX6_explore_29 : decode cX6_explore 29 = .ok (.iconst 1, 1) := by decide +kernel
theorem dX6_explore_30 : decode cX6_explore 30 = .ok (.if_icmp .lt 15, 3) := by decide +kernel
theorem dX6_explore_33 : decode cX6_explore 33 = .ok (.aload_n 0, 1) := by decide +kernel
theorem dX6_explore_34 : decode cX6_explore 34 = .ok (.getfield 21, 3) := by decide +kernel
theorem dX6_explore_37 : decode cX6_explore 37 = .ok (.invokevirtual 116, 3) := by decide +kernel
theorem dX6_explore_40 : decode cX6_explore 40 = .ok (.bipush 6, 2) := by decide +kernel
theorem dX6_explore_42 : decode cX6_explore 42 = .ok (.if_icmp .le 13, 3) := by decide +kernel
theorem dX6_explore_45 : decode cX6_explore 45 = .ok (.new 63, 3) := by decide +kernel
theorem dX6_explore_48 : decode cX6_explore 48 = .ok (.dup, 1) := by decide +kernel
theorem dX6_explore_49 : decode cX6_explore 49 = .ok (.ldc 186, 2) := by decide +kernel
theorem dX6_explore_51 : decode cX6_explore 51 = .ok (.invokespecial 67, 3) := by decide +kernel
theorem dX6_explore_54 : decode cX6_explore 54 = .ok (.athrow, 1) := by decide +kernel
theorem dX6_explore_55 : decode cX6_explore 55 = .ok (.aload_n 0, 1) := by decide +kernel
theorem dX6_explore_56 : decode cX6_explore 56 = .ok (.getfield 25, 3) := by decide +kernel
theorem dX6_explore_59 : decode cX6_explore 59 = .ok (.ifnonnull 18, 3) := by decide +kernel
theorem dX6_explore_62 : decode cX6_explore 62 = .ok (.aload_n 0, 1) := by decide +kernel
theorem dX6_explore_63 : decode cX6_explore 63 = .ok (.new 188, 3) := by decide +kernel
theorem dX6_explore_66 : decode cX6_explore 66 = .ok (.dup, 1) := by decide +kernel
theorem dX6_explore_67 : decode cX6_explore 67 = .ok (.aload_n 0, 1) := by decide +kernel
theorem dX6_explore_68 : decode cX6_explore 68 = .ok (.getfield 10, 3) := by decide +kernel
theorem dX6_explore_71 : decode cX6_explore 71 = .ok (.invokespecial 190, 3) := by decide +kernel
theorem dX6_explore_74 : decode cX6_explore 74 = .ok (.putfield 25, 3) := by decide +kernel
theorem dX6_explore_77 : decode cX6_explore 77 = .ok (.aload_n 0, 1) := by decide +kernel
theorem dX6_explore_78 : decode cX6_explore 78 = .ok (.getfield 25, 3) := by decide +kernel
theorem dX6_explore_81 : decode cX6_explore 81 = .ok (.aload_n 0, 1) := by decide +kernel
theorem dX6_explore_82 : decode cX6_explore 82 = .ok (.getfield 21, 3) := by decide +kernel
theorem dX6_explore_85 : decode cX6_explore 85 = .ok (.iload_n 1, 1) := by decide +kernel
theorem dX6_explore_86 : decode cX6_explore 86 = .ok (.invokevirtual 191, 3) := by decide +kernel
theorem dX6_explore_89 : decode cX6_explore 89 = .ok (.istore_n 2, 1) := by decide +kernel
theorem dX6_explore_90 : decode cX6_explore 90 = .ok (.aload_n 0, 1) := by decide +kernel
theorem dX6_explore_91 : decode cX6_explore 91 = .ok (.iload_n 2, 1) := by decide +kernel
theorem dX6_explore_92 : decode cX6_explore 92 = .ok (.iconst (-1), 1) := by decide +kernel
theorem dX6_explore_93 : decode cX6_explore 93 = .ok (.if_icmp .eq 7, 3) := by decide +kernel
theorem dX6_explore_96 : decode cX6_explore 96 = .ok (.iconst 1, 1) := by decide +kernel
theorem dX6_explore_97 : decode cX6_explore 97 = .ok (.goto 4, 3) := by decide +kernel
theorem dX6_explore_100 : decode cX6_explore 100 = .ok (.iconst 0, 1) := by decide +kernel
theorem dX6_explore_101 : decode cX6_explore 101 = .ok (.putfield 29, 3) := by decide +kernel
theorem dX6_explore_104 : decode cX6_explore 104 = .ok (.iload_n 2, 1) := by decide +kernel
theorem dX6_explore_105 : decode cX6_explore 105 = .ok (.ireturn, 1) := by decide +kernel
theorem dX6_recovers_0 : decode cX6_recovers 0 = .ok (.aload_n 0, 1) := by decide +kernel
theorem dX6_recovers_1 : decode cX6_recovers 1 = .ok (.getfield 29, 3) := by decide +kernel
theorem dX6_recovers_4 : decode cX6_recovers 4 = .ok (.ifCond .eq 10, 3) := by decide +kernel
theorem dX6_recovers_7 : decode cX6_recovers 7 = .ok (.aload_n 0, 1) := by decide +kernel
theorem dX6_recovers_8 : decode cX6_recovers 8 = .ok (.getfield 25, 3) := by decide +kernel
theorem dX6_recovers_11 : decode cX6_recovers 11 = .ok (.ifnonnull 13, 3) := by decide +kernel
theorem dX6_recovers_14 : decode cX6_recovers 14 = .ok (.new 63, 3) := by decide +kernel
theorem dX6_recovers_17 : decode cX6_recovers 17 = .ok (.dup, 1) := by decide +kernel
theorem dX6_recovers_18 : decode cX6_recovers 18 = .ok (.ldc 195, 2) := by decide +kernel
theorem dX6_recovers_20 : decode cX6_recovers 20 = .ok (.invokespecial 67, 3) := by decide +kernel
theorem dX6_recovers_23 : decode cX6_recovers 23 = .ok (.athrow, 1) := by decide +kernel
theorem dX6_recovers_24 : decode cX6_recovers 24 = .ok (.aload_n 0, 1) := by decide +kernel
theorem dX6_recovers_25 : decode cX6_recovers 25 = .ok (.getfield 25, 3) := by decide +kernel
theorem dX6_recovers_28 : decode cX6_recovers 28 = .ok (.aload_n 0, 1) := by decide +kernel
theorem dX6_recovers_29 : decode cX6_recovers 29 = .ok (.getfield 10, 3) := by decide +kernel
theorem dX6_recovers_32 : decode cX6_recovers 32 = .ok (.aload_n 0, 1) := by decide +kernel
theorem dX6_recovers_33 : decode cX6_recovers 33 = .ok (.getfield 21, 3) := by decide +kernel
theorem dX6_recovers_36 : decode cX6_recovers 36 = .ok (.invokevirtual 170, 3) := by decide +kernel
theorem dX6_recovers_39 : decode cX6_recovers 39 = .ok (.invokevirtual 174, 3) := by decide +kernel
theorem dX6_recovers_42 : decode cX6_recovers 42 = .ok (.invokevirtual 197, 3) := by decide +kernel
theorem dX6_recovers_45 : decode cX6_recovers 45 = .ok (.ireturn, 1) := by decide +kernel
theorem dX6_table_0 : decode cX6_table 0 = .ok (.aload_n 0, 1) := by decide +kernel
theorem dX6_table_1 : decode cX6_table 1 = .ok (.iload_n 1, 1) := by decide +kernel
theorem dX6_table_2 : decode cX6_table 2 = .ok (.iload_n 2, 1) := by decide +kernel
theorem dX6_table_3 : decode cX6_table 3 = .ok (.iconst 2, 1) := by decide +kernel
theorem dX6_table_4 : decode cX6_table 4 = .ok (.invokevirtual 201, 3) := by decide +kernel
theorem dX6_table_7 : decode cX6_table 7 = .ok (.aload_n 0, 1) := by decide +kernel
theorem dX6_table_8 : decode cX6_table 8 = .ok (.getfield 10, 3) := by decide +kernel
theorem dX6_table_11 : decode cX6_table 11 = .ok (.iload_n 1, 1) := by decide +kernel
theorem dX6_table_12 : decode cX6_table 12 = .ok (.invokevirtual 205, 3) := by decide +kernel
theorem dX6_table_15 : decode cX6_table 15 = .ok (.astore_n 3, 1) := by decide +kernel
theorem dX6_table_16 : decode cX6_table 16 = .ok (.iload_n 2, 1) := by decide +kernel
theorem dX6_table_17 : decode cX6_table 17 = .ok (.ifCond .ne 10, 3) := by decide +kernel
theorem dX6_table_20 : decode cX6_table 20 = .ok (.aload_n 3, 1) := by decide +kernel
theorem dX6_table_21 : decode cX6_table 21 = .ok (.invokevirtual 209, 3) := by decide +kernel
theorem dX6_table_24 : decode cX6_table 24 = .ok (.goto 7, 3) := by decide +kernel
theorem dX6_table_27 : decode cX6_table 27 = .ok (.aload_n 3, 1) := by decide +kernel
theorem dX6_table_28 : decode cX6_table 28 = .ok (.invokevirtual 212, 3) := by decide +kernel
theorem dX6_table_31 : decode cX6_table 31 = .ok (.ireturn, 1) := by decide +kernel
theorem dX6_rule_0 : decode cX6_rule 0 = .ok (.aload_n 0, 1) := by decide +kernel
theorem dX6_rule_1 : decode cX6_rule 1 = .ok (.iload_n 1, 1) := by decide +kernel
theorem dX6_rule_2 : decode cX6_rule 2 = .ok (.iload_n 3, 1) := by decide +kernel
theorem dX6_rule_3 : decode cX6_rule 3 = .ok (.iconst 4, 1) := by decide +kernel
theorem dX6_rule_4 : decode cX6_rule 4 = .ok (.invokevirtual 201, 3) := by decide +kernel
theorem dX6_rule_7 : decode cX6_rule 7 = .ok (.aload_n 0, 1) := by decide +kernel
theorem dX6_rule_8 : decode cX6_rule 8 = .ok (.getfield 10, 3) := by decide +kernel
theorem dX6_rule_11 : decode cX6_rule 11 = .ok (.iload_n 1, 1) := by decide +kernel
theorem dX6_rule_12 : decode cX6_rule 12 = .ok (.invokevirtual 205, 3) := by decide +kernel
theorem dX6_rule_15 : decode cX6_rule 15 = .ok (.astore 4, 2) := by decide +kernel
theorem dX6_rule_17 : decode cX6_rule 17 = .ok (.iload_n 2, 1) := by decide +kernel
theorem dX6_rule_18 : decode cX6_rule 18 = .ok (.ifCond .lt 12, 3) := by decide +kernel
theorem dX6_rule_21 : decode cX6_rule 21 = .ok (.iload_n 2, 1) := by decide +kernel
theorem dX6_rule_22 : decode cX6_rule 22 = .ok (.aload 4, 2) := by decide +kernel
theorem dX6_rule_24 : decode cX6_rule 24 = .ok (.invokevirtual 212, 3) := by decide +kernel
theorem dX6_rule_27 : decode cX6_rule 27 = .ok (.if_icmp .lt 13, 3) := by decide +kernel
theorem dX6_rule_30 : decode cX6_rule 30 = .ok (.new 130, 3) := by decide +kernel
theorem dX6_rule_33 : decode cX6_rule 33 = .ok (.dup, 1) := by decide +kernel
theorem dX6_rule_34 : decode cX6_rule 34 = .ok (.ldc 215, 2) := by decide +kernel
theorem dX6_rule_36 : decode cX6_rule 36 = .ok (.invokespecial 134, 3) := by decide +kernel
theorem dX6_rule_39 : decode cX6_rule 39 = .ok (.athrow, 1) := by decide +kernel
theorem dX6_rule_40 : decode cX6_rule 40 = .ok (.aload 4, 2) := by decide +kernel
theorem dX6_rule_42 : decode cX6_rule 42 = .ok (.iload_n 2, 1) := by decide +kernel
theorem dX6_rule_43 : decode cX6_rule 43 = .ok (.iload_n 3, 1) := by decide +kernel
theorem dX6_rule_44 : decode cX6_rule 44 = .ok (.invokevirtual 217, 3) := by decide +kernel
theorem dX6_rule_47 : decode cX6_rule 47 = .ok (.ireturn, 1) := by decide +kernel
theorem dX6_kind_0 : decode cX6_kind 0 = .ok (.aload_n 0, 1) := by decide +kernel
theorem dX6_kind_1 : decode cX6_kind 1 = .ok (.iload_n 1, 1) := by decide +kernel
theorem dX6_kind_2 : decode cX6_kind 2 = .ok (.iload_n 3, 1) := by decide +kernel
theorem dX6_kind_3 : decode cX6_kind 3 = .ok (.iconst 3, 1) := by decide +kernel
theorem dX6_kind_4 : decode cX6_kind 4 = .ok (.invokevirtual 201, 3) := by decide +kernel
theorem dX6_kind_7 : decode cX6_kind 7 = .ok (.aload_n 0, 1) := by decide +kernel
theorem dX6_kind_8 : decode cX6_kind 8 = .ok (.getfield 10, 3) := by decide +kernel
theorem dX6_kind_11 : decode cX6_kind 11 = .ok (.iload_n 1, 1) := by decide +kernel
theorem dX6_kind_12 : decode cX6_kind 12 = .ok (.invokevirtual 205, 3) := by decide +kernel
theorem dX6_kind_15 : decode cX6_kind 15 = .ok (.astore 4, 2) := by decide +kernel
theorem dX6_kind_17 : decode cX6_kind 17 = .ok (.iload_n 2, 1) := by decide +kernel
theorem dX6_kind_18 : decode cX6_kind 18 = .ok (.ifCond .lt 12, 3) := by decide +kernel
theorem dX6_kind_21 : decode cX6_kind 21 = .ok (.iload_n 2, 1) := by decide +kernel
theorem dX6_kind_22 : decode cX6_kind 22 = .ok (.aload 4, 2) := by decide +kernel
theorem dX6_kind_24 : decode cX6_kind 24 = .ok (.invokevirtual 209, 3) := by decide +kernel
theorem dX6_kind_27 : decode cX6_kind 27 = .ok (.if_icmp .lt 13, 3) := by decide +kernel
theorem dX6_kind_30 : decode cX6_kind 30 = .ok (.new 130, 3) := by decide +kernel
theorem dX6_kind_33 : decode cX6_kind 33 = .ok (.dup, 1) := by decide +kernel
theorem dX6_kind_34 : decode cX6_kind 34 = .ok (.ldc 220, 2) := by decide +kernel
theorem dX6_kind_36 : decode cX6_kind 36 = .ok (.invokespecial 134, 3) := by decide +kernel
theorem dX6_kind_39 : decode cX6_kind 39 = .ok (.athrow, 1) := by decide +kernel
theorem dX6_kind_40 : decode cX6_kind 40 = .ok (.aload 4, 2) := by decide +kernel
theorem dX6_kind_42 : decode cX6_kind 42 = .ok (.iload_n 2, 1) := by decide +kernel
theorem dX6_kind_43 : decode cX6_kind 43 = .ok (.invokevirtual 222, 3) := by decide +kernel
theorem dX6_kind_46 : decode cX6_kind 46 = .ok (.iload_n 3, 1) := by decide +kernel
theorem dX6_kind_47 : decode cX6_kind 47 = .ok (.invokestatic 167, 3) := by decide +kernel
theorem dX6_kind_50 : decode cX6_kind 50 = .ok (.ireturn, 1) := by decide +kernel
theorem dX6_checkTable_0 : decode cX6_checkTable 0 = .ok (.aload_n 0, 1) := by decide +kernel
theorem dX6_checkTable_1 : decode cX6_checkTable 1 = .ok (.getfield 10, 3) := by decide +kernel
theorem dX6_checkTable_4 : decode cX6_checkTable 4 = .ok (.iload_n 1, 1) := by decide +kernel
theorem dX6_checkTable_5 : decode cX6_checkTable 5 = .ok (.invokevirtual 153, 3) := by decide +kernel
theorem dX6_checkTable_8 : decode cX6_checkTable 8 = .ok (.ifCond .eq 11, 3) := by decide +kernel
theorem dX6_checkTable_11 : decode cX6_checkTable 11 = .ok (.iload_n 2, 1) := by decide +kernel
theorem dX6_checkTable_12 : decode cX6_checkTable 12 = .ok (.iload_n 3, 1) := by decide +kernel
theorem dX6_checkTable_13 : decode cX6_checkTable 13 = .ok (.invokestatic 156, 3) := by decide +kernel
theorem dX6_checkTable_16 : decode cX6_checkTable 16 = .ok (.ifCond .ne 13, 3) := by decide +kernel
theorem dX6_checkTable_19 : decode cX6_checkTable 19 = .ok (.new 130, 3) := by decide +kernel
theorem dX6_checkTable_22 : decode cX6_checkTable 22 = .ok (.dup, 1) := by decide +kernel
theorem dX6_checkTable_23 : decode cX6_checkTable 23 = .ok (.ldc 225, 2) := by decide +kernel
theorem dX6_checkTable_25 : decode cX6_checkTable 25 = .ok (.invokespecial 134, 3) := by decide +kernel
theorem dX6_checkTable_28 : decode cX6_checkTable 28 = .ok (.athrow, 1) := by decide +kernel
theorem dX6_checkTable_29 : decode cX6_checkTable 29 = .ok (.aload_n 0, 1) := by decide +kernel
theorem dX6_checkTable_30 : decode cX6_checkTable 30 = .ok (.getfield 10, 3) := by decide +kernel
theorem dX6_checkTable_33 : decode cX6_checkTable 33 = .ok (.invokevirtual 93, 3) := by decide +kernel
theorem dX6_checkTable_36 : decode cX6_checkTable 36 = .ok (.ifCond .ne 13, 3) := by decide +kernel
theorem dX6_checkTable_39 : decode cX6_checkTable 39 = .ok (.new 63, 3) := by decide +kernel
theorem dX6_checkTable_42 : decode cX6_checkTable 42 = .ok (.dup, 1) := by decide +kernel
theorem dX6_checkTable_43 : decode cX6_checkTable 43 = .ok (.ldc 114, 2) := by decide +kernel
theorem dX6_checkTable_45 : decode cX6_checkTable 45 = .ok (.invokespecial 67, 3) := by decide +kernel
theorem dX6_checkTable_48 : decode cX6_checkTable 48 = .ok (.athrow, 1) := by decide +kernel
theorem dX6_checkTable_49 : decode cX6_checkTable 49 = .ok (.return_, 1) := by decide +kernel
theorem dX6_isLetter_0 : decode cX6_isLetter 0 = .ok (.iload_n 0, 1) := by decide +kernel
theorem dX6_isLetter_1 : decode cX6_isLetter 1 = .ok (.ifCond .lt 13, 3) := by decide +kernel
theorem dX6_isLetter_4 : decode cX6_isLetter 4 = .ok (.iload_n 0, 1) := by decide +kernel
theorem dX6_isLetter_5 : decode cX6_isLetter 5 = .ok (.bipush 8, 2) := by decide +kernel
theorem dX6_isLetter_7 : decode cX6_isLetter 7 = .ok (.if_icmp .ge 7, 3) := by decide +kernel
theorem dX6_isLetter_10 : decode cX6_isLetter 10 = .ok (.iconst 1, 1) := by decide +kernel
theorem dX6_isLetter_11 : decode cX6_isLetter 11 = .ok (.goto 4, 3) := by decide +kernel
theorem dX6_isLetter_14 : decode cX6_isLetter 14 = .ok (.iconst 0, 1) := by decide +kernel
theorem dX6_isLetter_15 : decode cX6_isLetter 15 = .ok (.ireturn, 1) := by decide +kernel
theorem dX6_isCoefficient_0 : decode cX6_isCoefficient 0 = .ok (.iload_n 0, 1) := by decide +kernel
theorem dX6_isCoefficient_1 : decode cX6_isCoefficient 1 = .ok (.bipush (-20), 2) := by decide +kernel
theorem dX6_isCoefficient_3 : decode cX6_isCoefficient 3 = .ok (.if_icmp .lt 13, 3) := by decide +kernel
theorem dX6_isCoefficient_6 : decode cX6_isCoefficient 6 = .ok (.iload_n 0, 1) := by decide +kernel
theorem dX6_isCoefficient_7 : decode cX6_isCoefficient 7 = .ok (.bipush 20, 2) := by decide +kernel
theorem dX6_isCoefficient_9 : decode cX6_isCoefficient 9 = .ok (.if_icmp .gt 7, 3) := by decide +kernel
theorem dX6_isCoefficient_12 : decode cX6_isCoefficient 12 = .ok (.iconst 1, 1) := by decide +kernel
theorem dX6_isCoefficient_13 : decode cX6_isCoefficient 13 = .ok (.goto 4, 3) := by decide +kernel
theorem dX6_isCoefficient_16 : decode cX6_isCoefficient 16 = .ok (.iconst 0, 1) := by decide +kernel
theorem dX6_isCoefficient_17 : decode cX6_isCoefficient 17 = .ok (.ireturn, 1) := by decide +kernel
theorem dX6_isFact_0 : decode cX6_isFact 0 = .ok (.iload_n 0, 1) := by decide +kernel
theorem dX6_isFact_1 : decode cX6_isFact 1 = .ok (.ifCond .lt 12, 3) := by decide +kernel
theorem dX6_isFact_4 : decode cX6_isFact 4 = .ok (.iload_n 0, 1) := by decide +kernel
theorem dX6_isFact_5 : decode cX6_isFact 5 = .ok (.iload_n 1, 1) := by decide +kernel
theorem dX6_isFact_6 : decode cX6_isFact 6 = .ok (.if_icmp .ge 7, 3) := by decide +kernel
theorem dX6_isFact_9 : decode cX6_isFact 9 = .ok (.iconst 1, 1) := by decide +kernel
theorem dX6_isFact_10 : decode cX6_isFact 10 = .ok (.goto 4, 3) := by decide +kernel
theorem dX6_isFact_13 : decode cX6_isFact 13 = .ok (.iconst 0, 1) := by decide +kernel
theorem dX6_isFact_14 : decode cX6_isFact 14 = .ok (.ireturn, 1) := by decide +kernel
theorem dX7_init_0 : decode cX7_init 0 = .ok (.aload_n 0, 1) := by decide +kernel
theorem dX7_init_1 : decode cX7_init 1 = .ok (.invokespecial 1, 3) := by decide +kernel
theorem dX7_init_4 : decode cX7_init 4 = .ok (.aload_n 0, 1) := by decide +kernel
theorem dX7_init_5 : decode cX7_init 5 = .ok (.iconst 0, 1) := by decide +kernel
theorem dX7_init_6 : decode cX7_init 6 = .ok (.putfield 7, 3) := by decide +kernel
theorem dX7_init_9 : decode cX7_init 9 = .ok (.aload_n 0, 1) := by decide +kernel
theorem dX7_init_10 : decode cX7_init 10 = .ok (.bipush 8, 2) := by decide +kernel
theorem dX7_init_12 : decode cX7_init 12 = .ok (.newarray .int, 2) := by decide +kernel
theorem dX7_init_14 : decode cX7_init 14 = .ok (.putfield 13, 3) := by decide +kernel
theorem dX7_init_17 : decode cX7_init 17 = .ok (.aload_n 0, 1) := by decide +kernel
theorem dX7_init_18 : decode cX7_init 18 = .ok (.iconst 0, 1) := by decide +kernel
theorem dX7_init_19 : decode cX7_init 19 = .ok (.putfield 17, 3) := by decide +kernel
theorem dX7_init_22 : decode cX7_init 22 = .ok (.aload_n 0, 1) := by decide +kernel
theorem dX7_init_23 : decode cX7_init 23 = .ok (.bipush 20, 2) := by decide +kernel
theorem dX7_init_25 : decode cX7_init 25 = .ok (.newarray .int, 2) := by decide +kernel
theorem dX7_init_27 : decode cX7_init 27 = .ok (.putfield 20, 3) := by decide +kernel
theorem dX7_init_30 : decode cX7_init 30 = .ok (.aload_n 0, 1) := by decide +kernel
theorem dX7_init_31 : decode cX7_init 31 = .ok (.bipush 20, 2) := by decide +kernel
theorem dX7_init_33 : decode cX7_init 33 = .ok (.newarray .int, 2) := by decide +kernel
theorem dX7_init_35 : decode cX7_init 35 = .ok (.putfield 23, 3) := by decide +kernel
theorem dX7_init_38 : decode cX7_init 38 = .ok (.aload_n 0, 1) := by decide +kernel
theorem dX7_init_39 : decode cX7_init 39 = .ok (.bipush 20, 2) := by decide +kernel
theorem dX7_init_41 : decode cX7_init 41 = .ok (.newarray .int, 2) := by decide +kernel
theorem dX7_init_43 : decode cX7_init 43 = .ok (.putfield 26, 3) := by decide +kernel
theorem dX7_init_46 : decode cX7_init 46 = .ok (.aload_n 0, 1) := by decide +kernel
theorem dX7_init_47 : decode cX7_init 47 = .ok (.bipush 20, 2) := by decide +kernel
theorem dX7_init_49 : decode cX7_init 49 = .ok (.newarray .boolean, 2) := by decide +kernel
theorem dX7_init_51 : decode cX7_init 51 = .ok (.putfield 29, 3) := by decide +kernel
theorem dX7_init_54 : decode cX7_init 54 = .ok (.aload_n 0, 1) := by decide +kernel
theorem dX7_init_55 : decode cX7_init 55 = .ok (.iconst 0, 1) := by decide +kernel
theorem dX7_init_56 : decode cX7_init 56 = .ok (.putfield 33, 3) := by decide +kernel
theorem dX7_init_59 : decode cX7_init 59 = .ok (.aload_n 0, 1) := by decide +kernel
theorem dX7_init_60 : decode cX7_init 60 = .ok (.bipush 40, 2) := by decide +kernel
theorem dX7_init_62 : decode cX7_init 62 = .ok (.newarray .int, 2) := by decide +kernel
theorem dX7_init_64 : decode cX7_init 64 = .ok (.putfield 36, 3) := by decide +kernel
theorem dX7_init_67 : decode cX7_init 67 = .ok (.aload_n 0, 1) := by decide +kernel
theorem dX7_init_68 : decode cX7_init 68 = .ok (.iconst 5, 1) := by decide +kernel
theorem dX7_init_69 : decode cX7_init 69 = .ok (.newarray .int, 2) := by decide +kernel
theorem dX7_init_71 : decode cX7_init 71 = .ok (.putfield 39, 3) := by decide +kernel
theorem dX7_init_74 : decode cX7_init 74 = .ok (.aload_n 0, 1) := by decide +kernel
theorem dX7_init_75 : decode cX7_init 75 = .ok (.iconst 5, 1) := by decide +kernel
theorem dX7_init_76 : decode cX7_init 76 = .ok (.newarray .int, 2) := by decide +kernel
theorem dX7_init_78 : decode cX7_init 78 = .ok (.putfield 42, 3) := by decide +kernel
theorem dX7_init_81 : decode cX7_init 81 = .ok (.aload_n 0, 1) := by decide +kernel
theorem dX7_init_82 : decode cX7_init 82 = .ok (.iconst 5, 1) := by decide +kernel
theorem dX7_init_83 : decode cX7_init 83 = .ok (.newarray .int, 2) := by decide +kernel
theorem dX7_init_85 : decode cX7_init 85 = .ok (.putfield 45, 3) := by decide +kernel
theorem dX7_init_88 : decode cX7_init 88 = .ok (.aload_n 0, 1) := by decide +kernel
theorem dX7_init_89 : decode cX7_init 89 = .ok (.iconst 0, 1) := by decide +kernel
theorem dX7_init_90 : decode cX7_init 90 = .ok (.putfield 48, 3) := by decide +kernel
theorem dX7_init_93 : decode cX7_init 93 = .ok (.aload_n 0, 1) := by decide +kernel
theorem dX7_init_94 : decode cX7_init 94 = .ok (.sipush 860, 3) := by decide +kernel
theorem dX7_init_97 : decode cX7_init 97 = .ok (.newarray .boolean, 2) := by decide +kernel
theorem dX7_init_99 : decode cX7_init 99 = .ok (.putfield 52, 3) := by decide +kernel
theorem dX7_init_102 : decode cX7_init 102 = .ok (.aload_n 0, 1) := by decide +kernel
theorem dX7_init_103 : decode cX7_init 103 = .ok (.iconst 0, 1) := by decide +kernel
theorem dX7_init_104 : decode cX7_init 104 = .ok (.putfield 55, 3) := by decide +kernel
theorem dX7_init_107 : decode cX7_init 107 = .ok (.aload_n 0, 1) := by decide +kernel
theorem dX7_init_108 : decode cX7_init 108 = .ok (.sipush 1000, 3) := by decide +kernel
theorem dX7_init_111 : decode cX7_init 111 = .ok (.newarray .int, 2) := by decide +kernel
theorem dX7_init_113 : decode cX7_init 113 = .ok (.putfield 58, 3) := by decide +kernel
theorem dX7_init_116 : decode cX7_init 116 = .ok (.aload_n 0, 1) := by decide +kernel
theorem dX7_init_117 : decode cX7_init 117 = .ok (.bipush 8, 2) := by decide +kernel
theorem dX7_init_119 : decode cX7_init 119 = .ok (.newarray .int, 2) := by decide +kernel
theorem dX7_init_121 : decode cX7_init 121 = .ok (.putfield 61, 3) := by decide +kernel
theorem dX7_init_124 : decode cX7_init 124 = .ok (.aload_n 0, 1) := by decide +kernel
theorem dX7_init_125 : decode cX7_init 125 = .ok (.iconst 0, 1) := by decide +kernel
theorem dX7_init_126 : decode cX7_init 126 = .ok (.putfield 64, 3) := by decide +kernel
theorem dX7_init_129 : decode cX7_init 129 = .ok (.aload_n 0, 1) := by decide +kernel
theorem dX7_init_130 : decode cX7_init 130 = .ok (.iconst 0, 1) := by decide +kernel
theorem dX7_init_131 : decode cX7_init 131 = .ok (.putfield 67, 3) := by decide +kernel
theorem dX7_init_134 : decode cX7_init 134 = .ok (.aload_n 0, 1) := by decide +kernel
theorem dX7_init_135 : decode cX7_init 135 = .ok (.iconst 0, 1) := by decide +kernel
theorem dX7_init_136 : decode cX7_init 136 = .ok (.putfield 70, 3) := by decide +kernel
theorem dX7_init_139 : decode cX7_init 139 = .ok (.aload_n 0, 1) := by decide +kernel
theorem dX7_init_140 : decode cX7_init 140 = .ok (.sipush 18012, 3) := by decide +kernel
theorem dX7_init_143 : decode cX7_init 143 = .ok (.newarray .long, 2) := by decide +kernel
theorem dX7_init_145 : decode cX7_init 145 = .ok (.putfield 73, 3) := by decide +kernel
theorem dX7_init_148 : decode cX7_init 148 = .ok (.aload_n 0, 1) := by decide +kernel
theorem dX7_init_149 : decode cX7_init 149 = .ok (.sipush 8192, 3) := by decide +kernel
theorem dX7_init_152 : decode cX7_init 152 = .ok (.newarray .int, 2) := by decide +kernel
theorem dX7_init_154 : decode cX7_init 154 = .ok (.putfield 77, 3) := by decide +kernel
theorem dX7_init_157 : decode cX7_init 157 = .ok (.aload_n 0, 1) := by decide +kernel
theorem dX7_init_158 : decode cX7_init 158 = .ok (.sipush 3002, 3) := by decide +kernel
theorem dX7_init_161 : decode cX7_init 161 = .ok (.newarray .boolean, 2) := by decide +kernel
theorem dX7_init_163 : decode cX7_init 163 = .ok (.putfield 80, 3) := by decide +kernel
theorem dX7_init_166 : decode cX7_init 166 = .ok (.aload_n 0, 1) := by decide +kernel
theorem dX7_init_167 : decode cX7_init 167 = .ok (.iconst 0, 1) := by decide +kernel
theorem dX7_init_168 : decode cX7_init 168 = .ok (.putfield 83, 3) := by decide +kernel
theorem dX7_init_171 : decode cX7_init 171 = .ok (.aload_n 0, 1) := by decide +kernel
theorem dX7_init_172 : decode cX7_init 172 = .ok (.bipush 6, 2) := by decide +kernel
theorem dX7_init_174 : decode cX7_init 174 = .ok (.newarray .long, 2) := by decide +kernel
theorem dX7_init_176 : decode cX7_init 176 = .ok (.putfield 86, 3) := by decide +kernel
theorem dX7_init_179 : decode cX7_init 179 = .ok (.return_, 1) := by decide +kernel
theorem dX7_thrown_0 : decode cX7_thrown 0 = .ok (.aload_n 0, 1) := by decide +kernel
theorem dX7_thrown_1 : decode cX7_thrown 1 = .ok (.getfield 7, 3) := by decide +kernel
theorem dX7_thrown_4 : decode cX7_thrown 4 = .ok (.ireturn, 1) := by decide +kernel
theorem dX7_opinionOf_0 : decode cX7_opinionOf 0 = .ok (.aload_n 0, 1) := by decide +kernel
theorem dX7_opinionOf_1 : decode cX7_opinionOf 1 = .ok (.getfield 42, 3) := by decide +kernel
theorem dX7_opinionOf_4 : decode cX7_opinionOf 4 = .ok (.iload_n 1, 1) := by decide +kernel
theorem dX7_opinionOf_5 : decode cX7_opinionOf 5 = .ok (.iaload, 1) := by decide +kernel
theorem dX7_opinionOf_6 : decode cX7_opinionOf 6 = .ok (.ifCond .ne 21, 3) := by decide +kernel
theorem dX7_opinionOf_9 : decode cX7_opinionOf 9 = .ok (.iload_n 2, 1) := by decide +kernel
theorem dX7_opinionOf_10 : decode cX7_opinionOf 10 = .ok (.aload_n 0, 1) := by decide +kernel
theorem dX7_opinionOf_11 : decode cX7_opinionOf 11 = .ok (.getfield 45, 3) := by decide +kernel
theorem dX7_opinionOf_14 : decode cX7_opinionOf 14 = .ok (.iload_n 1, 1) := by decide +kernel
theorem dX7_opinionOf_15 : decode cX7_opinionOf 15 = .ok (.iaload, 1) := by decide +kernel
theorem dX7_opinionOf_16 : decode cX7_opinionOf 16 = .ok (.if_icmp .lt 7, 3) := by decide +kernel
theorem dX7_opinionOf_19 : decode cX7_opinionOf 19 = .ok (.iconst 1, 1) := by decide +kernel
theorem dX7_opinionOf_20 : decode cX7_opinionOf 20 = .ok (.goto 22, 3) := by decide +kernel
theorem dX7_opinionOf_23 : decode cX7_opinionOf 23 = .ok (.iconst 0, 1) := by decide +kernel
theorem dX7_opinionOf_24 : decode cX7_opinionOf 24 = .ok (.goto 18, 3) := by decide +kernel
theorem dX7_opinionOf_27 : decode cX7_opinionOf 27 = .ok (.iload_n 2, 1) := by decide +kernel
theorem dX7_opinionOf_28 : decode cX7_opinionOf 28 = .ok (.aload_n 0, 1) := by decide +kernel
theorem dX7_opinionOf_29 : decode cX7_opinionOf 29 = .ok (.getfield 45, 3) := by decide +kernel
theorem dX7_opinionOf_32 : decode cX7_opinionOf 32 = .ok (.iload_n 1, 1) := by decide +kernel
theorem dX7_opinionOf_33 : decode cX7_opinionOf 33 = .ok (.iaload, 1) := by decide +kernel
theorem dX7_opinionOf_34 : decode cX7_opinionOf 34 = .ok (.if_icmp .ne 7, 3) := by decide +kernel
theorem dX7_opinionOf_37 : decode cX7_opinionOf 37 = .ok (.iconst 1, 1) := by decide +kernel
theorem dX7_opinionOf_38 : decode cX7_opinionOf 38 = .ok (.goto 4, 3) := by decide +kernel
theorem dX7_opinionOf_41 : decode cX7_opinionOf 41 = .ok (.iconst 0, 1) := by decide +kernel
theorem dX7_opinionOf_42 : decode cX7_opinionOf 42 = .ok (.ireturn, 1) := by decide +kernel
theorem dX7_stateOf_0 : decode cX7_stateOf 0 = .ok (.iload_n 2, 1) := by decide +kernel
theorem dX7_stateOf_1 : decode cX7_stateOf 1 = .ok (.ifCond .eq 8, 3) := by decide +kernel
theorem dX7_stateOf_4 : decode cX7_stateOf 4 = .ok (.bipush 86, 2) := by decide +kernel
theorem dX7_stateOf_6 : decode cX7_stateOf 6 = .ok (.goto 4, 3) := by decide +kernel
theorem dX7_stateOf_9 : decode cX7_stateOf 9 = .ok (.iconst 0, 1) := by decide +kernel
theorem dX7_stateOf_10 : decode cX7_stateOf 10 = .ok (.iconst 2, 1) := by decide +kernel
theorem dX7_stateOf_11 : decode cX7_stateOf 11 = .ok (.iload_n 3, 1) := by decide +kernel
theorem dX7_stateOf_12 : decode cX7_stateOf 12 = .ok (.bipush 21, 2) := by decide +kernel
theorem dX7_stateOf_14 : decode cX7_stateOf 14 = .ok (.iadd, 1) := by decide +kernel
theorem dX7_stateOf_15 : decode cX7_stateOf 15 = .ok (.imul, 1) := by decide +kernel
theorem dX7_stateOf_16 : decode cX7_stateOf 16 = .ok (.iadd, 1) := by decide +kernel
theorem dX7_stateOf_17 : decode cX7_stateOf 17 = .ok (.iload 4, 2) := by decide +kernel
theorem dX7_stateOf_19 : decode cX7_stateOf 19 = .ok (.ifCond .eq 7, 3) := by decide +kernel
theorem dX7_stateOf_22 : decode cX7_stateOf 22 = .ok (.iconst 1, 1) := by decide +kernel
theorem dX7_stateOf_23 : decode cX7_stateOf 23 = .ok (.goto 4, 3) := by decide +kernel
theorem dX7_stateOf_26 : decode cX7_stateOf 26 = .ok (.iconst 0, 1) := by decide +kernel
theorem dX7_stateOf_27 : decode cX7_stateOf 27 = .ok (.iadd, 1) := by decide +kernel
theorem dX7_stateOf_28 : decode cX7_stateOf 28 = .ok (.ireturn, 1) := by decide +kernel
theorem dX7_valueOf_0 : decode cX7_valueOf 0 = .ok (.iload_n 0, 1) := by decide +kernel
theorem dX7_valueOf_1 : decode cX7_valueOf 1 = .ok (.bipush 86, 2) := by decide +kernel
theorem dX7_valueOf_3 : decode cX7_valueOf 3 = .ok (.irem, 1) := by decide +kernel
theorem dX7_valueOf_4 : decode cX7_valueOf 4 = .ok (.iconst 2, 1) := by decide +kernel
theorem dX7_valueOf_5 : decode cX7_valueOf 5 = .ok (.idiv, 1) := by decide +kernel
theorem dX7_valueOf_6 : decode cX7_valueOf 6 = .ok (.bipush 21, 2) := by decide +kernel
theorem dX7_valueOf_8 : decode cX7_valueOf 8 = .ok (.isub, 1) := by decide +kernel
theorem dX7_valueOf_9 : decode cX7_valueOf 9 = .ok (.ireturn, 1) := by decide +kernel
theorem dX7_firstState_0 : decode cX7_firstState 0 = .ok (.aload_n 0, 1) := by decide +kernel
theorem dX7_firstState_1 : decode cX7_firstState 1 = .ok (.getfield 36, 3) := by decide +kernel
theorem dX7_firstState_4 : decode cX7_firstState 4 = .ok (.bipush 8, 2) := by decide +kernel
theorem dX7_firstState_6 : decode cX7_firstState 6 = .ok (.iload_n 1, 1) := by decide +kernel
theorem dX7_firstState_7 : decode cX7_firstState 7 = .ok (.imul, 1) := by decide +kernel
theorem dX7_firstState_8 : decode cX7_firstState 8 = .ok (.iload_n 2, 1) := by decide +kernel
theorem dX7_firstState_9 : decode cX7_firstState 9 = .ok (.iadd, 1) := by decide +kernel
theorem dX7_firstState_10 : decode cX7_firstState 10 = .ok (.iaload, 1) := by decide +kernel
theorem dX7_firstState_11 : decode cX7_firstState 11 = .ok (.istore_n 3, 1) := by decide +kernel
theorem dX7_firstState_12 : decode cX7_firstState 12 = .ok (.aload_n 0, 1) := by decide +kernel
theorem dX7_firstState_13 : decode cX7_firstState 13 = .ok (.getfield 42, 3) := by decide +kernel
theorem dX7_firstState_16 : decode cX7_firstState 16 = .ok (.iload_n 1, 1) := by decide +kernel
theorem dX7_firstState_17 : decode cX7_firstState 17 = .ok (.iaload, 1) := by decide +kernel
theorem dX7_firstState_18 : decode cX7_firstState 18 = .ok (.ifCond .le 26, 3) := by decide +kernel
theorem dX7_firstState_21 : decode cX7_firstState 21 = .ok (.iload_n 3, 1) := by decide +kernel
theorem dX7_firstState_22 : decode cX7_firstState 22 = .ok (.aload_n 0, 1) := by decide +kernel
theorem dX7_firstState_23 : decode cX7_firstState 23 = .ok (.getfield 42, 3) := by decide +kernel
theorem dX7_firstState_26 : decode cX7_firstState 26 = .ok (.iload_n 1, 1) := by decide +kernel
theorem dX7_firstState_27 : decode cX7_firstState 27 = .ok (.iaload, 1) := by decide +kernel
theorem dX7_firstState_28 : decode cX7_firstState 28 = .ok (.irem, 1) := by decide +kernel
theorem dX7_firstState_29 : decode cX7_firstState 29 = .ok (.aload_n 0, 1) := by decide +kernel
theorem dX7_firstState_30 : decode cX7_firstState 30 = .ok (.getfield 42, 3) := by decide +kernel
theorem dX7_firstState_33 : decode cX7_firstState 33 = .ok (.iload_n 1, 1) := by decide +kernel
theorem dX7_firstState_34 : decode cX7_firstState 34 = .ok (.iaload, 1) := by decide +kernel
theorem dX7_firstState_35 : decode cX7_firstState 35 = .ok (.iadd, 1) := by decide +kernel
theorem dX7_firstState_36 : decode cX7_firstState 36 = .ok (.aload_n 0, 1) := by decide +kernel
theorem dX7_firstState_37 : decode cX7_firstState 37 = .ok (.getfield 42, 3) := by decide +kernel
theorem dX7_firstState_40 : decode cX7_firstState 40 = .ok (.iload_n 1, 1) := by decide +kernel
theorem dX7_firstState_41 : decode cX7_firstState 41 = .ok (.iaload, 1) := by decide +kernel
theorem dX7_firstState_42 : decode cX7_firstState 42 = .ok (.irem, 1) := by decide +kernel
theorem dX7_firstState_43 : decode cX7_firstState 43 = .ok (.istore_n 3, 1) := by decide +kernel
theorem dX7_firstState_44 : decode cX7_firstState 44 = .ok (.aload_n 0, 1) := by decide +kernel
theorem dX7_firstState_45 : decode cX7_firstState 45 = .ok (.iload_n 1, 1) := by decide +kernel
theorem dX7_firstState_46 : decode cX7_firstState 46 = .ok (.iconst 1, 1) := by decide +kernel
theorem dX7_firstState_47 : decode cX7_firstState 47 = .ok (.iload_n 3, 1) := by decide +kernel
theorem dX7_firstState_48 : decode cX7_firstState 48 = .ok (.aload_n 0, 1) := by decide +kernel
theorem dX7_firstState_49 : decode cX7_firstState 49 = .ok (.iload_n 1, 1) := by decide +kernel
theorem dX7_firstState_50 : decode cX7_firstState 50 = .ok (.iload_n 3, 1) := by decide +kernel
theorem dX7_firstState_51 : decode cX7_firstState 51 = .ok (.invokevirtual 89, 3) := by decide +kernel
theorem dX7_firstState_54 : decode cX7_firstState 54 = .ok (.invokevirtual 93, 3) := by decide +kernel
theorem dX7_firstState_57 : decode cX7_firstState 57 = .ok (.ireturn, 1) := by decide +kernel
theorem dX7_meeting_0 : decode cX7_meeting 0 = .ok (.aload_n 0, 1) := by decide +kernel
theorem dX7_meeting_1 : decode cX7_meeting 1 = .ok (.iload_n 2, 1) := by decide +kernel
theorem dX7_meeting_2 : decode cX7_meeting 2 = .ok (.putfield 64, 3) := by decide +kernel
theorem dX7_meeting_5 : decode cX7_meeting 5 = .ok (.aload_n 0, 1) := by decide +kernel
theorem dX7_meeting_6 : decode cX7_meeting 6 = .ok (.iload_n 3, 1) := by decide +kernel
theorem dX7_meeting_7 : decode cX7_meeting 7 = .ok (.putfield 67, 3) := by decide +kernel
theorem dX7_meeting_10 : decode cX7_meeting 10 = .ok (.iload_n 2, 1) := by decide +kernel
theorem dX7_meeting_11 : decode cX7_meeting 11 = .ok (.bipush 86, 2) := by decide +kernel
theorem dX7_meeting_13 : decode cX7_meeting 13 = .ok (.if_icmp .ge 10, 3) := by decide +kernel
theorem dX7_meeting_16 : decode cX7_meeting 16 = .ok (.iload_n 3, 1) := by decide +kernel
theorem dX7_meeting_17 : decode cX7_meeting 17 = .ok (.bipush 86, 2) := by decide +kernel
theorem dX7_meeting_19 : decode cX7_meeting 19 = .ok (.if_icmp .ge 4, 3) := by decide +kernel
theorem dX7_meeting_22 : decode cX7_meeting 22 = .ok (.return_, 1) := by decide +kernel
theorem dX7_meeting_23 : decode cX7_meeting 23 = .ok (.iload_n 2, 1) := by decide +kernel
theorem dX7_meeting_24 : decode cX7_meeting 24 = .ok (.bipush 86, 2) := by decide +kernel
theorem dX7_meeting_26 : decode cX7_meeting 26 = .ok (.if_icmp .lt 7, 3) := by decide +kernel
theorem dX7_meeting_29 : decode cX7_meeting 29 = .ok (.iconst 1, 1) := by decide +kernel
theorem dX7_meeting_30 : decode cX7_meeting 30 = .ok (.goto 4, 3) := by decide +kernel
theorem dX7_meeting_33 : decode cX7_meeting 33 = .ok (.iconst 0, 1) := by decide +kernel
theorem dX7_meeting_34 : decode cX7_meeting 34 = .ok (.istore 4, 2) := by decide +kernel
theorem dX7_meeting_36 : decode cX7_meeting 36 = .ok (.iload_n 2, 1) := by decide +kernel
theorem dX7_meeting_37 : decode cX7_meeting 37 = .ok (.invokestatic 97, 3) := by decide +kernel
theorem dX7_meeting_40 : decode cX7_meeting 40 = .ok (.iload_n 3, 1) := by decide +kernel
theorem dX7_meeting_41 : decode cX7_meeting 41 = .ok (.invokestatic 97, 3) := by decide +kernel
theorem dX7_meeting_44 : decode cX7_meeting 44 = .ok (.iadd, 1) := by decide +kernel
theorem dX7_meeting_45 : decode cX7_meeting 45 = .ok (.istore 5, 2) := by decide +kernel
theorem dX7_meeting_47 : decode cX7_meeting 47 = .ok (.iload 5, 2) := by decide +kernel
theorem dX7_meeting_49 : decode cX7_meeting 49 = .ok (.istore 6, 2) := by decide +kernel
theorem dX7_meeting_51 : decode cX7_meeting 51 = .ok (.iconst 0, 1) := by decide +kernel
theorem dX7_meeting_52 : decode cX7_meeting 52 = .ok (.istore 7, 2) := by decide +kernel
theorem dX7_meeting_54 : decode cX7_meeting 54 = .ok (.aload_n 0, 1) := by decide +kernel
theorem dX7_meeting_55 : decode cX7_meeting 55 = .ok (.getfield 42, 3) := by decide +kernel
theorem dX7_meeting_58 : decode cX7_meeting 58 = .ok (.iload_n 1, 1) := by decide +kernel
theorem dX7_meeting_59 : decode cX7_meeting 59 = .ok (.iaload, 1) := by decide +kernel
theorem dX7_meeting_60 : decode cX7_meeting 60 = .ok (.ifCond .le 33, 3) := by decide +kernel
theorem dX7_meeting_63 : decode cX7_meeting 63 = .ok (.iload 5, 2) := by decide +kernel
theorem dX7_meeting_65 : decode cX7_meeting 65 = .ok (.aload_n 0, 1) := by decide +kernel
theorem dX7_meeting_66 : decode cX7_meeting 66 = .ok (.getfield 42, 3) := by decide +kernel
theorem dX7_meeting_69 : decode cX7_meeting 69 = .ok (.iload_n 1, 1) := by decide +kernel
theorem dX7_meeting_70 : decode cX7_meeting 70 = .ok (.iaload, 1) := by decide +kernel
theorem dX7_meeting_71 : decode cX7_meeting 71 = .ok (.if_icmp .lt 15, 3) := by decide +kernel
theorem dX7_meeting_74 : decode cX7_meeting 74 = .ok (.iload 5, 2) := by decide +kernel
theorem dX7_meeting_76 : decode cX7_meeting 76 = .ok (.aload_n 0, 1) := by decide +kernel
theorem dX7_meeting_77 : decode cX7_meeting 77 = .ok (.getfield 42, 3) := by decide +kernel
theorem dX7_meeting_80 : decode cX7_meeting 80 = .ok (.iload_n 1, 1) := by decide +kernel
theorem dX7_meeting_81 : decode cX7_meeting 81 = .ok (.iaload, 1) := by decide +kernel
theorem dX7_meeting_82 : decode cX7_meeting 82 = .ok (.isub, 1) := by decide +kernel
theorem dX7_meeting_83 : decode cX7_meeting 83 = .ok (.goto 5, 3) := by decide +kernel
theorem dX7_meeting_86 : decode cX7_meeting 86 = .ok (.iload 5, 2) := by decide +kernel
theorem dX7_meeting_88 : decode cX7_meeting 88 = .ok (.istore 6, 2) := by decide +kernel
theorem dX7_meeting_90 : decode cX7_meeting 90 = .ok (.goto 50, 3) := by decide +kernel
theorem dX7_meeting_93 : decode cX7_meeting 93 = .ok (.iload 6, 2) := by decide +kernel
theorem dX7_meeting_95 : decode cX7_meeting 95 = .ok (.aload_n 0, 1) := by decide +kernel
theorem dX7_meeting_96 : decode cX7_meeting 96 = .ok (.getfield 39, 3) := by decide +kernel
theorem dX7_meeting_99 : decode cX7_meeting 99 = .ok (.iload_n 1, 1) := by decide +kernel
theorem dX7_meeting_100 : decode cX7_meeting 100 = .ok (.iaload, 1) := by decide +kernel
theorem dX7_meeting_101 : decode cX7_meeting 101 = .ok (.if_icmp .le 11, 3) := by decide +kernel
theorem dX7_meeting_104 : decode cX7_meeting 104 = .ok (.aload_n 0, 1) := by decide +kernel
theorem dX7_meeting_105 : decode cX7_meeting 105 = .ok (.getfield 39, 3) := by decide +kernel
theorem dX7_meeting_108 : decode cX7_meeting 108 = .ok (.iload_n 1, 1) := by decide +kernel
theorem dX7_meeting_109 : decode cX7_meeting 109 = .ok (.iaload, 1) := by decide +kernel
theorem dX7_meeting_110 : decode cX7_meeting 110 = .ok (.istore 6, 2) := by decide +kernel
theorem dX7_meeting_112 : decode cX7_meeting 112 = .ok (.iload 6, 2) := by decide +kernel
theorem dX7_meeting_114 : decode cX7_meeting 114 = .ok (.aload_n 0, 1) := by decide +kernel
theorem dX7_meeting_115 : decode cX7_meeting 115 = .ok (.getfield 39, 3) := by decide +kernel
theorem dX7_meeting_118 : decode cX7_meeting 118 = .ok (.iload_n 1, 1) := by decide +kernel
theorem dX7_meeting_119 : decode cX7_meeting 119 = .ok (.iaload, 1) := by decide +kernel
theorem dX7_meeting_120 : decode cX7_meeting 120 = .ok (.ineg, 1) := by decide +kernel
theorem dX7_meeting_121 : decode cX7_meeting 121 = .ok (.if_icmp .ge 12, 3) := by decide +kernel
theorem dX7_meeting_124 : decode cX7_meeting 124 = .ok (.aload_n 0, 1) := by decide +kernel
theorem dX7_meeting_125 : decode cX7_meeting 125 = .ok (.getfield 39, 3) := by decide +kernel
theorem dX7_meeting_128 : decode cX7_meeting 128 = .ok (.iload_n 1, 1) := by decide +kernel
theorem dX7_meeting_129 : decode cX7_meeting 129 = .ok (.iaload, 1) := by decide +kernel
theorem dX7_meeting_130 : decode cX7_meeting 130 = .ok (.ineg, 1) := by decide +kernel
theorem dX7_meeting_131 : decode cX7_meeting 131 = .ok (.istore 6, 2) := by decide +kernel
theorem dX7_meeting_133 : decode cX7_meeting 133 = .ok (.iload 5, 2) := by decide +kernel
theorem dX7_meeting_135 : decode cX7_meeting 135 = .ok (.iload 6, 2) := by decide +kernel
theorem dX7_meeting_137 : decode cX7_meeting 137 = .ok (.isub, 1) := by decide +kernel
theorem dX7_meeting_138 : decode cX7_meeting 138 = .ok (.istore 7, 2) := by decide +kernel
theorem dX7_meeting_140 : decode cX7_meeting 140 = .ok (.aload_n 0, 1) := by decide +kernel
theorem dX7_meeting_141 : decode cX7_meeting 141 = .ok (.iload_n 1, 1) := by decide +kernel
theorem dX7_meeting_142 : decode cX7_meeting 142 = .ok (.iload 6, 2) := by decide +kernel
theorem dX7_meeting_144 : decode cX7_meeting 144 = .ok (.invokevirtual 89, 3) := by decide +kernel
theorem dX7_meeting_147 : decode cX7_meeting 147 = .ok (.istore 8, 2) := by decide +kernel
theorem dX7_meeting_149 : decode cX7_meeting 149 = .ok (.aload_n 0, 1) := by decide +kernel
theorem dX7_meeting_150 : decode cX7_meeting 150 = .ok (.aload_n 0, 1) := by decide +kernel
theorem dX7_meeting_151 : decode cX7_meeting 151 = .ok (.iload_n 1, 1) := by decide +kernel
theorem dX7_meeting_152 : decode cX7_meeting 152 = .ok (.iload 4, 2) := by decide +kernel
theorem dX7_meeting_154 : decode cX7_meeting 154 = .ok (.iload 4, 2) := by decide +kernel
theorem dX7_meeting_156 : decode cX7_meeting 156 = .ok (.ifCond .eq 8, 3) := by decide +kernel
theorem dX7_meeting_159 : decode cX7_meeting 159 = .ok (.iload 6, 2) := by decide +kernel
theorem dX7_meeting_161 : decode cX7_meeting 161 = .ok (.goto 5, 3) := by decide +kernel
theorem dX7_meeting_164 : decode cX7_meeting 164 = .ok (.iload 7, 2) := by decide +kernel
theorem dX7_meeting_166 : decode cX7_meeting 166 = .ok (.iload 8, 2) := by decide +kernel
theorem dX7_meeting_168 : decode cX7_meeting 168 = .ok (.invokevirtual 93, 3) := by decide +kernel
theorem dX7_meeting_171 : decode cX7_meeting 171 = .ok (.putfield 64, 3) := by decide +kernel
theorem dX7_meeting_174 : decode cX7_meeting 174 = .ok (.aload_n 0, 1) := by decide +kernel
theorem dX7_meeting_175 : decode cX7_meeting 175 = .ok (.aload_n 0, 1) := by decide +kernel
theorem dX7_meeting_176 : decode cX7_meeting 176 = .ok (.iload_n 1, 1) := by decide +kernel
theorem dX7_meeting_177 : decode cX7_meeting 177 = .ok (.iload 4, 2) := by decide +kernel
theorem dX7_meeting_179 : decode cX7_meeting 179 = .ok (.ifCond .ne 7, 3) := by decide +kernel
theorem dX7_meeting_182 : decode cX7_meeting 182 = .ok (.iconst 1, 1) := by decide +kernel
theorem dX7_meeting_183 : decode cX7_meeting 183 = .ok (.goto 4, 3) := by decide +kernel
theorem dX7_meeting_186 : decode cX7_meeting 186 = .ok (.iconst 0, 1) := by decide +kernel
theorem dX7_meeting_187 : decode cX7_meeting 187 = .ok (.iload 4, 2) := by decide +kernel
theorem dX7_meeting_189 : decode cX7_meeting 189 = .ok (.ifCond .eq 8, 3) := by decide +kernel
theorem dX7_meeting_192 : decode cX7_meeting 192 = .ok (.iload 7, 2) := by decide +kernel
theorem dX7_meeting_194 : decode cX7_meeting 194 = .ok (.goto 5, 3) := by decide +kernel
theorem dX7_meeting_197 : decode cX7_meeting 197 = .ok (.iload 6, 2) := by decide +kernel
theorem dX7_meeting_199 : decode cX7_meeting 199 = .ok (.iload 8, 2) := by decide +kernel
theorem dX7_meeting_201 : decode cX7_meeting 201 = .ok (.invokevirtual 93, 3) := by decide +kernel
theorem dX7_meeting_204 : decode cX7_meeting 204 = .ok (.putfield 67, 3) := by decide +kernel
theorem dX7_meeting_207 : decode cX7_meeting 207 = .ok (.return_, 1) := by decide +kernel
theorem dX7_findStates_0 : decode cX7_findStates 0 = .ok (.iconst 0, 1) := by decide +kernel
theorem dX7_findStates_1 : decode cX7_findStates 1 = .ok (.istore_n 2, 1) := by decide +kernel
theorem dX7_findStates_2 : decode cX7_findStates 2 = .ok (.iload_n 2, 1) := by decide +kernel
theorem dX7_findStates_3 : decode cX7_findStates 3 = .ok (.sipush 172, 3) := by decide +kernel
theorem dX7_findStates_6 : decode cX7_findStates 6 = .ok (.if_icmp .ge 22, 3) := by decide +kernel
theorem dX7_findStates_9 : decode cX7_findStates 9 = .ok (.aload_n 0, 1) := by decide +kernel
theorem dX7_findStates_10 : decode cX7_findStates 10 = .ok (.getfield 52, 3) := by decide +kernel
theorem dX7_findStates_13 : decode cX7_findStates 13 = .ok (.sipush 172, 3) := by decide +kernel
theorem dX7_findStates_16 : decode cX7_findStates 16 = .ok (.iload_n 1, 1) := by decide +kernel
theorem dX7_findStates_17 : decode cX7_findStates 17 = .ok (.imul, 1) := by decide +kernel
theorem dX7_findStates_18 : decode cX7_findStates 18 = .ok (.iload_n 2, 1) := by decide +kernel
theorem dX7_findStates_19 : decode cX7_findStates 19 = .ok (.iadd, 1) := by decide +kernel
theorem dX7_findStates_20 : decode cX7_findStates 20 = .ok (.iconst 0, 1) := by decide +kernel
theorem dX7_findStates_21 : decode cX7_findStates 21 = .ok (.bastore, 1) := by decide +kernel
theorem dX7_findStates_22 : decode cX7_findStates 22 = .ok (.iinc 2 1, 3) := by decide +kernel
theorem dX7_findStates_25 : decode cX7_findStates 25 = .ok (.goto (-23), 3) := by decide +kernel
theorem dX7_findStates_28 : decode cX7_findStates 28 = .ok (.iconst 0, 1) := by decide +kernel
theorem dX7_findStates_29 : decode cX7_findStates 29 = .ok (.istore_n 2, 1) := by decide +kernel
theorem dX7_findStates_30 : decode cX7_findStates 30 = .ok (.iload_n 2, 1) := by decide +kernel
theorem dX7_findStates_31 : decode cX7_findStates 31 = .ok (.bipush 8, 2) := by decide +kernel
theorem dX7_findStates_33 : decode cX7_findStates 33 = .ok (.if_icmp .ge 27, 3) := by decide +kernel
theorem dX7_findStates_36 : decode cX7_findStates 36 = .ok (.aload_n 0, 1) := by decide +kernel
theorem dX7_findStates_37 : decode cX7_findStates 37 = .ok (.getfield 52, 3) := by decide +kernel
theorem dX7_findStates_40 : decode cX7_findStates 40 = .ok (.sipush 172, 3) := by decide +kernel
theorem dX7_findStates_43 : decode cX7_findStates 43 = .ok (.iload_n 1, 1) := by decide +kernel
theorem dX7_findStates_44 : decode cX7_findStates 44 = .ok (.imul, 1) := by decide +kernel
theorem dX7_findStates_45 : decode cX7_findStates 45 = .ok (.aload_n 0, 1) := by decide +kernel
theorem dX7_findStates_46 : decode cX7_findStates 46 = .ok (.iload_n 1, 1) := by decide +kernel
theorem dX7_findStates_47 : decode cX7_findStates 47 = .ok (.iload_n 2, 1) := by decide +kernel
theorem dX7_findStates_48 : decode cX7_findStates 48 = .ok (.invokevirtual 101, 3) := by decide +kernel
theorem dX7_findStates_51 : decode cX7_findStates 51 = .ok (.iadd, 1) := by decide +kernel
theorem dX7_findStates_52 : decode cX7_findStates 52 = .ok (.iconst 1, 1) := by decide +kernel
theorem dX7_findStates_53 : decode cX7_findStates 53 = .ok (.bastore, 1) := by decide +kernel
theorem dX7_findStates_54 : decode cX7_findStates 54 = .ok (.iinc 2 1, 3) := by decide +kernel
theorem dX7_findStates_57 : decode cX7_findStates 57 = .ok (.goto (-27), 3) := by decide +kernel
theorem dX7_findStates_60 : decode cX7_findStates 60 = .ok (.iconst 1, 1) := by decide +kernel
theorem dX7_findStates_61 : decode cX7_findStates 61 = .ok (.istore_n 2, 1) := by decide +kernel
theorem dX7_findStates_62 : decode cX7_findStates 62 = .ok (.iconst 0, 1) := by decide +kernel
theorem dX7_findStates_63 : decode cX7_findStates 63 = .ok (.istore_n 3, 1) := by decide +kernel
theorem dX7_findStates_64 : decode cX7_findStates 64 = .ok (.iload_n 3, 1) := by decide +kernel
theorem dX7_findStates_65 : decode cX7_findStates 65 = .ok (.sipush 200, 3) := by decide +kernel
theorem dX7_findStates_68 : decode cX7_findStates 68 = .ok (.if_icmp .ge 160, 3) := by decide +kernel
theorem dX7_findStates_71 : decode cX7_findStates 71 = .ok (.iload_n 2, 1) := by decide +kernel
theorem dX7_findStates_72 : decode cX7_findStates 72 = .ok (.ifCond .eq 156, 3) := by decide +kernel
theorem dX7_findStates_75 : decode cX7_findStates 75 = .ok (.iconst 0, 1) := by decide +kernel
theorem dX7_findStates_76 : decode cX7_findStates 76 = .ok (.istore_n 2, 1) := by decide +kernel
theorem dX7_findStates_77 : decode cX7_findStates 77 = .ok (.iconst 0, 1) := by decide +kernel
theorem dX7_findStates_78 : decode cX7_findStates 78 = .ok (.istore 4, 2) := by decide +kernel
theorem dX7_findStates_80 : decode cX7_findStates 80 = .ok (.iload 4, 2) := by decide +kernel
theorem dX7_findStates_82 : decode cX7_findStates 82 = .ok (.sipush 172, 3) := by decide +kernel
theorem dX7_findStates_85 : decode cX7_findStates 85 = .ok (.if_icmp .ge 137, 3) := by decide +kernel
theorem dX7_findStates_88 : decode cX7_findStates 88 = .ok (.iconst 0, 1) := by decide +kernel
theorem dX7_findStates_89 : decode cX7_findStates 89 = .ok (.istore 5, 2) := by decide +kernel
theorem dX7_findStates_91 : decode cX7_findStates 91 = .ok (.iload 5, 2) := by decide +kernel
theorem dX7_findStates_93 : decode cX7_findStates 93 = .ok (.sipush 172, 3) := by decide +kernel
theorem dX7_findStates_96 : decode cX7_findStates 96 = .ok (.if_icmp .ge 120, 3) := by decide +kernel
theorem dX7_findStates_99 : decode cX7_findStates 99 = .ok (.aload_n 0, 1) := by decide +kernel
theorem dX7_findStates_100 : decode cX7_findStates 100 = .ok (.getfield 52, 3) := by decide +kernel
theorem dX7_findStates_103 : decode cX7_findStates 103 = .ok (.sipush 172, 3) := by decide +kernel
theorem dX7_findStates_106 : decode cX7_findStates 106 = .ok (.iload_n 1, 1) := by decide +kernel
theorem dX7_findStates_107 : decode cX7_findStates 107 = .ok (.imul, 1) := by decide +kernel
theorem dX7_findStates_108 : decode cX7_findStates 108 = .ok (.iload 4, 2) := by decide +kernel
theorem dX7_findStates_110 : decode cX7_findStates 110 = .ok (.iadd, 1) := by decide +kernel
theorem dX7_findStates_111 : decode cX7_findStates 111 = .ok (.baload, 1) := by decide +kernel
theorem dX7_findStates_112 : decode cX7_findStates 112 = .ok (.ifCond .eq 98, 3) := by decide +kernel
theorem dX7_findStates_115 : decode cX7_findStates 115 = .ok (.aload_n 0, 1) := by decide +kernel
theorem dX7_findStates_116 : decode cX7_findStates 116 = .ok (.getfield 52, 3) := by decide +kernel
theorem dX7_findStates_119 : decode cX7_findStates 119 = .ok (.sipush 172, 3) := by decide +kernel
theorem dX7_findStates_122 : decode cX7_findStates 122 = .ok (.iload_n 1, 1) := by decide +kernel
theorem dX7_findStates_123 : decode cX7_findStates 123 = .ok (.imul, 1) := by decide +kernel
theorem dX7_findStates_124 : decode cX7_findStates 124 = .ok (.iload 5, 2) := by decide +kernel
theorem dX7_findStates_126 : decode cX7_findStates 126 = .ok (.iadd, 1) := by decide +kernel
theorem dX7_findStates_127 : decode cX7_findStates 127 = .ok (.baload, 1) := by decide +kernel
theorem dX7_findStates_128 : decode cX7_findStates 128 = .ok (.ifCond .eq 82, 3) := by decide +kernel
theorem dX7_findStates_131 : decode cX7_findStates 131 = .ok (.aload_n 0, 1) := by decide +kernel
theorem dX7_findStates_132 : decode cX7_findStates 132 = .ok (.iload_n 1, 1) := by decide +kernel
theorem dX7_findStates_133 : decode cX7_findStates 133 = .ok (.iload 4, 2) := by decide +kernel
theorem dX7_findStates_135 : decode cX7_findStates 135 = .ok (.iload 5, 2) := by decide +kernel
theorem dX7_findStates_137 : decode cX7_findStates 137 = .ok (.invokevirtual 105, 3) := by decide +kernel
theorem dX7_findStates_140 : decode cX7_findStates 140 = .ok (.aload_n 0, 1) := by decide +kernel
theorem dX7_findStates_141 : decode cX7_findStates 141 = .ok (.getfield 52, 3) := by decide +kernel
theorem dX7_findStates_144 : decode cX7_findStates 144 = .ok (.sipush 172, 3) := by decide +kernel
theorem dX7_findStates_147 : decode cX7_findStates 147 = .ok (.iload_n 1, 1) := by decide +kernel
theorem dX7_findStates_148 : decode cX7_findStates 148 = .ok (.imul, 1) := by decide +kernel
theorem dX7_findStates_149 : decode cX7_findStates 149 = .ok (.aload_n 0, 1) := by decide +kernel
theorem dX7_findStates_150 : decode cX7_findStates 150 = .ok (.getfield 64, 3) := by decide +kernel
theorem dX7_findStates_153 : decode cX7_findStates 153 = .ok (.iadd, 1) := by decide +kernel
theorem dX7_findStates_154 : decode cX7_findStates 154 = .ok (.baload, 1) := by decide +kernel
theorem dX7_findStates_155 : decode cX7_findStates 155 = .ok (.ifCond .eq 21, 3) := by decide +kernel
theorem dX7_findStates_158 : decode cX7_findStates 158 = .ok (.aload_n 0, 1) := by decide +kernel
theorem dX7_findStates_159 : decode cX7_findStates 159 = .ok (.getfield 52, 3) := by decide +kernel
theorem dX7_findStates_162 : decode cX7_findStates 162 = .ok (.sipush 172, 3) := by decide +kernel
theorem dX7_findStates_165 : decode cX7_findStates 165 = .ok (.iload_n 1, 1) := by decide +kernel
theorem dX7_findStates_166 : decode cX7_findStates 166 = .ok (.imul, 1) := by decide +kernel
theorem dX7_findStates_167 : decode cX7_findStates 167 = .ok (.aload_n 0, 1) := by decide +kernel
theorem dX7_findStates_168 : decode cX7_findStates 168 = .ok (.getfield 67, 3) := by decide +kernel
theorem dX7_findStates_171 : decode cX7_findStates 171 = .ok (.iadd, 1) := by decide +kernel
theorem dX7_findStates_172 : decode cX7_findStates 172 = .ok (.baload, 1) := by decide +kernel
theorem dX7_findStates_173 : decode cX7_findStates 173 = .ok (.ifCond .ne 5, 3) := by decide +kernel
theorem dX7_findStates_176 : decode cX7_findStates 176 = .ok (.iconst 1, 1) := by decide +kernel
theorem dX7_findStates_177 : decode cX7_findStates 177 = .ok (.istore_n 2, 1) := by decide +kernel
theorem dX7_findStates_178 : decode cX7_findStates 178 = .ok (.aload_n 0, 1) := by decide +kernel
theorem dX7_findStates_179 : decode cX7_findStates 179 = .ok (.getfield 52, 3) := by decide +kernel
theorem dX7_findStates_182 : decode cX7_findStates 182 = .ok (.sipush 172, 3) := by decide +kernel
theorem dX7_findStates_185 : decode cX7_findStates 185 = .ok (.iload_n 1, 1) := by decide +kernel
theorem dX7_findStates_186 : decode cX7_findStates 186 = .ok (.imul, 1) := by decide +kernel
theorem dX7_findStates_187 : decode cX7_findStates 187 = .ok (.aload_n 0, 1) := by decide +kernel
theorem dX7_findStates_188 : decode cX7_findStates 188 = .ok (.getfield 64, 3) := by decide +kernel
theorem dX7_findStates_191 : decode cX7_findStates 191 = .ok (.iadd, 1) := by decide +kernel
theorem dX7_findStates_192 : decode cX7_findStates 192 = .ok (.iconst 1, 1) := by decide +kernel
theorem dX7_findStates_193 : decode cX7_findStates 193 = .ok (.bastore, 1) := by decide +kernel
theorem dX7_findStates_194 : decode cX7_findStates 194 = .ok (.aload_n 0, 1) := by decide +kernel
theorem dX7_findStates_195 : decode cX7_findStates 195 = .ok (.getfield 52, 3) := by decide +kernel
theorem dX7_findStates_198 : decode cX7_findStates 198 = .ok (.sipush 172, 3) := by decide +kernel
theorem dX7_findStates_201 : decode cX7_findStates 201 = .ok (.iload_n 1, 1) := by decide +kernel
theorem dX7_findStates_202 : decode cX7_findStates 202 = .ok (.imul, 1) := by decide +kernel
theorem dX7_findStates_203 : decode cX7_findStates 203 = .ok (.aload_n 0, 1) := by decide +kernel
theorem dX7_findStates_204 : decode cX7_findStates 204 = .ok (.getfield 67, 3) := by decide +kernel
theorem dX7_findStates_207 : decode cX7_findStates 207 = .ok (.iadd, 1) := by decide +kernel
theorem dX7_findStates_208 : decode cX7_findStates 208 = .ok (.iconst 1, 1) := by decide +kernel
theorem dX7_findStates_209 : decode cX7_findStates 209 = .ok (.bastore, 1) := by decide +kernel
theorem dX7_findStates_210 : decode cX7_findStates 210 = .ok (.iinc 5 1, 3) := by decide +kernel
theorem dX7_findStates_213 : decode cX7_findStates 213 = .ok (.goto (-122), 3) := by decide +kernel
theorem dX7_findStates_216 : decode cX7_findStates 216 = .ok (.iinc 4 1, 3) := by decide +kernel
theorem dX7_findStates_219 : decode cX7_findStates 219 = .ok (.goto (-139), 3) := by decide +kernel
theorem dX7_findStates_222 : decode cX7_findStates 222 = .ok (.iinc 3 1, 3) := by decide +kernel
theorem dX7_findStates_225 : decode cX7_findStates 225 = .ok (.goto (-161), 3) := by decide +kernel
theorem dX7_findStates_228 : decode cX7_findStates 228 = .ok (.return_, 1) := by decide +kernel
theorem dX7_stateCount_0 : decode cX7_stateCount 0 = .ok (.iconst 0, 1) := by decide +kernel
theorem dX7_stateCount_1 : decode cX7_stateCount 1 = .ok (.istore_n 2, 1) := by decide +kernel
theorem dX7_stateCount_2 : decode cX7_stateCount 2 = .ok (.iconst 0, 1) := by decide +kernel
theorem dX7_stateCount_3 : decode cX7_stateCount 3 = .ok (.istore_n 3, 1) := by decide +kernel
theorem dX7_stateCount_4 : decode cX7_stateCount 4 = .ok (.iload_n 3, 1) := by decide +kernel
theorem dX7_stateCount_5 : decode cX7_stateCount 5 = .ok (.sipush 172, 3) := by decide +kernel
theorem dX7_stateCount_8 : decode cX7_stateCount 8 = .ok (.if_icmp .ge 32, 3) := by decide +kernel
theorem dX7_stateCount_11 : decode cX7_stateCount 11 = .ok (.iload_n 2, 1) := by decide +kernel
theorem dX7_stateCount_12 : decode cX7_stateCount 12 = .ok (.aload_n 0, 1) := by decide +kernel
theorem dX7_stateCount_13 : decode cX7_stateCount 13 = .ok (.getfield 52, 3) := by decide +kernel
theorem dX7_stateCount_16 : decode cX7_stateCount 16 = .ok (.sipush 172, 3) := by decide +kernel
theorem dX7_stateCount_19 : decode cX7_stateCount 19 = .ok (.iload_n 1, 1) := by decide +kernel
theorem dX7_stateCount_20 : decode cX7_stateCount 20 = .ok (.imul, 1) := by decide +kernel
theorem dX7_stateCount_21 : decode cX7_stateCount 21 = .ok (.iload_n 3, 1) := by decide +kernel
theorem dX7_stateCount_22 : decode cX7_stateCount 22 = .ok (.iadd, 1) := by decide +kernel
theorem dX7_stateCount_23 : decode cX7_stateCount 23 = .ok (.baload, 1) := by decide +kernel
theorem dX7_stateCount_24 : decode cX7_stateCount 24 = .ok (.ifCond .eq 7, 3) := by decide +kernel
theorem dX7_stateCount_27 : decode cX7_stateCount 27 = .ok (.iconst 1, 1) := by decide +kernel
theorem dX7_stateCount_28 : decode cX7_stateCount 28 = .ok (.goto 4, 3) := by decide +kernel
theorem dX7_stateCount_31 : decode cX7_stateCount 31 = .ok (.iconst 0, 1) := by decide +kernel
theorem dX7_stateCount_32 : decode cX7_stateCount 32 = .ok (.iadd, 1) := by decide +kernel
theorem dX7_stateCount_33 : decode cX7_stateCount 33 = .ok (.istore_n 2, 1) := by decide +kernel
theorem dX7_stateCount_34 : decode cX7_stateCount 34 = .ok (.iinc 3 1, 3) := by decide +kernel
theorem dX7_stateCount_37 : decode cX7_stateCount 37 = .ok (.goto (-33), 3) := by decide +kernel
theorem dX7_stateCount_40 : decode cX7_stateCount 40 = .ok (.iload_n 2, 1) := by decide +kernel
theorem dX7_stateCount_41 : decode cX7_stateCount 41 = .ok (.ireturn, 1) := by decide +kernel
theorem dX7_numberOf_0 : decode cX7_numberOf 0 = .ok (.iconst 0, 1) := by decide +kernel
theorem dX7_numberOf_1 : decode cX7_numberOf 1 = .ok (.istore_n 3, 1) := by decide +kernel
theorem dX7_numberOf_2 : decode cX7_numberOf 2 = .ok (.iconst 0, 1) := by decide +kernel
theorem dX7_numberOf_3 : decode cX7_numberOf 3 = .ok (.istore 4, 2) := by decide +kernel
theorem dX7_numberOf_5 : decode cX7_numberOf 5 = .ok (.iload 4, 2) := by decide +kernel
theorem dX7_numberOf_7 : decode cX7_numberOf 7 = .ok (.iload_n 2, 1) := by decide +kernel
theorem dX7_numberOf_8 : decode cX7_numberOf 8 = .ok (.if_icmp .ge 33, 3) := by decide +kernel
theorem dX7_numberOf_11 : decode cX7_numberOf 11 = .ok (.iload_n 3, 1) := by decide +kernel
theorem dX7_numberOf_12 : decode cX7_numberOf 12 = .ok (.aload_n 0, 1) := by decide +kernel
theorem dX7_numberOf_13 : decode cX7_numberOf 13 = .ok (.getfield 52, 3) := by decide +kernel
theorem dX7_numberOf_16 : decode cX7_numberOf 16 = .ok (.sipush 172, 3) := by decide +kernel
theorem dX7_numberOf_19 : decode cX7_numberOf 19 = .ok (.iload_n 1, 1) := by decide +kernel
theorem dX7_numberOf_20 : decode cX7_numberOf 20 = .ok (.imul, 1) := by decide +kernel
theorem dX7_numberOf_21 : decode cX7_numberOf 21 = .ok (.iload 4, 2) := by decide +kernel
theorem dX7_numberOf_23 : decode cX7_numberOf 23 = .ok (.iadd, 1) := by decide +kernel
theorem dX7_numberOf_24 : decode cX7_numberOf 24 = .ok (.baload, 1) := by decide +kernel
theorem dX7_numberOf_25 : decode cX7_numberOf 25 = .ok (.ifCond .eq 7, 3) := by decide +kernel
theorem dX7_numberOf_28 : decode cX7_numberOf 28 = .ok (.iconst 1, 1) := by decide +kernel
theorem dX7_numberOf_29 : decode cX7_numberOf 29 = .ok (.goto 4, 3) := by decide +kernel
theorem dX7_numberOf_32 : decode cX7_numberOf 32 = .ok (.iconst 0, 1) := by decide +kernel
theorem dX7_numberOf_33 : decode cX7_numberOf 33 = .ok (.iadd, 1) := by decide +kernel
theorem dX7_numberOf_34 : decode cX7_numberOf 34 = .ok (.istore_n 3, 1) := by decide +kernel
theorem dX7_numberOf_35 : decode cX7_numberOf 35 = .ok (.iinc 4 1, 3) := by decide +kernel
theorem dX7_numberOf_38 : decode cX7_numberOf 38 = .ok (.goto (-33), 3) := by decide +kernel
theorem dX7_numberOf_41 : decode cX7_numberOf 41 = .ok (.iload_n 3, 1) := by decide +kernel
theorem dX7_numberOf_42 : decode cX7_numberOf 42 = .ok (.ireturn, 1) := by decide +kernel
theorem dX7_findRule_0 : decode cX7_findRule 0 = .ok (.iconst 0, 1) := by decide +kernel
theorem dX7_findRule_1 : decode cX7_findRule 1 = .ok (.istore_n 3, 1) := by decide +kernel
theorem dX7_findRule_2 : decode cX7_findRule 2 = .ok (.iconst 0, 1) := by decide +kernel
theorem dX7_findRule_3 : decode cX7_findRule 3 = .ok (.istore 4, 2) := by decide +kernel
theorem dX7_findRule_5 : decode cX7_findRule 5 = .ok (.iload 4, 2) := by decide +kernel
theorem dX7_findRule_7 : decode cX7_findRule 7 = .ok (.sipush 172, 3) := by decide +kernel
theorem dX7_findRule_10 : decode cX7_findRule 10 = .ok (.if_icmp .ge 103, 3) := by decide +kernel
theorem dX7_findRule_13 : decode cX7_findRule 13 = .ok (.iconst 0, 1) := by decide +kernel
theorem dX7_findRule_14 : decode cX7_findRule 14 = .ok (.istore 5, 2) := by decide +kernel
theorem dX7_findRule_16 : decode cX7_findRule 16 = .ok (.iload 5, 2) := by decide +kernel
theorem dX7_findRule_18 : decode cX7_findRule 18 = .ok (.sipush 172, 3) := by decide +kernel
theorem dX7_findRule_21 : decode cX7_findRule 21 = .ok (.if_icmp .ge 86, 3) := by decide +kernel
theorem dX7_findRule_24 : decode cX7_findRule 24 = .ok (.aload_n 0, 1) := by decide +kernel
theorem dX7_findRule_25 : decode cX7_findRule 25 = .ok (.getfield 52, 3) := by decide +kernel
theorem dX7_findRule_28 : decode cX7_findRule 28 = .ok (.sipush 172, 3) := by decide +kernel
theorem dX7_findRule_31 : decode cX7_findRule 31 = .ok (.iload_n 1, 1) := by decide +kernel
theorem dX7_findRule_32 : decode cX7_findRule 32 = .ok (.imul, 1) := by decide +kernel
theorem dX7_findRule_33 : decode cX7_findRule 33 = .ok (.iload 4, 2) := by decide +kernel
theorem dX7_findRule_35 : decode cX7_findRule 35 = .ok (.iadd, 1) := by decide +kernel
theorem dX7_findRule_36 : decode cX7_findRule 36 = .ok (.baload, 1) := by decide +kernel
theorem dX7_findRule_37 : decode cX7_findRule 37 = .ok (.ifCond .eq 64, 3) := by decide +kernel
theorem dX7_findRule_40 : decode cX7_findRule 40 = .ok (.aload_n 0, 1) := by decide +kernel
theorem dX7_findRule_41 : decode cX7_findRule 41 = .ok (.getfield 52, 3) := by decide +kernel
theorem dX7_findRule_44 : decode cX7_findRule 44 = .ok (.sipush 172, 3) := by decide +kernel
theorem dX7_findRule_47 : decode cX7_findRule 47 = .ok (.iload_n 1, 1) := by decide +kernel
theorem dX7_findRule_48 : decode cX7_findRule 48 = .ok (.imul, 1) := by decide +kernel
theorem dX7_findRule_49 : decode cX7_findRule 49 = .ok (.iload 5, 2) := by decide +kernel
theorem dX7_findRule_51 : decode cX7_findRule 51 = .ok (.iadd, 1) := by decide +kernel
theorem dX7_findRule_52 : decode cX7_findRule 52 = .ok (.baload, 1) := by decide +kernel
theorem dX7_findRule_53 : decode cX7_findRule 53 = .ok (.ifCond .eq 48, 3) := by decide +kernel
theorem dX7_findRule_56 : decode cX7_findRule 56 = .ok (.aload_n 0, 1) := by decide +kernel
theorem dX7_findRule_57 : decode cX7_findRule 57 = .ok (.iload_n 1, 1) := by decide +kernel
theorem dX7_findRule_58 : decode cX7_findRule 58 = .ok (.iload 4, 2) := by decide +kernel
theorem dX7_findRule_60 : decode cX7_findRule 60 = .ok (.iload 5, 2) := by decide +kernel
theorem dX7_findRule_62 : decode cX7_findRule 62 = .ok (.invokevirtual 105, 3) := by decide +kernel
theorem dX7_findRule_65 : decode cX7_findRule 65 = .ok (.aload_n 0, 1) := by decide +kernel
theorem dX7_findRule_66 : decode cX7_findRule 66 = .ok (.getfield 64, 3) := by decide +kernel
theorem dX7_findRule_69 : decode cX7_findRule 69 = .ok (.iload 4, 2) := by decide +kernel
theorem dX7_findRule_71 : decode cX7_findRule 71 = .ok (.if_icmp .ne 12, 3) := by decide +kernel
theorem dX7_findRule_74 : decode cX7_findRule 74 = .ok (.aload_n 0, 1) := by decide +kernel
theorem dX7_findRule_75 : decode cX7_findRule 75 = .ok (.getfield 67, 3) := by decide +kernel
theorem dX7_findRule_78 : decode cX7_findRule 78 = .ok (.iload 5, 2) := by decide +kernel
theorem dX7_findRule_80 : decode cX7_findRule 80 = .ok (.if_icmp .eq 21, 3) := by decide +kernel
theorem dX7_findRule_83 : decode cX7_findRule 83 = .ok (.iload_n 3, 1) := by decide +kernel
theorem dX7_findRule_84 : decode cX7_findRule 84 = .ok (.iload_n 2, 1) := by decide +kernel
theorem dX7_findRule_85 : decode cX7_findRule 85 = .ok (.if_icmp .ne 13, 3) := by decide +kernel
theorem dX7_findRule_88 : decode cX7_findRule 88 = .ok (.sipush 172, 3) := by decide +kernel
theorem dX7_findRule_91 : decode cX7_findRule 91 = .ok (.iload 4, 2) := by decide +kernel
theorem dX7_findRule_93 : decode cX7_findRule 93 = .ok (.imul, 1) := by decide +kernel
theorem dX7_findRule_94 : decode cX7_findRule 94 = .ok (.iload 5, 2) := by decide +kernel
theorem dX7_findRule_96 : decode cX7_findRule 96 = .ok (.iadd, 1) := by decide +kernel
theorem dX7_findRule_97 : decode cX7_findRule 97 = .ok (.ireturn, 1) := by decide +kernel
theorem dX7_findRule_98 : decode cX7_findRule 98 = .ok (.iinc 3 1, 3) := by decide +kernel
theorem dX7_findRule_101 : decode cX7_findRule 101 = .ok (.iinc 5 1, 3) := by decide +kernel
theorem dX7_findRule_104 : decode cX7_findRule 104 = .ok (.goto (-88), 3) := by decide +kernel
theorem dX7_findRule_107 : decode cX7_findRule 107 = .ok (.iinc 4 1, 3) := by decide +kernel
theorem dX7_findRule_110 : decode cX7_findRule 110 = .ok (.goto (-105), 3) := by decide +kernel
theorem dX7_findRule_113 : decode cX7_findRule 113 = .ok (.iload_n 3, 1) := by decide +kernel
theorem dX7_findRule_114 : decode cX7_findRule 114 = .ok (.sipush 30000, 3) := by decide +kernel
theorem dX7_findRule_117 : decode cX7_findRule 117 = .ok (.isub, 1) := by decide +kernel
theorem dX7_findRule_118 : decode cX7_findRule 118 = .ok (.ireturn, 1) := by decide +kernel
theorem dX7_formula_0 : decode cX7_formula 0 = .ok (.iconst 0, 1) := by decide +kernel
theorem dX7_formula_1 : decode cX7_formula 1 = .ok (.istore_n 1, 1) := by decide +kernel
theorem dX7_formula_2 : decode cX7_formula 2 = .ok (.iload_n 1, 1) := by decide +kernel
theorem dX7_formula_3 : decode cX7_formula 3 = .ok (.aload_n 0, 1) := by decide +kernel
theorem dX7_formula_4 : decode cX7_formula 4 = .ok (.getfield 17, 3) := by decide +kernel
theorem dX7_formula_7 : decode cX7_formula 7 = .ok (.if_icmp .ge 141, 3) := by decide +kernel
theorem dX7_formula_10 : decode cX7_formula 10 = .ok (.aload_n 0, 1) := by decide +kernel
theorem dX7_formula_11 : decode cX7_formula 11 = .ok (.getfield 20, 3) := by decide +kernel
theorem dX7_formula_14 : decode cX7_formula 14 = .ok (.iload_n 1, 1) := by decide +kernel
theorem dX7_formula_15 : decode cX7_formula 15 = .ok (.iaload, 1) := by decide +kernel
end
section
theorem dX7_formula_16 : decode cX7_formula 16 = .ok (.ifCond .ne 42, 3) := by decide +kernel
theorem dX7_formula_19 : decode cX7_formula 19 = .ok (.aload_n 0, 1) := by decide +kernel
theorem dX7_formula_20 : decode cX7_formula 20 = .ok (.getfield 29, 3) := by decide +kernel
theorem dX7_formula_23 : decode cX7_formula 23 = .ok (.iload_n 1, 1) := by decide +kernel
theorem dX7_formula_24 : decode cX7_formula 24 = .ok (.aload_n 0, 1) := by decide +kernel
theorem dX7_formula_25 : decode cX7_formula 25 = .ok (.getfield 29, 3) := by decide +kernel
theorem dX7_formula_28 : decode cX7_formula 28 = .ok (.aload_n 0, 1) := by decide +kernel
theorem dX7_formula_29 : decode cX7_formula 29 = .ok (.getfield 23, 3) := by decide +kernel
theorem dX7_formula_32 : decode cX7_formula 32 = .ok (.iload_n 1, 1) := by decide +kernel
theorem dX7_formula_33 : decode cX7_formula 33 = .ok (.iaload, 1) := by decide +kernel
theorem dX7_formula_34 : decode cX7_formula 34 = .ok (.baload, 1) := by decide +kernel
theorem dX7_formula_35 : decode cX7_formula 35 = .ok (.ifCond .eq 21, 3) := by decide +kernel
theorem dX7_formula_38 : decode cX7_formula 38 = .ok (.aload_n 0, 1) := by decide +kernel
theorem dX7_formula_39 : decode cX7_formula 39 = .ok (.getfield 29, 3) := by decide +kernel
theorem dX7_formula_42 : decode cX7_formula 42 = .ok (.aload_n 0, 1) := by decide +kernel
theorem dX7_formula_43 : decode cX7_formula 43 = .ok (.getfield 26, 3) := by decide +kernel
theorem dX7_formula_46 : decode cX7_formula 46 = .ok (.iload_n 1, 1) := by decide +kernel
theorem dX7_formula_47 : decode cX7_formula 47 = .ok (.iaload, 1) := by decide +kernel
theorem dX7_formula_48 : decode cX7_formula 48 = .ok (.baload, 1) := by decide +kernel
theorem dX7_formula_49 : decode cX7_formula 49 = .ok (.ifCond .eq 7, 3) := by decide +kernel
theorem dX7_formula_52 : decode cX7_formula 52 = .ok (.iconst 1, 1) := by decide +kernel
theorem dX7_formula_53 : decode cX7_formula 53 = .ok (.goto 4, 3) := by decide +kernel
theorem dX7_formula_56 : decode cX7_formula 56 = .ok (.iconst 0, 1) := by decide +kernel
theorem dX7_formula_57 : decode cX7_formula 57 = .ok (.bastore, 1) := by decide +kernel
theorem dX7_formula_58 : decode cX7_formula 58 = .ok (.aload_n 0, 1) := by decide +kernel
theorem dX7_formula_59 : decode cX7_formula 59 = .ok (.getfield 20, 3) := by decide +kernel
theorem dX7_formula_62 : decode cX7_formula 62 = .ok (.iload_n 1, 1) := by decide +kernel
theorem dX7_formula_63 : decode cX7_formula 63 = .ok (.iaload, 1) := by decide +kernel
theorem dX7_formula_64 : decode cX7_formula 64 = .ok (.iconst 1, 1) := by decide +kernel
theorem dX7_formula_65 : decode cX7_formula 65 = .ok (.if_icmp .ne 42, 3) := by decide +kernel
theorem dX7_formula_68 : decode cX7_formula 68 = .ok (.aload_n 0, 1) := by decide +kernel
theorem dX7_formula_69 : decode cX7_formula 69 = .ok (.getfield 29, 3) := by decide +kernel
theorem dX7_formula_72 : decode cX7_formula 72 = .ok (.iload_n 1, 1) := by decide +kernel
theorem dX7_formula_73 : decode cX7_formula 73 = .ok (.aload_n 0, 1) := by decide +kernel
theorem dX7_formula_74 : decode cX7_formula 74 = .ok (.getfield 29, 3) := by decide +kernel
theorem dX7_formula_77 : decode cX7_formula 77 = .ok (.aload_n 0, 1) := by decide +kernel
theorem dX7_formula_78 : decode cX7_formula 78 = .ok (.getfield 23, 3) := by decide +kernel
theorem dX7_formula_81 : decode cX7_formula 81 = .ok (.iload_n 1, 1) := by decide +kernel
theorem dX7_formula_82 : decode cX7_formula 82 = .ok (.iaload, 1) := by decide +kernel
theorem dX7_formula_83 : decode cX7_formula 83 = .ok (.baload, 1) := by decide +kernel
theorem dX7_formula_84 : decode cX7_formula 84 = .ok (.ifCond .ne 17, 3) := by decide +kernel
theorem dX7_formula_87 : decode cX7_formula 87 = .ok (.aload_n 0, 1) := by decide +kernel
theorem dX7_formula_88 : decode cX7_formula 88 = .ok (.getfield 29, 3) := by decide +kernel
theorem dX7_formula_91 : decode cX7_formula 91 = .ok (.aload_n 0, 1) := by decide +kernel
theorem dX7_formula_92 : decode cX7_formula 92 = .ok (.getfield 26, 3) := by decide +kernel
theorem dX7_formula_95 : decode cX7_formula 95 = .ok (.iload_n 1, 1) := by decide +kernel
theorem dX7_formula_96 : decode cX7_formula 96 = .ok (.iaload, 1) := by decide +kernel
theorem dX7_formula_97 : decode cX7_formula 97 = .ok (.baload, 1) := by decide +kernel
theorem dX7_formula_98 : decode cX7_formula 98 = .ok (.ifCond .eq 7, 3) := by decide +kernel
theorem dX7_formula_101 : decode cX7_formula 101 = .ok (.iconst 1, 1) := by decide +kernel
theorem dX7_formula_102 : decode cX7_formula 102 = .ok (.goto 4, 3) := by decide +kernel
theorem dX7_formula_105 : decode cX7_formula 105 = .ok (.iconst 0, 1) := by decide +kernel
theorem dX7_formula_106 : decode cX7_formula 106 = .ok (.bastore, 1) := by decide +kernel
theorem dX7_formula_107 : decode cX7_formula 107 = .ok (.aload_n 0, 1) := by decide +kernel
theorem dX7_formula_108 : decode cX7_formula 108 = .ok (.getfield 20, 3) := by decide +kernel
theorem dX7_formula_111 : decode cX7_formula 111 = .ok (.iload_n 1, 1) := by decide +kernel
theorem dX7_formula_112 : decode cX7_formula 112 = .ok (.iaload, 1) := by decide +kernel
theorem dX7_formula_113 : decode cX7_formula 113 = .ok (.iconst 2, 1) := by decide +kernel
theorem dX7_formula_114 : decode cX7_formula 114 = .ok (.if_icmp .ne 28, 3) := by decide +kernel
theorem dX7_formula_117 : decode cX7_formula 117 = .ok (.aload_n 0, 1) := by decide +kernel
theorem dX7_formula_118 : decode cX7_formula 118 = .ok (.getfield 29, 3) := by decide +kernel
theorem dX7_formula_121 : decode cX7_formula 121 = .ok (.iload_n 1, 1) := by decide +kernel
theorem dX7_formula_122 : decode cX7_formula 122 = .ok (.aload_n 0, 1) := by decide +kernel
theorem dX7_formula_123 : decode cX7_formula 123 = .ok (.getfield 29, 3) := by decide +kernel
theorem dX7_formula_126 : decode cX7_formula 126 = .ok (.aload_n 0, 1) := by decide +kernel
theorem dX7_formula_127 : decode cX7_formula 127 = .ok (.getfield 23, 3) := by decide +kernel
theorem dX7_formula_130 : decode cX7_formula 130 = .ok (.iload_n 1, 1) := by decide +kernel
theorem dX7_formula_131 : decode cX7_formula 131 = .ok (.iaload, 1) := by decide +kernel
theorem dX7_formula_132 : decode cX7_formula 132 = .ok (.baload, 1) := by decide +kernel
theorem dX7_formula_133 : decode cX7_formula 133 = .ok (.ifCond .ne 7, 3) := by decide +kernel
theorem dX7_formula_136 : decode cX7_formula 136 = .ok (.iconst 1, 1) := by decide +kernel
theorem dX7_formula_137 : decode cX7_formula 137 = .ok (.goto 4, 3) := by decide +kernel
theorem dX7_formula_140 : decode cX7_formula 140 = .ok (.iconst 0, 1) := by decide +kernel
theorem dX7_formula_141 : decode cX7_formula 141 = .ok (.bastore, 1) := by decide +kernel
theorem dX7_formula_142 : decode cX7_formula 142 = .ok (.iinc 1 1, 3) := by decide +kernel
theorem dX7_formula_145 : decode cX7_formula 145 = .ok (.goto (-143), 3) := by decide +kernel
theorem dX7_formula_148 : decode cX7_formula 148 = .ok (.aload_n 0, 1) := by decide +kernel
theorem dX7_formula_149 : decode cX7_formula 149 = .ok (.getfield 29, 3) := by decide +kernel
theorem dX7_formula_152 : decode cX7_formula 152 = .ok (.aload_n 0, 1) := by decide +kernel
theorem dX7_formula_153 : decode cX7_formula 153 = .ok (.getfield 17, 3) := by decide +kernel
theorem dX7_formula_156 : decode cX7_formula 156 = .ok (.iconst 1, 1) := by decide +kernel
theorem dX7_formula_157 : decode cX7_formula 157 = .ok (.isub, 1) := by decide +kernel
theorem dX7_formula_158 : decode cX7_formula 158 = .ok (.baload, 1) := by decide +kernel
theorem dX7_formula_159 : decode cX7_formula 159 = .ok (.ireturn, 1) := by decide +kernel
theorem dX7_truthNow_0 : decode cX7_truthNow 0 = .ok (.iconst 0, 1) := by decide +kernel
theorem dX7_truthNow_1 : decode cX7_truthNow 1 = .ok (.istore_n 1, 1) := by decide +kernel
theorem dX7_truthNow_2 : decode cX7_truthNow 2 = .ok (.iload_n 1, 1) := by decide +kernel
theorem dX7_truthNow_3 : decode cX7_truthNow 3 = .ok (.aload_n 0, 1) := by decide +kernel
theorem dX7_truthNow_4 : decode cX7_truthNow 4 = .ok (.getfield 17, 3) := by decide +kernel
theorem dX7_truthNow_7 : decode cX7_truthNow 7 = .ok (.if_icmp .ge 128, 3) := by decide +kernel
theorem dX7_truthNow_10 : decode cX7_truthNow 10 = .ok (.aload_n 0, 1) := by decide +kernel
theorem dX7_truthNow_11 : decode cX7_truthNow 11 = .ok (.getfield 20, 3) := by decide +kernel
theorem dX7_truthNow_14 : decode cX7_truthNow 14 = .ok (.iload_n 1, 1) := by decide +kernel
theorem dX7_truthNow_15 : decode cX7_truthNow 15 = .ok (.iaload, 1) := by decide +kernel
theorem dX7_truthNow_16 : decode cX7_truthNow 16 = .ok (.iconst 3, 1) := by decide +kernel
theorem dX7_truthNow_17 : decode cX7_truthNow 17 = .ok (.if_icmp .ne 112, 3) := by decide +kernel
theorem dX7_truthNow_20 : decode cX7_truthNow 20 = .ok (.aload_n 0, 1) := by decide +kernel
theorem dX7_truthNow_21 : decode cX7_truthNow 21 = .ok (.getfield 23, 3) := by decide +kernel
theorem dX7_truthNow_24 : decode cX7_truthNow 24 = .ok (.iload_n 1, 1) := by decide +kernel
theorem dX7_truthNow_25 : decode cX7_truthNow 25 = .ok (.iaload, 1) := by decide +kernel
theorem dX7_truthNow_26 : decode cX7_truthNow 26 = .ok (.istore_n 2, 1) := by decide +kernel
theorem dX7_truthNow_27 : decode cX7_truthNow 27 = .ok (.iconst 0, 1) := by decide +kernel
theorem dX7_truthNow_28 : decode cX7_truthNow 28 = .ok (.istore_n 3, 1) := by decide +kernel
theorem dX7_truthNow_29 : decode cX7_truthNow 29 = .ok (.iconst 0, 1) := by decide +kernel
theorem dX7_truthNow_30 : decode cX7_truthNow 30 = .ok (.istore 4, 2) := by decide +kernel
theorem dX7_truthNow_32 : decode cX7_truthNow 32 = .ok (.iload 4, 2) := by decide +kernel
theorem dX7_truthNow_34 : decode cX7_truthNow 34 = .ok (.bipush 8, 2) := by decide +kernel
theorem dX7_truthNow_36 : decode cX7_truthNow 36 = .ok (.if_icmp .ge 32, 3) := by decide +kernel
theorem dX7_truthNow_39 : decode cX7_truthNow 39 = .ok (.iload_n 3, 1) := by decide +kernel
theorem dX7_truthNow_40 : decode cX7_truthNow 40 = .ok (.aload_n 0, 1) := by decide +kernel
theorem dX7_truthNow_41 : decode cX7_truthNow 41 = .ok (.getfield 36, 3) := by decide +kernel
theorem dX7_truthNow_44 : decode cX7_truthNow 44 = .ok (.bipush 8, 2) := by decide +kernel
theorem dX7_truthNow_46 : decode cX7_truthNow 46 = .ok (.iload_n 2, 1) := by decide +kernel
theorem dX7_truthNow_47 : decode cX7_truthNow 47 = .ok (.imul, 1) := by decide +kernel
theorem dX7_truthNow_48 : decode cX7_truthNow 48 = .ok (.iload 4, 2) := by decide +kernel
theorem dX7_truthNow_50 : decode cX7_truthNow 50 = .ok (.iadd, 1) := by decide +kernel
theorem dX7_truthNow_51 : decode cX7_truthNow 51 = .ok (.iaload, 1) := by decide +kernel
theorem dX7_truthNow_52 : decode cX7_truthNow 52 = .ok (.aload_n 0, 1) := by decide +kernel
theorem dX7_truthNow_53 : decode cX7_truthNow 53 = .ok (.getfield 61, 3) := by decide +kernel
theorem dX7_truthNow_56 : decode cX7_truthNow 56 = .ok (.iload 4, 2) := by decide +kernel
theorem dX7_truthNow_58 : decode cX7_truthNow 58 = .ok (.iaload, 1) := by decide +kernel
theorem dX7_truthNow_59 : decode cX7_truthNow 59 = .ok (.imul, 1) := by decide +kernel
theorem dX7_truthNow_60 : decode cX7_truthNow 60 = .ok (.iadd, 1) := by decide +kernel
theorem dX7_truthNow_61 : decode cX7_truthNow 61 = .ok (.istore_n 3, 1) := by decide +kernel
theorem dX7_truthNow_62 : decode cX7_truthNow 62 = .ok (.iinc 4 1, 3) := by decide +kernel
theorem dX7_truthNow_65 : decode cX7_truthNow 65 = .ok (.goto (-33), 3) := by decide +kernel
theorem dX7_truthNow_68 : decode cX7_truthNow 68 = .ok (.aload_n 0, 1) := by decide +kernel
theorem dX7_truthNow_69 : decode cX7_truthNow 69 = .ok (.getfield 42, 3) := by decide +kernel
theorem dX7_truthNow_72 : decode cX7_truthNow 72 = .ok (.iload_n 2, 1) := by decide +kernel
theorem dX7_truthNow_73 : decode cX7_truthNow 73 = .ok (.iaload, 1) := by decide +kernel
theorem dX7_truthNow_74 : decode cX7_truthNow 74 = .ok (.istore 4, 2) := by decide +kernel
theorem dX7_truthNow_76 : decode cX7_truthNow 76 = .ok (.aload_n 0, 1) := by decide +kernel
theorem dX7_truthNow_77 : decode cX7_truthNow 77 = .ok (.getfield 29, 3) := by decide +kernel
theorem dX7_truthNow_80 : decode cX7_truthNow 80 = .ok (.iload_n 1, 1) := by decide +kernel
theorem dX7_truthNow_81 : decode cX7_truthNow 81 = .ok (.iload 4, 2) := by decide +kernel
theorem dX7_truthNow_83 : decode cX7_truthNow 83 = .ok (.ifCond .ne 21, 3) := by decide +kernel
theorem dX7_truthNow_86 : decode cX7_truthNow 86 = .ok (.iload_n 3, 1) := by decide +kernel
theorem dX7_truthNow_87 : decode cX7_truthNow 87 = .ok (.aload_n 0, 1) := by decide +kernel
theorem dX7_truthNow_88 : decode cX7_truthNow 88 = .ok (.getfield 45, 3) := by decide +kernel
theorem dX7_truthNow_91 : decode cX7_truthNow 91 = .ok (.iload_n 2, 1) := by decide +kernel
theorem dX7_truthNow_92 : decode cX7_truthNow 92 = .ok (.iaload, 1) := by decide +kernel
theorem dX7_truthNow_93 : decode cX7_truthNow 93 = .ok (.if_icmp .lt 7, 3) := by decide +kernel
theorem dX7_truthNow_96 : decode cX7_truthNow 96 = .ok (.iconst 1, 1) := by decide +kernel
theorem dX7_truthNow_97 : decode cX7_truthNow 97 = .ok (.goto 31, 3) := by decide +kernel
theorem dX7_truthNow_100 : decode cX7_truthNow 100 = .ok (.iconst 0, 1) := by decide +kernel
theorem dX7_truthNow_101 : decode cX7_truthNow 101 = .ok (.goto 27, 3) := by decide +kernel
theorem dX7_truthNow_104 : decode cX7_truthNow 104 = .ok (.iload_n 3, 1) := by decide +kernel
theorem dX7_truthNow_105 : decode cX7_truthNow 105 = .ok (.iload 4, 2) := by decide +kernel
theorem dX7_truthNow_107 : decode cX7_truthNow 107 = .ok (.irem, 1) := by decide +kernel
theorem dX7_truthNow_108 : decode cX7_truthNow 108 = .ok (.iload 4, 2) := by decide +kernel
theorem dX7_truthNow_110 : decode cX7_truthNow 110 = .ok (.iadd, 1) := by decide +kernel
theorem dX7_truthNow_111 : decode cX7_truthNow 111 = .ok (.iload 4, 2) := by decide +kernel
theorem dX7_truthNow_113 : decode cX7_truthNow 113 = .ok (.irem, 1) := by decide +kernel
theorem dX7_truthNow_114 : decode cX7_truthNow 114 = .ok (.aload_n 0, 1) := by decide +kernel
theorem dX7_truthNow_115 : decode cX7_truthNow 115 = .ok (.getfield 45, 3) := by decide +kernel
theorem dX7_truthNow_118 : decode cX7_truthNow 118 = .ok (.iload_n 2, 1) := by decide +kernel
theorem dX7_truthNow_119 : decode cX7_truthNow 119 = .ok (.iaload, 1) := by decide +kernel
theorem dX7_truthNow_120 : decode cX7_truthNow 120 = .ok (.if_icmp .ne 7, 3) := by decide +kernel
theorem dX7_truthNow_123 : decode cX7_truthNow 123 = .ok (.iconst 1, 1) := by decide +kernel
theorem dX7_truthNow_124 : decode cX7_truthNow 124 = .ok (.goto 4, 3) := by decide +kernel
theorem dX7_truthNow_127 : decode cX7_truthNow 127 = .ok (.iconst 0, 1) := by decide +kernel
theorem dX7_truthNow_128 : decode cX7_truthNow 128 = .ok (.bastore, 1) := by decide +kernel
theorem dX7_truthNow_129 : decode cX7_truthNow 129 = .ok (.iinc 1 1, 3) := by decide +kernel
theorem dX7_truthNow_132 : decode cX7_truthNow 132 = .ok (.goto (-130), 3) := by decide +kernel
theorem dX7_truthNow_135 : decode cX7_truthNow 135 = .ok (.aload_n 0, 1) := by decide +kernel
theorem dX7_truthNow_136 : decode cX7_truthNow 136 = .ok (.invokevirtual 109, 3) := by decide +kernel
theorem dX7_truthNow_139 : decode cX7_truthNow 139 = .ok (.ireturn, 1) := by decide +kernel
theorem dX7_outputOf_0 : decode cX7_outputOf 0 = .ok (.iconst 0, 1) := by decide +kernel
theorem dX7_outputOf_1 : decode cX7_outputOf 1 = .ok (.istore_n 2, 1) := by decide +kernel
theorem dX7_outputOf_2 : decode cX7_outputOf 2 = .ok (.iload_n 2, 1) := by decide +kernel
theorem dX7_outputOf_3 : decode cX7_outputOf 3 = .ok (.aload_n 0, 1) := by decide +kernel
theorem dX7_outputOf_4 : decode cX7_outputOf 4 = .ok (.getfield 17, 3) := by decide +kernel
theorem dX7_outputOf_7 : decode cX7_outputOf 7 = .ok (.if_icmp .ge 51, 3) := by decide +kernel
theorem dX7_outputOf_10 : decode cX7_outputOf 10 = .ok (.aload_n 0, 1) := by decide +kernel
theorem dX7_outputOf_11 : decode cX7_outputOf 11 = .ok (.getfield 20, 3) := by decide +kernel
theorem dX7_outputOf_14 : decode cX7_outputOf 14 = .ok (.iload_n 2, 1) := by decide +kernel
theorem dX7_outputOf_15 : decode cX7_outputOf 15 = .ok (.iaload, 1) := by decide +kernel
theorem dX7_outputOf_16 : decode cX7_outputOf 16 = .ok (.iconst 3, 1) := by decide +kernel
theorem dX7_outputOf_17 : decode cX7_outputOf 17 = .ok (.if_icmp .ne 35, 3) := by decide +kernel
theorem dX7_outputOf_20 : decode cX7_outputOf 20 = .ok (.aload_n 0, 1) := by decide +kernel
theorem dX7_outputOf_21 : decode cX7_outputOf 21 = .ok (.getfield 29, 3) := by decide +kernel
theorem dX7_outputOf_24 : decode cX7_outputOf 24 = .ok (.iload_n 2, 1) := by decide +kernel
theorem dX7_outputOf_25 : decode cX7_outputOf 25 = .ok (.aload_n 0, 1) := by decide +kernel
theorem dX7_outputOf_26 : decode cX7_outputOf 26 = .ok (.getfield 58, 3) := by decide +kernel
theorem dX7_outputOf_29 : decode cX7_outputOf 29 = .ok (.iconst 5, 1) := by decide +kernel
theorem dX7_outputOf_30 : decode cX7_outputOf 30 = .ok (.iload_n 1, 1) := by decide +kernel
theorem dX7_outputOf_31 : decode cX7_outputOf 31 = .ok (.imul, 1) := by decide +kernel
theorem dX7_outputOf_32 : decode cX7_outputOf 32 = .ok (.aload_n 0, 1) := by decide +kernel
theorem dX7_outputOf_33 : decode cX7_outputOf 33 = .ok (.getfield 23, 3) := by decide +kernel
theorem dX7_outputOf_36 : decode cX7_outputOf 36 = .ok (.iload_n 2, 1) := by decide +kernel
theorem dX7_outputOf_37 : decode cX7_outputOf 37 = .ok (.iaload, 1) := by decide +kernel
theorem dX7_outputOf_38 : decode cX7_outputOf 38 = .ok (.iadd, 1) := by decide +kernel
theorem dX7_outputOf_39 : decode cX7_outputOf 39 = .ok (.iaload, 1) := by decide +kernel
theorem dX7_outputOf_40 : decode cX7_outputOf 40 = .ok (.iconst 1, 1) := by decide +kernel
theorem dX7_outputOf_41 : decode cX7_outputOf 41 = .ok (.iand, 1) := by decide +kernel
theorem dX7_outputOf_42 : decode cX7_outputOf 42 = .ok (.iconst 1, 1) := by decide +kernel
theorem dX7_outputOf_43 : decode cX7_outputOf 43 = .ok (.if_icmp .ne 7, 3) := by decide +kernel
theorem dX7_outputOf_46 : decode cX7_outputOf 46 = .ok (.iconst 1, 1) := by decide +kernel
theorem dX7_outputOf_47 : decode cX7_outputOf 47 = .ok (.goto 4, 3) := by decide +kernel
theorem dX7_outputOf_50 : decode cX7_outputOf 50 = .ok (.iconst 0, 1) := by decide +kernel
theorem dX7_outputOf_51 : decode cX7_outputOf 51 = .ok (.bastore, 1) := by decide +kernel
theorem dX7_outputOf_52 : decode cX7_outputOf 52 = .ok (.iinc 2 1, 3) := by decide +kernel
theorem dX7_outputOf_55 : decode cX7_outputOf 55 = .ok (.goto (-53), 3) := by decide +kernel
theorem dX7_outputOf_58 : decode cX7_outputOf 58 = .ok (.aload_n 0, 1) := by decide +kernel
theorem dX7_outputOf_59 : decode cX7_outputOf 59 = .ok (.invokevirtual 109, 3) := by decide +kernel
theorem dX7_outputOf_62 : decode cX7_outputOf 62 = .ok (.ireturn, 1) := by decide +kernel
theorem dX7_meets_0 : decode cX7_meets 0 = .ok (.iconst 0, 1) := by decide +kernel
theorem dX7_meets_1 : decode cX7_meets 1 = .ok (.istore 4, 2) := by decide +kernel
theorem dX7_meets_3 : decode cX7_meets 3 = .ok (.iconst 0, 1) := by decide +kernel
theorem dX7_meets_4 : decode cX7_meets 4 = .ok (.istore 5, 2) := by decide +kernel
theorem dX7_meets_6 : decode cX7_meets 6 = .ok (.iload 5, 2) := by decide +kernel
theorem dX7_meets_8 : decode cX7_meets 8 = .ok (.aload_n 0, 1) := by decide +kernel
theorem dX7_meets_9 : decode cX7_meets 9 = .ok (.getfield 33, 3) := by decide +kernel
theorem dX7_meets_12 : decode cX7_meets 12 = .ok (.if_icmp .ge 110, 3) := by decide +kernel
theorem dX7_meets_15 : decode cX7_meets 15 = .ok (.aload_n 0, 1) := by decide +kernel
theorem dX7_meets_16 : decode cX7_meets 16 = .ok (.iload 5, 2) := by decide +kernel
theorem dX7_meets_18 : decode cX7_meets 18 = .ok (.aload_n 0, 1) := by decide +kernel
theorem dX7_meets_19 : decode cX7_meets 19 = .ok (.getfield 58, 3) := by decide +kernel
theorem dX7_meets_22 : decode cX7_meets 22 = .ok (.iconst 5, 1) := by decide +kernel
theorem dX7_meets_23 : decode cX7_meets 23 = .ok (.iload_n 1, 1) := by decide +kernel
theorem dX7_meets_24 : decode cX7_meets 24 = .ok (.imul, 1) := by decide +kernel
theorem dX7_meets_25 : decode cX7_meets 25 = .ok (.iload 5, 2) := by decide +kernel
theorem dX7_meets_27 : decode cX7_meets 27 = .ok (.iadd, 1) := by decide +kernel
theorem dX7_meets_28 : decode cX7_meets 28 = .ok (.iaload, 1) := by decide +kernel
theorem dX7_meets_29 : decode cX7_meets 29 = .ok (.aload_n 0, 1) := by decide +kernel
theorem dX7_meets_30 : decode cX7_meets 30 = .ok (.getfield 58, 3) := by decide +kernel
theorem dX7_meets_33 : decode cX7_meets 33 = .ok (.iconst 5, 1) := by decide +kernel
theorem dX7_meets_34 : decode cX7_meets 34 = .ok (.iload_n 2, 1) := by decide +kernel
theorem dX7_meets_35 : decode cX7_meets 35 = .ok (.imul, 1) := by decide +kernel
theorem dX7_meets_36 : decode cX7_meets 36 = .ok (.iload 5, 2) := by decide +kernel
theorem dX7_meets_38 : decode cX7_meets 38 = .ok (.iadd, 1) := by decide +kernel
theorem dX7_meets_39 : decode cX7_meets 39 = .ok (.iaload, 1) := by decide +kernel
theorem dX7_meets_40 : decode cX7_meets 40 = .ok (.invokevirtual 105, 3) := by decide +kernel
theorem dX7_meets_43 : decode cX7_meets 43 = .ok (.aload_n 0, 1) := by decide +kernel
theorem dX7_meets_44 : decode cX7_meets 44 = .ok (.getfield 64, 3) := by decide +kernel
theorem dX7_meets_47 : decode cX7_meets 47 = .ok (.aload_n 0, 1) := by decide +kernel
theorem dX7_meets_48 : decode cX7_meets 48 = .ok (.getfield 58, 3) := by decide +kernel
theorem dX7_meets_51 : decode cX7_meets 51 = .ok (.iconst 5, 1) := by decide +kernel
theorem dX7_meets_52 : decode cX7_meets 52 = .ok (.iload_n 1, 1) := by decide +kernel
theorem dX7_meets_53 : decode cX7_meets 53 = .ok (.imul, 1) := by decide +kernel
theorem dX7_meets_54 : decode cX7_meets 54 = .ok (.iload 5, 2) := by decide +kernel
theorem dX7_meets_56 : decode cX7_meets 56 = .ok (.iadd, 1) := by decide +kernel
theorem dX7_meets_57 : decode cX7_meets 57 = .ok (.iaload, 1) := by decide +kernel
theorem dX7_meets_58 : decode cX7_meets 58 = .ok (.if_icmp .ne 21, 3) := by decide +kernel
theorem dX7_meets_61 : decode cX7_meets 61 = .ok (.aload_n 0, 1) := by decide +kernel
theorem dX7_meets_62 : decode cX7_meets 62 = .ok (.getfield 67, 3) := by decide +kernel
theorem dX7_meets_65 : decode cX7_meets 65 = .ok (.aload_n 0, 1) := by decide +kernel
theorem dX7_meets_66 : decode cX7_meets 66 = .ok (.getfield 58, 3) := by decide +kernel
theorem dX7_meets_69 : decode cX7_meets 69 = .ok (.iconst 5, 1) := by decide +kernel
theorem dX7_meets_70 : decode cX7_meets 70 = .ok (.iload_n 2, 1) := by decide +kernel
theorem dX7_meets_71 : decode cX7_meets 71 = .ok (.imul, 1) := by decide +kernel
theorem dX7_meets_72 : decode cX7_meets 72 = .ok (.iload 5, 2) := by decide +kernel
theorem dX7_meets_74 : decode cX7_meets 74 = .ok (.iadd, 1) := by decide +kernel
theorem dX7_meets_75 : decode cX7_meets 75 = .ok (.iaload, 1) := by decide +kernel
theorem dX7_meets_76 : decode cX7_meets 76 = .ok (.if_icmp .eq 6, 3) := by decide +kernel
theorem dX7_meets_79 : decode cX7_meets 79 = .ok (.iconst 1, 1) := by decide +kernel
theorem dX7_meets_80 : decode cX7_meets 80 = .ok (.istore 4, 2) := by decide +kernel
theorem dX7_meets_82 : decode cX7_meets 82 = .ok (.iload_n 3, 1) := by decide +kernel
theorem dX7_meets_83 : decode cX7_meets 83 = .ok (.ifCond .eq 33, 3) := by decide +kernel
theorem dX7_meets_86 : decode cX7_meets 86 = .ok (.aload_n 0, 1) := by decide +kernel
theorem dX7_meets_87 : decode cX7_meets 87 = .ok (.getfield 58, 3) := by decide +kernel
theorem dX7_meets_90 : decode cX7_meets 90 = .ok (.iconst 5, 1) := by decide +kernel
theorem dX7_meets_91 : decode cX7_meets 91 = .ok (.iload_n 1, 1) := by decide +kernel
theorem dX7_meets_92 : decode cX7_meets 92 = .ok (.imul, 1) := by decide +kernel
theorem dX7_meets_93 : decode cX7_meets 93 = .ok (.iload 5, 2) := by decide +kernel
theorem dX7_meets_95 : decode cX7_meets 95 = .ok (.iadd, 1) := by decide +kernel
theorem dX7_meets_96 : decode cX7_meets 96 = .ok (.aload_n 0, 1) := by decide +kernel
theorem dX7_meets_97 : decode cX7_meets 97 = .ok (.getfield 64, 3) := by decide +kernel
theorem dX7_meets_100 : decode cX7_meets 100 = .ok (.iastore, 1) := by decide +kernel
theorem dX7_meets_101 : decode cX7_meets 101 = .ok (.aload_n 0, 1) := by decide +kernel
theorem dX7_meets_102 : decode cX7_meets 102 = .ok (.getfield 58, 3) := by decide +kernel
theorem dX7_meets_105 : decode cX7_meets 105 = .ok (.iconst 5, 1) := by decide +kernel
theorem dX7_meets_106 : decode cX7_meets 106 = .ok (.iload_n 2, 1) := by decide +kernel
theorem dX7_meets_107 : decode cX7_meets 107 = .ok (.imul, 1) := by decide +kernel
theorem dX7_meets_108 : decode cX7_meets 108 = .ok (.iload 5, 2) := by decide +kernel
theorem dX7_meets_110 : decode cX7_meets 110 = .ok (.iadd, 1) := by decide +kernel
theorem dX7_meets_111 : decode cX7_meets 111 = .ok (.aload_n 0, 1) := by decide +kernel
theorem dX7_meets_112 : decode cX7_meets 112 = .ok (.getfield 67, 3) := by decide +kernel
theorem dX7_meets_115 : decode cX7_meets 115 = .ok (.iastore, 1) := by decide +kernel
theorem dX7_meets_116 : decode cX7_meets 116 = .ok (.iinc 5 1, 3) := by decide +kernel
theorem dX7_meets_119 : decode cX7_meets 119 = .ok (.goto (-113), 3) := by decide +kernel
theorem dX7_meets_122 : decode cX7_meets 122 = .ok (.iload 4, 2) := by decide +kernel
theorem dX7_meets_124 : decode cX7_meets 124 = .ok (.ifCond .eq 12, 3) := by decide +kernel
theorem dX7_meets_127 : decode cX7_meets 127 = .ok (.iload_n 3, 1) := by decide +kernel
theorem dX7_meets_128 : decode cX7_meets 128 = .ok (.ifCond .eq 8, 3) := by decide +kernel
theorem dX7_meets_131 : decode cX7_meets 131 = .ok (.aload_n 0, 1) := by decide +kernel
theorem dX7_meets_132 : decode cX7_meets 132 = .ok (.iconst 0, 1) := by decide +kernel
theorem dX7_meets_133 : decode cX7_meets 133 = .ok (.putfield 83, 3) := by decide +kernel
theorem dX7_meets_136 : decode cX7_meets 136 = .ok (.iload 4, 2) := by decide +kernel
theorem dX7_meets_138 : decode cX7_meets 138 = .ok (.ireturn, 1) := by decide +kernel
theorem dX7_stateIn_0 : decode cX7_stateIn 0 = .ok (.lload_n 0, 1) := by decide +kernel
theorem dX7_stateIn_1 : decode cX7_stateIn 1 = .ok (.bipush 8, 2) := by decide +kernel
theorem dX7_stateIn_3 : decode cX7_stateIn 3 = .ok (.iload_n 2, 1) := by decide +kernel
theorem dX7_stateIn_4 : decode cX7_stateIn 4 = .ok (.imul, 1) := by decide +kernel
theorem dX7_stateIn_5 : decode cX7_stateIn 5 = .ok (.lshr, 1) := by decide +kernel
theorem dX7_stateIn_6 : decode cX7_stateIn 6 = .ok (.l2i, 1) := by decide +kernel
theorem dX7_stateIn_7 : decode cX7_stateIn 7 = .ok (.sipush 255, 3) := by decide +kernel
theorem dX7_stateIn_10 : decode cX7_stateIn 10 = .ok (.iand, 1) := by decide +kernel
theorem dX7_stateIn_11 : decode cX7_stateIn 11 = .ok (.ireturn, 1) := by decide +kernel
theorem dX7_sort_0 : decode cX7_sort 0 = .ok (.iconst 1, 1) := by decide +kernel
theorem dX7_sort_1 : decode cX7_sort 1 = .ok (.istore_n 1, 1) := by decide +kernel
theorem dX7_sort_2 : decode cX7_sort 2 = .ok (.iload_n 1, 1) := by decide +kernel
theorem dX7_sort_3 : decode cX7_sort 3 = .ok (.aload_n 0, 1) := by decide +kernel
theorem dX7_sort_4 : decode cX7_sort 4 = .ok (.getfield 55, 3) := by decide +kernel
theorem dX7_sort_7 : decode cX7_sort 7 = .ok (.if_icmp .ge 69, 3) := by decide +kernel
theorem dX7_sort_10 : decode cX7_sort 10 = .ok (.iload_n 1, 1) := by decide +kernel
theorem dX7_sort_11 : decode cX7_sort 11 = .ok (.istore_n 2, 1) := by decide +kernel
theorem dX7_sort_12 : decode cX7_sort 12 = .ok (.iload_n 2, 1) := by decide +kernel
theorem dX7_sort_13 : decode cX7_sort 13 = .ok (.ifCond .le 57, 3) := by decide +kernel
theorem dX7_sort_16 : decode cX7_sort 16 = .ok (.aload_n 0, 1) := by decide +kernel
theorem dX7_sort_17 : decode cX7_sort 17 = .ok (.getfield 86, 3) := by decide +kernel
theorem dX7_sort_20 : decode cX7_sort 20 = .ok (.iload_n 2, 1) := by decide +kernel
theorem dX7_sort_21 : decode cX7_sort 21 = .ok (.laload, 1) := by decide +kernel
theorem dX7_sort_22 : decode cX7_sort 22 = .ok (.aload_n 0, 1) := by decide +kernel
theorem dX7_sort_23 : decode cX7_sort 23 = .ok (.getfield 86, 3) := by decide +kernel
theorem dX7_sort_26 : decode cX7_sort 26 = .ok (.iload_n 2, 1) := by decide +kernel
theorem dX7_sort_27 : decode cX7_sort 27 = .ok (.iconst 1, 1) := by decide +kernel
theorem dX7_sort_28 : decode cX7_sort 28 = .ok (.isub, 1) := by decide +kernel
theorem dX7_sort_29 : decode cX7_sort 29 = .ok (.laload, 1) := by decide +kernel
theorem dX7_sort_30 : decode cX7_sort 30 = .ok (.lcmp, 1) := by decide +kernel
theorem dX7_sort_31 : decode cX7_sort 31 = .ok (.ifCond .ge 39, 3) := by decide +kernel
theorem dX7_sort_34 : decode cX7_sort 34 = .ok (.aload_n 0, 1) := by decide +kernel
theorem dX7_sort_35 : decode cX7_sort 35 = .ok (.getfield 86, 3) := by decide +kernel
theorem dX7_sort_38 : decode cX7_sort 38 = .ok (.iload_n 2, 1) := by decide +kernel
theorem dX7_sort_39 : decode cX7_sort 39 = .ok (.laload, 1) := by decide +kernel
theorem dX7_sort_40 : decode cX7_sort 40 = .ok (.lstore_n 3, 1) := by decide +kernel
theorem dX7_sort_41 : decode cX7_sort 41 = .ok (.aload_n 0, 1) := by decide +kernel
theorem dX7_sort_42 : decode cX7_sort 42 = .ok (.getfield 86, 3) := by decide +kernel
theorem dX7_sort_45 : decode cX7_sort 45 = .ok (.iload_n 2, 1) := by decide +kernel
theorem dX7_sort_46 : decode cX7_sort 46 = .ok (.aload_n 0, 1) := by decide +kernel
theorem dX7_sort_47 : decode cX7_sort 47 = .ok (.getfield 86, 3) := by decide +kernel
theorem dX7_sort_50 : decode cX7_sort 50 = .ok (.iload_n 2, 1) := by decide +kernel
theorem dX7_sort_51 : decode cX7_sort 51 = .ok (.iconst 1, 1) := by decide +kernel
theorem dX7_sort_52 : decode cX7_sort 52 = .ok (.isub, 1) := by decide +kernel
theorem dX7_sort_53 : decode cX7_sort 53 = .ok (.laload, 1) := by decide +kernel
theorem dX7_sort_54 : decode cX7_sort 54 = .ok (.lastore, 1) := by decide +kernel
theorem dX7_sort_55 : decode cX7_sort 55 = .ok (.aload_n 0, 1) := by decide +kernel
theorem dX7_sort_56 : decode cX7_sort 56 = .ok (.getfield 86, 3) := by decide +kernel
theorem dX7_sort_59 : decode cX7_sort 59 = .ok (.iload_n 2, 1) := by decide +kernel
theorem dX7_sort_60 : decode cX7_sort 60 = .ok (.iconst 1, 1) := by decide +kernel
theorem dX7_sort_61 : decode cX7_sort 61 = .ok (.isub, 1) := by decide +kernel
theorem dX7_sort_62 : decode cX7_sort 62 = .ok (.lload_n 3, 1) := by decide +kernel
theorem dX7_sort_63 : decode cX7_sort 63 = .ok (.lastore, 1) := by decide +kernel
theorem dX7_sort_64 : decode cX7_sort 64 = .ok (.iinc 2 (-1), 3) := by decide +kernel
theorem dX7_sort_67 : decode cX7_sort 67 = .ok (.goto (-55), 3) := by decide +kernel
theorem dX7_sort_70 : decode cX7_sort 70 = .ok (.iinc 1 1, 3) := by decide +kernel
theorem dX7_sort_73 : decode cX7_sort 73 = .ok (.goto (-71), 3) := by decide +kernel
theorem dX7_sort_76 : decode cX7_sort 76 = .ok (.return_, 1) := by decide +kernel
theorem dX7_after_0 : decode cX7_after 0 = .ok (.iconst 0, 1) := by decide +kernel
theorem dX7_after_1 : decode cX7_after 1 = .ok (.istore 4, 2) := by decide +kernel
theorem dX7_after_3 : decode cX7_after 3 = .ok (.iload 4, 2) := by decide +kernel
theorem dX7_after_5 : decode cX7_after 5 = .ok (.aload_n 0, 1) := by decide +kernel
theorem dX7_after_6 : decode cX7_after 6 = .ok (.getfield 55, 3) := by decide +kernel
theorem dX7_after_9 : decode cX7_after 9 = .ok (.if_icmp .ge 28, 3) := by decide +kernel
theorem dX7_after_12 : decode cX7_after 12 = .ok (.aload_n 0, 1) := by decide +kernel
theorem dX7_after_13 : decode cX7_after 13 = .ok (.getfield 86, 3) := by decide +kernel
theorem dX7_after_16 : decode cX7_after 16 = .ok (.iload 4, 2) := by decide +kernel
theorem dX7_after_18 : decode cX7_after 18 = .ok (.aload_n 0, 1) := by decide +kernel
theorem dX7_after_19 : decode cX7_after 19 = .ok (.getfield 73, 3) := by decide +kernel
theorem dX7_after_22 : decode cX7_after 22 = .ok (.bipush 6, 2) := by decide +kernel
theorem dX7_after_24 : decode cX7_after 24 = .ok (.iload_n 1, 1) := by decide +kernel
theorem dX7_after_25 : decode cX7_after 25 = .ok (.imul, 1) := by decide +kernel
theorem dX7_after_26 : decode cX7_after 26 = .ok (.iload 4, 2) := by decide +kernel
theorem dX7_after_28 : decode cX7_after 28 = .ok (.iadd, 1) := by decide +kernel
theorem dX7_after_29 : decode cX7_after 29 = .ok (.laload, 1) := by decide +kernel
theorem dX7_after_30 : decode cX7_after 30 = .ok (.lastore, 1) := by decide +kernel
theorem dX7_after_31 : decode cX7_after 31 = .ok (.iinc 4 1, 3) := by decide +kernel
theorem dX7_after_34 : decode cX7_after 34 = .ok (.goto (-31), 3) := by decide +kernel
theorem dX7_after_37 : decode cX7_after 37 = .ok (.aload_n 0, 1) := by decide +kernel
theorem dX7_after_38 : decode cX7_after 38 = .ok (.getfield 86, 3) := by decide +kernel
theorem dX7_after_41 : decode cX7_after 41 = .ok (.iload_n 2, 1) := by decide +kernel
theorem dX7_after_42 : decode cX7_after 42 = .ok (.laload, 1) := by decide +kernel
theorem dX7_after_43 : decode cX7_after 43 = .ok (.lstore 4, 2) := by decide +kernel
theorem dX7_after_45 : decode cX7_after 45 = .ok (.aload_n 0, 1) := by decide +kernel
theorem dX7_after_46 : decode cX7_after 46 = .ok (.getfield 86, 3) := by decide +kernel
theorem dX7_after_49 : decode cX7_after 49 = .ok (.iload_n 3, 1) := by decide +kernel
theorem dX7_after_50 : decode cX7_after 50 = .ok (.laload, 1) := by decide +kernel
theorem dX7_after_51 : decode cX7_after 51 = .ok (.lstore 6, 2) := by decide +kernel
theorem dX7_after_53 : decode cX7_after 53 = .ok (.aload_n 0, 1) := by decide +kernel
theorem dX7_after_54 : decode cX7_after 54 = .ok (.getfield 86, 3) := by decide +kernel
theorem dX7_after_57 : decode cX7_after 57 = .ok (.iload_n 2, 1) := by decide +kernel
theorem dX7_after_58 : decode cX7_after 58 = .ok (.lconst 0, 1) := by decide +kernel
theorem dX7_after_59 : decode cX7_after 59 = .ok (.lastore, 1) := by decide +kernel
theorem dX7_after_60 : decode cX7_after 60 = .ok (.aload_n 0, 1) := by decide +kernel
theorem dX7_after_61 : decode cX7_after 61 = .ok (.getfield 86, 3) := by decide +kernel
theorem dX7_after_64 : decode cX7_after 64 = .ok (.iload_n 3, 1) := by decide +kernel
theorem dX7_after_65 : decode cX7_after 65 = .ok (.lconst 0, 1) := by decide +kernel
theorem dX7_after_66 : decode cX7_after 66 = .ok (.lastore, 1) := by decide +kernel
theorem dX7_after_67 : decode cX7_after 67 = .ok (.iconst 0, 1) := by decide +kernel
theorem dX7_after_68 : decode cX7_after 68 = .ok (.istore 8, 2) := by decide +kernel
theorem dX7_after_70 : decode cX7_after 70 = .ok (.iload 8, 2) := by decide +kernel
theorem dX7_after_72 : decode cX7_after 72 = .ok (.aload_n 0, 1) := by decide +kernel
theorem dX7_after_73 : decode cX7_after 73 = .ok (.getfield 33, 3) := by decide +kernel
theorem dX7_after_76 : decode cX7_after 76 = .ok (.if_icmp .ge 77, 3) := by decide +kernel
theorem dX7_after_79 : decode cX7_after 79 = .ok (.aload_n 0, 1) := by decide +kernel
theorem dX7_after_80 : decode cX7_after 80 = .ok (.iload 8, 2) := by decide +kernel
theorem dX7_after_82 : decode cX7_after 82 = .ok (.lload 4, 2) := by decide +kernel
theorem dX7_after_84 : decode cX7_after 84 = .ok (.iload 8, 2) := by decide +kernel
theorem dX7_after_86 : decode cX7_after 86 = .ok (.invokestatic 113, 3) := by decide +kernel
theorem dX7_after_89 : decode cX7_after 89 = .ok (.lload 6, 2) := by decide +kernel
theorem dX7_after_91 : decode cX7_after 91 = .ok (.iload 8, 2) := by decide +kernel
theorem dX7_after_93 : decode cX7_after 93 = .ok (.invokestatic 113, 3) := by decide +kernel
theorem dX7_after_96 : decode cX7_after 96 = .ok (.invokevirtual 105, 3) := by decide +kernel
theorem dX7_after_99 : decode cX7_after 99 = .ok (.aload_n 0, 1) := by decide +kernel
theorem dX7_after_100 : decode cX7_after 100 = .ok (.getfield 86, 3) := by decide +kernel
theorem dX7_after_103 : decode cX7_after 103 = .ok (.iload_n 2, 1) := by decide +kernel
theorem dX7_after_104 : decode cX7_after 104 = .ok (.aload_n 0, 1) := by decide +kernel
theorem dX7_after_105 : decode cX7_after 105 = .ok (.getfield 86, 3) := by decide +kernel
theorem dX7_after_108 : decode cX7_after 108 = .ok (.iload_n 2, 1) := by decide +kernel
theorem dX7_after_109 : decode cX7_after 109 = .ok (.laload, 1) := by decide +kernel
theorem dX7_after_110 : decode cX7_after 110 = .ok (.aload_n 0, 1) := by decide +kernel
theorem dX7_after_111 : decode cX7_after 111 = .ok (.getfield 64, 3) := by decide +kernel
theorem dX7_after_114 : decode cX7_after 114 = .ok (.i2l, 1) := by decide +kernel
theorem dX7_after_115 : decode cX7_after 115 = .ok (.bipush 8, 2) := by decide +kernel
theorem dX7_after_117 : decode cX7_after 117 = .ok (.iload 8, 2) := by decide +kernel
theorem dX7_after_119 : decode cX7_after 119 = .ok (.imul, 1) := by decide +kernel
theorem dX7_after_120 : decode cX7_after 120 = .ok (.lshl, 1) := by decide +kernel
theorem dX7_after_121 : decode cX7_after 121 = .ok (.lor, 1) := by decide +kernel
theorem dX7_after_122 : decode cX7_after 122 = .ok (.lastore, 1) := by decide +kernel
theorem dX7_after_123 : decode cX7_after 123 = .ok (.aload_n 0, 1) := by decide +kernel
theorem dX7_after_124 : decode cX7_after 124 = .ok (.getfield 86, 3) := by decide +kernel
theorem dX7_after_127 : decode cX7_after 127 = .ok (.iload_n 3, 1) := by decide +kernel
theorem dX7_after_128 : decode cX7_after 128 = .ok (.aload_n 0, 1) := by decide +kernel
theorem dX7_after_129 : decode cX7_after 129 = .ok (.getfield 86, 3) := by decide +kernel
theorem dX7_after_132 : decode cX7_after 132 = .ok (.iload_n 3, 1) := by decide +kernel
theorem dX7_after_133 : decode cX7_after 133 = .ok (.laload, 1) := by decide +kernel
theorem dX7_after_134 : decode cX7_after 134 = .ok (.aload_n 0, 1) := by decide +kernel
theorem dX7_after_135 : decode cX7_after 135 = .ok (.getfield 67, 3) := by decide +kernel
theorem dX7_after_138 : decode cX7_after 138 = .ok (.i2l, 1) := by decide +kernel
theorem dX7_after_139 : decode cX7_after 139 = .ok (.bipush 8, 2) := by decide +kernel
theorem dX7_after_141 : decode cX7_after 141 = .ok (.iload 8, 2) := by decide +kernel
theorem dX7_after_143 : decode cX7_after 143 = .ok (.imul, 1) := by decide +kernel
theorem dX7_after_144 : decode cX7_after 144 = .ok (.lshl, 1) := by decide +kernel
theorem dX7_after_145 : decode cX7_after 145 = .ok (.lor, 1) := by decide +kernel
theorem dX7_after_146 : decode cX7_after 146 = .ok (.lastore, 1) := by decide +kernel
theorem dX7_after_147 : decode cX7_after 147 = .ok (.iinc 8 1, 3) := by decide +kernel
theorem dX7_after_150 : decode cX7_after 150 = .ok (.goto (-80), 3) := by decide +kernel
theorem dX7_after_153 : decode cX7_after 153 = .ok (.aload_n 0, 1) := by decide +kernel
theorem dX7_after_154 : decode cX7_after 154 = .ok (.getfield 86, 3) := by decide +kernel
theorem dX7_after_157 : decode cX7_after 157 = .ok (.iload_n 2, 1) := by decide +kernel
theorem dX7_after_158 : decode cX7_after 158 = .ok (.laload, 1) := by decide +kernel
theorem dX7_after_159 : decode cX7_after 159 = .ok (.lload 4, 2) := by decide +kernel
theorem dX7_after_161 : decode cX7_after 161 = .ok (.lcmp, 1) := by decide +kernel
theorem dX7_after_162 : decode cX7_after 162 = .ok (.ifCond .ne 15, 3) := by decide +kernel
theorem dX7_after_165 : decode cX7_after 165 = .ok (.aload_n 0, 1) := by decide +kernel
theorem dX7_after_166 : decode cX7_after 166 = .ok (.getfield 86, 3) := by decide +kernel
theorem dX7_after_169 : decode cX7_after 169 = .ok (.iload_n 3, 1) := by decide +kernel
theorem dX7_after_170 : decode cX7_after 170 = .ok (.laload, 1) := by decide +kernel
theorem dX7_after_171 : decode cX7_after 171 = .ok (.lload 6, 2) := by decide +kernel
theorem dX7_after_173 : decode cX7_after 173 = .ok (.lcmp, 1) := by decide +kernel
theorem dX7_after_174 : decode cX7_after 174 = .ok (.ifCond .eq 7, 3) := by decide +kernel
theorem dX7_after_177 : decode cX7_after 177 = .ok (.iconst 1, 1) := by decide +kernel
theorem dX7_after_178 : decode cX7_after 178 = .ok (.goto 4, 3) := by decide +kernel
theorem dX7_after_181 : decode cX7_after 181 = .ok (.iconst 0, 1) := by decide +kernel
theorem dX7_after_182 : decode cX7_after 182 = .ok (.ireturn, 1) := by decide +kernel
theorem dX7_find_0 : decode cX7_find 0 = .ok (.ldc2_w 117, 3) := by decide +kernel
theorem dX7_find_3 : decode cX7_find 3 = .ok (.lstore_n 2, 1) := by decide +kernel
theorem dX7_find_4 : decode cX7_find 4 = .ok (.iconst 0, 1) := by decide +kernel
theorem dX7_find_5 : decode cX7_find 5 = .ok (.istore 4, 2) := by decide +kernel
theorem dX7_find_7 : decode cX7_find 7 = .ok (.iload 4, 2) := by decide +kernel
theorem dX7_find_9 : decode cX7_find 9 = .ok (.aload_n 0, 1) := by decide +kernel
theorem dX7_find_10 : decode cX7_find 10 = .ok (.getfield 55, 3) := by decide +kernel
theorem dX7_find_13 : decode cX7_find 13 = .ok (.if_icmp .ge 28, 3) := by decide +kernel
theorem dX7_find_16 : decode cX7_find 16 = .ok (.lload_n 2, 1) := by decide +kernel
theorem dX7_find_17 : decode cX7_find 17 = .ok (.ldc2_w 119, 3) := by decide +kernel
theorem dX7_find_20 : decode cX7_find 20 = .ok (.lmul, 1) := by decide +kernel
theorem dX7_find_21 : decode cX7_find 21 = .ok (.aload_n 0, 1) := by decide +kernel
theorem dX7_find_22 : decode cX7_find 22 = .ok (.getfield 86, 3) := by decide +kernel
theorem dX7_find_25 : decode cX7_find 25 = .ok (.iload 4, 2) := by decide +kernel
theorem dX7_find_27 : decode cX7_find 27 = .ok (.laload, 1) := by decide +kernel
theorem dX7_find_28 : decode cX7_find 28 = .ok (.ladd, 1) := by decide +kernel
theorem dX7_find_29 : decode cX7_find 29 = .ok (.lload_n 2, 1) := by decide +kernel
theorem dX7_find_30 : decode cX7_find 30 = .ok (.bipush 29, 2) := by decide +kernel
theorem dX7_find_32 : decode cX7_find 32 = .ok (.lushr, 1) := by decide +kernel
theorem dX7_find_33 : decode cX7_find 33 = .ok (.ladd, 1) := by decide +kernel
theorem dX7_find_34 : decode cX7_find 34 = .ok (.lstore_n 2, 1) := by decide +kernel
theorem dX7_find_35 : decode cX7_find 35 = .ok (.iinc 4 1, 3) := by decide +kernel
theorem dX7_find_38 : decode cX7_find 38 = .ok (.goto (-31), 3) := by decide +kernel
theorem dX7_find_41 : decode cX7_find 41 = .ok (.lload_n 2, 1) := by decide +kernel
theorem dX7_find_42 : decode cX7_find 42 = .ok (.bipush 20, 2) := by decide +kernel
theorem dX7_find_44 : decode cX7_find 44 = .ok (.lushr, 1) := by decide +kernel
theorem dX7_find_45 : decode cX7_find 45 = .ok (.l2i, 1) := by decide +kernel
theorem dX7_find_46 : decode cX7_find 46 = .ok (.sipush 8191, 3) := by decide +kernel
theorem dX7_find_49 : decode cX7_find 49 = .ok (.iand, 1) := by decide +kernel
theorem dX7_find_50 : decode cX7_find 50 = .ok (.istore 4, 2) := by decide +kernel
theorem dX7_find_52 : decode cX7_find 52 = .ok (.aload_n 0, 1) := by decide +kernel
theorem dX7_find_53 : decode cX7_find 53 = .ok (.getfield 77, 3) := by decide +kernel
theorem dX7_find_56 : decode cX7_find 56 = .ok (.iload 4, 2) := by decide +kernel
theorem dX7_find_58 : decode cX7_find 58 = .ok (.iaload, 1) := by decide +kernel
theorem dX7_find_59 : decode cX7_find 59 = .ok (.ifCond .le 83, 3) := by decide +kernel
theorem dX7_find_62 : decode cX7_find 62 = .ok (.aload_n 0, 1) := by decide +kernel
theorem dX7_find_63 : decode cX7_find 63 = .ok (.getfield 77, 3) := by decide +kernel
theorem dX7_find_66 : decode cX7_find 66 = .ok (.iload 4, 2) := by decide +kernel
theorem dX7_find_68 : decode cX7_find 68 = .ok (.iaload, 1) := by decide +kernel
theorem dX7_find_69 : decode cX7_find 69 = .ok (.iconst 1, 1) := by decide +kernel
theorem dX7_find_70 : decode cX7_find 70 = .ok (.isub, 1) := by decide +kernel
theorem dX7_find_71 : decode cX7_find 71 = .ok (.istore 5, 2) := by decide +kernel
theorem dX7_find_73 : decode cX7_find 73 = .ok (.iconst 1, 1) := by decide +kernel
theorem dX7_find_74 : decode cX7_find 74 = .ok (.istore 6, 2) := by decide +kernel
theorem dX7_find_76 : decode cX7_find 76 = .ok (.iconst 0, 1) := by decide +kernel
theorem dX7_find_77 : decode cX7_find 77 = .ok (.istore 7, 2) := by decide +kernel
theorem dX7_find_79 : decode cX7_find 79 = .ok (.iload 7, 2) := by decide +kernel
theorem dX7_find_81 : decode cX7_find 81 = .ok (.aload_n 0, 1) := by decide +kernel
theorem dX7_find_82 : decode cX7_find 82 = .ok (.getfield 55, 3) := by decide +kernel
theorem dX7_find_85 : decode cX7_find 85 = .ok (.if_icmp .ge 36, 3) := by decide +kernel
theorem dX7_find_88 : decode cX7_find 88 = .ok (.aload_n 0, 1) := by decide +kernel
theorem dX7_find_89 : decode cX7_find 89 = .ok (.getfield 73, 3) := by decide +kernel
theorem dX7_find_92 : decode cX7_find 92 = .ok (.bipush 6, 2) := by decide +kernel
theorem dX7_find_94 : decode cX7_find 94 = .ok (.iload 5, 2) := by decide +kernel
theorem dX7_find_96 : decode cX7_find 96 = .ok (.imul, 1) := by decide +kernel
theorem dX7_find_97 : decode cX7_find 97 = .ok (.iload 7, 2) := by decide +kernel
theorem dX7_find_99 : decode cX7_find 99 = .ok (.iadd, 1) := by decide +kernel
theorem dX7_find_100 : decode cX7_find 100 = .ok (.laload, 1) := by decide +kernel
theorem dX7_find_101 : decode cX7_find 101 = .ok (.aload_n 0, 1) := by decide +kernel
theorem dX7_find_102 : decode cX7_find 102 = .ok (.getfield 86, 3) := by decide +kernel
theorem dX7_find_105 : decode cX7_find 105 = .ok (.iload 7, 2) := by decide +kernel
theorem dX7_find_107 : decode cX7_find 107 = .ok (.laload, 1) := by decide +kernel
theorem dX7_find_108 : decode cX7_find 108 = .ok (.lcmp, 1) := by decide +kernel
theorem dX7_find_109 : decode cX7_find 109 = .ok (.ifCond .eq 6, 3) := by decide +kernel
theorem dX7_find_112 : decode cX7_find 112 = .ok (.iconst 0, 1) := by decide +kernel
theorem dX7_find_113 : decode cX7_find 113 = .ok (.istore 6, 2) := by decide +kernel
theorem dX7_find_115 : decode cX7_find 115 = .ok (.iinc 7 1, 3) := by decide +kernel
theorem dX7_find_118 : decode cX7_find 118 = .ok (.goto (-39), 3) := by decide +kernel
theorem dX7_find_121 : decode cX7_find 121 = .ok (.iload 6, 2) := by decide +kernel
theorem dX7_find_123 : decode cX7_find 123 = .ok (.ifCond .eq 6, 3) := by decide +kernel
theorem dX7_find_126 : decode cX7_find 126 = .ok (.iload 5, 2) := by decide +kernel
theorem dX7_find_128 : decode cX7_find 128 = .ok (.ireturn, 1) := by decide +kernel
theorem dX7_find_129 : decode cX7_find 129 = .ok (.iload 4, 2) := by decide +kernel
theorem dX7_find_131 : decode cX7_find 131 = .ok (.iconst 1, 1) := by decide +kernel
theorem dX7_find_132 : decode cX7_find 132 = .ok (.iadd, 1) := by decide +kernel
theorem dX7_find_133 : decode cX7_find 133 = .ok (.sipush 8191, 3) := by decide +kernel
theorem dX7_find_136 : decode cX7_find 136 = .ok (.iand, 1) := by decide +kernel
theorem dX7_find_137 : decode cX7_find 137 = .ok (.istore 4, 2) := by decide +kernel
theorem dX7_find_139 : decode cX7_find 139 = .ok (.goto (-87), 3) := by decide +kernel
theorem dX7_find_142 : decode cX7_find 142 = .ok (.iload_n 1, 1) := by decide +kernel
theorem dX7_find_143 : decode cX7_find 143 = .ok (.ifCond .ne 5, 3) := by decide +kernel
theorem dX7_find_146 : decode cX7_find 146 = .ok (.iconst (-1), 1) := by decide +kernel
theorem dX7_find_147 : decode cX7_find 147 = .ok (.ireturn, 1) := by decide +kernel
theorem dX7_find_148 : decode cX7_find 148 = .ok (.iconst 0, 1) := by decide +kernel
theorem dX7_find_149 : decode cX7_find 149 = .ok (.istore 5, 2) := by decide +kernel
theorem dX7_find_151 : decode cX7_find 151 = .ok (.iload 5, 2) := by decide +kernel
theorem dX7_find_153 : decode cX7_find 153 = .ok (.aload_n 0, 1) := by decide +kernel
theorem dX7_find_154 : decode cX7_find 154 = .ok (.getfield 55, 3) := by decide +kernel
theorem dX7_find_157 : decode cX7_find 157 = .ok (.if_icmp .ge 31, 3) := by decide +kernel
theorem dX7_find_160 : decode cX7_find 160 = .ok (.aload_n 0, 1) := by decide +kernel
theorem dX7_find_161 : decode cX7_find 161 = .ok (.getfield 73, 3) := by decide +kernel
theorem dX7_find_164 : decode cX7_find 164 = .ok (.bipush 6, 2) := by decide +kernel
theorem dX7_find_166 : decode cX7_find 166 = .ok (.aload_n 0, 1) := by decide +kernel
theorem dX7_find_167 : decode cX7_find 167 = .ok (.getfield 70, 3) := by decide +kernel
theorem dX7_find_170 : decode cX7_find 170 = .ok (.imul, 1) := by decide +kernel
theorem dX7_find_171 : decode cX7_find 171 = .ok (.iload 5, 2) := by decide +kernel
theorem dX7_find_173 : decode cX7_find 173 = .ok (.iadd, 1) := by decide +kernel
theorem dX7_find_174 : decode cX7_find 174 = .ok (.aload_n 0, 1) := by decide +kernel
theorem dX7_find_175 : decode cX7_find 175 = .ok (.getfield 86, 3) := by decide +kernel
theorem dX7_find_178 : decode cX7_find 178 = .ok (.iload 5, 2) := by decide +kernel
theorem dX7_find_180 : decode cX7_find 180 = .ok (.laload, 1) := by decide +kernel
theorem dX7_find_181 : decode cX7_find 181 = .ok (.lastore, 1) := by decide +kernel
theorem dX7_find_182 : decode cX7_find 182 = .ok (.iinc 5 1, 3) := by decide +kernel
theorem dX7_find_185 : decode cX7_find 185 = .ok (.goto (-34), 3) := by decide +kernel
theorem dX7_find_188 : decode cX7_find 188 = .ok (.aload_n 0, 1) := by decide +kernel
theorem dX7_find_189 : decode cX7_find 189 = .ok (.dup, 1) := by decide +kernel
theorem dX7_find_190 : decode cX7_find 190 = .ok (.getfield 70, 3) := by decide +kernel
theorem dX7_find_193 : decode cX7_find 193 = .ok (.iconst 1, 1) := by decide +kernel
theorem dX7_find_194 : decode cX7_find 194 = .ok (.iadd, 1) := by decide +kernel
theorem dX7_find_195 : decode cX7_find 195 = .ok (.putfield 70, 3) := by decide +kernel
theorem dX7_find_198 : decode cX7_find 198 = .ok (.aload_n 0, 1) := by decide +kernel
theorem dX7_find_199 : decode cX7_find 199 = .ok (.getfield 77, 3) := by decide +kernel
theorem dX7_find_202 : decode cX7_find 202 = .ok (.iload 4, 2) := by decide +kernel
theorem dX7_find_204 : decode cX7_find 204 = .ok (.aload_n 0, 1) := by decide +kernel
theorem dX7_find_205 : decode cX7_find 205 = .ok (.getfield 70, 3) := by decide +kernel
theorem dX7_find_208 : decode cX7_find 208 = .ok (.iastore, 1) := by decide +kernel
theorem dX7_find_209 : decode cX7_find 209 = .ok (.aload_n 0, 1) := by decide +kernel
theorem dX7_find_210 : decode cX7_find 210 = .ok (.getfield 70, 3) := by decide +kernel
theorem dX7_find_213 : decode cX7_find 213 = .ok (.iconst 1, 1) := by decide +kernel
theorem dX7_find_214 : decode cX7_find 214 = .ok (.isub, 1) := by decide +kernel
theorem dX7_find_215 : decode cX7_find 215 = .ok (.ireturn, 1) := by decide +kernel
theorem dX7_silentCrowd_0 : decode cX7_silentCrowd 0 = .ok (.iconst 0, 1) := by decide +kernel
theorem dX7_silentCrowd_1 : decode cX7_silentCrowd 1 = .ok (.istore_n 2, 1) := by decide +kernel
theorem dX7_silentCrowd_2 : decode cX7_silentCrowd 2 = .ok (.iload_n 2, 1) := by decide +kernel
theorem dX7_silentCrowd_3 : decode cX7_silentCrowd 3 = .ok (.aload_n 0, 1) := by decide +kernel
theorem dX7_silentCrowd_4 : decode cX7_silentCrowd 4 = .ok (.getfield 55, 3) := by decide +kernel
theorem dX7_silentCrowd_7 : decode cX7_silentCrowd 7 = .ok (.if_icmp .ge 42, 3) := by decide +kernel
theorem dX7_silentCrowd_10 : decode cX7_silentCrowd 10 = .ok (.iconst 0, 1) := by decide +kernel
theorem dX7_silentCrowd_11 : decode cX7_silentCrowd 11 = .ok (.istore_n 3, 1) := by decide +kernel
theorem dX7_silentCrowd_12 : decode cX7_silentCrowd 12 = .ok (.iload_n 3, 1) := by decide +kernel
theorem dX7_silentCrowd_13 : decode cX7_silentCrowd 13 = .ok (.aload_n 0, 1) := by decide +kernel
theorem dX7_silentCrowd_14 : decode cX7_silentCrowd 14 = .ok (.getfield 55, 3) := by decide +kernel
theorem dX7_silentCrowd_17 : decode cX7_silentCrowd 17 = .ok (.if_icmp .ge 26, 3) := by decide +kernel
theorem dX7_silentCrowd_20 : decode cX7_silentCrowd 20 = .ok (.iload_n 2, 1) := by decide +kernel
theorem dX7_silentCrowd_21 : decode cX7_silentCrowd 21 = .ok (.iload_n 3, 1) := by decide +kernel
theorem dX7_silentCrowd_22 : decode cX7_silentCrowd 22 = .ok (.if_icmp .eq 15, 3) := by decide +kernel
theorem dX7_silentCrowd_25 : decode cX7_silentCrowd 25 = .ok (.aload_n 0, 1) := by decide +kernel
theorem dX7_silentCrowd_26 : decode cX7_silentCrowd 26 = .ok (.iload_n 1, 1) := by decide +kernel
theorem dX7_silentCrowd_27 : decode cX7_silentCrowd 27 = .ok (.iload_n 2, 1) := by decide +kernel
theorem dX7_silentCrowd_28 : decode cX7_silentCrowd 28 = .ok (.iload_n 3, 1) := by decide +kernel
theorem dX7_silentCrowd_29 : decode cX7_silentCrowd 29 = .ok (.invokevirtual 121, 3) := by decide +kernel
theorem dX7_silentCrowd_32 : decode cX7_silentCrowd 32 = .ok (.ifCond .eq 5, 3) := by decide +kernel
theorem dX7_silentCrowd_35 : decode cX7_silentCrowd 35 = .ok (.iconst 0, 1) := by decide +kernel
theorem dX7_silentCrowd_36 : decode cX7_silentCrowd 36 = .ok (.ireturn, 1) := by decide +kernel
theorem dX7_silentCrowd_37 : decode cX7_silentCrowd 37 = .ok (.iinc 3 1, 3) := by decide +kernel
theorem dX7_silentCrowd_40 : decode cX7_silentCrowd 40 = .ok (.goto (-28), 3) := by decide +kernel
theorem dX7_silentCrowd_43 : decode cX7_silentCrowd 43 = .ok (.iinc 2 1, 3) := by decide +kernel
theorem dX7_silentCrowd_46 : decode cX7_silentCrowd 46 = .ok (.goto (-44), 3) := by decide +kernel
theorem dX7_silentCrowd_49 : decode cX7_silentCrowd 49 = .ok (.iconst 1, 1) := by decide +kernel
theorem dX7_silentCrowd_50 : decode cX7_silentCrowd 50 = .ok (.ireturn, 1) := by decide +kernel
theorem dX7_rightCrowd_0 : decode cX7_rightCrowd 0 = .ok (.iconst 0, 1) := by decide +kernel
theorem dX7_rightCrowd_1 : decode cX7_rightCrowd 1 = .ok (.istore_n 3, 1) := by decide +kernel
theorem dX7_rightCrowd_2 : decode cX7_rightCrowd 2 = .ok (.iload_n 3, 1) := by decide +kernel
theorem dX7_rightCrowd_3 : decode cX7_rightCrowd 3 = .ok (.aload_n 0, 1) := by decide +kernel
theorem dX7_rightCrowd_4 : decode cX7_rightCrowd 4 = .ok (.getfield 55, 3) := by decide +kernel
theorem dX7_rightCrowd_7 : decode cX7_rightCrowd 7 = .ok (.if_icmp .ge 87, 3) := by decide +kernel
theorem dX7_rightCrowd_10 : decode cX7_rightCrowd 10 = .ok (.iconst 0, 1) := by decide +kernel
theorem dX7_rightCrowd_11 : decode cX7_rightCrowd 11 = .ok (.istore 4, 2) := by decide +kernel
theorem dX7_rightCrowd_13 : decode cX7_rightCrowd 13 = .ok (.iload 4, 2) := by decide +kernel
theorem dX7_rightCrowd_15 : decode cX7_rightCrowd 15 = .ok (.aload_n 0, 1) := by decide +kernel
theorem dX7_rightCrowd_16 : decode cX7_rightCrowd 16 = .ok (.getfield 17, 3) := by decide +kernel
theorem dX7_rightCrowd_19 : decode cX7_rightCrowd 19 = .ok (.if_icmp .ge 59, 3) := by decide +kernel
theorem dX7_rightCrowd_22 : decode cX7_rightCrowd 22 = .ok (.aload_n 0, 1) := by decide +kernel
theorem dX7_rightCrowd_23 : decode cX7_rightCrowd 23 = .ok (.getfield 20, 3) := by decide +kernel
theorem dX7_rightCrowd_26 : decode cX7_rightCrowd 26 = .ok (.iload 4, 2) := by decide +kernel
theorem dX7_rightCrowd_28 : decode cX7_rightCrowd 28 = .ok (.iaload, 1) := by decide +kernel
theorem dX7_rightCrowd_29 : decode cX7_rightCrowd 29 = .ok (.iconst 3, 1) := by decide +kernel
theorem dX7_rightCrowd_30 : decode cX7_rightCrowd 30 = .ok (.if_icmp .ne 42, 3) := by decide +kernel
theorem dX7_rightCrowd_33 : decode cX7_rightCrowd 33 = .ok (.aload_n 0, 1) := by decide +kernel
theorem dX7_rightCrowd_34 : decode cX7_rightCrowd 34 = .ok (.getfield 29, 3) := by decide +kernel
theorem dX7_rightCrowd_37 : decode cX7_rightCrowd 37 = .ok (.iload 4, 2) := by decide +kernel
theorem dX7_rightCrowd_39 : decode cX7_rightCrowd 39 = .ok (.aload_n 0, 1) := by decide +kernel
theorem dX7_rightCrowd_40 : decode cX7_rightCrowd 40 = .ok (.getfield 73, 3) := by decide +kernel
theorem dX7_rightCrowd_43 : decode cX7_rightCrowd 43 = .ok (.bipush 6, 2) := by decide +kernel
theorem dX7_rightCrowd_45 : decode cX7_rightCrowd 45 = .ok (.iload_n 1, 1) := by decide +kernel
theorem dX7_rightCrowd_46 : decode cX7_rightCrowd 46 = .ok (.imul, 1) := by decide +kernel
theorem dX7_rightCrowd_47 : decode cX7_rightCrowd 47 = .ok (.iload_n 3, 1) := by decide +kernel
theorem dX7_rightCrowd_48 : decode cX7_rightCrowd 48 = .ok (.iadd, 1) := by decide +kernel
theorem dX7_rightCrowd_49 : decode cX7_rightCrowd 49 = .ok (.laload, 1) := by decide +kernel
theorem dX7_rightCrowd_50 : decode cX7_rightCrowd 50 = .ok (.aload_n 0, 1) := by decide +kernel
theorem dX7_rightCrowd_51 : decode cX7_rightCrowd 51 = .ok (.getfield 23, 3) := by decide +kernel
theorem dX7_rightCrowd_54 : decode cX7_rightCrowd 54 = .ok (.iload 4, 2) := by decide +kernel
theorem dX7_rightCrowd_56 : decode cX7_rightCrowd 56 = .ok (.iaload, 1) := by decide +kernel
theorem dX7_rightCrowd_57 : decode cX7_rightCrowd 57 = .ok (.invokestatic 113, 3) := by decide +kernel
theorem dX7_rightCrowd_60 : decode cX7_rightCrowd 60 = .ok (.iconst 1, 1) := by decide +kernel
theorem dX7_rightCrowd_61 : decode cX7_rightCrowd 61 = .ok (.iand, 1) := by decide +kernel
theorem dX7_rightCrowd_62 : decode cX7_rightCrowd 62 = .ok (.iconst 1, 1) := by decide +kernel
theorem dX7_rightCrowd_63 : decode cX7_rightCrowd 63 = .ok (.if_icmp .ne 7, 3) := by decide +kernel
theorem dX7_rightCrowd_66 : decode cX7_rightCrowd 66 = .ok (.iconst 1, 1) := by decide +kernel
theorem dX7_rightCrowd_67 : decode cX7_rightCrowd 67 = .ok (.goto 4, 3) := by decide +kernel
theorem dX7_rightCrowd_70 : decode cX7_rightCrowd 70 = .ok (.iconst 0, 1) := by decide +kernel
theorem dX7_rightCrowd_71 : decode cX7_rightCrowd 71 = .ok (.bastore, 1) := by decide +kernel
theorem dX7_rightCrowd_72 : decode cX7_rightCrowd 72 = .ok (.iinc 4 1, 3) := by decide +kernel
theorem dX7_rightCrowd_75 : decode cX7_rightCrowd 75 = .ok (.goto (-62), 3) := by decide +kernel
theorem dX7_rightCrowd_78 : decode cX7_rightCrowd 78 = .ok (.aload_n 0, 1) := by decide +kernel
theorem dX7_rightCrowd_79 : decode cX7_rightCrowd 79 = .ok (.invokevirtual 109, 3) := by decide +kernel
theorem dX7_rightCrowd_82 : decode cX7_rightCrowd 82 = .ok (.iload_n 2, 1) := by decide +kernel
theorem dX7_rightCrowd_83 : decode cX7_rightCrowd 83 = .ok (.if_icmp .eq 5, 3) := by decide +kernel
theorem dX7_rightCrowd_86 : decode cX7_rightCrowd 86 = .ok (.iconst 0, 1) := by decide +kernel
theorem dX7_rightCrowd_87 : decode cX7_rightCrowd 87 = .ok (.ireturn, 1) := by decide +kernel
theorem dX7_rightCrowd_88 : decode cX7_rightCrowd 88 = .ok (.iinc 3 1, 3) := by decide +kernel
theorem dX7_rightCrowd_91 : decode cX7_rightCrowd 91 = .ok (.goto (-89), 3) := by decide +kernel
theorem dX7_rightCrowd_94 : decode cX7_rightCrowd 94 = .ok (.iconst 1, 1) := by decide +kernel
theorem dX7_rightCrowd_95 : decode cX7_rightCrowd 95 = .ok (.ireturn, 1) := by decide +kernel
theorem dX7_leadsToGood_0 : decode cX7_leadsToGood 0 = .ok (.iconst 0, 1) := by decide +kernel
theorem dX7_leadsToGood_1 : decode cX7_leadsToGood 1 = .ok (.istore_n 2, 1) := by decide +kernel
theorem dX7_leadsToGood_2 : decode cX7_leadsToGood 2 = .ok (.iload_n 2, 1) := by decide +kernel
theorem dX7_leadsToGood_3 : decode cX7_leadsToGood 3 = .ok (.aload_n 0, 1) := by decide +kernel
theorem dX7_leadsToGood_4 : decode cX7_leadsToGood 4 = .ok (.getfield 55, 3) := by decide +kernel
theorem dX7_leadsToGood_7 : decode cX7_leadsToGood 7 = .ok (.if_icmp .ge 59, 3) := by decide +kernel
theorem dX7_leadsToGood_10 : decode cX7_leadsToGood 10 = .ok (.iconst 0, 1) := by decide +kernel
theorem dX7_leadsToGood_11 : decode cX7_leadsToGood 11 = .ok (.istore_n 3, 1) := by decide +kernel
theorem dX7_leadsToGood_12 : decode cX7_leadsToGood 12 = .ok (.iload_n 3, 1) := by decide +kernel
theorem dX7_leadsToGood_13 : decode cX7_leadsToGood 13 = .ok (.aload_n 0, 1) := by decide +kernel
theorem dX7_leadsToGood_14 : decode cX7_leadsToGood 14 = .ok (.getfield 55, 3) := by decide +kernel
theorem dX7_leadsToGood_17 : decode cX7_leadsToGood 17 = .ok (.if_icmp .ge 43, 3) := by decide +kernel
theorem dX7_leadsToGood_20 : decode cX7_leadsToGood 20 = .ok (.iload_n 2, 1) := by decide +kernel
theorem dX7_leadsToGood_21 : decode cX7_leadsToGood 21 = .ok (.iload_n 3, 1) := by decide +kernel
theorem dX7_leadsToGood_22 : decode cX7_leadsToGood 22 = .ok (.if_icmp .eq 32, 3) := by decide +kernel
theorem dX7_leadsToGood_25 : decode cX7_leadsToGood 25 = .ok (.aload_n 0, 1) := by decide +kernel
theorem dX7_leadsToGood_26 : decode cX7_leadsToGood 26 = .ok (.iload_n 1, 1) := by decide +kernel
theorem dX7_leadsToGood_27 : decode cX7_leadsToGood 27 = .ok (.iload_n 2, 1) := by decide +kernel
theorem dX7_leadsToGood_28 : decode cX7_leadsToGood 28 = .ok (.iload_n 3, 1) := by decide +kernel
theorem dX7_leadsToGood_29 : decode cX7_leadsToGood 29 = .ok (.invokevirtual 121, 3) := by decide +kernel
theorem dX7_leadsToGood_32 : decode cX7_leadsToGood 32 = .ok (.ifCond .eq 22, 3) := by decide +kernel
theorem dX7_leadsToGood_35 : decode cX7_leadsToGood 35 = .ok (.aload_n 0, 1) := by decide +kernel
theorem dX7_leadsToGood_36 : decode cX7_leadsToGood 36 = .ok (.invokevirtual 125, 3) := by decide +kernel
theorem dX7_leadsToGood_39 : decode cX7_leadsToGood 39 = .ok (.aload_n 0, 1) := by decide +kernel
theorem dX7_leadsToGood_40 : decode cX7_leadsToGood 40 = .ok (.getfield 80, 3) := by decide +kernel
theorem dX7_leadsToGood_43 : decode cX7_leadsToGood 43 = .ok (.aload_n 0, 1) := by decide +kernel
theorem dX7_leadsToGood_44 : decode cX7_leadsToGood 44 = .ok (.iconst 0, 1) := by decide +kernel
theorem dX7_leadsToGood_45 : decode cX7_leadsToGood 45 = .ok (.invokevirtual 128, 3) := by decide +kernel
theorem dX7_leadsToGood_48 : decode cX7_leadsToGood 48 = .ok (.baload, 1) := by decide +kernel
theorem dX7_leadsToGood_49 : decode cX7_leadsToGood 49 = .ok (.ifCond .eq 5, 3) := by decide +kernel
theorem dX7_leadsToGood_52 : decode cX7_leadsToGood 52 = .ok (.iconst 1, 1) := by decide +kernel
theorem dX7_leadsToGood_53 : decode cX7_leadsToGood 53 = .ok (.ireturn, 1) := by decide +kernel
theorem dX7_leadsToGood_54 : decode cX7_leadsToGood 54 = .ok (.iinc 3 1, 3) := by decide +kernel
theorem dX7_leadsToGood_57 : decode cX7_leadsToGood 57 = .ok (.goto (-45), 3) := by decide +kernel
theorem dX7_leadsToGood_60 : decode cX7_leadsToGood 60 = .ok (.iinc 2 1, 3) := by decide +kernel
theorem dX7_leadsToGood_63 : decode cX7_leadsToGood 63 = .ok (.goto (-61), 3) := by decide +kernel
theorem dX7_leadsToGood_66 : decode cX7_leadsToGood 66 = .ok (.iconst 0, 1) := by decide +kernel
theorem dX7_leadsToGood_67 : decode cX7_leadsToGood 67 = .ok (.ireturn, 1) := by decide +kernel
theorem dX7_clear_0 : decode cX7_clear 0 = .ok (.aload_n 0, 1) := by decide +kernel
theorem dX7_clear_1 : decode cX7_clear 1 = .ok (.iconst 0, 1) := by decide +kernel
theorem dX7_clear_2 : decode cX7_clear 2 = .ok (.putfield 7, 3) := by decide +kernel
theorem dX7_clear_5 : decode cX7_clear 5 = .ok (.iconst 0, 1) := by decide +kernel
theorem dX7_clear_6 : decode cX7_clear 6 = .ok (.istore_n 1, 1) := by decide +kernel
theorem dX7_clear_7 : decode cX7_clear 7 = .ok (.iload_n 1, 1) := by decide +kernel
theorem dX7_clear_8 : decode cX7_clear 8 = .ok (.bipush 8, 2) := by decide +kernel
theorem dX7_clear_10 : decode cX7_clear 10 = .ok (.if_icmp .ge 23, 3) := by decide +kernel
theorem dX7_clear_13 : decode cX7_clear 13 = .ok (.aload_n 0, 1) := by decide +kernel
theorem dX7_clear_14 : decode cX7_clear 14 = .ok (.getfield 13, 3) := by decide +kernel
theorem dX7_clear_17 : decode cX7_clear 17 = .ok (.iload_n 1, 1) := by decide +kernel
theorem dX7_clear_18 : decode cX7_clear 18 = .ok (.iconst 0, 1) := by decide +kernel
theorem dX7_clear_19 : decode cX7_clear 19 = .ok (.iastore, 1) := by decide +kernel
theorem dX7_clear_20 : decode cX7_clear 20 = .ok (.aload_n 0, 1) := by decide +kernel
theorem dX7_clear_21 : decode cX7_clear 21 = .ok (.getfield 61, 3) := by decide +kernel
theorem dX7_clear_24 : decode cX7_clear 24 = .ok (.iload_n 1, 1) := by decide +kernel
theorem dX7_clear_25 : decode cX7_clear 25 = .ok (.iconst 0, 1) := by decide +kernel
theorem dX7_clear_26 : decode cX7_clear 26 = .ok (.iastore, 1) := by decide +kernel
theorem dX7_clear_27 : decode cX7_clear 27 = .ok (.iinc 1 1, 3) := by decide +kernel
theorem dX7_clear_30 : decode cX7_clear 30 = .ok (.goto (-23), 3) := by decide +kernel
theorem dX7_clear_33 : decode cX7_clear 33 = .ok (.aload_n 0, 1) := by decide +kernel
theorem dX7_clear_34 : decode cX7_clear 34 = .ok (.iconst 0, 1) := by decide +kernel
theorem dX7_clear_35 : decode cX7_clear 35 = .ok (.putfield 17, 3) := by decide +kernel
theorem dX7_clear_38 : decode cX7_clear 38 = .ok (.aload_n 0, 1) := by decide +kernel
theorem dX7_clear_39 : decode cX7_clear 39 = .ok (.iconst 0, 1) := by decide +kernel
theorem dX7_clear_40 : decode cX7_clear 40 = .ok (.putfield 33, 3) := by decide +kernel
theorem dX7_clear_43 : decode cX7_clear 43 = .ok (.aload_n 0, 1) := by decide +kernel
theorem dX7_clear_44 : decode cX7_clear 44 = .ok (.iconst 0, 1) := by decide +kernel
theorem dX7_clear_45 : decode cX7_clear 45 = .ok (.putfield 48, 3) := by decide +kernel
theorem dX7_clear_48 : decode cX7_clear 48 = .ok (.aload_n 0, 1) := by decide +kernel
theorem dX7_clear_49 : decode cX7_clear 49 = .ok (.iconst 0, 1) := by decide +kernel
theorem dX7_clear_50 : decode cX7_clear 50 = .ok (.putfield 55, 3) := by decide +kernel
theorem dX7_clear_53 : decode cX7_clear 53 = .ok (.aload_n 0, 1) := by decide +kernel
theorem dX7_clear_54 : decode cX7_clear 54 = .ok (.iconst 0, 1) := by decide +kernel
theorem dX7_clear_55 : decode cX7_clear 55 = .ok (.putfield 83, 3) := by decide +kernel
theorem dX7_clear_58 : decode cX7_clear 58 = .ok (.return_, 1) := by decide +kernel
theorem dX7_coef_0 : decode cX7_coef 0 = .ok (.aload_n 0, 1) := by decide +kernel
theorem dX7_coef_1 : decode cX7_coef 1 = .ok (.iload_n 1, 1) := by decide +kernel
theorem dX7_coef_2 : decode cX7_coef 2 = .ok (.ifCond .lt 21, 3) := by decide +kernel
theorem dX7_coef_5 : decode cX7_coef 5 = .ok (.iload_n 1, 1) := by decide +kernel
theorem dX7_coef_6 : decode cX7_coef 6 = .ok (.bipush 7, 2) := by decide +kernel
theorem dX7_coef_8 : decode cX7_coef 8 = .ok (.if_icmp .gt 15, 3) := by decide +kernel
theorem dX7_coef_11 : decode cX7_coef 11 = .ok (.iload_n 2, 1) := by decide +kernel
theorem dX7_coef_12 : decode cX7_coef 12 = .ok (.bipush (-20), 2) := by decide +kernel
theorem dX7_coef_14 : decode cX7_coef 14 = .ok (.if_icmp .lt 9, 3) := by decide +kernel
theorem dX7_coef_17 : decode cX7_coef 17 = .ok (.iload_n 2, 1) := by decide +kernel
theorem dX7_coef_18 : decode cX7_coef 18 = .ok (.bipush 20, 2) := by decide +kernel
theorem dX7_coef_20 : decode cX7_coef 20 = .ok (.if_icmp .le 7, 3) := by decide +kernel
theorem dX7_coef_23 : decode cX7_coef 23 = .ok (.iconst 1, 1) := by decide +kernel
theorem dX7_coef_24 : decode cX7_coef 24 = .ok (.goto 4, 3) := by decide +kernel
theorem dX7_coef_27 : decode cX7_coef 27 = .ok (.iconst 0, 1) := by decide +kernel
theorem dX7_coef_28 : decode cX7_coef 28 = .ok (.putfield 7, 3) := by decide +kernel
theorem dX7_coef_31 : decode cX7_coef 31 = .ok (.aload_n 0, 1) := by decide +kernel
theorem dX7_coef_32 : decode cX7_coef 32 = .ok (.getfield 7, 3) := by decide +kernel
theorem dX7_coef_35 : decode cX7_coef 35 = .ok (.ifCond .eq 5, 3) := by decide +kernel
theorem dX7_coef_38 : decode cX7_coef 38 = .ok (.iconst 0, 1) := by decide +kernel
theorem dX7_coef_39 : decode cX7_coef 39 = .ok (.ireturn, 1) := by decide +kernel
theorem dX7_coef_40 : decode cX7_coef 40 = .ok (.aload_n 0, 1) := by decide +kernel
theorem dX7_coef_41 : decode cX7_coef 41 = .ok (.getfield 13, 3) := by decide +kernel
theorem dX7_coef_44 : decode cX7_coef 44 = .ok (.iload_n 1, 1) := by decide +kernel
theorem dX7_coef_45 : decode cX7_coef 45 = .ok (.iaload, 1) := by decide +kernel
theorem dX7_coef_46 : decode cX7_coef 46 = .ok (.istore_n 3, 1) := by decide +kernel
theorem dX7_coef_47 : decode cX7_coef 47 = .ok (.aload_n 0, 1) := by decide +kernel
theorem dX7_coef_48 : decode cX7_coef 48 = .ok (.getfield 13, 3) := by decide +kernel
theorem dX7_coef_51 : decode cX7_coef 51 = .ok (.iload_n 1, 1) := by decide +kernel
theorem dX7_coef_52 : decode cX7_coef 52 = .ok (.iload_n 2, 1) := by decide +kernel
theorem dX7_coef_53 : decode cX7_coef 53 = .ok (.iastore, 1) := by decide +kernel
theorem dX7_coef_54 : decode cX7_coef 54 = .ok (.iload_n 3, 1) := by decide +kernel
theorem dX7_coef_55 : decode cX7_coef 55 = .ok (.ireturn, 1) := by decide +kernel
theorem dX7_atom_0 : decode cX7_atom 0 = .ok (.iload_n 1, 1) := by decide +kernel
theorem dX7_atom_1 : decode cX7_atom 1 = .ok (.ifCond .ge 8, 3) := by decide +kernel
theorem dX7_atom_4 : decode cX7_atom 4 = .ok (.iload_n 1, 1) := by decide +kernel
theorem dX7_atom_5 : decode cX7_atom 5 = .ok (.ineg, 1) := by decide +kernel
theorem dX7_atom_6 : decode cX7_atom 6 = .ok (.goto 4, 3) := by decide +kernel
theorem dX7_atom_9 : decode cX7_atom 9 = .ok (.iload_n 1, 1) := by decide +kernel
theorem dX7_atom_10 : decode cX7_atom 10 = .ok (.iconst 1, 1) := by decide +kernel
theorem dX7_atom_11 : decode cX7_atom 11 = .ok (.iadd, 1) := by decide +kernel
theorem dX7_atom_12 : decode cX7_atom 12 = .ok (.istore_n 3, 1) := by decide +kernel
theorem dX7_atom_13 : decode cX7_atom 13 = .ok (.iconst 0, 1) := by decide +kernel
theorem dX7_atom_14 : decode cX7_atom 14 = .ok (.istore 4, 2) := by decide +kernel
theorem dX7_atom_16 : decode cX7_atom 16 = .ok (.iload 4, 2) := by decide +kernel
theorem dX7_atom_18 : decode cX7_atom 18 = .ok (.bipush 8, 2) := by decide +kernel
theorem dX7_atom_20 : decode cX7_atom 20 = .ok (.if_icmp .ge 63, 3) := by decide +kernel
theorem dX7_atom_23 : decode cX7_atom 23 = .ok (.aload_n 0, 1) := by decide +kernel
theorem dX7_atom_24 : decode cX7_atom 24 = .ok (.getfield 13, 3) := by decide +kernel
theorem dX7_atom_27 : decode cX7_atom 27 = .ok (.iload 4, 2) := by decide +kernel
theorem dX7_atom_29 : decode cX7_atom 29 = .ok (.iaload, 1) := by decide +kernel
theorem dX7_atom_30 : decode cX7_atom 30 = .ok (.istore 5, 2) := by decide +kernel
theorem dX7_atom_32 : decode cX7_atom 32 = .ok (.aload_n 0, 1) := by decide +kernel
theorem dX7_atom_33 : decode cX7_atom 33 = .ok (.getfield 36, 3) := by decide +kernel
theorem dX7_atom_36 : decode cX7_atom 36 = .ok (.bipush 8, 2) := by decide +kernel
theorem dX7_atom_38 : decode cX7_atom 38 = .ok (.aload_n 0, 1) := by decide +kernel
theorem dX7_atom_39 : decode cX7_atom 39 = .ok (.getfield 33, 3) := by decide +kernel
theorem dX7_atom_42 : decode cX7_atom 42 = .ok (.imul, 1) := by decide +kernel
theorem dX7_atom_43 : decode cX7_atom 43 = .ok (.iload 4, 2) := by decide +kernel
theorem dX7_atom_45 : decode cX7_atom 45 = .ok (.iadd, 1) := by decide +kernel
theorem dX7_atom_46 : decode cX7_atom 46 = .ok (.iload 5, 2) := by decide +kernel
theorem dX7_atom_48 : decode cX7_atom 48 = .ok (.iastore, 1) := by decide +kernel
theorem dX7_atom_49 : decode cX7_atom 49 = .ok (.iload 5, 2) := by decide +kernel
theorem dX7_atom_51 : decode cX7_atom 51 = .ok (.iload_n 3, 1) := by decide +kernel
theorem dX7_atom_52 : decode cX7_atom 52 = .ok (.if_icmp .le 6, 3) := by decide +kernel
theorem dX7_atom_55 : decode cX7_atom 55 = .ok (.iload 5, 2) := by decide +kernel
theorem dX7_atom_57 : decode cX7_atom 57 = .ok (.istore_n 3, 1) := by decide +kernel
theorem dX7_atom_58 : decode cX7_atom 58 = .ok (.iload 5, 2) := by decide +kernel
theorem dX7_atom_60 : decode cX7_atom 60 = .ok (.ineg, 1) := by decide +kernel
theorem dX7_atom_61 : decode cX7_atom 61 = .ok (.iload_n 3, 1) := by decide +kernel
theorem dX7_atom_62 : decode cX7_atom 62 = .ok (.if_icmp .le 7, 3) := by decide +kernel
theorem dX7_atom_65 : decode cX7_atom 65 = .ok (.iload 5, 2) := by decide +kernel
theorem dX7_atom_67 : decode cX7_atom 67 = .ok (.ineg, 1) := by decide +kernel
theorem dX7_atom_68 : decode cX7_atom 68 = .ok (.istore_n 3, 1) := by decide +kernel
theorem dX7_atom_69 : decode cX7_atom 69 = .ok (.aload_n 0, 1) := by decide +kernel
theorem dX7_atom_70 : decode cX7_atom 70 = .ok (.getfield 13, 3) := by decide +kernel
theorem dX7_atom_73 : decode cX7_atom 73 = .ok (.iload 4, 2) := by decide +kernel
theorem dX7_atom_75 : decode cX7_atom 75 = .ok (.iconst 0, 1) := by decide +kernel
theorem dX7_atom_76 : decode cX7_atom 76 = .ok (.iastore, 1) := by decide +kernel
theorem dX7_atom_77 : decode cX7_atom 77 = .ok (.iinc 4 1, 3) := by decide +kernel
theorem dX7_atom_80 : decode cX7_atom 80 = .ok (.goto (-64), 3) := by decide +kernel
theorem dX7_atom_83 : decode cX7_atom 83 = .ok (.aload_n 0, 1) := by decide +kernel
theorem dX7_atom_84 : decode cX7_atom 84 = .ok (.getfield 39, 3) := by decide +kernel
theorem dX7_atom_87 : decode cX7_atom 87 = .ok (.aload_n 0, 1) := by decide +kernel
theorem dX7_atom_88 : decode cX7_atom 88 = .ok (.getfield 33, 3) := by decide +kernel
theorem dX7_atom_91 : decode cX7_atom 91 = .ok (.iload_n 3, 1) := by decide +kernel
theorem dX7_atom_92 : decode cX7_atom 92 = .ok (.iastore, 1) := by decide +kernel
theorem dX7_atom_93 : decode cX7_atom 93 = .ok (.aload_n 0, 1) := by decide +kernel
theorem dX7_atom_94 : decode cX7_atom 94 = .ok (.getfield 42, 3) := by decide +kernel
theorem dX7_atom_97 : decode cX7_atom 97 = .ok (.aload_n 0, 1) := by decide +kernel
theorem dX7_atom_98 : decode cX7_atom 98 = .ok (.getfield 33, 3) := by decide +kernel
theorem dX7_atom_101 : decode cX7_atom 101 = .ok (.iload_n 2, 1) := by decide +kernel
theorem dX7_atom_102 : decode cX7_atom 102 = .ok (.iastore, 1) := by decide +kernel
theorem dX7_atom_103 : decode cX7_atom 103 = .ok (.aload_n 0, 1) := by decide +kernel
theorem dX7_atom_104 : decode cX7_atom 104 = .ok (.getfield 45, 3) := by decide +kernel
theorem dX7_atom_107 : decode cX7_atom 107 = .ok (.aload_n 0, 1) := by decide +kernel
theorem dX7_atom_108 : decode cX7_atom 108 = .ok (.getfield 33, 3) := by decide +kernel
theorem dX7_atom_111 : decode cX7_atom 111 = .ok (.iload_n 1, 1) := by decide +kernel
theorem dX7_atom_112 : decode cX7_atom 112 = .ok (.iastore, 1) := by decide +kernel
theorem dX7_atom_113 : decode cX7_atom 113 = .ok (.aload_n 0, 1) := by decide +kernel
theorem dX7_atom_114 : decode cX7_atom 114 = .ok (.dup, 1) := by decide +kernel
theorem dX7_atom_115 : decode cX7_atom 115 = .ok (.getfield 33, 3) := by decide +kernel
theorem dX7_atom_118 : decode cX7_atom 118 = .ok (.iconst 1, 1) := by decide +kernel
theorem dX7_atom_119 : decode cX7_atom 119 = .ok (.iadd, 1) := by decide +kernel
theorem dX7_atom_120 : decode cX7_atom 120 = .ok (.putfield 33, 3) := by decide +kernel
theorem dX7_atom_123 : decode cX7_atom 123 = .ok (.aload_n 0, 1) := by decide +kernel
theorem dX7_atom_124 : decode cX7_atom 124 = .ok (.iconst 3, 1) := by decide +kernel
theorem dX7_atom_125 : decode cX7_atom 125 = .ok (.aload_n 0, 1) := by decide +kernel
theorem dX7_atom_126 : decode cX7_atom 126 = .ok (.getfield 33, 3) := by decide +kernel
theorem dX7_atom_129 : decode cX7_atom 129 = .ok (.iconst 1, 1) := by decide +kernel
theorem dX7_atom_130 : decode cX7_atom 130 = .ok (.isub, 1) := by decide +kernel
theorem dX7_atom_131 : decode cX7_atom 131 = .ok (.iconst 0, 1) := by decide +kernel
theorem dX7_atom_132 : decode cX7_atom 132 = .ok (.invokevirtual 132, 3) := by decide +kernel
theorem dX7_atom_135 : decode cX7_atom 135 = .ok (.ireturn, 1) := by decide +kernel
theorem dX7_node_0 : decode cX7_node 0 = .ok (.aload_n 0, 1) := by decide +kernel
theorem dX7_node_1 : decode cX7_node 1 = .ok (.getfield 20, 3) := by decide +kernel
theorem dX7_node_4 : decode cX7_node 4 = .ok (.aload_n 0, 1) := by decide +kernel
theorem dX7_node_5 : decode cX7_node 5 = .ok (.getfield 17, 3) := by decide +kernel
theorem dX7_node_8 : decode cX7_node 8 = .ok (.iload_n 1, 1) := by decide +kernel
theorem dX7_node_9 : decode cX7_node 9 = .ok (.iastore, 1) := by decide +kernel
theorem dX7_node_10 : decode cX7_node 10 = .ok (.aload_n 0, 1) := by decide +kernel
theorem dX7_node_11 : decode cX7_node 11 = .ok (.getfield 23, 3) := by decide +kernel
theorem dX7_node_14 : decode cX7_node 14 = .ok (.aload_n 0, 1) := by decide +kernel
theorem dX7_node_15 : decode cX7_node 15 = .ok (.getfield 17, 3) := by decide +kernel
theorem dX7_node_18 : decode cX7_node 18 = .ok (.iload_n 2, 1) := by decide +kernel
theorem dX7_node_19 : decode cX7_node 19 = .ok (.iastore, 1) := by decide +kernel
theorem dX7_node_20 : decode cX7_node 20 = .ok (.aload_n 0, 1) := by decide +kernel
theorem dX7_node_21 : decode cX7_node 21 = .ok (.getfield 26, 3) := by decide +kernel
theorem dX7_node_24 : decode cX7_node 24 = .ok (.aload_n 0, 1) := by decide +kernel
theorem dX7_node_25 : decode cX7_node 25 = .ok (.getfield 17, 3) := by decide +kernel
theorem dX7_node_28 : decode cX7_node 28 = .ok (.iload_n 3, 1) := by decide +kernel
theorem dX7_node_29 : decode cX7_node 29 = .ok (.iastore, 1) := by decide +kernel
theorem dX7_node_30 : decode cX7_node 30 = .ok (.aload_n 0, 1) := by decide +kernel
theorem dX7_node_31 : decode cX7_node 31 = .ok (.dup, 1) := by decide +kernel
theorem dX7_node_32 : decode cX7_node 32 = .ok (.getfield 17, 3) := by decide +kernel
theorem dX7_node_35 : decode cX7_node 35 = .ok (.iconst 1, 1) := by decide +kernel
theorem dX7_node_36 : decode cX7_node 36 = .ok (.iadd, 1) := by decide +kernel
theorem dX7_node_37 : decode cX7_node 37 = .ok (.putfield 17, 3) := by decide +kernel
theorem dX7_node_40 : decode cX7_node 40 = .ok (.aload_n 0, 1) := by decide +kernel
theorem dX7_node_41 : decode cX7_node 41 = .ok (.getfield 17, 3) := by decide +kernel
theorem dX7_node_44 : decode cX7_node 44 = .ok (.iconst 1, 1) := by decide +kernel
theorem dX7_node_45 : decode cX7_node 45 = .ok (.isub, 1) := by decide +kernel
theorem dX7_node_46 : decode cX7_node 46 = .ok (.ireturn, 1) := by decide +kernel
theorem dX7_full_0 : decode cX7_full 0 = .ok (.aload_n 0, 1) := by decide +kernel
theorem dX7_full_1 : decode cX7_full 1 = .ok (.getfield 48, 3) := by decide +kernel
theorem dX7_full_4 : decode cX7_full 4 = .ok (.ifCond .ne 12, 3) := by decide +kernel
theorem dX7_full_7 : decode cX7_full 7 = .ok (.aload_n 0, 1) := by decide +kernel
theorem dX7_full_8 : decode cX7_full 8 = .ok (.getfield 17, 3) := by decide +kernel
theorem dX7_full_11 : decode cX7_full 11 = .ok (.bipush 20, 2) := by decide +kernel
theorem dX7_full_13 : decode cX7_full 13 = .ok (.if_icmp .ne 7, 3) := by decide +kernel
theorem dX7_full_16 : decode cX7_full 16 = .ok (.iconst 1, 1) := by decide +kernel
theorem dX7_full_17 : decode cX7_full 17 = .ok (.goto 4, 3) := by decide +kernel
theorem dX7_full_20 : decode cX7_full 20 = .ok (.iconst 0, 1) := by decide +kernel
theorem dX7_full_21 : decode cX7_full 21 = .ok (.ireturn, 1) := by decide +kernel
theorem dX7_sum_0 : decode cX7_sum 0 = .ok (.aload_n 0, 1) := by decide +kernel
theorem dX7_sum_1 : decode cX7_sum 1 = .ok (.iload_n 1, 1) := by decide +kernel
theorem dX7_sum_2 : decode cX7_sum 2 = .ok (.bipush (-20), 2) := by decide +kernel
theorem dX7_sum_4 : decode cX7_sum 4 = .ok (.if_icmp .lt 9, 3) := by decide +kernel
theorem dX7_sum_7 : decode cX7_sum 7 = .ok (.iload_n 1, 1) := by decide +kernel
theorem dX7_sum_8 : decode cX7_sum 8 = .ok (.bipush 20, 2) := by decide +kernel
theorem dX7_sum_10 : decode cX7_sum 10 = .ok (.if_icmp .le 7, 3) := by decide +kernel
theorem dX7_sum_13 : decode cX7_sum 13 = .ok (.iconst 1, 1) := by decide +kernel
theorem dX7_sum_14 : decode cX7_sum 14 = .ok (.goto 23, 3) := by decide +kernel
theorem dX7_sum_17 : decode cX7_sum 17 = .ok (.aload_n 0, 1) := by decide +kernel
theorem dX7_sum_18 : decode cX7_sum 18 = .ok (.invokevirtual 136, 3) := by decide +kernel
theorem dX7_sum_21 : decode cX7_sum 21 = .ok (.ifCond .ne 11, 3) := by decide +kernel
theorem dX7_sum_24 : decode cX7_sum 24 = .ok (.aload_n 0, 1) := by decide +kernel
theorem dX7_sum_25 : decode cX7_sum 25 = .ok (.getfield 33, 3) := by decide +kernel
theorem dX7_sum_28 : decode cX7_sum 28 = .ok (.iconst 5, 1) := by decide +kernel
theorem dX7_sum_29 : decode cX7_sum 29 = .ok (.if_icmp .ne 7, 3) := by decide +kernel
theorem dX7_sum_32 : decode cX7_sum 32 = .ok (.iconst 2, 1) := by decide +kernel
theorem dX7_sum_33 : decode cX7_sum 33 = .ok (.goto 4, 3) := by decide +kernel
theorem dX7_sum_36 : decode cX7_sum 36 = .ok (.iconst 0, 1) := by decide +kernel
theorem dX7_sum_37 : decode cX7_sum 37 = .ok (.putfield 7, 3) := by decide +kernel
theorem dX7_sum_40 : decode cX7_sum 40 = .ok (.aload_n 0, 1) := by decide +kernel
theorem dX7_sum_41 : decode cX7_sum 41 = .ok (.getfield 7, 3) := by decide +kernel
theorem dX7_sum_44 : decode cX7_sum 44 = .ok (.ifCond .eq 7, 3) := by decide +kernel
theorem dX7_sum_47 : decode cX7_sum 47 = .ok (.iconst 0, 1) := by decide +kernel
theorem dX7_sum_48 : decode cX7_sum 48 = .ok (.goto 9, 3) := by decide +kernel
theorem dX7_sum_51 : decode cX7_sum 51 = .ok (.aload_n 0, 1) := by decide +kernel
theorem dX7_sum_52 : decode cX7_sum 52 = .ok (.iload_n 1, 1) := by decide +kernel
theorem dX7_sum_53 : decode cX7_sum 53 = .ok (.iconst 0, 1) := by decide +kernel
theorem dX7_sum_54 : decode cX7_sum 54 = .ok (.invokevirtual 139, 3) := by decide +kernel
theorem dX7_sum_57 : decode cX7_sum 57 = .ok (.ireturn, 1) := by decide +kernel
theorem dX7_mod_0 : decode cX7_mod 0 = .ok (.aload_n 0, 1) := by decide +kernel
theorem dX7_mod_1 : decode cX7_mod 1 = .ok (.iload_n 2, 1) := by decide +kernel
theorem dX7_mod_2 : decode cX7_mod 2 = .ok (.iconst 2, 1) := by decide +kernel
theorem dX7_mod_3 : decode cX7_mod 3 = .ok (.if_icmp .lt 18, 3) := by decide +kernel
theorem dX7_mod_6 : decode cX7_mod 6 = .ok (.iload_n 2, 1) := by decide +kernel
theorem dX7_mod_7 : decode cX7_mod 7 = .ok (.bipush 16, 2) := by decide +kernel
theorem dX7_mod_9 : decode cX7_mod 9 = .ok (.if_icmp .gt 12, 3) := by decide +kernel
theorem dX7_mod_12 : decode cX7_mod 12 = .ok (.iload_n 1, 1) := by decide +kernel
theorem dX7_mod_13 : decode cX7_mod 13 = .ok (.ifCond .lt 8, 3) := by decide +kernel
theorem dX7_mod_16 : decode cX7_mod 16 = .ok (.iload_n 1, 1) := by decide +kernel
theorem dX7_mod_17 : decode cX7_mod 17 = .ok (.iload_n 2, 1) := by decide +kernel
theorem dX7_mod_18 : decode cX7_mod 18 = .ok (.if_icmp .lt 7, 3) := by decide +kernel
theorem dX7_mod_21 : decode cX7_mod 21 = .ok (.iconst 1, 1) := by decide +kernel
theorem dX7_mod_22 : decode cX7_mod 22 = .ok (.goto 23, 3) := by decide +kernel
theorem dX7_mod_25 : decode cX7_mod 25 = .ok (.aload_n 0, 1) := by decide +kernel
theorem dX7_mod_26 : decode cX7_mod 26 = .ok (.invokevirtual 136, 3) := by decide +kernel
theorem dX7_mod_29 : decode cX7_mod 29 = .ok (.ifCond .ne 11, 3) := by decide +kernel
theorem dX7_mod_32 : decode cX7_mod 32 = .ok (.aload_n 0, 1) := by decide +kernel
theorem dX7_mod_33 : decode cX7_mod 33 = .ok (.getfield 33, 3) := by decide +kernel
theorem dX7_mod_36 : decode cX7_mod 36 = .ok (.iconst 5, 1) := by decide +kernel
theorem dX7_mod_37 : decode cX7_mod 37 = .ok (.if_icmp .ne 7, 3) := by decide +kernel
theorem dX7_mod_40 : decode cX7_mod 40 = .ok (.iconst 2, 1) := by decide +kernel
theorem dX7_mod_41 : decode cX7_mod 41 = .ok (.goto 4, 3) := by decide +kernel
theorem dX7_mod_44 : decode cX7_mod 44 = .ok (.iconst 0, 1) := by decide +kernel
theorem dX7_mod_45 : decode cX7_mod 45 = .ok (.putfield 7, 3) := by decide +kernel
theorem dX7_mod_48 : decode cX7_mod 48 = .ok (.aload_n 0, 1) := by decide +kernel
theorem dX7_mod_49 : decode cX7_mod 49 = .ok (.getfield 7, 3) := by decide +kernel
theorem dX7_mod_52 : decode cX7_mod 52 = .ok (.ifCond .eq 7, 3) := by decide +kernel
theorem dX7_mod_55 : decode cX7_mod 55 = .ok (.iconst 0, 1) := by decide +kernel
theorem dX7_mod_56 : decode cX7_mod 56 = .ok (.goto 9, 3) := by decide +kernel
theorem dX7_mod_59 : decode cX7_mod 59 = .ok (.aload_n 0, 1) := by decide +kernel
theorem dX7_mod_60 : decode cX7_mod 60 = .ok (.iload_n 1, 1) := by decide +kernel
theorem dX7_mod_61 : decode cX7_mod 61 = .ok (.iload_n 2, 1) := by decide +kernel
theorem dX7_mod_62 : decode cX7_mod 62 = .ok (.invokevirtual 139, 3) := by decide +kernel
theorem dX7_mod_65 : decode cX7_mod 65 = .ok (.ireturn, 1) := by decide +kernel
theorem dX7_combine_0 : decode cX7_combine 0 = .ok (.iload_n 1, 1) := by decide +kernel
theorem dX7_combine_1 : decode cX7_combine 1 = .ok (.ifCond .lt 37, 3) := by decide +kernel
theorem dX7_combine_4 : decode cX7_combine 4 = .ok (.iload_n 1, 1) := by decide +kernel
theorem dX7_combine_5 : decode cX7_combine 5 = .ok (.iconst 2, 1) := by decide +kernel
theorem dX7_combine_6 : decode cX7_combine 6 = .ok (.if_icmp .gt 32, 3) := by decide +kernel
theorem dX7_combine_9 : decode cX7_combine 9 = .ok (.iload_n 2, 1) := by decide +kernel
theorem dX7_combine_10 : decode cX7_combine 10 = .ok (.ifCond .lt 28, 3) := by decide +kernel
theorem dX7_combine_13 : decode cX7_combine 13 = .ok (.iload_n 2, 1) := by decide +kernel
theorem dX7_combine_14 : decode cX7_combine 14 = .ok (.aload_n 0, 1) := by decide +kernel
theorem dX7_combine_15 : decode cX7_combine 15 = .ok (.getfield 17, 3) := by decide +kernel
theorem dX7_combine_18 : decode cX7_combine 18 = .ok (.if_icmp .ge 20, 3) := by decide +kernel
theorem dX7_combine_21 : decode cX7_combine 21 = .ok (.iload_n 1, 1) := by decide +kernel
theorem dX7_combine_22 : decode cX7_combine 22 = .ok (.iconst 2, 1) := by decide +kernel
theorem dX7_combine_23 : decode cX7_combine 23 = .ok (.if_icmp .ge 19, 3) := by decide +kernel
theorem dX7_combine_26 : decode cX7_combine 26 = .ok (.iload_n 3, 1) := by decide +kernel
theorem dX7_combine_27 : decode cX7_combine 27 = .ok (.ifCond .lt 11, 3) := by decide +kernel
theorem dX7_combine_30 : decode cX7_combine 30 = .ok (.iload_n 3, 1) := by decide +kernel
theorem dX7_combine_31 : decode cX7_combine 31 = .ok (.aload_n 0, 1) := by decide +kernel
theorem dX7_combine_32 : decode cX7_combine 32 = .ok (.getfield 17, 3) := by decide +kernel
theorem dX7_combine_35 : decode cX7_combine 35 = .ok (.if_icmp .lt 7, 3) := by decide +kernel
theorem dX7_combine_38 : decode cX7_combine 38 = .ok (.iconst 1, 1) := by decide +kernel
theorem dX7_combine_39 : decode cX7_combine 39 = .ok (.goto 4, 3) := by decide +kernel
theorem dX7_combine_42 : decode cX7_combine 42 = .ok (.iconst 0, 1) := by decide +kernel
theorem dX7_combine_43 : decode cX7_combine 43 = .ok (.istore 4, 2) := by decide +kernel
theorem dX7_combine_45 : decode cX7_combine 45 = .ok (.aload_n 0, 1) := by decide +kernel
theorem dX7_combine_46 : decode cX7_combine 46 = .ok (.iload 4, 2) := by decide +kernel
theorem dX7_combine_48 : decode cX7_combine 48 = .ok (.ifCond .eq 7, 3) := by decide +kernel
theorem dX7_combine_51 : decode cX7_combine 51 = .ok (.iconst 1, 1) := by decide +kernel
theorem dX7_combine_52 : decode cX7_combine 52 = .ok (.goto 15, 3) := by decide +kernel
theorem dX7_combine_55 : decode cX7_combine 55 = .ok (.aload_n 0, 1) := by decide +kernel
theorem dX7_combine_56 : decode cX7_combine 56 = .ok (.invokevirtual 136, 3) := by decide +kernel
theorem dX7_combine_59 : decode cX7_combine 59 = .ok (.ifCond .eq 7, 3) := by decide +kernel
theorem dX7_combine_62 : decode cX7_combine 62 = .ok (.iconst 2, 1) := by decide +kernel
theorem dX7_combine_63 : decode cX7_combine 63 = .ok (.goto 4, 3) := by decide +kernel
theorem dX7_combine_66 : decode cX7_combine 66 = .ok (.iconst 0, 1) := by decide +kernel
theorem dX7_combine_67 : decode cX7_combine 67 = .ok (.putfield 7, 3) := by decide +kernel
theorem dX7_combine_70 : decode cX7_combine 70 = .ok (.aload_n 0, 1) := by decide +kernel
theorem dX7_combine_71 : decode cX7_combine 71 = .ok (.getfield 7, 3) := by decide +kernel
theorem dX7_combine_74 : decode cX7_combine 74 = .ok (.ifCond .eq 7, 3) := by decide +kernel
theorem dX7_combine_77 : decode cX7_combine 77 = .ok (.iconst 0, 1) := by decide +kernel
theorem dX7_combine_78 : decode cX7_combine 78 = .ok (.goto 19, 3) := by decide +kernel
theorem dX7_combine_81 : decode cX7_combine 81 = .ok (.aload_n 0, 1) := by decide +kernel
theorem dX7_combine_82 : decode cX7_combine 82 = .ok (.iload_n 1, 1) := by decide +kernel
theorem dX7_combine_83 : decode cX7_combine 83 = .ok (.iload_n 2, 1) := by decide +kernel
theorem dX7_combine_84 : decode cX7_combine 84 = .ok (.iload_n 1, 1) := by decide +kernel
theorem dX7_combine_85 : decode cX7_combine 85 = .ok (.iconst 2, 1) := by decide +kernel
theorem dX7_combine_86 : decode cX7_combine 86 = .ok (.if_icmp .ne 7, 3) := by decide +kernel
theorem dX7_combine_89 : decode cX7_combine 89 = .ok (.iconst (-1), 1) := by decide +kernel
end
section
theorem dX7_combine_90 : decode cX7_combine 90 = .ok (.goto 4, 3) := by decide +kernel
theorem dX7_combine_93 : decode cX7_combine 93 = .ok (.iload_n 3, 1) := by decide +kernel
theorem dX7_combine_94 : decode cX7_combine 94 = .ok (.invokevirtual 132, 3) := by decide +kernel
theorem dX7_combine_97 : decode cX7_combine 97 = .ok (.ireturn, 1) := by decide +kernel
theorem dX7_compile_0 : decode cX7_compile 0 = .ok (.iconst 0, 1) := by decide +kernel
theorem dX7_compile_1 : decode cX7_compile 1 = .ok (.istore_n 1, 1) := by decide +kernel
theorem dX7_compile_2 : decode cX7_compile 2 = .ok (.iconst 0, 1) := by decide +kernel
theorem dX7_compile_3 : decode cX7_compile 3 = .ok (.istore_n 2, 1) := by decide +kernel
theorem dX7_compile_4 : decode cX7_compile 4 = .ok (.iload_n 2, 1) := by decide +kernel
theorem dX7_compile_5 : decode cX7_compile 5 = .ok (.aload_n 0, 1) := by decide +kernel
theorem dX7_compile_6 : decode cX7_compile 6 = .ok (.getfield 17, 3) := by decide +kernel
theorem dX7_compile_9 : decode cX7_compile 9 = .ok (.if_icmp .ge 86, 3) := by decide +kernel
theorem dX7_compile_12 : decode cX7_compile 12 = .ok (.iconst 0, 1) := by decide +kernel
theorem dX7_compile_13 : decode cX7_compile 13 = .ok (.istore_n 3, 1) := by decide +kernel
theorem dX7_compile_14 : decode cX7_compile 14 = .ok (.iconst 0, 1) := by decide +kernel
theorem dX7_compile_15 : decode cX7_compile 15 = .ok (.istore 4, 2) := by decide +kernel
theorem dX7_compile_17 : decode cX7_compile 17 = .ok (.iload 4, 2) := by decide +kernel
theorem dX7_compile_19 : decode cX7_compile 19 = .ok (.aload_n 0, 1) := by decide +kernel
theorem dX7_compile_20 : decode cX7_compile 20 = .ok (.getfield 17, 3) := by decide +kernel
theorem dX7_compile_23 : decode cX7_compile 23 = .ok (.if_icmp .ge 59, 3) := by decide +kernel
theorem dX7_compile_26 : decode cX7_compile 26 = .ok (.aload_n 0, 1) := by decide +kernel
theorem dX7_compile_27 : decode cX7_compile 27 = .ok (.getfield 20, 3) := by decide +kernel
theorem dX7_compile_30 : decode cX7_compile 30 = .ok (.iload 4, 2) := by decide +kernel
theorem dX7_compile_32 : decode cX7_compile 32 = .ok (.iaload, 1) := by decide +kernel
theorem dX7_compile_33 : decode cX7_compile 33 = .ok (.iconst 3, 1) := by decide +kernel
theorem dX7_compile_34 : decode cX7_compile 34 = .ok (.if_icmp .ge 17, 3) := by decide +kernel
theorem dX7_compile_37 : decode cX7_compile 37 = .ok (.aload_n 0, 1) := by decide +kernel
theorem dX7_compile_38 : decode cX7_compile 38 = .ok (.getfield 23, 3) := by decide +kernel
theorem dX7_compile_41 : decode cX7_compile 41 = .ok (.iload 4, 2) := by decide +kernel
theorem dX7_compile_43 : decode cX7_compile 43 = .ok (.iaload, 1) := by decide +kernel
theorem dX7_compile_44 : decode cX7_compile 44 = .ok (.iload_n 2, 1) := by decide +kernel
theorem dX7_compile_45 : decode cX7_compile 45 = .ok (.if_icmp .ne 6, 3) := by decide +kernel
theorem dX7_compile_48 : decode cX7_compile 48 = .ok (.iinc 3 1, 3) := by decide +kernel
theorem dX7_compile_51 : decode cX7_compile 51 = .ok (.aload_n 0, 1) := by decide +kernel
theorem dX7_compile_52 : decode cX7_compile 52 = .ok (.getfield 20, 3) := by decide +kernel
theorem dX7_compile_55 : decode cX7_compile 55 = .ok (.iload 4, 2) := by decide +kernel
theorem dX7_compile_57 : decode cX7_compile 57 = .ok (.iaload, 1) := by decide +kernel
theorem dX7_compile_58 : decode cX7_compile 58 = .ok (.iconst 2, 1) := by decide +kernel
theorem dX7_compile_59 : decode cX7_compile 59 = .ok (.if_icmp .ge 17, 3) := by decide +kernel
theorem dX7_compile_62 : decode cX7_compile 62 = .ok (.aload_n 0, 1) := by decide +kernel
theorem dX7_compile_63 : decode cX7_compile 63 = .ok (.getfield 26, 3) := by decide +kernel
theorem dX7_compile_66 : decode cX7_compile 66 = .ok (.iload 4, 2) := by decide +kernel
theorem dX7_compile_68 : decode cX7_compile 68 = .ok (.iaload, 1) := by decide +kernel
theorem dX7_compile_69 : decode cX7_compile 69 = .ok (.iload_n 2, 1) := by decide +kernel
theorem dX7_compile_70 : decode cX7_compile 70 = .ok (.if_icmp .ne 6, 3) := by decide +kernel
theorem dX7_compile_73 : decode cX7_compile 73 = .ok (.iinc 3 1, 3) := by decide +kernel
theorem dX7_compile_76 : decode cX7_compile 76 = .ok (.iinc 4 1, 3) := by decide +kernel
theorem dX7_compile_79 : decode cX7_compile 79 = .ok (.goto (-62), 3) := by decide +kernel
theorem dX7_compile_82 : decode cX7_compile 82 = .ok (.iload_n 3, 1) := by decide +kernel
theorem dX7_compile_83 : decode cX7_compile 83 = .ok (.iconst 1, 1) := by decide +kernel
theorem dX7_compile_84 : decode cX7_compile 84 = .ok (.if_icmp .le 5, 3) := by decide +kernel
theorem dX7_compile_87 : decode cX7_compile 87 = .ok (.iconst 1, 1) := by decide +kernel
theorem dX7_compile_88 : decode cX7_compile 88 = .ok (.istore_n 1, 1) := by decide +kernel
theorem dX7_compile_89 : decode cX7_compile 89 = .ok (.iinc 2 1, 3) := by decide +kernel
theorem dX7_compile_92 : decode cX7_compile 92 = .ok (.goto (-88), 3) := by decide +kernel
theorem dX7_compile_95 : decode cX7_compile 95 = .ok (.aload_n 0, 1) := by decide +kernel
theorem dX7_compile_96 : decode cX7_compile 96 = .ok (.aload_n 0, 1) := by decide +kernel
theorem dX7_compile_97 : decode cX7_compile 97 = .ok (.getfield 17, 3) := by decide +kernel
theorem dX7_compile_100 : decode cX7_compile 100 = .ok (.ifCond .eq 14, 3) := by decide +kernel
theorem dX7_compile_103 : decode cX7_compile 103 = .ok (.iload_n 1, 1) := by decide +kernel
theorem dX7_compile_104 : decode cX7_compile 104 = .ok (.ifCond .ne 10, 3) := by decide +kernel
theorem dX7_compile_107 : decode cX7_compile 107 = .ok (.aload_n 0, 1) := by decide +kernel
theorem dX7_compile_108 : decode cX7_compile 108 = .ok (.getfield 48, 3) := by decide +kernel
theorem dX7_compile_111 : decode cX7_compile 111 = .ok (.ifCond .eq 7, 3) := by decide +kernel
theorem dX7_compile_114 : decode cX7_compile 114 = .ok (.iconst 1, 1) := by decide +kernel
theorem dX7_compile_115 : decode cX7_compile 115 = .ok (.goto 4, 3) := by decide +kernel
theorem dX7_compile_118 : decode cX7_compile 118 = .ok (.iconst 0, 1) := by decide +kernel
theorem dX7_compile_119 : decode cX7_compile 119 = .ok (.putfield 7, 3) := by decide +kernel
theorem dX7_compile_122 : decode cX7_compile 122 = .ok (.aload_n 0, 1) := by decide +kernel
theorem dX7_compile_123 : decode cX7_compile 123 = .ok (.getfield 7, 3) := by decide +kernel
theorem dX7_compile_126 : decode cX7_compile 126 = .ok (.ifCond .eq 5, 3) := by decide +kernel
theorem dX7_compile_129 : decode cX7_compile 129 = .ok (.iconst 0, 1) := by decide +kernel
theorem dX7_compile_130 : decode cX7_compile 130 = .ok (.ireturn, 1) := by decide +kernel
theorem dX7_compile_131 : decode cX7_compile 131 = .ok (.aload_n 0, 1) := by decide +kernel
theorem dX7_compile_132 : decode cX7_compile 132 = .ok (.iconst 1, 1) := by decide +kernel
theorem dX7_compile_133 : decode cX7_compile 133 = .ok (.putfield 48, 3) := by decide +kernel
theorem dX7_compile_136 : decode cX7_compile 136 = .ok (.iconst 0, 1) := by decide +kernel
theorem dX7_compile_137 : decode cX7_compile 137 = .ok (.istore_n 2, 1) := by decide +kernel
theorem dX7_compile_138 : decode cX7_compile 138 = .ok (.iconst 0, 1) := by decide +kernel
theorem dX7_compile_139 : decode cX7_compile 139 = .ok (.istore_n 3, 1) := by decide +kernel
theorem dX7_compile_140 : decode cX7_compile 140 = .ok (.iload_n 3, 1) := by decide +kernel
theorem dX7_compile_141 : decode cX7_compile 141 = .ok (.aload_n 0, 1) := by decide +kernel
theorem dX7_compile_142 : decode cX7_compile 142 = .ok (.getfield 33, 3) := by decide +kernel
theorem dX7_compile_145 : decode cX7_compile 145 = .ok (.if_icmp .ge 22, 3) := by decide +kernel
theorem dX7_compile_148 : decode cX7_compile 148 = .ok (.aload_n 0, 1) := by decide +kernel
theorem dX7_compile_149 : decode cX7_compile 149 = .ok (.iload_n 3, 1) := by decide +kernel
theorem dX7_compile_150 : decode cX7_compile 150 = .ok (.invokevirtual 142, 3) := by decide +kernel
theorem dX7_compile_153 : decode cX7_compile 153 = .ok (.iload_n 2, 1) := by decide +kernel
theorem dX7_compile_154 : decode cX7_compile 154 = .ok (.aload_n 0, 1) := by decide +kernel
theorem dX7_compile_155 : decode cX7_compile 155 = .ok (.iload_n 3, 1) := by decide +kernel
theorem dX7_compile_156 : decode cX7_compile 156 = .ok (.invokevirtual 146, 3) := by decide +kernel
theorem dX7_compile_159 : decode cX7_compile 159 = .ok (.iadd, 1) := by decide +kernel
theorem dX7_compile_160 : decode cX7_compile 160 = .ok (.istore_n 2, 1) := by decide +kernel
theorem dX7_compile_161 : decode cX7_compile 161 = .ok (.iinc 3 1, 3) := by decide +kernel
theorem dX7_compile_164 : decode cX7_compile 164 = .ok (.goto (-24), 3) := by decide +kernel
theorem dX7_compile_167 : decode cX7_compile 167 = .ok (.iload_n 2, 1) := by decide +kernel
theorem dX7_compile_168 : decode cX7_compile 168 = .ok (.ireturn, 1) := by decide +kernel
theorem dX7_add_0 : decode cX7_add 0 = .ok (.aload_n 0, 1) := by decide +kernel
theorem dX7_add_1 : decode cX7_add 1 = .ok (.iload_n 1, 1) := by decide +kernel
theorem dX7_add_2 : decode cX7_add 2 = .ok (.ifCond .lt 13, 3) := by decide +kernel
theorem dX7_add_5 : decode cX7_add 5 = .ok (.iload_n 1, 1) := by decide +kernel
theorem dX7_add_6 : decode cX7_add 6 = .ok (.bipush 7, 2) := by decide +kernel
theorem dX7_add_8 : decode cX7_add 8 = .ok (.if_icmp .gt 7, 3) := by decide +kernel
theorem dX7_add_11 : decode cX7_add 11 = .ok (.iload_n 2, 1) := by decide +kernel
theorem dX7_add_12 : decode cX7_add 12 = .ok (.ifCond .ge 7, 3) := by decide +kernel
theorem dX7_add_15 : decode cX7_add 15 = .ok (.iconst 1, 1) := by decide +kernel
theorem dX7_add_16 : decode cX7_add 16 = .ok (.goto 27, 3) := by decide +kernel
theorem dX7_add_19 : decode cX7_add 19 = .ok (.aload_n 0, 1) := by decide +kernel
theorem dX7_add_20 : decode cX7_add 20 = .ok (.getfield 48, 3) := by decide +kernel
theorem dX7_add_23 : decode cX7_add 23 = .ok (.ifCond .eq 15, 3) := by decide +kernel
theorem dX7_add_26 : decode cX7_add 26 = .ok (.iload_n 2, 1) := by decide +kernel
theorem dX7_add_27 : decode cX7_add 27 = .ok (.sipush 200, 3) := by decide +kernel
theorem dX7_add_30 : decode cX7_add 30 = .ok (.aload_n 0, 1) := by decide +kernel
theorem dX7_add_31 : decode cX7_add 31 = .ok (.getfield 55, 3) := by decide +kernel
theorem dX7_add_34 : decode cX7_add 34 = .ok (.isub, 1) := by decide +kernel
theorem dX7_add_35 : decode cX7_add 35 = .ok (.if_icmp .le 7, 3) := by decide +kernel
theorem dX7_add_38 : decode cX7_add 38 = .ok (.iconst 2, 1) := by decide +kernel
theorem dX7_add_39 : decode cX7_add 39 = .ok (.goto 4, 3) := by decide +kernel
theorem dX7_add_42 : decode cX7_add 42 = .ok (.iconst 0, 1) := by decide +kernel
theorem dX7_add_43 : decode cX7_add 43 = .ok (.putfield 7, 3) := by decide +kernel
theorem dX7_add_46 : decode cX7_add 46 = .ok (.aload_n 0, 1) := by decide +kernel
theorem dX7_add_47 : decode cX7_add 47 = .ok (.getfield 7, 3) := by decide +kernel
theorem dX7_add_50 : decode cX7_add 50 = .ok (.ifCond .eq 5, 3) := by decide +kernel
theorem dX7_add_53 : decode cX7_add 53 = .ok (.iconst 0, 1) := by decide +kernel
theorem dX7_add_54 : decode cX7_add 54 = .ok (.ireturn, 1) := by decide +kernel
theorem dX7_add_55 : decode cX7_add 55 = .ok (.iconst 0, 1) := by decide +kernel
theorem dX7_add_56 : decode cX7_add 56 = .ok (.istore_n 3, 1) := by decide +kernel
theorem dX7_add_57 : decode cX7_add 57 = .ok (.iload_n 3, 1) := by decide +kernel
theorem dX7_add_58 : decode cX7_add 58 = .ok (.iload_n 2, 1) := by decide +kernel
theorem dX7_add_59 : decode cX7_add 59 = .ok (.if_icmp .ge 58, 3) := by decide +kernel
theorem dX7_add_62 : decode cX7_add 62 = .ok (.iconst 0, 1) := by decide +kernel
theorem dX7_add_63 : decode cX7_add 63 = .ok (.istore 4, 2) := by decide +kernel
theorem dX7_add_65 : decode cX7_add 65 = .ok (.iload 4, 2) := by decide +kernel
theorem dX7_add_67 : decode cX7_add 67 = .ok (.aload_n 0, 1) := by decide +kernel
theorem dX7_add_68 : decode cX7_add 68 = .ok (.getfield 33, 3) := by decide +kernel
theorem dX7_add_71 : decode cX7_add 71 = .ok (.if_icmp .ge 30, 3) := by decide +kernel
theorem dX7_add_74 : decode cX7_add 74 = .ok (.aload_n 0, 1) := by decide +kernel
theorem dX7_add_75 : decode cX7_add 75 = .ok (.getfield 58, 3) := by decide +kernel
theorem dX7_add_78 : decode cX7_add 78 = .ok (.iconst 5, 1) := by decide +kernel
theorem dX7_add_79 : decode cX7_add 79 = .ok (.aload_n 0, 1) := by decide +kernel
theorem dX7_add_80 : decode cX7_add 80 = .ok (.getfield 55, 3) := by decide +kernel
theorem dX7_add_83 : decode cX7_add 83 = .ok (.imul, 1) := by decide +kernel
theorem dX7_add_84 : decode cX7_add 84 = .ok (.iload 4, 2) := by decide +kernel
theorem dX7_add_86 : decode cX7_add 86 = .ok (.iadd, 1) := by decide +kernel
theorem dX7_add_87 : decode cX7_add 87 = .ok (.aload_n 0, 1) := by decide +kernel
theorem dX7_add_88 : decode cX7_add 88 = .ok (.iload 4, 2) := by decide +kernel
theorem dX7_add_90 : decode cX7_add 90 = .ok (.iload_n 1, 1) := by decide +kernel
theorem dX7_add_91 : decode cX7_add 91 = .ok (.invokevirtual 101, 3) := by decide +kernel
theorem dX7_add_94 : decode cX7_add 94 = .ok (.iastore, 1) := by decide +kernel
theorem dX7_add_95 : decode cX7_add 95 = .ok (.iinc 4 1, 3) := by decide +kernel
theorem dX7_add_98 : decode cX7_add 98 = .ok (.goto (-33), 3) := by decide +kernel
theorem dX7_add_101 : decode cX7_add 101 = .ok (.aload_n 0, 1) := by decide +kernel
theorem dX7_add_102 : decode cX7_add 102 = .ok (.dup, 1) := by decide +kernel
theorem dX7_add_103 : decode cX7_add 103 = .ok (.getfield 55, 3) := by decide +kernel
theorem dX7_add_106 : decode cX7_add 106 = .ok (.iconst 1, 1) := by decide +kernel
theorem dX7_add_107 : decode cX7_add 107 = .ok (.iadd, 1) := by decide +kernel
theorem dX7_add_108 : decode cX7_add 108 = .ok (.putfield 55, 3) := by decide +kernel
theorem dX7_add_111 : decode cX7_add 111 = .ok (.iinc 3 1, 3) := by decide +kernel
theorem dX7_add_114 : decode cX7_add 114 = .ok (.goto (-57), 3) := by decide +kernel
theorem dX7_add_117 : decode cX7_add 117 = .ok (.aload_n 0, 1) := by decide +kernel
theorem dX7_add_118 : decode cX7_add 118 = .ok (.getfield 61, 3) := by decide +kernel
theorem dX7_add_121 : decode cX7_add 121 = .ok (.iload_n 1, 1) := by decide +kernel
theorem dX7_add_122 : decode cX7_add 122 = .ok (.dup2, 1) := by decide +kernel
theorem dX7_add_123 : decode cX7_add 123 = .ok (.iaload, 1) := by decide +kernel
theorem dX7_add_124 : decode cX7_add 124 = .ok (.iload_n 2, 1) := by decide +kernel
theorem dX7_add_125 : decode cX7_add 125 = .ok (.iadd, 1) := by decide +kernel
theorem dX7_add_126 : decode cX7_add 126 = .ok (.iastore, 1) := by decide +kernel
theorem dX7_add_127 : decode cX7_add 127 = .ok (.iload_n 2, 1) := by decide +kernel
theorem dX7_add_128 : decode cX7_add 128 = .ok (.ifCond .le 8, 3) := by decide +kernel
theorem dX7_add_131 : decode cX7_add 131 = .ok (.aload_n 0, 1) := by decide +kernel
theorem dX7_add_132 : decode cX7_add 132 = .ok (.iconst 0, 1) := by decide +kernel
theorem dX7_add_133 : decode cX7_add 133 = .ok (.putfield 83, 3) := by decide +kernel
theorem dX7_add_136 : decode cX7_add 136 = .ok (.aload_n 0, 1) := by decide +kernel
theorem dX7_add_137 : decode cX7_add 137 = .ok (.getfield 55, 3) := by decide +kernel
theorem dX7_add_140 : decode cX7_add 140 = .ok (.ireturn, 1) := by decide +kernel
theorem dX7_size_0 : decode cX7_size 0 = .ok (.aload_n 0, 1) := by decide +kernel
theorem dX7_size_1 : decode cX7_size 1 = .ok (.iconst 0, 1) := by decide +kernel
theorem dX7_size_2 : decode cX7_size 2 = .ok (.putfield 7, 3) := by decide +kernel
theorem dX7_size_5 : decode cX7_size 5 = .ok (.aload_n 0, 1) := by decide +kernel
theorem dX7_size_6 : decode cX7_size 6 = .ok (.getfield 55, 3) := by decide +kernel
theorem dX7_size_9 : decode cX7_size 9 = .ok (.ireturn, 1) := by decide +kernel
theorem dX7_noAgent_0 : decode cX7_noAgent 0 = .ok (.iload_n 1, 1) := by decide +kernel
theorem dX7_noAgent_1 : decode cX7_noAgent 1 = .ok (.ifCond .lt 11, 3) := by decide +kernel
theorem dX7_noAgent_4 : decode cX7_noAgent 4 = .ok (.iload_n 1, 1) := by decide +kernel
theorem dX7_noAgent_5 : decode cX7_noAgent 5 = .ok (.aload_n 0, 1) := by decide +kernel
theorem dX7_noAgent_6 : decode cX7_noAgent 6 = .ok (.getfield 55, 3) := by decide +kernel
theorem dX7_noAgent_9 : decode cX7_noAgent 9 = .ok (.if_icmp .lt 7, 3) := by decide +kernel
theorem dX7_noAgent_12 : decode cX7_noAgent 12 = .ok (.iconst 1, 1) := by decide +kernel
theorem dX7_noAgent_13 : decode cX7_noAgent 13 = .ok (.goto 4, 3) := by decide +kernel
theorem dX7_noAgent_16 : decode cX7_noAgent 16 = .ok (.iconst 0, 1) := by decide +kernel
theorem dX7_noAgent_17 : decode cX7_noAgent 17 = .ok (.ireturn, 1) := by decide +kernel
theorem dX7_meet_0 : decode cX7_meet 0 = .ok (.aload_n 0, 1) := by decide +kernel
theorem dX7_meet_1 : decode cX7_meet 1 = .ok (.iload_n 1, 1) := by decide +kernel
theorem dX7_meet_2 : decode cX7_meet 2 = .ok (.iload_n 2, 1) := by decide +kernel
theorem dX7_meet_3 : decode cX7_meet 3 = .ok (.if_icmp .ne 7, 3) := by decide +kernel
theorem dX7_meet_6 : decode cX7_meet 6 = .ok (.iconst 1, 1) := by decide +kernel
theorem dX7_meet_7 : decode cX7_meet 7 = .ok (.goto 24, 3) := by decide +kernel
theorem dX7_meet_10 : decode cX7_meet 10 = .ok (.aload_n 0, 1) := by decide +kernel
theorem dX7_meet_11 : decode cX7_meet 11 = .ok (.iload_n 1, 1) := by decide +kernel
theorem dX7_meet_12 : decode cX7_meet 12 = .ok (.invokevirtual 149, 3) := by decide +kernel
theorem dX7_meet_15 : decode cX7_meet 15 = .ok (.ifCond .ne 11, 3) := by decide +kernel
theorem dX7_meet_18 : decode cX7_meet 18 = .ok (.aload_n 0, 1) := by decide +kernel
theorem dX7_meet_19 : decode cX7_meet 19 = .ok (.iload_n 2, 1) := by decide +kernel
theorem dX7_meet_20 : decode cX7_meet 20 = .ok (.invokevirtual 149, 3) := by decide +kernel
theorem dX7_meet_23 : decode cX7_meet 23 = .ok (.ifCond .eq 7, 3) := by decide +kernel
theorem dX7_meet_26 : decode cX7_meet 26 = .ok (.iconst 2, 1) := by decide +kernel
theorem dX7_meet_27 : decode cX7_meet 27 = .ok (.goto 4, 3) := by decide +kernel
theorem dX7_meet_30 : decode cX7_meet 30 = .ok (.iconst 0, 1) := by decide +kernel
theorem dX7_meet_31 : decode cX7_meet 31 = .ok (.putfield 7, 3) := by decide +kernel
theorem dX7_meet_34 : decode cX7_meet 34 = .ok (.aload_n 0, 1) := by decide +kernel
theorem dX7_meet_35 : decode cX7_meet 35 = .ok (.getfield 7, 3) := by decide +kernel
theorem dX7_meet_38 : decode cX7_meet 38 = .ok (.ifCond .ne 17, 3) := by decide +kernel
theorem dX7_meet_41 : decode cX7_meet 41 = .ok (.aload_n 0, 1) := by decide +kernel
theorem dX7_meet_42 : decode cX7_meet 42 = .ok (.iload_n 1, 1) := by decide +kernel
theorem dX7_meet_43 : decode cX7_meet 43 = .ok (.iload_n 2, 1) := by decide +kernel
theorem dX7_meet_44 : decode cX7_meet 44 = .ok (.iconst 1, 1) := by decide +kernel
theorem dX7_meet_45 : decode cX7_meet 45 = .ok (.invokevirtual 153, 3) := by decide +kernel
theorem dX7_meet_48 : decode cX7_meet 48 = .ok (.ifCond .eq 7, 3) := by decide +kernel
theorem dX7_meet_51 : decode cX7_meet 51 = .ok (.iconst 1, 1) := by decide +kernel
theorem dX7_meet_52 : decode cX7_meet 52 = .ok (.goto 4, 3) := by decide +kernel
theorem dX7_meet_55 : decode cX7_meet 55 = .ok (.iconst 0, 1) := by decide +kernel
theorem dX7_meet_56 : decode cX7_meet 56 = .ok (.ireturn, 1) := by decide +kernel
theorem dX7_sweep_0 : decode cX7_sweep 0 = .ok (.aload_n 0, 1) := by decide +kernel
theorem dX7_sweep_1 : decode cX7_sweep 1 = .ok (.iload_n 1, 1) := by decide +kernel
theorem dX7_sweep_2 : decode cX7_sweep 2 = .ok (.iconst 1, 1) := by decide +kernel
theorem dX7_sweep_3 : decode cX7_sweep 3 = .ok (.if_icmp .lt 10, 3) := by decide +kernel
theorem dX7_sweep_6 : decode cX7_sweep 6 = .ok (.iload_n 1, 1) := by decide +kernel
theorem dX7_sweep_7 : decode cX7_sweep 7 = .ok (.sipush 500, 3) := by decide +kernel
theorem dX7_sweep_10 : decode cX7_sweep 10 = .ok (.if_icmp .le 7, 3) := by decide +kernel
theorem dX7_sweep_13 : decode cX7_sweep 13 = .ok (.iconst 1, 1) := by decide +kernel
theorem dX7_sweep_14 : decode cX7_sweep 14 = .ok (.goto 4, 3) := by decide +kernel
theorem dX7_sweep_17 : decode cX7_sweep 17 = .ok (.iconst 0, 1) := by decide +kernel
theorem dX7_sweep_18 : decode cX7_sweep 18 = .ok (.putfield 7, 3) := by decide +kernel
theorem dX7_sweep_21 : decode cX7_sweep 21 = .ok (.aload_n 0, 1) := by decide +kernel
theorem dX7_sweep_22 : decode cX7_sweep 22 = .ok (.getfield 7, 3) := by decide +kernel
theorem dX7_sweep_25 : decode cX7_sweep 25 = .ok (.ifCond .eq 5, 3) := by decide +kernel
theorem dX7_sweep_28 : decode cX7_sweep 28 = .ok (.iconst 0, 1) := by decide +kernel
theorem dX7_sweep_29 : decode cX7_sweep 29 = .ok (.ireturn, 1) := by decide +kernel
theorem dX7_sweep_30 : decode cX7_sweep 30 = .ok (.iconst 0, 1) := by decide +kernel
theorem dX7_sweep_31 : decode cX7_sweep 31 = .ok (.istore_n 2, 1) := by decide +kernel
theorem dX7_sweep_32 : decode cX7_sweep 32 = .ok (.iconst 0, 1) := by decide +kernel
theorem dX7_sweep_33 : decode cX7_sweep 33 = .ok (.istore_n 3, 1) := by decide +kernel
theorem dX7_sweep_34 : decode cX7_sweep 34 = .ok (.iload_n 3, 1) := by decide +kernel
theorem dX7_sweep_35 : decode cX7_sweep 35 = .ok (.iload_n 1, 1) := by decide +kernel
theorem dX7_sweep_36 : decode cX7_sweep 36 = .ok (.if_icmp .ge 74, 3) := by decide +kernel
theorem dX7_sweep_39 : decode cX7_sweep 39 = .ok (.iload_n 2, 1) := by decide +kernel
theorem dX7_sweep_40 : decode cX7_sweep 40 = .ok (.istore 4, 2) := by decide +kernel
theorem dX7_sweep_42 : decode cX7_sweep 42 = .ok (.iconst 0, 1) := by decide +kernel
theorem dX7_sweep_43 : decode cX7_sweep 43 = .ok (.istore 5, 2) := by decide +kernel
theorem dX7_sweep_45 : decode cX7_sweep 45 = .ok (.iload 5, 2) := by decide +kernel
theorem dX7_sweep_47 : decode cX7_sweep 47 = .ok (.aload_n 0, 1) := by decide +kernel
theorem dX7_sweep_48 : decode cX7_sweep 48 = .ok (.getfield 55, 3) := by decide +kernel
theorem dX7_sweep_51 : decode cX7_sweep 51 = .ok (.if_icmp .ge 45, 3) := by decide +kernel
theorem dX7_sweep_54 : decode cX7_sweep 54 = .ok (.iload 5, 2) := by decide +kernel
theorem dX7_sweep_56 : decode cX7_sweep 56 = .ok (.iconst 1, 1) := by decide +kernel
theorem dX7_sweep_57 : decode cX7_sweep 57 = .ok (.iadd, 1) := by decide +kernel
theorem dX7_sweep_58 : decode cX7_sweep 58 = .ok (.istore 6, 2) := by decide +kernel
theorem dX7_sweep_60 : decode cX7_sweep 60 = .ok (.iload 6, 2) := by decide +kernel
theorem dX7_sweep_62 : decode cX7_sweep 62 = .ok (.aload_n 0, 1) := by decide +kernel
theorem dX7_sweep_63 : decode cX7_sweep 63 = .ok (.getfield 55, 3) := by decide +kernel
theorem dX7_sweep_66 : decode cX7_sweep 66 = .ok (.if_icmp .ge 24, 3) := by decide +kernel
theorem dX7_sweep_69 : decode cX7_sweep 69 = .ok (.aload_n 0, 1) := by decide +kernel
theorem dX7_sweep_70 : decode cX7_sweep 70 = .ok (.iload 5, 2) := by decide +kernel
theorem dX7_sweep_72 : decode cX7_sweep 72 = .ok (.iload 6, 2) := by decide +kernel
theorem dX7_sweep_74 : decode cX7_sweep 74 = .ok (.iconst 1, 1) := by decide +kernel
theorem dX7_sweep_75 : decode cX7_sweep 75 = .ok (.invokevirtual 153, 3) := by decide +kernel
theorem dX7_sweep_78 : decode cX7_sweep 78 = .ok (.ifCond .eq 6, 3) := by decide +kernel
theorem dX7_sweep_81 : decode cX7_sweep 81 = .ok (.iinc 2 1, 3) := by decide +kernel
theorem dX7_sweep_84 : decode cX7_sweep 84 = .ok (.iinc 6 1, 3) := by decide +kernel
theorem dX7_sweep_87 : decode cX7_sweep 87 = .ok (.goto (-27), 3) := by decide +kernel
theorem dX7_sweep_90 : decode cX7_sweep 90 = .ok (.iinc 5 1, 3) := by decide +kernel
theorem dX7_sweep_93 : decode cX7_sweep 93 = .ok (.goto (-48), 3) := by decide +kernel
theorem dX7_sweep_96 : decode cX7_sweep 96 = .ok (.iload_n 2, 1) := by decide +kernel
theorem dX7_sweep_97 : decode cX7_sweep 97 = .ok (.iload 4, 2) := by decide +kernel
theorem dX7_sweep_99 : decode cX7_sweep 99 = .ok (.if_icmp .ne 5, 3) := by decide +kernel
theorem dX7_sweep_102 : decode cX7_sweep 102 = .ok (.iload_n 2, 1) := by decide +kernel
theorem dX7_sweep_103 : decode cX7_sweep 103 = .ok (.ireturn, 1) := by decide +kernel
theorem dX7_sweep_104 : decode cX7_sweep 104 = .ok (.iinc 3 1, 3) := by decide +kernel
theorem dX7_sweep_107 : decode cX7_sweep 107 = .ok (.goto (-73), 3) := by decide +kernel
theorem dX7_sweep_110 : decode cX7_sweep 110 = .ok (.iload_n 2, 1) := by decide +kernel
theorem dX7_sweep_111 : decode cX7_sweep 111 = .ok (.ireturn, 1) := by decide +kernel
theorem dX7_output_0 : decode cX7_output 0 = .ok (.aload_n 0, 1) := by decide +kernel
theorem dX7_output_1 : decode cX7_output 1 = .ok (.aload_n 0, 1) := by decide +kernel
theorem dX7_output_2 : decode cX7_output 2 = .ok (.iload_n 1, 1) := by decide +kernel
theorem dX7_output_3 : decode cX7_output 3 = .ok (.invokevirtual 149, 3) := by decide +kernel
theorem dX7_output_6 : decode cX7_output 6 = .ok (.ifCond .eq 7, 3) := by decide +kernel
theorem dX7_output_9 : decode cX7_output 9 = .ok (.iconst 1, 1) := by decide +kernel
theorem dX7_output_10 : decode cX7_output 10 = .ok (.goto 4, 3) := by decide +kernel
theorem dX7_output_13 : decode cX7_output 13 = .ok (.iconst 0, 1) := by decide +kernel
theorem dX7_output_14 : decode cX7_output 14 = .ok (.putfield 7, 3) := by decide +kernel
theorem dX7_output_17 : decode cX7_output 17 = .ok (.aload_n 0, 1) := by decide +kernel
theorem dX7_output_18 : decode cX7_output 18 = .ok (.getfield 7, 3) := by decide +kernel
theorem dX7_output_21 : decode cX7_output 21 = .ok (.ifCond .ne 15, 3) := by decide +kernel
theorem dX7_output_24 : decode cX7_output 24 = .ok (.aload_n 0, 1) := by decide +kernel
theorem dX7_output_25 : decode cX7_output 25 = .ok (.iload_n 1, 1) := by decide +kernel
theorem dX7_output_26 : decode cX7_output 26 = .ok (.invokevirtual 157, 3) := by decide +kernel
theorem dX7_output_29 : decode cX7_output 29 = .ok (.ifCond .eq 7, 3) := by decide +kernel
theorem dX7_output_32 : decode cX7_output 32 = .ok (.iconst 1, 1) := by decide +kernel
theorem dX7_output_33 : decode cX7_output 33 = .ok (.goto 4, 3) := by decide +kernel
theorem dX7_output_36 : decode cX7_output 36 = .ok (.iconst 0, 1) := by decide +kernel
theorem dX7_output_37 : decode cX7_output 37 = .ok (.ireturn, 1) := by decide +kernel
theorem dX7_partOf_0 : decode cX7_partOf 0 = .ok (.iload_n 1, 1) := by decide +kernel
theorem dX7_partOf_1 : decode cX7_partOf 1 = .ok (.ifCond .ne 10, 3) := by decide +kernel
theorem dX7_partOf_4 : decode cX7_partOf 4 = .ok (.iload_n 0, 1) := by decide +kernel
theorem dX7_partOf_5 : decode cX7_partOf 5 = .ok (.invokestatic 97, 3) := by decide +kernel
theorem dX7_partOf_8 : decode cX7_partOf 8 = .ok (.goto 18, 3) := by decide +kernel
theorem dX7_partOf_11 : decode cX7_partOf 11 = .ok (.iload_n 1, 1) := by decide +kernel
theorem dX7_partOf_12 : decode cX7_partOf 12 = .ok (.iconst 1, 1) := by decide +kernel
theorem dX7_partOf_13 : decode cX7_partOf 13 = .ok (.if_icmp .ne 10, 3) := by decide +kernel
theorem dX7_partOf_16 : decode cX7_partOf 16 = .ok (.iload_n 0, 1) := by decide +kernel
theorem dX7_partOf_17 : decode cX7_partOf 17 = .ok (.bipush 86, 2) := by decide +kernel
theorem dX7_partOf_19 : decode cX7_partOf 19 = .ok (.idiv, 1) := by decide +kernel
theorem dX7_partOf_20 : decode cX7_partOf 20 = .ok (.goto 6, 3) := by decide +kernel
theorem dX7_partOf_23 : decode cX7_partOf 23 = .ok (.iload_n 0, 1) := by decide +kernel
theorem dX7_partOf_24 : decode cX7_partOf 24 = .ok (.iconst 1, 1) := by decide +kernel
theorem dX7_partOf_25 : decode cX7_partOf 25 = .ok (.iand, 1) := by decide +kernel
theorem dX7_partOf_26 : decode cX7_partOf 26 = .ok (.ireturn, 1) := by decide +kernel
theorem dX7_state_0 : decode cX7_state 0 = .ok (.aload_n 0, 1) := by decide +kernel
theorem dX7_state_1 : decode cX7_state 1 = .ok (.aload_n 0, 1) := by decide +kernel
theorem dX7_state_2 : decode cX7_state 2 = .ok (.iload_n 1, 1) := by decide +kernel
theorem dX7_state_3 : decode cX7_state 3 = .ok (.invokevirtual 149, 3) := by decide +kernel
theorem dX7_state_6 : decode cX7_state 6 = .ok (.ifCond .ne 24, 3) := by decide +kernel
theorem dX7_state_9 : decode cX7_state 9 = .ok (.iload_n 2, 1) := by decide +kernel
theorem dX7_state_10 : decode cX7_state 10 = .ok (.ifCond .lt 20, 3) := by decide +kernel
theorem dX7_state_13 : decode cX7_state 13 = .ok (.iload_n 2, 1) := by decide +kernel
theorem dX7_state_14 : decode cX7_state 14 = .ok (.aload_n 0, 1) := by decide +kernel
theorem dX7_state_15 : decode cX7_state 15 = .ok (.getfield 33, 3) := by decide +kernel
theorem dX7_state_18 : decode cX7_state 18 = .ok (.if_icmp .ge 12, 3) := by decide +kernel
theorem dX7_state_21 : decode cX7_state 21 = .ok (.iload_n 3, 1) := by decide +kernel
theorem dX7_state_22 : decode cX7_state 22 = .ok (.ifCond .lt 8, 3) := by decide +kernel
theorem dX7_state_25 : decode cX7_state 25 = .ok (.iload_n 3, 1) := by decide +kernel
theorem dX7_state_26 : decode cX7_state 26 = .ok (.iconst 2, 1) := by decide +kernel
theorem dX7_state_27 : decode cX7_state 27 = .ok (.if_icmp .le 7, 3) := by decide +kernel
theorem dX7_state_30 : decode cX7_state 30 = .ok (.iconst 1, 1) := by decide +kernel
theorem dX7_state_31 : decode cX7_state 31 = .ok (.goto 4, 3) := by decide +kernel
theorem dX7_state_34 : decode cX7_state 34 = .ok (.iconst 0, 1) := by decide +kernel
theorem dX7_state_35 : decode cX7_state 35 = .ok (.putfield 7, 3) := by decide +kernel
theorem dX7_state_38 : decode cX7_state 38 = .ok (.aload_n 0, 1) := by decide +kernel
theorem dX7_state_39 : decode cX7_state 39 = .ok (.getfield 7, 3) := by decide +kernel
theorem dX7_state_42 : decode cX7_state 42 = .ok (.ifCond .eq 7, 3) := by decide +kernel
theorem dX7_state_45 : decode cX7_state 45 = .ok (.iconst 0, 1) := by decide +kernel
theorem dX7_state_46 : decode cX7_state 46 = .ok (.goto 17, 3) := by decide +kernel
theorem dX7_state_49 : decode cX7_state 49 = .ok (.aload_n 0, 1) := by decide +kernel
theorem dX7_state_50 : decode cX7_state 50 = .ok (.getfield 58, 3) := by decide +kernel
theorem dX7_state_53 : decode cX7_state 53 = .ok (.iconst 5, 1) := by decide +kernel
theorem dX7_state_54 : decode cX7_state 54 = .ok (.iload_n 1, 1) := by decide +kernel
theorem dX7_state_55 : decode cX7_state 55 = .ok (.imul, 1) := by decide +kernel
theorem dX7_state_56 : decode cX7_state 56 = .ok (.iload_n 2, 1) := by decide +kernel
theorem dX7_state_57 : decode cX7_state 57 = .ok (.iadd, 1) := by decide +kernel
theorem dX7_state_58 : decode cX7_state 58 = .ok (.iaload, 1) := by decide +kernel
theorem dX7_state_59 : decode cX7_state 59 = .ok (.iload_n 3, 1) := by decide +kernel
theorem dX7_state_60 : decode cX7_state 60 = .ok (.invokestatic 160, 3) := by decide +kernel
theorem dX7_state_63 : decode cX7_state 63 = .ok (.ireturn, 1) := by decide +kernel
theorem dX7_truth_0 : decode cX7_truth 0 = .ok (.aload_n 0, 1) := by decide +kernel
theorem dX7_truth_1 : decode cX7_truth 1 = .ok (.aload_n 0, 1) := by decide +kernel
theorem dX7_truth_2 : decode cX7_truth 2 = .ok (.getfield 48, 3) := by decide +kernel
theorem dX7_truth_5 : decode cX7_truth 5 = .ok (.ifCond .eq 7, 3) := by decide +kernel
theorem dX7_truth_8 : decode cX7_truth 8 = .ok (.iconst 0, 1) := by decide +kernel
theorem dX7_truth_9 : decode cX7_truth 9 = .ok (.goto 4, 3) := by decide +kernel
theorem dX7_truth_12 : decode cX7_truth 12 = .ok (.iconst 1, 1) := by decide +kernel
theorem dX7_truth_13 : decode cX7_truth 13 = .ok (.putfield 7, 3) := by decide +kernel
theorem dX7_truth_16 : decode cX7_truth 16 = .ok (.aload_n 0, 1) := by decide +kernel
theorem dX7_truth_17 : decode cX7_truth 17 = .ok (.getfield 7, 3) := by decide +kernel
theorem dX7_truth_20 : decode cX7_truth 20 = .ok (.ifCond .ne 14, 3) := by decide +kernel
theorem dX7_truth_23 : decode cX7_truth 23 = .ok (.aload_n 0, 1) := by decide +kernel
theorem dX7_truth_24 : decode cX7_truth 24 = .ok (.invokevirtual 163, 3) := by decide +kernel
theorem dX7_truth_27 : decode cX7_truth 27 = .ok (.ifCond .eq 7, 3) := by decide +kernel
theorem dX7_truth_30 : decode cX7_truth 30 = .ok (.iconst 1, 1) := by decide +kernel
theorem dX7_truth_31 : decode cX7_truth 31 = .ok (.goto 4, 3) := by decide +kernel
theorem dX7_truth_34 : decode cX7_truth 34 = .ok (.iconst 0, 1) := by decide +kernel
theorem dX7_truth_35 : decode cX7_truth 35 = .ok (.ireturn, 1) := by decide +kernel
theorem dX7_silent_0 : decode cX7_silent 0 = .ok (.aload_n 0, 1) := by decide +kernel
theorem dX7_silent_1 : decode cX7_silent 1 = .ok (.iconst 0, 1) := by decide +kernel
theorem dX7_silent_2 : decode cX7_silent 2 = .ok (.putfield 7, 3) := by decide +kernel
theorem dX7_silent_5 : decode cX7_silent 5 = .ok (.iconst 0, 1) := by decide +kernel
theorem dX7_silent_6 : decode cX7_silent 6 = .ok (.istore_n 1, 1) := by decide +kernel
theorem dX7_silent_7 : decode cX7_silent 7 = .ok (.iload_n 1, 1) := by decide +kernel
theorem dX7_silent_8 : decode cX7_silent 8 = .ok (.aload_n 0, 1) := by decide +kernel
theorem dX7_silent_9 : decode cX7_silent 9 = .ok (.getfield 55, 3) := by decide +kernel
theorem dX7_silent_12 : decode cX7_silent 12 = .ok (.if_icmp .ge 42, 3) := by decide +kernel
theorem dX7_silent_15 : decode cX7_silent 15 = .ok (.iconst 0, 1) := by decide +kernel
theorem dX7_silent_16 : decode cX7_silent 16 = .ok (.istore_n 2, 1) := by decide +kernel
theorem dX7_silent_17 : decode cX7_silent 17 = .ok (.iload_n 2, 1) := by decide +kernel
theorem dX7_silent_18 : decode cX7_silent 18 = .ok (.aload_n 0, 1) := by decide +kernel
theorem dX7_silent_19 : decode cX7_silent 19 = .ok (.getfield 55, 3) := by decide +kernel
theorem dX7_silent_22 : decode cX7_silent 22 = .ok (.if_icmp .ge 26, 3) := by decide +kernel
theorem dX7_silent_25 : decode cX7_silent 25 = .ok (.iload_n 1, 1) := by decide +kernel
theorem dX7_silent_26 : decode cX7_silent 26 = .ok (.iload_n 2, 1) := by decide +kernel
theorem dX7_silent_27 : decode cX7_silent 27 = .ok (.if_icmp .eq 15, 3) := by decide +kernel
theorem dX7_silent_30 : decode cX7_silent 30 = .ok (.aload_n 0, 1) := by decide +kernel
theorem dX7_silent_31 : decode cX7_silent 31 = .ok (.iload_n 1, 1) := by decide +kernel
theorem dX7_silent_32 : decode cX7_silent 32 = .ok (.iload_n 2, 1) := by decide +kernel
theorem dX7_silent_33 : decode cX7_silent 33 = .ok (.iconst 0, 1) := by decide +kernel
theorem dX7_silent_34 : decode cX7_silent 34 = .ok (.invokevirtual 153, 3) := by decide +kernel
theorem dX7_silent_37 : decode cX7_silent 37 = .ok (.ifCond .eq 5, 3) := by decide +kernel
theorem dX7_silent_40 : decode cX7_silent 40 = .ok (.iconst 0, 1) := by decide +kernel
theorem dX7_silent_41 : decode cX7_silent 41 = .ok (.ireturn, 1) := by decide +kernel
theorem dX7_silent_42 : decode cX7_silent 42 = .ok (.iinc 2 1, 3) := by decide +kernel
theorem dX7_silent_45 : decode cX7_silent 45 = .ok (.goto (-28), 3) := by decide +kernel
theorem dX7_silent_48 : decode cX7_silent 48 = .ok (.iinc 1 1, 3) := by decide +kernel
theorem dX7_silent_51 : decode cX7_silent 51 = .ok (.goto (-44), 3) := by decide +kernel
theorem dX7_silent_54 : decode cX7_silent 54 = .ok (.iconst 1, 1) := by decide +kernel
theorem dX7_silent_55 : decode cX7_silent 55 = .ok (.ireturn, 1) := by decide +kernel
theorem dX7_agree_0 : decode cX7_agree 0 = .ok (.aload_n 0, 1) := by decide +kernel
theorem dX7_agree_1 : decode cX7_agree 1 = .ok (.iconst 0, 1) := by decide +kernel
theorem dX7_agree_2 : decode cX7_agree 2 = .ok (.putfield 7, 3) := by decide +kernel
theorem dX7_agree_5 : decode cX7_agree 5 = .ok (.iconst 1, 1) := by decide +kernel
theorem dX7_agree_6 : decode cX7_agree 6 = .ok (.istore_n 1, 1) := by decide +kernel
theorem dX7_agree_7 : decode cX7_agree 7 = .ok (.iload_n 1, 1) := by decide +kernel
theorem dX7_agree_8 : decode cX7_agree 8 = .ok (.aload_n 0, 1) := by decide +kernel
theorem dX7_agree_9 : decode cX7_agree 9 = .ok (.getfield 55, 3) := by decide +kernel
theorem dX7_agree_12 : decode cX7_agree 12 = .ok (.if_icmp .ge 24, 3) := by decide +kernel
theorem dX7_agree_15 : decode cX7_agree 15 = .ok (.aload_n 0, 1) := by decide +kernel
theorem dX7_agree_16 : decode cX7_agree 16 = .ok (.iload_n 1, 1) := by decide +kernel
theorem dX7_agree_17 : decode cX7_agree 17 = .ok (.invokevirtual 157, 3) := by decide +kernel
theorem dX7_agree_20 : decode cX7_agree 20 = .ok (.aload_n 0, 1) := by decide +kernel
theorem dX7_agree_21 : decode cX7_agree 21 = .ok (.iconst 0, 1) := by decide +kernel
theorem dX7_agree_22 : decode cX7_agree 22 = .ok (.invokevirtual 157, 3) := by decide +kernel
theorem dX7_agree_25 : decode cX7_agree 25 = .ok (.if_icmp .eq 5, 3) := by decide +kernel
theorem dX7_agree_28 : decode cX7_agree 28 = .ok (.iconst 0, 1) := by decide +kernel
theorem dX7_agree_29 : decode cX7_agree 29 = .ok (.ireturn, 1) := by decide +kernel
theorem dX7_agree_30 : decode cX7_agree 30 = .ok (.iinc 1 1, 3) := by decide +kernel
theorem dX7_agree_33 : decode cX7_agree 33 = .ok (.goto (-26), 3) := by decide +kernel
theorem dX7_agree_36 : decode cX7_agree 36 = .ok (.iconst 1, 1) := by decide +kernel
theorem dX7_agree_37 : decode cX7_agree 37 = .ok (.ireturn, 1) := by decide +kernel
theorem dX7_explore_0 : decode cX7_explore 0 = .ok (.aload_n 0, 1) := by decide +kernel
theorem dX7_explore_1 : decode cX7_explore 1 = .ok (.iload_n 1, 1) := by decide +kernel
theorem dX7_explore_2 : decode cX7_explore 2 = .ok (.iconst 1, 1) := by decide +kernel
theorem dX7_explore_3 : decode cX7_explore 3 = .ok (.if_icmp .lt 10, 3) := by decide +kernel
theorem dX7_explore_6 : decode cX7_explore 6 = .ok (.iload_n 1, 1) := by decide +kernel
theorem dX7_explore_7 : decode cX7_explore 7 = .ok (.sipush 3000, 3) := by decide +kernel
theorem dX7_explore_10 : decode cX7_explore 10 = .ok (.if_icmp .le 7, 3) := by decide +kernel
theorem dX7_explore_13 : decode cX7_explore 13 = .ok (.iconst 1, 1) := by decide +kernel
theorem dX7_explore_14 : decode cX7_explore 14 = .ok (.goto 24, 3) := by decide +kernel
theorem dX7_explore_17 : decode cX7_explore 17 = .ok (.aload_n 0, 1) := by decide +kernel
theorem dX7_explore_18 : decode cX7_explore 18 = .ok (.getfield 55, 3) := by decide +kernel
theorem dX7_explore_21 : decode cX7_explore 21 = .ok (.ifCond .eq 12, 3) := by decide +kernel
theorem dX7_explore_24 : decode cX7_explore 24 = .ok (.aload_n 0, 1) := by decide +kernel
theorem dX7_explore_25 : decode cX7_explore 25 = .ok (.getfield 55, 3) := by decide +kernel
theorem dX7_explore_28 : decode cX7_explore 28 = .ok (.bipush 6, 2) := by decide +kernel
theorem dX7_explore_30 : decode cX7_explore 30 = .ok (.if_icmp .le 7, 3) := by decide +kernel
theorem dX7_explore_33 : decode cX7_explore 33 = .ok (.iconst 2, 1) := by decide +kernel
theorem dX7_explore_34 : decode cX7_explore 34 = .ok (.goto 4, 3) := by decide +kernel
theorem dX7_explore_37 : decode cX7_explore 37 = .ok (.iconst 0, 1) := by decide +kernel
theorem dX7_explore_38 : decode cX7_explore 38 = .ok (.putfield 7, 3) := by decide +kernel
theorem dX7_explore_41 : decode cX7_explore 41 = .ok (.aload_n 0, 1) := by decide +kernel
theorem dX7_explore_42 : decode cX7_explore 42 = .ok (.getfield 7, 3) := by decide +kernel
theorem dX7_explore_45 : decode cX7_explore 45 = .ok (.ifCond .eq 5, 3) := by decide +kernel
theorem dX7_explore_48 : decode cX7_explore 48 = .ok (.iconst 0, 1) := by decide +kernel
theorem dX7_explore_49 : decode cX7_explore 49 = .ok (.ireturn, 1) := by decide +kernel
theorem dX7_explore_50 : decode cX7_explore 50 = .ok (.iconst 0, 1) := by decide +kernel
theorem dX7_explore_51 : decode cX7_explore 51 = .ok (.istore_n 2, 1) := by decide +kernel
theorem dX7_explore_52 : decode cX7_explore 52 = .ok (.iload_n 2, 1) := by decide +kernel
theorem dX7_explore_53 : decode cX7_explore 53 = .ok (.sipush 8192, 3) := by decide +kernel
theorem dX7_explore_56 : decode cX7_explore 56 = .ok (.if_icmp .ge 16, 3) := by decide +kernel
theorem dX7_explore_59 : decode cX7_explore 59 = .ok (.aload_n 0, 1) := by decide +kernel
theorem dX7_explore_60 : decode cX7_explore 60 = .ok (.getfield 77, 3) := by decide +kernel
theorem dX7_explore_63 : decode cX7_explore 63 = .ok (.iload_n 2, 1) := by decide +kernel
theorem dX7_explore_64 : decode cX7_explore 64 = .ok (.iconst 0, 1) := by decide +kernel
theorem dX7_explore_65 : decode cX7_explore 65 = .ok (.iastore, 1) := by decide +kernel
theorem dX7_explore_66 : decode cX7_explore 66 = .ok (.iinc 2 1, 3) := by decide +kernel
theorem dX7_explore_69 : decode cX7_explore 69 = .ok (.goto (-17), 3) := by decide +kernel
theorem dX7_explore_72 : decode cX7_explore 72 = .ok (.aload_n 0, 1) := by decide +kernel
theorem dX7_explore_73 : decode cX7_explore 73 = .ok (.iconst 0, 1) := by decide +kernel
theorem dX7_explore_74 : decode cX7_explore 74 = .ok (.putfield 70, 3) := by decide +kernel
theorem dX7_explore_77 : decode cX7_explore 77 = .ok (.aload_n 0, 1) := by decide +kernel
theorem dX7_explore_78 : decode cX7_explore 78 = .ok (.iconst 0, 1) := by decide +kernel
theorem dX7_explore_79 : decode cX7_explore 79 = .ok (.putfield 83, 3) := by decide +kernel
theorem dX7_explore_82 : decode cX7_explore 82 = .ok (.iconst 0, 1) := by decide +kernel
theorem dX7_explore_83 : decode cX7_explore 83 = .ok (.istore_n 2, 1) := by decide +kernel
theorem dX7_explore_84 : decode cX7_explore 84 = .ok (.iload_n 2, 1) := by decide +kernel
theorem dX7_explore_85 : decode cX7_explore 85 = .ok (.aload_n 0, 1) := by decide +kernel
theorem dX7_explore_86 : decode cX7_explore 86 = .ok (.getfield 55, 3) := by decide +kernel
theorem dX7_explore_89 : decode cX7_explore 89 = .ok (.if_icmp .ge 61, 3) := by decide +kernel
theorem dX7_explore_92 : decode cX7_explore 92 = .ok (.aload_n 0, 1) := by decide +kernel
theorem dX7_explore_93 : decode cX7_explore 93 = .ok (.getfield 86, 3) := by decide +kernel
theorem dX7_explore_96 : decode cX7_explore 96 = .ok (.iload_n 2, 1) := by decide +kernel
theorem dX7_explore_97 : decode cX7_explore 97 = .ok (.lconst 0, 1) := by decide +kernel
theorem dX7_explore_98 : decode cX7_explore 98 = .ok (.lastore, 1) := by decide +kernel
theorem dX7_explore_99 : decode cX7_explore 99 = .ok (.iconst 0, 1) := by decide +kernel
theorem dX7_explore_100 : decode cX7_explore 100 = .ok (.istore_n 3, 1) := by decide +kernel
theorem dX7_explore_101 : decode cX7_explore 101 = .ok (.iload_n 3, 1) := by decide +kernel
theorem dX7_explore_102 : decode cX7_explore 102 = .ok (.aload_n 0, 1) := by decide +kernel
theorem dX7_explore_103 : decode cX7_explore 103 = .ok (.getfield 33, 3) := by decide +kernel
theorem dX7_explore_106 : decode cX7_explore 106 = .ok (.if_icmp .ge 38, 3) := by decide +kernel
theorem dX7_explore_109 : decode cX7_explore 109 = .ok (.aload_n 0, 1) := by decide +kernel
theorem dX7_explore_110 : decode cX7_explore 110 = .ok (.getfield 86, 3) := by decide +kernel
theorem dX7_explore_113 : decode cX7_explore 113 = .ok (.iload_n 2, 1) := by decide +kernel
theorem dX7_explore_114 : decode cX7_explore 114 = .ok (.aload_n 0, 1) := by decide +kernel
theorem dX7_explore_115 : decode cX7_explore 115 = .ok (.getfield 86, 3) := by decide +kernel
theorem dX7_explore_118 : decode cX7_explore 118 = .ok (.iload_n 2, 1) := by decide +kernel
theorem dX7_explore_119 : decode cX7_explore 119 = .ok (.laload, 1) := by decide +kernel
theorem dX7_explore_120 : decode cX7_explore 120 = .ok (.aload_n 0, 1) := by decide +kernel
theorem dX7_explore_121 : decode cX7_explore 121 = .ok (.getfield 58, 3) := by decide +kernel
theorem dX7_explore_124 : decode cX7_explore 124 = .ok (.iconst 5, 1) := by decide +kernel
theorem dX7_explore_125 : decode cX7_explore 125 = .ok (.iload_n 2, 1) := by decide +kernel
theorem dX7_explore_126 : decode cX7_explore 126 = .ok (.imul, 1) := by decide +kernel
theorem dX7_explore_127 : decode cX7_explore 127 = .ok (.iload_n 3, 1) := by decide +kernel
theorem dX7_explore_128 : decode cX7_explore 128 = .ok (.iadd, 1) := by decide +kernel
theorem dX7_explore_129 : decode cX7_explore 129 = .ok (.iaload, 1) := by decide +kernel
theorem dX7_explore_130 : decode cX7_explore 130 = .ok (.i2l, 1) := by decide +kernel
theorem dX7_explore_131 : decode cX7_explore 131 = .ok (.bipush 8, 2) := by decide +kernel
theorem dX7_explore_133 : decode cX7_explore 133 = .ok (.iload_n 3, 1) := by decide +kernel
theorem dX7_explore_134 : decode cX7_explore 134 = .ok (.imul, 1) := by decide +kernel
theorem dX7_explore_135 : decode cX7_explore 135 = .ok (.lshl, 1) := by decide +kernel
theorem dX7_explore_136 : decode cX7_explore 136 = .ok (.lor, 1) := by decide +kernel
theorem dX7_explore_137 : decode cX7_explore 137 = .ok (.lastore, 1) := by decide +kernel
theorem dX7_explore_138 : decode cX7_explore 138 = .ok (.iinc 3 1, 3) := by decide +kernel
theorem dX7_explore_141 : decode cX7_explore 141 = .ok (.goto (-40), 3) := by decide +kernel
theorem dX7_explore_144 : decode cX7_explore 144 = .ok (.iinc 2 1, 3) := by decide +kernel
theorem dX7_explore_147 : decode cX7_explore 147 = .ok (.goto (-63), 3) := by decide +kernel
theorem dX7_explore_150 : decode cX7_explore 150 = .ok (.aload_n 0, 1) := by decide +kernel
theorem dX7_explore_151 : decode cX7_explore 151 = .ok (.invokevirtual 125, 3) := by decide +kernel
theorem dX7_explore_154 : decode cX7_explore 154 = .ok (.aload_n 0, 1) := by decide +kernel
theorem dX7_explore_155 : decode cX7_explore 155 = .ok (.iconst 1, 1) := by decide +kernel
theorem dX7_explore_156 : decode cX7_explore 156 = .ok (.invokevirtual 128, 3) := by decide +kernel
theorem dX7_explore_159 : decode cX7_explore 159 = .ok (.pop, 1) := by decide +kernel
theorem dX7_explore_160 : decode cX7_explore 160 = .ok (.iconst 0, 1) := by decide +kernel
theorem dX7_explore_161 : decode cX7_explore 161 = .ok (.istore_n 2, 1) := by decide +kernel
theorem dX7_explore_162 : decode cX7_explore 162 = .ok (.iload_n 2, 1) := by decide +kernel
theorem dX7_explore_163 : decode cX7_explore 163 = .ok (.aload_n 0, 1) := by decide +kernel
theorem dX7_explore_164 : decode cX7_explore 164 = .ok (.getfield 70, 3) := by decide +kernel
theorem dX7_explore_167 : decode cX7_explore 167 = .ok (.if_icmp .ge 80, 3) := by decide +kernel
theorem dX7_explore_170 : decode cX7_explore 170 = .ok (.iconst 0, 1) := by decide +kernel
theorem dX7_explore_171 : decode cX7_explore 171 = .ok (.istore_n 3, 1) := by decide +kernel
theorem dX7_explore_172 : decode cX7_explore 172 = .ok (.iload_n 3, 1) := by decide +kernel
theorem dX7_explore_173 : decode cX7_explore 173 = .ok (.aload_n 0, 1) := by decide +kernel
theorem dX7_explore_174 : decode cX7_explore 174 = .ok (.getfield 55, 3) := by decide +kernel
theorem dX7_explore_177 : decode cX7_explore 177 = .ok (.if_icmp .ge 64, 3) := by decide +kernel
theorem dX7_explore_180 : decode cX7_explore 180 = .ok (.iconst 0, 1) := by decide +kernel
theorem dX7_explore_181 : decode cX7_explore 181 = .ok (.istore 4, 2) := by decide +kernel
theorem dX7_explore_183 : decode cX7_explore 183 = .ok (.iload 4, 2) := by decide +kernel
theorem dX7_explore_185 : decode cX7_explore 185 = .ok (.aload_n 0, 1) := by decide +kernel
theorem dX7_explore_186 : decode cX7_explore 186 = .ok (.getfield 55, 3) := by decide +kernel
theorem dX7_explore_189 : decode cX7_explore 189 = .ok (.if_icmp .ge 46, 3) := by decide +kernel
theorem dX7_explore_192 : decode cX7_explore 192 = .ok (.iload_n 3, 1) := by decide +kernel
theorem dX7_explore_193 : decode cX7_explore 193 = .ok (.iload 4, 2) := by decide +kernel
theorem dX7_explore_195 : decode cX7_explore 195 = .ok (.if_icmp .eq 34, 3) := by decide +kernel
theorem dX7_explore_198 : decode cX7_explore 198 = .ok (.aload_n 0, 1) := by decide +kernel
theorem dX7_explore_199 : decode cX7_explore 199 = .ok (.iload_n 2, 1) := by decide +kernel
theorem dX7_explore_200 : decode cX7_explore 200 = .ok (.iload_n 3, 1) := by decide +kernel
theorem dX7_explore_201 : decode cX7_explore 201 = .ok (.iload 4, 2) := by decide +kernel
theorem dX7_explore_203 : decode cX7_explore 203 = .ok (.invokevirtual 121, 3) := by decide +kernel
theorem dX7_explore_206 : decode cX7_explore 206 = .ok (.ifCond .eq 23, 3) := by decide +kernel
theorem dX7_explore_209 : decode cX7_explore 209 = .ok (.aload_n 0, 1) := by decide +kernel
theorem dX7_explore_210 : decode cX7_explore 210 = .ok (.invokevirtual 125, 3) := by decide +kernel
theorem dX7_explore_213 : decode cX7_explore 213 = .ok (.aload_n 0, 1) := by decide +kernel
theorem dX7_explore_214 : decode cX7_explore 214 = .ok (.iconst 1, 1) := by decide +kernel
theorem dX7_explore_215 : decode cX7_explore 215 = .ok (.invokevirtual 128, 3) := by decide +kernel
theorem dX7_explore_218 : decode cX7_explore 218 = .ok (.pop, 1) := by decide +kernel
theorem dX7_explore_219 : decode cX7_explore 219 = .ok (.aload_n 0, 1) := by decide +kernel
theorem dX7_explore_220 : decode cX7_explore 220 = .ok (.getfield 70, 3) := by decide +kernel
theorem dX7_explore_223 : decode cX7_explore 223 = .ok (.iload_n 1, 1) := by decide +kernel
theorem dX7_explore_224 : decode cX7_explore 224 = .ok (.if_icmp .le 5, 3) := by decide +kernel
theorem dX7_explore_227 : decode cX7_explore 227 = .ok (.iconst (-1), 1) := by decide +kernel
theorem dX7_explore_228 : decode cX7_explore 228 = .ok (.ireturn, 1) := by decide +kernel
theorem dX7_explore_229 : decode cX7_explore 229 = .ok (.iinc 4 1, 3) := by decide +kernel
theorem dX7_explore_232 : decode cX7_explore 232 = .ok (.goto (-49), 3) := by decide +kernel
theorem dX7_explore_235 : decode cX7_explore 235 = .ok (.iinc 3 1, 3) := by decide +kernel
theorem dX7_explore_238 : decode cX7_explore 238 = .ok (.goto (-66), 3) := by decide +kernel
theorem dX7_explore_241 : decode cX7_explore 241 = .ok (.iinc 2 1, 3) := by decide +kernel
theorem dX7_explore_244 : decode cX7_explore 244 = .ok (.goto (-82), 3) := by decide +kernel
theorem dX7_explore_247 : decode cX7_explore 247 = .ok (.aload_n 0, 1) := by decide +kernel
theorem dX7_explore_248 : decode cX7_explore 248 = .ok (.iconst 1, 1) := by decide +kernel
theorem dX7_explore_249 : decode cX7_explore 249 = .ok (.putfield 83, 3) := by decide +kernel
theorem dX7_explore_252 : decode cX7_explore 252 = .ok (.aload_n 0, 1) := by decide +kernel
theorem dX7_explore_253 : decode cX7_explore 253 = .ok (.getfield 70, 3) := by decide +kernel
theorem dX7_explore_256 : decode cX7_explore 256 = .ok (.ireturn, 1) := by decide +kernel
theorem dX7_recovers_0 : decode cX7_recovers 0 = .ok (.aload_n 0, 1) := by decide +kernel
theorem dX7_recovers_1 : decode cX7_recovers 1 = .ok (.aload_n 0, 1) := by decide +kernel
theorem dX7_recovers_2 : decode cX7_recovers 2 = .ok (.getfield 83, 3) := by decide +kernel
theorem dX7_recovers_5 : decode cX7_recovers 5 = .ok (.ifCond .eq 7, 3) := by decide +kernel
theorem dX7_recovers_8 : decode cX7_recovers 8 = .ok (.iconst 0, 1) := by decide +kernel
theorem dX7_recovers_9 : decode cX7_recovers 9 = .ok (.goto 4, 3) := by decide +kernel
theorem dX7_recovers_12 : decode cX7_recovers 12 = .ok (.iconst 1, 1) := by decide +kernel
theorem dX7_recovers_13 : decode cX7_recovers 13 = .ok (.putfield 7, 3) := by decide +kernel
theorem dX7_recovers_16 : decode cX7_recovers 16 = .ok (.aload_n 0, 1) := by decide +kernel
theorem dX7_recovers_17 : decode cX7_recovers 17 = .ok (.getfield 7, 3) := by decide +kernel
theorem dX7_recovers_20 : decode cX7_recovers 20 = .ok (.ifCond .eq 5, 3) := by decide +kernel
theorem dX7_recovers_23 : decode cX7_recovers 23 = .ok (.iconst 0, 1) := by decide +kernel
theorem dX7_recovers_24 : decode cX7_recovers 24 = .ok (.ireturn, 1) := by decide +kernel
theorem dX7_recovers_25 : decode cX7_recovers 25 = .ok (.aload_n 0, 1) := by decide +kernel
theorem dX7_recovers_26 : decode cX7_recovers 26 = .ok (.invokevirtual 163, 3) := by decide +kernel
theorem dX7_recovers_29 : decode cX7_recovers 29 = .ok (.istore_n 1, 1) := by decide +kernel
theorem dX7_recovers_30 : decode cX7_recovers 30 = .ok (.iconst 0, 1) := by decide +kernel
theorem dX7_recovers_31 : decode cX7_recovers 31 = .ok (.istore_n 2, 1) := by decide +kernel
theorem dX7_recovers_32 : decode cX7_recovers 32 = .ok (.iload_n 2, 1) := by decide +kernel
theorem dX7_recovers_33 : decode cX7_recovers 33 = .ok (.aload_n 0, 1) := by decide +kernel
theorem dX7_recovers_34 : decode cX7_recovers 34 = .ok (.getfield 70, 3) := by decide +kernel
theorem dX7_recovers_37 : decode cX7_recovers 37 = .ok (.if_icmp .ge 37, 3) := by decide +kernel
theorem dX7_recovers_40 : decode cX7_recovers 40 = .ok (.aload_n 0, 1) := by decide +kernel
theorem dX7_recovers_41 : decode cX7_recovers 41 = .ok (.getfield 80, 3) := by decide +kernel
theorem dX7_recovers_44 : decode cX7_recovers 44 = .ok (.iload_n 2, 1) := by decide +kernel
theorem dX7_recovers_45 : decode cX7_recovers 45 = .ok (.aload_n 0, 1) := by decide +kernel
theorem dX7_recovers_46 : decode cX7_recovers 46 = .ok (.iload_n 2, 1) := by decide +kernel
theorem dX7_recovers_47 : decode cX7_recovers 47 = .ok (.invokevirtual 166, 3) := by decide +kernel
theorem dX7_recovers_50 : decode cX7_recovers 50 = .ok (.ifCond .eq 16, 3) := by decide +kernel
theorem dX7_recovers_53 : decode cX7_recovers 53 = .ok (.aload_n 0, 1) := by decide +kernel
theorem dX7_recovers_54 : decode cX7_recovers 54 = .ok (.iload_n 2, 1) := by decide +kernel
theorem dX7_recovers_55 : decode cX7_recovers 55 = .ok (.iload_n 1, 1) := by decide +kernel
theorem dX7_recovers_56 : decode cX7_recovers 56 = .ok (.invokevirtual 169, 3) := by decide +kernel
theorem dX7_recovers_59 : decode cX7_recovers 59 = .ok (.ifCond .eq 7, 3) := by decide +kernel
theorem dX7_recovers_62 : decode cX7_recovers 62 = .ok (.iconst 1, 1) := by decide +kernel
theorem dX7_recovers_63 : decode cX7_recovers 63 = .ok (.goto 4, 3) := by decide +kernel
theorem dX7_recovers_66 : decode cX7_recovers 66 = .ok (.iconst 0, 1) := by decide +kernel
theorem dX7_recovers_67 : decode cX7_recovers 67 = .ok (.bastore, 1) := by decide +kernel
theorem dX7_recovers_68 : decode cX7_recovers 68 = .ok (.iinc 2 1, 3) := by decide +kernel
theorem dX7_recovers_71 : decode cX7_recovers 71 = .ok (.goto (-39), 3) := by decide +kernel
theorem dX7_recovers_74 : decode cX7_recovers 74 = .ok (.iconst 1, 1) := by decide +kernel
theorem dX7_recovers_75 : decode cX7_recovers 75 = .ok (.istore_n 2, 1) := by decide +kernel
theorem dX7_recovers_76 : decode cX7_recovers 76 = .ok (.iload_n 2, 1) := by decide +kernel
theorem dX7_recovers_77 : decode cX7_recovers 77 = .ok (.ifCond .eq 51, 3) := by decide +kernel
theorem dX7_recovers_80 : decode cX7_recovers 80 = .ok (.iconst 0, 1) := by decide +kernel
theorem dX7_recovers_81 : decode cX7_recovers 81 = .ok (.istore_n 2, 1) := by decide +kernel
theorem dX7_recovers_82 : decode cX7_recovers 82 = .ok (.aload_n 0, 1) := by decide +kernel
theorem dX7_recovers_83 : decode cX7_recovers 83 = .ok (.getfield 70, 3) := by decide +kernel
theorem dX7_recovers_86 : decode cX7_recovers 86 = .ok (.iconst 1, 1) := by decide +kernel
theorem dX7_recovers_87 : decode cX7_recovers 87 = .ok (.isub, 1) := by decide +kernel
theorem dX7_recovers_88 : decode cX7_recovers 88 = .ok (.istore_n 3, 1) := by decide +kernel
theorem dX7_recovers_89 : decode cX7_recovers 89 = .ok (.iload_n 3, 1) := by decide +kernel
theorem dX7_recovers_90 : decode cX7_recovers 90 = .ok (.ifCond .lt 35, 3) := by decide +kernel
theorem dX7_recovers_93 : decode cX7_recovers 93 = .ok (.aload_n 0, 1) := by decide +kernel
theorem dX7_recovers_94 : decode cX7_recovers 94 = .ok (.getfield 80, 3) := by decide +kernel
theorem dX7_recovers_97 : decode cX7_recovers 97 = .ok (.iload_n 3, 1) := by decide +kernel
theorem dX7_recovers_98 : decode cX7_recovers 98 = .ok (.baload, 1) := by decide +kernel
theorem dX7_recovers_99 : decode cX7_recovers 99 = .ok (.ifCond .ne 20, 3) := by decide +kernel
theorem dX7_recovers_102 : decode cX7_recovers 102 = .ok (.aload_n 0, 1) := by decide +kernel
theorem dX7_recovers_103 : decode cX7_recovers 103 = .ok (.iload_n 3, 1) := by decide +kernel
theorem dX7_recovers_104 : decode cX7_recovers 104 = .ok (.invokevirtual 173, 3) := by decide +kernel
theorem dX7_recovers_107 : decode cX7_recovers 107 = .ok (.ifCond .eq 12, 3) := by decide +kernel
theorem dX7_recovers_110 : decode cX7_recovers 110 = .ok (.aload_n 0, 1) := by decide +kernel
theorem dX7_recovers_111 : decode cX7_recovers 111 = .ok (.getfield 80, 3) := by decide +kernel
theorem dX7_recovers_114 : decode cX7_recovers 114 = .ok (.iload_n 3, 1) := by decide +kernel
theorem dX7_recovers_115 : decode cX7_recovers 115 = .ok (.iconst 1, 1) := by decide +kernel
theorem dX7_recovers_116 : decode cX7_recovers 116 = .ok (.bastore, 1) := by decide +kernel
theorem dX7_recovers_117 : decode cX7_recovers 117 = .ok (.iconst 1, 1) := by decide +kernel
theorem dX7_recovers_118 : decode cX7_recovers 118 = .ok (.istore_n 2, 1) := by decide +kernel
theorem dX7_recovers_119 : decode cX7_recovers 119 = .ok (.iinc 3 (-1), 3) := by decide +kernel
theorem dX7_recovers_122 : decode cX7_recovers 122 = .ok (.goto (-33), 3) := by decide +kernel
theorem dX7_recovers_125 : decode cX7_recovers 125 = .ok (.goto (-49), 3) := by decide +kernel
theorem dX7_recovers_128 : decode cX7_recovers 128 = .ok (.iconst 0, 1) := by decide +kernel
theorem dX7_recovers_129 : decode cX7_recovers 129 = .ok (.istore_n 3, 1) := by decide +kernel
theorem dX7_recovers_130 : decode cX7_recovers 130 = .ok (.iload_n 3, 1) := by decide +kernel
theorem dX7_recovers_131 : decode cX7_recovers 131 = .ok (.aload_n 0, 1) := by decide +kernel
theorem dX7_recovers_132 : decode cX7_recovers 132 = .ok (.getfield 70, 3) := by decide +kernel
theorem dX7_recovers_135 : decode cX7_recovers 135 = .ok (.if_icmp .ge 20, 3) := by decide +kernel
theorem dX7_recovers_138 : decode cX7_recovers 138 = .ok (.aload_n 0, 1) := by decide +kernel
theorem dX7_recovers_139 : decode cX7_recovers 139 = .ok (.getfield 80, 3) := by decide +kernel
theorem dX7_recovers_142 : decode cX7_recovers 142 = .ok (.iload_n 3, 1) := by decide +kernel
theorem dX7_recovers_143 : decode cX7_recovers 143 = .ok (.baload, 1) := by decide +kernel
theorem dX7_recovers_144 : decode cX7_recovers 144 = .ok (.ifCond .ne 5, 3) := by decide +kernel
theorem dX7_recovers_147 : decode cX7_recovers 147 = .ok (.iconst 0, 1) := by decide +kernel
theorem dX7_recovers_148 : decode cX7_recovers 148 = .ok (.ireturn, 1) := by decide +kernel
theorem dX7_recovers_149 : decode cX7_recovers 149 = .ok (.iinc 3 1, 3) := by decide +kernel
theorem dX7_recovers_152 : decode cX7_recovers 152 = .ok (.goto (-22), 3) := by decide +kernel
theorem dX7_recovers_155 : decode cX7_recovers 155 = .ok (.iconst 1, 1) := by decide +kernel
theorem dX7_recovers_156 : decode cX7_recovers 156 = .ok (.ireturn, 1) := by decide +kernel
theorem dX7_tableFault_0 : decode cX7_tableFault 0 = .ok (.iload_n 1, 1) := by decide +kernel
theorem dX7_tableFault_1 : decode cX7_tableFault 1 = .ok (.ifCond .lt 20, 3) := by decide +kernel
theorem dX7_tableFault_4 : decode cX7_tableFault 4 = .ok (.iload_n 1, 1) := by decide +kernel
theorem dX7_tableFault_5 : decode cX7_tableFault 5 = .ok (.aload_n 0, 1) := by decide +kernel
theorem dX7_tableFault_6 : decode cX7_tableFault 6 = .ok (.getfield 33, 3) := by decide +kernel
theorem dX7_tableFault_9 : decode cX7_tableFault 9 = .ok (.if_icmp .ge 12, 3) := by decide +kernel
theorem dX7_tableFault_12 : decode cX7_tableFault 12 = .ok (.iload_n 2, 1) := by decide +kernel
theorem dX7_tableFault_13 : decode cX7_tableFault 13 = .ok (.ifCond .lt 8, 3) := by decide +kernel
theorem dX7_tableFault_16 : decode cX7_tableFault 16 = .ok (.iload_n 2, 1) := by decide +kernel
theorem dX7_tableFault_17 : decode cX7_tableFault 17 = .ok (.iload_n 3, 1) := by decide +kernel
theorem dX7_tableFault_18 : decode cX7_tableFault 18 = .ok (.if_icmp .le 7, 3) := by decide +kernel
theorem dX7_tableFault_21 : decode cX7_tableFault 21 = .ok (.iconst 1, 1) := by decide +kernel
theorem dX7_tableFault_22 : decode cX7_tableFault 22 = .ok (.goto 15, 3) := by decide +kernel
theorem dX7_tableFault_25 : decode cX7_tableFault 25 = .ok (.aload_n 0, 1) := by decide +kernel
theorem dX7_tableFault_26 : decode cX7_tableFault 26 = .ok (.getfield 48, 3) := by decide +kernel
theorem dX7_tableFault_29 : decode cX7_tableFault 29 = .ok (.ifCond .ne 7, 3) := by decide +kernel
theorem dX7_tableFault_32 : decode cX7_tableFault 32 = .ok (.iconst 2, 1) := by decide +kernel
theorem dX7_tableFault_33 : decode cX7_tableFault 33 = .ok (.goto 4, 3) := by decide +kernel
theorem dX7_tableFault_36 : decode cX7_tableFault 36 = .ok (.iconst 0, 1) := by decide +kernel
theorem dX7_tableFault_37 : decode cX7_tableFault 37 = .ok (.ireturn, 1) := by decide +kernel
theorem dX7_table_0 : decode cX7_table 0 = .ok (.aload_n 0, 1) := by decide +kernel
theorem dX7_table_1 : decode cX7_table 1 = .ok (.aload_n 0, 1) := by decide +kernel
theorem dX7_table_2 : decode cX7_table 2 = .ok (.iload_n 1, 1) := by decide +kernel
theorem dX7_table_3 : decode cX7_table 3 = .ok (.iload_n 2, 1) := by decide +kernel
theorem dX7_table_4 : decode cX7_table 4 = .ok (.iconst 1, 1) := by decide +kernel
theorem dX7_table_5 : decode cX7_table 5 = .ok (.invokevirtual 176, 3) := by decide +kernel
theorem dX7_table_8 : decode cX7_table 8 = .ok (.putfield 7, 3) := by decide +kernel
theorem dX7_table_11 : decode cX7_table 11 = .ok (.aload_n 0, 1) := by decide +kernel
theorem dX7_table_12 : decode cX7_table 12 = .ok (.getfield 7, 3) := by decide +kernel
theorem dX7_table_15 : decode cX7_table 15 = .ok (.ifCond .eq 5, 3) := by decide +kernel
theorem dX7_table_18 : decode cX7_table 18 = .ok (.iconst 0, 1) := by decide +kernel
theorem dX7_table_19 : decode cX7_table 19 = .ok (.ireturn, 1) := by decide +kernel
theorem dX7_table_20 : decode cX7_table 20 = .ok (.iload_n 2, 1) := by decide +kernel
theorem dX7_table_21 : decode cX7_table 21 = .ok (.ifCond .ne 11, 3) := by decide +kernel
theorem dX7_table_24 : decode cX7_table 24 = .ok (.aload_n 0, 1) := by decide +kernel
theorem dX7_table_25 : decode cX7_table 25 = .ok (.iload_n 1, 1) := by decide +kernel
theorem dX7_table_26 : decode cX7_table 26 = .ok (.invokevirtual 146, 3) := by decide +kernel
theorem dX7_table_29 : decode cX7_table 29 = .ok (.goto 13, 3) := by decide +kernel
theorem dX7_table_32 : decode cX7_table 32 = .ok (.aload_n 0, 1) := by decide +kernel
theorem dX7_table_33 : decode cX7_table 33 = .ok (.iload_n 1, 1) := by decide +kernel
theorem dX7_table_34 : decode cX7_table 34 = .ok (.iconst (-1), 1) := by decide +kernel
theorem dX7_table_35 : decode cX7_table 35 = .ok (.invokevirtual 179, 3) := by decide +kernel
theorem dX7_table_38 : decode cX7_table 38 = .ok (.sipush 30000, 3) := by decide +kernel
theorem dX7_table_41 : decode cX7_table 41 = .ok (.iadd, 1) := by decide +kernel
theorem dX7_table_42 : decode cX7_table 42 = .ok (.ireturn, 1) := by decide +kernel
theorem dX7_rule_0 : decode cX7_rule 0 = .ok (.aload_n 0, 1) := by decide +kernel
theorem dX7_rule_1 : decode cX7_rule 1 = .ok (.aload_n 0, 1) := by decide +kernel
theorem dX7_rule_2 : decode cX7_rule 2 = .ok (.iload_n 1, 1) := by decide +kernel
theorem dX7_rule_3 : decode cX7_rule 3 = .ok (.iload_n 3, 1) := by decide +kernel
theorem dX7_rule_4 : decode cX7_rule 4 = .ok (.iconst 3, 1) := by decide +kernel
theorem dX7_rule_5 : decode cX7_rule 5 = .ok (.invokevirtual 176, 3) := by decide +kernel
theorem dX7_rule_8 : decode cX7_rule 8 = .ok (.putfield 7, 3) := by decide +kernel
theorem dX7_rule_11 : decode cX7_rule 11 = .ok (.aload_n 0, 1) := by decide +kernel
theorem dX7_rule_12 : decode cX7_rule 12 = .ok (.getfield 7, 3) := by decide +kernel
theorem dX7_rule_15 : decode cX7_rule 15 = .ok (.ifCond .eq 5, 3) := by decide +kernel
theorem dX7_rule_18 : decode cX7_rule 18 = .ok (.iconst 0, 1) := by decide +kernel
theorem dX7_rule_19 : decode cX7_rule 19 = .ok (.ireturn, 1) := by decide +kernel
theorem dX7_rule_20 : decode cX7_rule 20 = .ok (.iload_n 2, 1) := by decide +kernel
theorem dX7_rule_21 : decode cX7_rule 21 = .ok (.ifCond .ge 7, 3) := by decide +kernel
theorem dX7_rule_24 : decode cX7_rule 24 = .ok (.iconst (-1), 1) := by decide +kernel
theorem dX7_rule_25 : decode cX7_rule 25 = .ok (.goto 9, 3) := by decide +kernel
theorem dX7_rule_28 : decode cX7_rule 28 = .ok (.aload_n 0, 1) := by decide +kernel
theorem dX7_rule_29 : decode cX7_rule 29 = .ok (.iload_n 1, 1) := by decide +kernel
theorem dX7_rule_30 : decode cX7_rule 30 = .ok (.iload_n 2, 1) := by decide +kernel
theorem dX7_rule_31 : decode cX7_rule 31 = .ok (.invokevirtual 179, 3) := by decide +kernel
theorem dX7_rule_34 : decode cX7_rule 34 = .ok (.istore 4, 2) := by decide +kernel
theorem dX7_rule_36 : decode cX7_rule 36 = .ok (.iload 4, 2) := by decide +kernel
theorem dX7_rule_38 : decode cX7_rule 38 = .ok (.ifCond .ge 10, 3) := by decide +kernel
theorem dX7_rule_41 : decode cX7_rule 41 = .ok (.aload_n 0, 1) := by decide +kernel
theorem dX7_rule_42 : decode cX7_rule 42 = .ok (.iconst 1, 1) := by decide +kernel
theorem dX7_rule_43 : decode cX7_rule 43 = .ok (.putfield 7, 3) := by decide +kernel
theorem dX7_rule_46 : decode cX7_rule 46 = .ok (.iconst 0, 1) := by decide +kernel
theorem dX7_rule_47 : decode cX7_rule 47 = .ok (.ireturn, 1) := by decide +kernel
theorem dX7_rule_48 : decode cX7_rule 48 = .ok (.iload_n 3, 1) := by decide +kernel
theorem dX7_rule_49 : decode cX7_rule 49 = .ok (.ifCond .ne 15, 3) := by decide +kernel
theorem dX7_rule_52 : decode cX7_rule 52 = .ok (.aload_n 0, 1) := by decide +kernel
theorem dX7_rule_53 : decode cX7_rule 53 = .ok (.iload_n 1, 1) := by decide +kernel
theorem dX7_rule_54 : decode cX7_rule 54 = .ok (.iload 4, 2) := by decide +kernel
theorem dX7_rule_56 : decode cX7_rule 56 = .ok (.sipush 172, 3) := by decide +kernel
theorem dX7_rule_59 : decode cX7_rule 59 = .ok (.idiv, 1) := by decide +kernel
theorem dX7_rule_60 : decode cX7_rule 60 = .ok (.invokevirtual 182, 3) := by decide +kernel
theorem dX7_rule_63 : decode cX7_rule 63 = .ok (.ireturn, 1) := by decide +kernel
theorem dX7_rule_64 : decode cX7_rule 64 = .ok (.iload_n 3, 1) := by decide +kernel
theorem dX7_rule_65 : decode cX7_rule 65 = .ok (.iconst 1, 1) := by decide +kernel
theorem dX7_rule_66 : decode cX7_rule 66 = .ok (.if_icmp .ne 15, 3) := by decide +kernel
theorem dX7_rule_69 : decode cX7_rule 69 = .ok (.aload_n 0, 1) := by decide +kernel
theorem dX7_rule_70 : decode cX7_rule 70 = .ok (.iload_n 1, 1) := by decide +kernel
theorem dX7_rule_71 : decode cX7_rule 71 = .ok (.iload 4, 2) := by decide +kernel
theorem dX7_rule_73 : decode cX7_rule 73 = .ok (.sipush 172, 3) := by decide +kernel
theorem dX7_rule_76 : decode cX7_rule 76 = .ok (.irem, 1) := by decide +kernel
theorem dX7_rule_77 : decode cX7_rule 77 = .ok (.invokevirtual 182, 3) := by decide +kernel
theorem dX7_rule_80 : decode cX7_rule 80 = .ok (.ireturn, 1) := by decide +kernel
theorem dX7_rule_81 : decode cX7_rule 81 = .ok (.aload_n 0, 1) := by decide +kernel
theorem dX7_rule_82 : decode cX7_rule 82 = .ok (.iload_n 1, 1) := by decide +kernel
theorem dX7_rule_83 : decode cX7_rule 83 = .ok (.iload 4, 2) := by decide +kernel
theorem dX7_rule_85 : decode cX7_rule 85 = .ok (.sipush 172, 3) := by decide +kernel
theorem dX7_rule_88 : decode cX7_rule 88 = .ok (.idiv, 1) := by decide +kernel
theorem dX7_rule_89 : decode cX7_rule 89 = .ok (.iload 4, 2) := by decide +kernel
theorem dX7_rule_91 : decode cX7_rule 91 = .ok (.sipush 172, 3) := by decide +kernel
theorem dX7_rule_94 : decode cX7_rule 94 = .ok (.irem, 1) := by decide +kernel
theorem dX7_rule_95 : decode cX7_rule 95 = .ok (.invokevirtual 105, 3) := by decide +kernel
theorem dX7_rule_98 : decode cX7_rule 98 = .ok (.aload_n 0, 1) := by decide +kernel
theorem dX7_rule_99 : decode cX7_rule 99 = .ok (.iload_n 1, 1) := by decide +kernel
theorem dX7_rule_100 : decode cX7_rule 100 = .ok (.iload_n 3, 1) := by decide +kernel
theorem dX7_rule_101 : decode cX7_rule 101 = .ok (.iconst 2, 1) := by decide +kernel
theorem dX7_rule_102 : decode cX7_rule 102 = .ok (.if_icmp .ne 10, 3) := by decide +kernel
theorem dX7_rule_105 : decode cX7_rule 105 = .ok (.aload_n 0, 1) := by decide +kernel
theorem dX7_rule_106 : decode cX7_rule 106 = .ok (.getfield 64, 3) := by decide +kernel
theorem dX7_rule_109 : decode cX7_rule 109 = .ok (.goto 7, 3) := by decide +kernel
theorem dX7_rule_112 : decode cX7_rule 112 = .ok (.aload_n 0, 1) := by decide +kernel
theorem dX7_rule_113 : decode cX7_rule 113 = .ok (.getfield 67, 3) := by decide +kernel
theorem dX7_rule_116 : decode cX7_rule 116 = .ok (.invokevirtual 182, 3) := by decide +kernel
theorem dX7_rule_119 : decode cX7_rule 119 = .ok (.ireturn, 1) := by decide +kernel
theorem dX7_kind_0 : decode cX7_kind 0 = .ok (.aload_n 0, 1) := by decide +kernel
theorem dX7_kind_1 : decode cX7_kind 1 = .ok (.aload_n 0, 1) := by decide +kernel
theorem dX7_kind_2 : decode cX7_kind 2 = .ok (.iload_n 1, 1) := by decide +kernel
theorem dX7_kind_3 : decode cX7_kind 3 = .ok (.iload_n 3, 1) := by decide +kernel
theorem dX7_kind_4 : decode cX7_kind 4 = .ok (.iconst 2, 1) := by decide +kernel
theorem dX7_kind_5 : decode cX7_kind 5 = .ok (.invokevirtual 176, 3) := by decide +kernel
theorem dX7_kind_8 : decode cX7_kind 8 = .ok (.putfield 7, 3) := by decide +kernel
theorem dX7_kind_11 : decode cX7_kind 11 = .ok (.aload_n 0, 1) := by decide +kernel
theorem dX7_kind_12 : decode cX7_kind 12 = .ok (.getfield 7, 3) := by decide +kernel
theorem dX7_kind_15 : decode cX7_kind 15 = .ok (.ifCond .eq 5, 3) := by decide +kernel
theorem dX7_kind_18 : decode cX7_kind 18 = .ok (.iconst 0, 1) := by decide +kernel
theorem dX7_kind_19 : decode cX7_kind 19 = .ok (.ireturn, 1) := by decide +kernel
theorem dX7_kind_20 : decode cX7_kind 20 = .ok (.iload_n 2, 1) := by decide +kernel
theorem dX7_kind_21 : decode cX7_kind 21 = .ok (.ifCond .lt 54, 3) := by decide +kernel
theorem dX7_kind_24 : decode cX7_kind 24 = .ok (.iconst 0, 1) := by decide +kernel
theorem dX7_kind_25 : decode cX7_kind 25 = .ok (.istore 4, 2) := by decide +kernel
theorem dX7_kind_27 : decode cX7_kind 27 = .ok (.iload 4, 2) := by decide +kernel
theorem dX7_kind_29 : decode cX7_kind 29 = .ok (.sipush 172, 3) := by decide +kernel
theorem dX7_kind_32 : decode cX7_kind 32 = .ok (.if_icmp .ge 43, 3) := by decide +kernel
theorem dX7_kind_35 : decode cX7_kind 35 = .ok (.aload_n 0, 1) := by decide +kernel
theorem dX7_kind_36 : decode cX7_kind 36 = .ok (.getfield 52, 3) := by decide +kernel
theorem dX7_kind_39 : decode cX7_kind 39 = .ok (.sipush 172, 3) := by decide +kernel
theorem dX7_kind_42 : decode cX7_kind 42 = .ok (.iload_n 1, 1) := by decide +kernel
theorem dX7_kind_43 : decode cX7_kind 43 = .ok (.imul, 1) := by decide +kernel
theorem dX7_kind_44 : decode cX7_kind 44 = .ok (.iload 4, 2) := by decide +kernel
theorem dX7_kind_46 : decode cX7_kind 46 = .ok (.iadd, 1) := by decide +kernel
theorem dX7_kind_47 : decode cX7_kind 47 = .ok (.baload, 1) := by decide +kernel
theorem dX7_kind_48 : decode cX7_kind 48 = .ok (.ifCond .eq 21, 3) := by decide +kernel
theorem dX7_kind_51 : decode cX7_kind 51 = .ok (.aload_n 0, 1) := by decide +kernel
theorem dX7_kind_52 : decode cX7_kind 52 = .ok (.iload_n 1, 1) := by decide +kernel
theorem dX7_kind_53 : decode cX7_kind 53 = .ok (.iload 4, 2) := by decide +kernel
theorem dX7_kind_55 : decode cX7_kind 55 = .ok (.invokevirtual 182, 3) := by decide +kernel
theorem dX7_kind_58 : decode cX7_kind 58 = .ok (.iload_n 2, 1) := by decide +kernel
theorem dX7_kind_59 : decode cX7_kind 59 = .ok (.if_icmp .ne 10, 3) := by decide +kernel
theorem dX7_kind_62 : decode cX7_kind 62 = .ok (.iload 4, 2) := by decide +kernel
theorem dX7_kind_64 : decode cX7_kind 64 = .ok (.iload_n 3, 1) := by decide +kernel
theorem dX7_kind_65 : decode cX7_kind 65 = .ok (.invokestatic 160, 3) := by decide +kernel
theorem dX7_kind_68 : decode cX7_kind 68 = .ok (.ireturn, 1) := by decide +kernel
theorem dX7_kind_69 : decode cX7_kind 69 = .ok (.iinc 4 1, 3) := by decide +kernel
theorem dX7_kind_72 : decode cX7_kind 72 = .ok (.goto (-45), 3) := by decide +kernel
theorem dX7_kind_75 : decode cX7_kind 75 = .ok (.aload_n 0, 1) := by decide +kernel
theorem dX7_kind_76 : decode cX7_kind 76 = .ok (.iconst 1, 1) := by decide +kernel
theorem dX7_kind_77 : decode cX7_kind 77 = .ok (.putfield 7, 3) := by decide +kernel
theorem dX7_kind_80 : decode cX7_kind 80 = .ok (.iconst 0, 1) := by decide +kernel
theorem dX7_kind_81 : decode cX7_kind 81 = .ok (.ireturn, 1) := by decide +kernel
theorem dJ9_floorMod_7cf53_0 : decode cJ9_floorMod_7cf53 0 = .ok (.iload_n 0, 1) := by decide +kernel
theorem dJ9_floorMod_7cf53_1 : decode cJ9_floorMod_7cf53 1 = .ok (.iload_n 1, 1) := by decide +kernel
theorem dJ9_floorMod_7cf53_2 : decode cJ9_floorMod_7cf53 2 = .ok (.irem, 1) := by decide +kernel
theorem dJ9_floorMod_7cf53_3 : decode cJ9_floorMod_7cf53 3 = .ok (.istore_n 2, 1) := by decide +kernel
theorem dJ9_floorMod_7cf53_4 : decode cJ9_floorMod_7cf53 4 = .ok (.iload_n 0, 1) := by decide +kernel
theorem dJ9_floorMod_7cf53_5 : decode cJ9_floorMod_7cf53 5 = .ok (.iload_n 1, 1) := by decide +kernel
theorem dJ9_floorMod_7cf53_6 : decode cJ9_floorMod_7cf53 6 = .ok (.ixor, 1) := by decide +kernel
theorem dJ9_floorMod_7cf53_7 : decode cJ9_floorMod_7cf53 7 = .ok (.ifCond .ge 11, 3) := by decide +kernel
theorem dJ9_floorMod_7cf53_10 : decode cJ9_floorMod_7cf53 10 = .ok (.iload_n 2, 1) := by decide +kernel
theorem dJ9_floorMod_7cf53_11 : decode cJ9_floorMod_7cf53 11 = .ok (.ifCond .eq 7, 3) := by decide +kernel
theorem dJ9_floorMod_7cf53_14 : decode cJ9_floorMod_7cf53 14 = .ok (.iload_n 2, 1) := by decide +kernel
theorem dJ9_floorMod_7cf53_15 : decode cJ9_floorMod_7cf53 15 = .ok (.iload_n 1, 1) := by decide +kernel
theorem dJ9_floorMod_7cf53_16 : decode cJ9_floorMod_7cf53 16 = .ok (.iadd, 1) := by decide +kernel
theorem dJ9_floorMod_7cf53_17 : decode cJ9_floorMod_7cf53 17 = .ok (.ireturn, 1) := by decide +kernel
theorem dJ9_floorMod_7cf53_18 : decode cJ9_floorMod_7cf53 18 = .ok (.iload_n 2, 1) := by decide +kernel
theorem dJ9_floorMod_7cf53_19 : decode cJ9_floorMod_7cf53 19 = .ok (.ireturn, 1) := by decide +kernel
theorem dJ9_abs_0f7a4_0 : decode cJ9_abs_0f7a4 0 = .ok (.iload_n 0, 1) := by decide +kernel
theorem dJ9_abs_0f7a4_1 : decode cJ9_abs_0f7a4 1 = .ok (.ifCond .ge 8, 3) := by decide +kernel
theorem dJ9_abs_0f7a4_4 : decode cJ9_abs_0f7a4 4 = .ok (.iload_n 0, 1) := by decide +kernel
theorem dJ9_abs_0f7a4_5 : decode cJ9_abs_0f7a4 5 = .ok (.ineg, 1) := by decide +kernel
theorem dJ9_abs_0f7a4_6 : decode cJ9_abs_0f7a4 6 = .ok (.goto 4, 3) := by decide +kernel
theorem dJ9_abs_0f7a4_9 : decode cJ9_abs_0f7a4 9 = .ok (.iload_n 0, 1) := by decide +kernel
theorem dJ9_abs_0f7a4_10 : decode cJ9_abs_0f7a4 10 = .ok (.ireturn, 1) := by decide +kernel
theorem dJ9_max_7cf53_0 : decode cJ9_max_7cf53 0 = .ok (.iload_n 0, 1) := by decide +kernel
theorem dJ9_max_7cf53_1 : decode cJ9_max_7cf53 1 = .ok (.iload_n 1, 1) := by decide +kernel
theorem dJ9_max_7cf53_2 : decode cJ9_max_7cf53 2 = .ok (.if_icmp .lt 7, 3) := by decide +kernel
theorem dJ9_max_7cf53_5 : decode cJ9_max_7cf53 5 = .ok (.iload_n 0, 1) := by decide +kernel
theorem dJ9_max_7cf53_6 : decode cJ9_max_7cf53 6 = .ok (.goto 4, 3) := by decide +kernel
theorem dJ9_max_7cf53_9 : decode cJ9_max_7cf53 9 = .ok (.iload_n 1, 1) := by decide +kernel
theorem dJ9_max_7cf53_10 : decode cJ9_max_7cf53 10 = .ok (.ireturn, 1) := by decide +kernel
theorem dJ9_min_7cf53_0 : decode cJ9_min_7cf53 0 = .ok (.iload_n 0, 1) := by decide +kernel
theorem dJ9_min_7cf53_1 : decode cJ9_min_7cf53 1 = .ok (.iload_n 1, 1) := by decide +kernel
theorem dJ9_min_7cf53_2 : decode cJ9_min_7cf53 2 = .ok (.if_icmp .gt 7, 3) := by decide +kernel
theorem dJ9_min_7cf53_5 : decode cJ9_min_7cf53 5 = .ok (.iload_n 0, 1) := by decide +kernel
theorem dJ9_min_7cf53_6 : decode cJ9_min_7cf53 6 = .ok (.goto 4, 3) := by decide +kernel
theorem dJ9_min_7cf53_9 : decode cJ9_min_7cf53 9 = .ok (.iload_n 1, 1) := by decide +kernel
theorem dJ9_min_7cf53_10 : decode cJ9_min_7cf53 10 = .ok (.ireturn, 1) := by decide +kernel
theorem dJ7_fill_53178_0 : decode cJ7_fill_53178 0 = .ok (.iconst 0, 1) := by decide +kernel
theorem dJ7_fill_53178_1 : decode cJ7_fill_53178 1 = .ok (.istore_n 2, 1) := by decide +kernel
theorem dJ7_fill_53178_2 : decode cJ7_fill_53178 2 = .ok (.aload_n 0, 1) := by decide +kernel
theorem dJ7_fill_53178_3 : decode cJ7_fill_53178 3 = .ok (.arraylength, 1) := by decide +kernel
theorem dJ7_fill_53178_4 : decode cJ7_fill_53178 4 = .ok (.istore_n 3, 1) := by decide +kernel
theorem dJ7_fill_53178_5 : decode cJ7_fill_53178 5 = .ok (.iload_n 2, 1) := by decide +kernel
theorem dJ7_fill_53178_6 : decode cJ7_fill_53178 6 = .ok (.iload_n 3, 1) := by decide +kernel
theorem dJ7_fill_53178_7 : decode cJ7_fill_53178 7 = .ok (.if_icmp .ge 13, 3) := by decide +kernel
theorem dJ7_fill_53178_10 : decode cJ7_fill_53178 10 = .ok (.aload_n 0, 1) := by decide +kernel
theorem dJ7_fill_53178_11 : decode cJ7_fill_53178 11 = .ok (.iload_n 2, 1) := by decide +kernel
theorem dJ7_fill_53178_12 : decode cJ7_fill_53178 12 = .ok (.iload_n 1, 1) := by decide +kernel
theorem dJ7_fill_53178_13 : decode cJ7_fill_53178 13 = .ok (.iastore, 1) := by decide +kernel
theorem dJ7_fill_53178_14 : decode cJ7_fill_53178 14 = .ok (.iinc 2 1, 3) := by decide +kernel
theorem dJ7_fill_53178_17 : decode cJ7_fill_53178 17 = .ok (.goto (-12), 3) := by decide +kernel
theorem dJ7_fill_53178_20 : decode cJ7_fill_53178 20 = .ok (.return_, 1) := by decide +kernel
theorem dL_coef_0 : decode cL_coef 0 = .ok (.aload_n 3, 1) := by decide +kernel
theorem dL_coef_1 : decode cL_coef 1 = .ok (.iconst 0, 1) := by decide +kernel
theorem dL_coef_2 : decode cL_coef 2 = .ok (.aload_n 0, 1) := by decide +kernel
theorem dL_coef_3 : decode cL_coef 3 = .ok (.iload_n 1, 1) := by decide +kernel
theorem dL_coef_4 : decode cL_coef 4 = .ok (.iload_n 2, 1) := by decide +kernel
theorem dL_coef_5 : decode cL_coef 5 = .ok (.invokevirtual 7, 3) := by decide +kernel
theorem dL_coef_8 : decode cL_coef 8 = .ok (.i2l, 1) := by decide +kernel
theorem dL_coef_9 : decode cL_coef 9 = .ok (.lastore, 1) := by decide +kernel
theorem dL_coef_10 : decode cL_coef 10 = .ok (.goto 7, 3) := by decide +kernel
theorem dL_coef_13 : decode cL_coef 13 = .ok (.astore 4, 2) := by decide +kernel
theorem dL_coef_15 : decode cL_coef 15 = .ok (.iconst 1, 1) := by decide +kernel
theorem dL_coef_16 : decode cL_coef 16 = .ok (.ireturn, 1) := by decide +kernel
theorem dL_coef_17 : decode cL_coef 17 = .ok (.iconst 0, 1) := by decide +kernel
theorem dL_coef_18 : decode cL_coef 18 = .ok (.ireturn, 1) := by decide +kernel
theorem dL_sum_0 : decode cL_sum 0 = .ok (.aload_n 2, 1) := by decide +kernel
theorem dL_sum_1 : decode cL_sum 1 = .ok (.iconst 0, 1) := by decide +kernel
theorem dL_sum_2 : decode cL_sum 2 = .ok (.aload_n 0, 1) := by decide +kernel
theorem dL_sum_3 : decode cL_sum 3 = .ok (.iload_n 1, 1) := by decide +kernel
theorem dL_sum_4 : decode cL_sum 4 = .ok (.invokevirtual 15, 3) := by decide +kernel
theorem dL_sum_7 : decode cL_sum 7 = .ok (.i2l, 1) := by decide +kernel
theorem dL_sum_8 : decode cL_sum 8 = .ok (.lastore, 1) := by decide +kernel
theorem dL_sum_9 : decode cL_sum 9 = .ok (.goto 9, 3) := by decide +kernel
theorem dL_sum_12 : decode cL_sum 12 = .ok (.astore_n 3, 1) := by decide +kernel
theorem dL_sum_13 : decode cL_sum 13 = .ok (.iconst 1, 1) := by decide +kernel
theorem dL_sum_14 : decode cL_sum 14 = .ok (.ireturn, 1) := by decide +kernel
theorem dL_sum_15 : decode cL_sum 15 = .ok (.astore_n 3, 1) := by decide +kernel
theorem dL_sum_16 : decode cL_sum 16 = .ok (.iconst 2, 1) := by decide +kernel
theorem dL_sum_17 : decode cL_sum 17 = .ok (.ireturn, 1) := by decide +kernel
theorem dL_sum_18 : decode cL_sum 18 = .ok (.iconst 0, 1) := by decide +kernel
theorem dL_sum_19 : decode cL_sum 19 = .ok (.ireturn, 1) := by decide +kernel
theorem dL_mod_0 : decode cL_mod 0 = .ok (.aload_n 3, 1) := by decide +kernel
theorem dL_mod_1 : decode cL_mod 1 = .ok (.iconst 0, 1) := by decide +kernel
theorem dL_mod_2 : decode cL_mod 2 = .ok (.aload_n 0, 1) := by decide +kernel
theorem dL_mod_3 : decode cL_mod 3 = .ok (.iload_n 1, 1) := by decide +kernel
theorem dL_mod_4 : decode cL_mod 4 = .ok (.iload_n 2, 1) := by decide +kernel
theorem dL_mod_5 : decode cL_mod 5 = .ok (.invokevirtual 21, 3) := by decide +kernel
theorem dL_mod_8 : decode cL_mod 8 = .ok (.i2l, 1) := by decide +kernel
theorem dL_mod_9 : decode cL_mod 9 = .ok (.lastore, 1) := by decide +kernel
theorem dL_mod_10 : decode cL_mod 10 = .ok (.goto 11, 3) := by decide +kernel
theorem dL_mod_13 : decode cL_mod 13 = .ok (.astore 4, 2) := by decide +kernel
theorem dL_mod_15 : decode cL_mod 15 = .ok (.iconst 1, 1) := by decide +kernel
theorem dL_mod_16 : decode cL_mod 16 = .ok (.ireturn, 1) := by decide +kernel
theorem dL_mod_17 : decode cL_mod 17 = .ok (.astore 4, 2) := by decide +kernel
theorem dL_mod_19 : decode cL_mod 19 = .ok (.iconst 2, 1) := by decide +kernel
theorem dL_mod_20 : decode cL_mod 20 = .ok (.ireturn, 1) := by decide +kernel
theorem dL_mod_21 : decode cL_mod 21 = .ok (.iconst 0, 1) := by decide +kernel
theorem dL_mod_22 : decode cL_mod 22 = .ok (.ireturn, 1) := by decide +kernel
theorem dL_combine_0 : decode cL_combine 0 = .ok (.aload 4, 2) := by decide +kernel
theorem dL_combine_2 : decode cL_combine 2 = .ok (.iconst 0, 1) := by decide +kernel
theorem dL_combine_3 : decode cL_combine 3 = .ok (.aload_n 0, 1) := by decide +kernel
theorem dL_combine_4 : decode cL_combine 4 = .ok (.iload_n 1, 1) := by decide +kernel
theorem dL_combine_5 : decode cL_combine 5 = .ok (.iload_n 2, 1) := by decide +kernel
theorem dL_combine_6 : decode cL_combine 6 = .ok (.iload_n 3, 1) := by decide +kernel
theorem dL_combine_7 : decode cL_combine 7 = .ok (.invokevirtual 24, 3) := by decide +kernel
theorem dL_combine_10 : decode cL_combine 10 = .ok (.i2l, 1) := by decide +kernel
theorem dL_combine_11 : decode cL_combine 11 = .ok (.lastore, 1) := by decide +kernel
theorem dL_combine_12 : decode cL_combine 12 = .ok (.goto 11, 3) := by decide +kernel
theorem dL_combine_15 : decode cL_combine 15 = .ok (.astore 5, 2) := by decide +kernel
theorem dL_combine_17 : decode cL_combine 17 = .ok (.iconst 1, 1) := by decide +kernel
theorem dL_combine_18 : decode cL_combine 18 = .ok (.ireturn, 1) := by decide +kernel
theorem dL_combine_19 : decode cL_combine 19 = .ok (.astore 5, 2) := by decide +kernel
theorem dL_combine_21 : decode cL_combine 21 = .ok (.iconst 2, 1) := by decide +kernel
theorem dL_combine_22 : decode cL_combine 22 = .ok (.ireturn, 1) := by decide +kernel
theorem dL_combine_23 : decode cL_combine 23 = .ok (.iconst 0, 1) := by decide +kernel
theorem dL_combine_24 : decode cL_combine 24 = .ok (.ireturn, 1) := by decide +kernel
theorem dL_compile_0 : decode cL_compile 0 = .ok (.aload_n 1, 1) := by decide +kernel
theorem dL_compile_1 : decode cL_compile 1 = .ok (.iconst 0, 1) := by decide +kernel
theorem dL_compile_2 : decode cL_compile 2 = .ok (.aload_n 0, 1) := by decide +kernel
theorem dL_compile_3 : decode cL_compile 3 = .ok (.invokevirtual 28, 3) := by decide +kernel
theorem dL_compile_6 : decode cL_compile 6 = .ok (.i2l, 1) := by decide +kernel
theorem dL_compile_7 : decode cL_compile 7 = .ok (.lastore, 1) := by decide +kernel
theorem dL_compile_8 : decode cL_compile 8 = .ok (.goto 6, 3) := by decide +kernel
theorem dL_compile_11 : decode cL_compile 11 = .ok (.astore_n 2, 1) := by decide +kernel
theorem dL_compile_12 : decode cL_compile 12 = .ok (.iconst 1, 1) := by decide +kernel
theorem dL_compile_13 : decode cL_compile 13 = .ok (.ireturn, 1) := by decide +kernel
theorem dL_compile_14 : decode cL_compile 14 = .ok (.iconst 0, 1) := by decide +kernel
theorem dL_compile_15 : decode cL_compile 15 = .ok (.ireturn, 1) := by decide +kernel
theorem dL_add_0 : decode cL_add 0 = .ok (.aload_n 3, 1) := by decide +kernel
theorem dL_add_1 : decode cL_add 1 = .ok (.iconst 0, 1) := by decide +kernel
theorem dL_add_2 : decode cL_add 2 = .ok (.aload_n 0, 1) := by decide +kernel
theorem dL_add_3 : decode cL_add 3 = .ok (.iload_n 1, 1) := by decide +kernel
theorem dL_add_4 : decode cL_add 4 = .ok (.iload_n 2, 1) := by decide +kernel
theorem dL_add_5 : decode cL_add 5 = .ok (.invokevirtual 32, 3) := by decide +kernel
theorem dL_add_8 : decode cL_add 8 = .ok (.i2l, 1) := by decide +kernel
theorem dL_add_9 : decode cL_add 9 = .ok (.lastore, 1) := by decide +kernel
theorem dL_add_10 : decode cL_add 10 = .ok (.goto 11, 3) := by decide +kernel
theorem dL_add_13 : decode cL_add 13 = .ok (.astore 4, 2) := by decide +kernel
theorem dL_add_15 : decode cL_add 15 = .ok (.iconst 1, 1) := by decide +kernel
theorem dL_add_16 : decode cL_add 16 = .ok (.ireturn, 1) := by decide +kernel
theorem dL_add_17 : decode cL_add 17 = .ok (.astore 4, 2) := by decide +kernel
theorem dL_add_19 : decode cL_add 19 = .ok (.iconst 2, 1) := by decide +kernel
theorem dL_add_20 : decode cL_add 20 = .ok (.ireturn, 1) := by decide +kernel
theorem dL_add_21 : decode cL_add 21 = .ok (.iconst 0, 1) := by decide +kernel
theorem dL_add_22 : decode cL_add 22 = .ok (.ireturn, 1) := by decide +kernel
theorem dL_meet_0 : decode cL_meet 0 = .ok (.aload_n 3, 1) := by decide +kernel
theorem dL_meet_1 : decode cL_meet 1 = .ok (.iconst 0, 1) := by decide +kernel
theorem dL_meet_2 : decode cL_meet 2 = .ok (.aload_n 0, 1) := by decide +kernel
theorem dL_meet_3 : decode cL_meet 3 = .ok (.iload_n 1, 1) := by decide +kernel
theorem dL_meet_4 : decode cL_meet 4 = .ok (.iload_n 2, 1) := by decide +kernel
theorem dL_meet_5 : decode cL_meet 5 = .ok (.invokevirtual 35, 3) := by decide +kernel
theorem dL_meet_8 : decode cL_meet 8 = .ok (.ifCond .eq 7, 3) := by decide +kernel
theorem dL_meet_11 : decode cL_meet 11 = .ok (.lconst 1, 1) := by decide +kernel
theorem dL_meet_12 : decode cL_meet 12 = .ok (.goto 4, 3) := by decide +kernel
theorem dL_meet_15 : decode cL_meet 15 = .ok (.lconst 0, 1) := by decide +kernel
theorem dL_meet_16 : decode cL_meet 16 = .ok (.lastore, 1) := by decide +kernel
theorem dL_meet_17 : decode cL_meet 17 = .ok (.goto 11, 3) := by decide +kernel
theorem dL_meet_20 : decode cL_meet 20 = .ok (.astore 4, 2) := by decide +kernel
theorem dL_meet_22 : decode cL_meet 22 = .ok (.iconst 1, 1) := by decide +kernel
theorem dL_meet_23 : decode cL_meet 23 = .ok (.ireturn, 1) := by decide +kernel
theorem dL_meet_24 : decode cL_meet 24 = .ok (.astore 4, 2) := by decide +kernel
theorem dL_meet_26 : decode cL_meet 26 = .ok (.iconst 2, 1) := by decide +kernel
theorem dL_meet_27 : decode cL_meet 27 = .ok (.ireturn, 1) := by decide +kernel
theorem dL_meet_28 : decode cL_meet 28 = .ok (.iconst 0, 1) := by decide +kernel
theorem dL_meet_29 : decode cL_meet 29 = .ok (.ireturn, 1) := by decide +kernel
theorem dL_sweep_0 : decode cL_sweep 0 = .ok (.aload_n 2, 1) := by decide +kernel
theorem dL_sweep_1 : decode cL_sweep 1 = .ok (.iconst 0, 1) := by decide +kernel
theorem dL_sweep_2 : decode cL_sweep 2 = .ok (.aload_n 0, 1) := by decide +kernel
theorem dL_sweep_3 : decode cL_sweep 3 = .ok (.iload_n 1, 1) := by decide +kernel
theorem dL_sweep_4 : decode cL_sweep 4 = .ok (.invokevirtual 41, 3) := by decide +kernel
theorem dL_sweep_7 : decode cL_sweep 7 = .ok (.i2l, 1) := by decide +kernel
theorem dL_sweep_8 : decode cL_sweep 8 = .ok (.lastore, 1) := by decide +kernel
theorem dL_sweep_9 : decode cL_sweep 9 = .ok (.goto 6, 3) := by decide +kernel
theorem dL_sweep_12 : decode cL_sweep 12 = .ok (.astore_n 3, 1) := by decide +kernel
theorem dL_sweep_13 : decode cL_sweep 13 = .ok (.iconst 1, 1) := by decide +kernel
theorem dL_sweep_14 : decode cL_sweep 14 = .ok (.ireturn, 1) := by decide +kernel
theorem dL_sweep_15 : decode cL_sweep 15 = .ok (.iconst 0, 1) := by decide +kernel
theorem dL_sweep_16 : decode cL_sweep 16 = .ok (.ireturn, 1) := by decide +kernel
theorem dL_output_0 : decode cL_output 0 = .ok (.aload_n 2, 1) := by decide +kernel
theorem dL_output_1 : decode cL_output 1 = .ok (.iconst 0, 1) := by decide +kernel
theorem dL_output_2 : decode cL_output 2 = .ok (.aload_n 0, 1) := by decide +kernel
theorem dL_output_3 : decode cL_output 3 = .ok (.iload_n 1, 1) := by decide +kernel
theorem dL_output_4 : decode cL_output 4 = .ok (.invokevirtual 44, 3) := by decide +kernel
theorem dL_output_7 : decode cL_output 7 = .ok (.ifCond .eq 7, 3) := by decide +kernel
end
section
theorem dL_output_10 : decode cL_output 10 = .ok (.lconst 1, 1) := by decide +kernel
theorem dL_output_11 : decode cL_output 11 = .ok (.goto 4, 3) := by decide +kernel
theorem dL_output_14 : decode cL_output 14 = .ok (.lconst 0, 1) := by decide +kernel
theorem dL_output_15 : decode cL_output 15 = .ok (.lastore, 1) := by decide +kernel
theorem dL_output_16 : decode cL_output 16 = .ok (.goto 6, 3) := by decide +kernel
theorem dL_output_19 : decode cL_output 19 = .ok (.astore_n 3, 1) := by decide +kernel
theorem dL_output_20 : decode cL_output 20 = .ok (.iconst 1, 1) := by decide +kernel
theorem dL_output_21 : decode cL_output 21 = .ok (.ireturn, 1) := by decide +kernel
theorem dL_output_22 : decode cL_output 22 = .ok (.iconst 0, 1) := by decide +kernel
theorem dL_output_23 : decode cL_output 23 = .ok (.ireturn, 1) := by decide +kernel
theorem dL_state_0 : decode cL_state 0 = .ok (.aload 4, 2) := by decide +kernel
theorem dL_state_2 : decode cL_state 2 = .ok (.iconst 0, 1) := by decide +kernel
theorem dL_state_3 : decode cL_state 3 = .ok (.aload_n 0, 1) := by decide +kernel
theorem dL_state_4 : decode cL_state 4 = .ok (.iload_n 1, 1) := by decide +kernel
theorem dL_state_5 : decode cL_state 5 = .ok (.iload_n 2, 1) := by decide +kernel
theorem dL_state_6 : decode cL_state 6 = .ok (.iload_n 3, 1) := by decide +kernel
theorem dL_state_7 : decode cL_state 7 = .ok (.invokevirtual 48, 3) := by decide +kernel
theorem dL_state_10 : decode cL_state 10 = .ok (.i2l, 1) := by decide +kernel
theorem dL_state_11 : decode cL_state 11 = .ok (.lastore, 1) := by decide +kernel
theorem dL_state_12 : decode cL_state 12 = .ok (.goto 7, 3) := by decide +kernel
theorem dL_state_15 : decode cL_state 15 = .ok (.astore 5, 2) := by decide +kernel
theorem dL_state_17 : decode cL_state 17 = .ok (.iconst 1, 1) := by decide +kernel
theorem dL_state_18 : decode cL_state 18 = .ok (.ireturn, 1) := by decide +kernel
theorem dL_state_19 : decode cL_state 19 = .ok (.iconst 0, 1) := by decide +kernel
theorem dL_state_20 : decode cL_state 20 = .ok (.ireturn, 1) := by decide +kernel
theorem dL_truth_0 : decode cL_truth 0 = .ok (.aload_n 1, 1) := by decide +kernel
theorem dL_truth_1 : decode cL_truth 1 = .ok (.iconst 0, 1) := by decide +kernel
theorem dL_truth_2 : decode cL_truth 2 = .ok (.aload_n 0, 1) := by decide +kernel
theorem dL_truth_3 : decode cL_truth 3 = .ok (.invokevirtual 51, 3) := by decide +kernel
theorem dL_truth_6 : decode cL_truth 6 = .ok (.ifCond .eq 7, 3) := by decide +kernel
theorem dL_truth_9 : decode cL_truth 9 = .ok (.lconst 1, 1) := by decide +kernel
theorem dL_truth_10 : decode cL_truth 10 = .ok (.goto 4, 3) := by decide +kernel
theorem dL_truth_13 : decode cL_truth 13 = .ok (.lconst 0, 1) := by decide +kernel
theorem dL_truth_14 : decode cL_truth 14 = .ok (.lastore, 1) := by decide +kernel
theorem dL_truth_15 : decode cL_truth 15 = .ok (.goto 6, 3) := by decide +kernel
theorem dL_truth_18 : decode cL_truth 18 = .ok (.astore_n 2, 1) := by decide +kernel
theorem dL_truth_19 : decode cL_truth 19 = .ok (.iconst 1, 1) := by decide +kernel
theorem dL_truth_20 : decode cL_truth 20 = .ok (.ireturn, 1) := by decide +kernel
theorem dL_truth_21 : decode cL_truth 21 = .ok (.iconst 0, 1) := by decide +kernel
theorem dL_truth_22 : decode cL_truth 22 = .ok (.ireturn, 1) := by decide +kernel
theorem dL_explore_0 : decode cL_explore 0 = .ok (.aload_n 2, 1) := by decide +kernel
theorem dL_explore_1 : decode cL_explore 1 = .ok (.iconst 0, 1) := by decide +kernel
theorem dL_explore_2 : decode cL_explore 2 = .ok (.aload_n 0, 1) := by decide +kernel
theorem dL_explore_3 : decode cL_explore 3 = .ok (.iload_n 1, 1) := by decide +kernel
theorem dL_explore_4 : decode cL_explore 4 = .ok (.invokevirtual 55, 3) := by decide +kernel
theorem dL_explore_7 : decode cL_explore 7 = .ok (.i2l, 1) := by decide +kernel
theorem dL_explore_8 : decode cL_explore 8 = .ok (.lastore, 1) := by decide +kernel
theorem dL_explore_9 : decode cL_explore 9 = .ok (.goto 9, 3) := by decide +kernel
theorem dL_explore_12 : decode cL_explore 12 = .ok (.astore_n 3, 1) := by decide +kernel
theorem dL_explore_13 : decode cL_explore 13 = .ok (.iconst 1, 1) := by decide +kernel
theorem dL_explore_14 : decode cL_explore 14 = .ok (.ireturn, 1) := by decide +kernel
theorem dL_explore_15 : decode cL_explore 15 = .ok (.astore_n 3, 1) := by decide +kernel
theorem dL_explore_16 : decode cL_explore 16 = .ok (.iconst 2, 1) := by decide +kernel
theorem dL_explore_17 : decode cL_explore 17 = .ok (.ireturn, 1) := by decide +kernel
theorem dL_explore_18 : decode cL_explore 18 = .ok (.iconst 0, 1) := by decide +kernel
theorem dL_explore_19 : decode cL_explore 19 = .ok (.ireturn, 1) := by decide +kernel
theorem dL_recovers_0 : decode cL_recovers 0 = .ok (.aload_n 1, 1) := by decide +kernel
theorem dL_recovers_1 : decode cL_recovers 1 = .ok (.iconst 0, 1) := by decide +kernel
theorem dL_recovers_2 : decode cL_recovers 2 = .ok (.aload_n 0, 1) := by decide +kernel
theorem dL_recovers_3 : decode cL_recovers 3 = .ok (.invokevirtual 58, 3) := by decide +kernel
theorem dL_recovers_6 : decode cL_recovers 6 = .ok (.ifCond .eq 7, 3) := by decide +kernel
theorem dL_recovers_9 : decode cL_recovers 9 = .ok (.lconst 1, 1) := by decide +kernel
theorem dL_recovers_10 : decode cL_recovers 10 = .ok (.goto 4, 3) := by decide +kernel
theorem dL_recovers_13 : decode cL_recovers 13 = .ok (.lconst 0, 1) := by decide +kernel
theorem dL_recovers_14 : decode cL_recovers 14 = .ok (.lastore, 1) := by decide +kernel
theorem dL_recovers_15 : decode cL_recovers 15 = .ok (.goto 6, 3) := by decide +kernel
theorem dL_recovers_18 : decode cL_recovers 18 = .ok (.astore_n 2, 1) := by decide +kernel
theorem dL_recovers_19 : decode cL_recovers 19 = .ok (.iconst 1, 1) := by decide +kernel
theorem dL_recovers_20 : decode cL_recovers 20 = .ok (.ireturn, 1) := by decide +kernel
theorem dL_recovers_21 : decode cL_recovers 21 = .ok (.iconst 0, 1) := by decide +kernel
theorem dL_recovers_22 : decode cL_recovers 22 = .ok (.ireturn, 1) := by decide +kernel
theorem dL_table_0 : decode cL_table 0 = .ok (.aload_n 3, 1) := by decide +kernel
theorem dL_table_1 : decode cL_table 1 = .ok (.iconst 0, 1) := by decide +kernel
theorem dL_table_2 : decode cL_table 2 = .ok (.aload_n 0, 1) := by decide +kernel
theorem dL_table_3 : decode cL_table 3 = .ok (.iload_n 1, 1) := by decide +kernel
theorem dL_table_4 : decode cL_table 4 = .ok (.iload_n 2, 1) := by decide +kernel
theorem dL_table_5 : decode cL_table 5 = .ok (.invokevirtual 61, 3) := by decide +kernel
theorem dL_table_8 : decode cL_table 8 = .ok (.i2l, 1) := by decide +kernel
theorem dL_table_9 : decode cL_table 9 = .ok (.lastore, 1) := by decide +kernel
theorem dL_table_10 : decode cL_table 10 = .ok (.goto 11, 3) := by decide +kernel
theorem dL_table_13 : decode cL_table 13 = .ok (.astore 4, 2) := by decide +kernel
theorem dL_table_15 : decode cL_table 15 = .ok (.iconst 1, 1) := by decide +kernel
theorem dL_table_16 : decode cL_table 16 = .ok (.ireturn, 1) := by decide +kernel
theorem dL_table_17 : decode cL_table 17 = .ok (.astore 4, 2) := by decide +kernel
theorem dL_table_19 : decode cL_table 19 = .ok (.iconst 2, 1) := by decide +kernel
theorem dL_table_20 : decode cL_table 20 = .ok (.ireturn, 1) := by decide +kernel
theorem dL_table_21 : decode cL_table 21 = .ok (.iconst 0, 1) := by decide +kernel
theorem dL_table_22 : decode cL_table 22 = .ok (.ireturn, 1) := by decide +kernel
theorem dL_rule_0 : decode cL_rule 0 = .ok (.aload 4, 2) := by decide +kernel
theorem dL_rule_2 : decode cL_rule 2 = .ok (.iconst 0, 1) := by decide +kernel
theorem dL_rule_3 : decode cL_rule 3 = .ok (.aload_n 0, 1) := by decide +kernel
theorem dL_rule_4 : decode cL_rule 4 = .ok (.iload_n 1, 1) := by decide +kernel
theorem dL_rule_5 : decode cL_rule 5 = .ok (.iload_n 2, 1) := by decide +kernel
theorem dL_rule_6 : decode cL_rule 6 = .ok (.iload_n 3, 1) := by decide +kernel
theorem dL_rule_7 : decode cL_rule 7 = .ok (.invokevirtual 64, 3) := by decide +kernel
theorem dL_rule_10 : decode cL_rule 10 = .ok (.i2l, 1) := by decide +kernel
theorem dL_rule_11 : decode cL_rule 11 = .ok (.lastore, 1) := by decide +kernel
theorem dL_rule_12 : decode cL_rule 12 = .ok (.goto 11, 3) := by decide +kernel
theorem dL_rule_15 : decode cL_rule 15 = .ok (.astore 5, 2) := by decide +kernel
theorem dL_rule_17 : decode cL_rule 17 = .ok (.iconst 1, 1) := by decide +kernel
theorem dL_rule_18 : decode cL_rule 18 = .ok (.ireturn, 1) := by decide +kernel
theorem dL_rule_19 : decode cL_rule 19 = .ok (.astore 5, 2) := by decide +kernel
theorem dL_rule_21 : decode cL_rule 21 = .ok (.iconst 2, 1) := by decide +kernel
theorem dL_rule_22 : decode cL_rule 22 = .ok (.ireturn, 1) := by decide +kernel
theorem dL_rule_23 : decode cL_rule 23 = .ok (.iconst 0, 1) := by decide +kernel
theorem dL_rule_24 : decode cL_rule 24 = .ok (.ireturn, 1) := by decide +kernel
theorem dL_kind_0 : decode cL_kind 0 = .ok (.aload 4, 2) := by decide +kernel
theorem dL_kind_2 : decode cL_kind 2 = .ok (.iconst 0, 1) := by decide +kernel
theorem dL_kind_3 : decode cL_kind 3 = .ok (.aload_n 0, 1) := by decide +kernel
theorem dL_kind_4 : decode cL_kind 4 = .ok (.iload_n 1, 1) := by decide +kernel
theorem dL_kind_5 : decode cL_kind 5 = .ok (.iload_n 2, 1) := by decide +kernel
theorem dL_kind_6 : decode cL_kind 6 = .ok (.iload_n 3, 1) := by decide +kernel
theorem dL_kind_7 : decode cL_kind 7 = .ok (.invokevirtual 67, 3) := by decide +kernel
theorem dL_kind_10 : decode cL_kind 10 = .ok (.i2l, 1) := by decide +kernel
theorem dL_kind_11 : decode cL_kind 11 = .ok (.lastore, 1) := by decide +kernel
theorem dL_kind_12 : decode cL_kind 12 = .ok (.goto 11, 3) := by decide +kernel
theorem dL_kind_15 : decode cL_kind 15 = .ok (.astore 5, 2) := by decide +kernel
theorem dL_kind_17 : decode cL_kind 17 = .ok (.iconst 1, 1) := by decide +kernel
theorem dL_kind_18 : decode cL_kind 18 = .ok (.ireturn, 1) := by decide +kernel
theorem dL_kind_19 : decode cL_kind 19 = .ok (.astore 5, 2) := by decide +kernel
theorem dL_kind_21 : decode cL_kind 21 = .ok (.iconst 2, 1) := by decide +kernel
theorem dL_kind_22 : decode cL_kind 22 = .ok (.ireturn, 1) := by decide +kernel
theorem dL_kind_23 : decode cL_kind 23 = .ok (.iconst 0, 1) := by decide +kernel
theorem dL_kind_24 : decode cL_kind 24 = .ok (.ireturn, 1) := by decide +kernel
theorem dL_law_0 : decode cL_law 0 = .ok (.new 8, 3) := by decide +kernel
theorem dL_law_3 : decode cL_law 3 = .ok (.dup, 1) := by decide +kernel
theorem dL_law_4 : decode cL_law 4 = .ok (.invokespecial 70, 3) := by decide +kernel
theorem dL_law_7 : decode cL_law 7 = .ok (.astore_n 1, 1) := by decide +kernel
theorem dL_law_8 : decode cL_law 8 = .ok (.new 71, 3) := by decide +kernel
theorem dL_law_11 : decode cL_law 11 = .ok (.dup, 1) := by decide +kernel
theorem dL_law_12 : decode cL_law 12 = .ok (.invokespecial 73, 3) := by decide +kernel
theorem dL_law_15 : decode cL_law 15 = .ok (.astore_n 2, 1) := by decide +kernel
theorem dL_law_16 : decode cL_law 16 = .ok (.iconst 1, 1) := by decide +kernel
theorem dL_law_17 : decode cL_law 17 = .ok (.newarray .long, 2) := by decide +kernel
theorem dL_law_19 : decode cL_law 19 = .ok (.astore_n 3, 1) := by decide +kernel
theorem dL_law_20 : decode cL_law 20 = .ok (.iconst 0, 1) := by decide +kernel
theorem dL_law_21 : decode cL_law 21 = .ok (.istore 4, 2) := by decide +kernel
theorem dL_law_23 : decode cL_law 23 = .ok (.iload 4, 2) := by decide +kernel
theorem dL_law_25 : decode cL_law 25 = .ok (.aload_n 0, 1) := by decide +kernel
theorem dL_law_26 : decode cL_law 26 = .ok (.arraylength, 1) := by decide +kernel
theorem dL_law_27 : decode cL_law 27 = .ok (.iconst 4, 1) := by decide +kernel
theorem dL_law_28 : decode cL_law 28 = .ok (.isub, 1) := by decide +kernel
theorem dL_law_29 : decode cL_law 29 = .ok (.if_icmp .gt 1203, 3) := by decide +kernel
theorem dL_law_32 : decode cL_law 32 = .ok (.aload_n 0, 1) := by decide +kernel
theorem dL_law_33 : decode cL_law 33 = .ok (.iload 4, 2) := by decide +kernel
theorem dL_law_35 : decode cL_law 35 = .ok (.iaload, 1) := by decide +kernel
theorem dL_law_36 : decode cL_law 36 = .ok (.bipush 31, 2) := by decide +kernel
theorem dL_law_38 : decode cL_law 38 = .ok (.iand, 1) := by decide +kernel
theorem dL_law_39 : decode cL_law 39 = .ok (.tableswitch 1187 0 19 #[93, 104, 172, 228, 296, 376, 420, 488, 501, 576, 632, 695, 775, 826, 839, 852, 908, 959, 1027, 1107], 93) := by decide +kernel
theorem dL_law_132 : decode cL_law 132 = .ok (.aload_n 1, 1) := by decide +kernel
theorem dL_law_133 : decode cL_law 133 = .ok (.invokevirtual 74, 3) := by decide +kernel
theorem dL_law_136 : decode cL_law 136 = .ok (.aload_n 2, 1) := by decide +kernel
theorem dL_law_137 : decode cL_law 137 = .ok (.invokevirtual 77, 3) := by decide +kernel
theorem dL_law_140 : decode cL_law 140 = .ok (.goto 1086, 3) := by decide +kernel
theorem dL_law_143 : decode cL_law 143 = .ok (.aload_n 1, 1) := by decide +kernel
theorem dL_law_144 : decode cL_law 144 = .ok (.aload_n 0, 1) := by decide +kernel
theorem dL_law_145 : decode cL_law 145 = .ok (.iload 4, 2) := by decide +kernel
theorem dL_law_147 : decode cL_law 147 = .ok (.iconst 1, 1) := by decide +kernel
theorem dL_law_148 : decode cL_law 148 = .ok (.iadd, 1) := by decide +kernel
theorem dL_law_149 : decode cL_law 149 = .ok (.iaload, 1) := by decide +kernel
theorem dL_law_150 : decode cL_law 150 = .ok (.aload_n 0, 1) := by decide +kernel
theorem dL_law_151 : decode cL_law 151 = .ok (.iload 4, 2) := by decide +kernel
theorem dL_law_153 : decode cL_law 153 = .ok (.iconst 2, 1) := by decide +kernel
theorem dL_law_154 : decode cL_law 154 = .ok (.iadd, 1) := by decide +kernel
theorem dL_law_155 : decode cL_law 155 = .ok (.iaload, 1) := by decide +kernel
theorem dL_law_156 : decode cL_law 156 = .ok (.aload_n 3, 1) := by decide +kernel
theorem dL_law_157 : decode cL_law 157 = .ok (.invokestatic 78, 3) := by decide +kernel
theorem dL_law_160 : decode cL_law 160 = .ok (.istore 5, 2) := by decide +kernel
theorem dL_law_162 : decode cL_law 162 = .ok (.aload_n 2, 1) := by decide +kernel
theorem dL_law_163 : decode cL_law 163 = .ok (.aload_n 0, 1) := by decide +kernel
theorem dL_law_164 : decode cL_law 164 = .ok (.iload 4, 2) := by decide +kernel
theorem dL_law_166 : decode cL_law 166 = .ok (.iconst 1, 1) := by decide +kernel
theorem dL_law_167 : decode cL_law 167 = .ok (.iadd, 1) := by decide +kernel
theorem dL_law_168 : decode cL_law 168 = .ok (.iaload, 1) := by decide +kernel
theorem dL_law_169 : decode cL_law 169 = .ok (.aload_n 0, 1) := by decide +kernel
theorem dL_law_170 : decode cL_law 170 = .ok (.iload 4, 2) := by decide +kernel
theorem dL_law_172 : decode cL_law 172 = .ok (.iconst 2, 1) := by decide +kernel
theorem dL_law_173 : decode cL_law 173 = .ok (.iadd, 1) := by decide +kernel
theorem dL_law_174 : decode cL_law 174 = .ok (.iaload, 1) := by decide +kernel
theorem dL_law_175 : decode cL_law 175 = .ok (.invokevirtual 83, 3) := by decide +kernel
theorem dL_law_178 : decode cL_law 178 = .ok (.istore 6, 2) := by decide +kernel
theorem dL_law_180 : decode cL_law 180 = .ok (.aload_n 2, 1) := by decide +kernel
theorem dL_law_181 : decode cL_law 181 = .ok (.invokevirtual 84, 3) := by decide +kernel
theorem dL_law_184 : decode cL_law 184 = .ok (.iload 5, 2) := by decide +kernel
theorem dL_law_186 : decode cL_law 186 = .ok (.if_icmp .eq 5, 3) := by decide +kernel
theorem dL_law_189 : decode cL_law 189 = .ok (.iconst 0, 1) := by decide +kernel
theorem dL_law_190 : decode cL_law 190 = .ok (.ireturn, 1) := by decide +kernel
theorem dL_law_191 : decode cL_law 191 = .ok (.iload 5, 2) := by decide +kernel
theorem dL_law_193 : decode cL_law 193 = .ok (.ifCond .ne 15, 3) := by decide +kernel
theorem dL_law_196 : decode cL_law 196 = .ok (.aload_n 3, 1) := by decide +kernel
theorem dL_law_197 : decode cL_law 197 = .ok (.iconst 0, 1) := by decide +kernel
theorem dL_law_198 : decode cL_law 198 = .ok (.laload, 1) := by decide +kernel
theorem dL_law_199 : decode cL_law 199 = .ok (.iload 6, 2) := by decide +kernel
theorem dL_law_201 : decode cL_law 201 = .ok (.i2l, 1) := by decide +kernel
theorem dL_law_202 : decode cL_law 202 = .ok (.lcmp, 1) := by decide +kernel
theorem dL_law_203 : decode cL_law 203 = .ok (.ifCond .eq 5, 3) := by decide +kernel
theorem dL_law_206 : decode cL_law 206 = .ok (.iconst 0, 1) := by decide +kernel
theorem dL_law_207 : decode cL_law 207 = .ok (.ireturn, 1) := by decide +kernel
theorem dL_law_208 : decode cL_law 208 = .ok (.goto 1018, 3) := by decide +kernel
theorem dL_law_211 : decode cL_law 211 = .ok (.aload_n 1, 1) := by decide +kernel
theorem dL_law_212 : decode cL_law 212 = .ok (.aload_n 0, 1) := by decide +kernel
theorem dL_law_213 : decode cL_law 213 = .ok (.iload 4, 2) := by decide +kernel
theorem dL_law_215 : decode cL_law 215 = .ok (.iconst 1, 1) := by decide +kernel
theorem dL_law_216 : decode cL_law 216 = .ok (.iadd, 1) := by decide +kernel
theorem dL_law_217 : decode cL_law 217 = .ok (.iaload, 1) := by decide +kernel
theorem dL_law_218 : decode cL_law 218 = .ok (.aload_n 3, 1) := by decide +kernel
theorem dL_law_219 : decode cL_law 219 = .ok (.invokestatic 87, 3) := by decide +kernel
theorem dL_law_222 : decode cL_law 222 = .ok (.istore 5, 2) := by decide +kernel
theorem dL_law_224 : decode cL_law 224 = .ok (.aload_n 2, 1) := by decide +kernel
theorem dL_law_225 : decode cL_law 225 = .ok (.aload_n 0, 1) := by decide +kernel
theorem dL_law_226 : decode cL_law 226 = .ok (.iload 4, 2) := by decide +kernel
theorem dL_law_228 : decode cL_law 228 = .ok (.iconst 1, 1) := by decide +kernel
theorem dL_law_229 : decode cL_law 229 = .ok (.iadd, 1) := by decide +kernel
theorem dL_law_230 : decode cL_law 230 = .ok (.iaload, 1) := by decide +kernel
theorem dL_law_231 : decode cL_law 231 = .ok (.invokevirtual 90, 3) := by decide +kernel
theorem dL_law_234 : decode cL_law 234 = .ok (.istore 6, 2) := by decide +kernel
theorem dL_law_236 : decode cL_law 236 = .ok (.aload_n 2, 1) := by decide +kernel
theorem dL_law_237 : decode cL_law 237 = .ok (.invokevirtual 84, 3) := by decide +kernel
theorem dL_law_240 : decode cL_law 240 = .ok (.iload 5, 2) := by decide +kernel
theorem dL_law_242 : decode cL_law 242 = .ok (.if_icmp .eq 5, 3) := by decide +kernel
theorem dL_law_245 : decode cL_law 245 = .ok (.iconst 0, 1) := by decide +kernel
theorem dL_law_246 : decode cL_law 246 = .ok (.ireturn, 1) := by decide +kernel
theorem dL_law_247 : decode cL_law 247 = .ok (.iload 5, 2) := by decide +kernel
theorem dL_law_249 : decode cL_law 249 = .ok (.ifCond .ne 15, 3) := by decide +kernel
theorem dL_law_252 : decode cL_law 252 = .ok (.aload_n 3, 1) := by decide +kernel
theorem dL_law_253 : decode cL_law 253 = .ok (.iconst 0, 1) := by decide +kernel
theorem dL_law_254 : decode cL_law 254 = .ok (.laload, 1) := by decide +kernel
theorem dL_law_255 : decode cL_law 255 = .ok (.iload 6, 2) := by decide +kernel
theorem dL_law_257 : decode cL_law 257 = .ok (.i2l, 1) := by decide +kernel
theorem dL_law_258 : decode cL_law 258 = .ok (.lcmp, 1) := by decide +kernel
theorem dL_law_259 : decode cL_law 259 = .ok (.ifCond .eq 5, 3) := by decide +kernel
theorem dL_law_262 : decode cL_law 262 = .ok (.iconst 0, 1) := by decide +kernel
theorem dL_law_263 : decode cL_law 263 = .ok (.ireturn, 1) := by decide +kernel
theorem dL_law_264 : decode cL_law 264 = .ok (.goto 962, 3) := by decide +kernel
theorem dL_law_267 : decode cL_law 267 = .ok (.aload_n 1, 1) := by decide +kernel
theorem dL_law_268 : decode cL_law 268 = .ok (.aload_n 0, 1) := by decide +kernel
theorem dL_law_269 : decode cL_law 269 = .ok (.iload 4, 2) := by decide +kernel
theorem dL_law_271 : decode cL_law 271 = .ok (.iconst 1, 1) := by decide +kernel
theorem dL_law_272 : decode cL_law 272 = .ok (.iadd, 1) := by decide +kernel
theorem dL_law_273 : decode cL_law 273 = .ok (.iaload, 1) := by decide +kernel
theorem dL_law_274 : decode cL_law 274 = .ok (.aload_n 0, 1) := by decide +kernel
theorem dL_law_275 : decode cL_law 275 = .ok (.iload 4, 2) := by decide +kernel
theorem dL_law_277 : decode cL_law 277 = .ok (.iconst 2, 1) := by decide +kernel
theorem dL_law_278 : decode cL_law 278 = .ok (.iadd, 1) := by decide +kernel
theorem dL_law_279 : decode cL_law 279 = .ok (.iaload, 1) := by decide +kernel
theorem dL_law_280 : decode cL_law 280 = .ok (.aload_n 3, 1) := by decide +kernel
theorem dL_law_281 : decode cL_law 281 = .ok (.invokestatic 91, 3) := by decide +kernel
theorem dL_law_284 : decode cL_law 284 = .ok (.istore 5, 2) := by decide +kernel
theorem dL_law_286 : decode cL_law 286 = .ok (.aload_n 2, 1) := by decide +kernel
theorem dL_law_287 : decode cL_law 287 = .ok (.aload_n 0, 1) := by decide +kernel
theorem dL_law_288 : decode cL_law 288 = .ok (.iload 4, 2) := by decide +kernel
theorem dL_law_290 : decode cL_law 290 = .ok (.iconst 1, 1) := by decide +kernel
theorem dL_law_291 : decode cL_law 291 = .ok (.iadd, 1) := by decide +kernel
theorem dL_law_292 : decode cL_law 292 = .ok (.iaload, 1) := by decide +kernel
theorem dL_law_293 : decode cL_law 293 = .ok (.aload_n 0, 1) := by decide +kernel
theorem dL_law_294 : decode cL_law 294 = .ok (.iload 4, 2) := by decide +kernel
theorem dL_law_296 : decode cL_law 296 = .ok (.iconst 2, 1) := by decide +kernel
theorem dL_law_297 : decode cL_law 297 = .ok (.iadd, 1) := by decide +kernel
theorem dL_law_298 : decode cL_law 298 = .ok (.iaload, 1) := by decide +kernel
theorem dL_law_299 : decode cL_law 299 = .ok (.invokevirtual 93, 3) := by decide +kernel
theorem dL_law_302 : decode cL_law 302 = .ok (.istore 6, 2) := by decide +kernel
theorem dL_law_304 : decode cL_law 304 = .ok (.aload_n 2, 1) := by decide +kernel
theorem dL_law_305 : decode cL_law 305 = .ok (.invokevirtual 84, 3) := by decide +kernel
theorem dL_law_308 : decode cL_law 308 = .ok (.iload 5, 2) := by decide +kernel
theorem dL_law_310 : decode cL_law 310 = .ok (.if_icmp .eq 5, 3) := by decide +kernel
theorem dL_law_313 : decode cL_law 313 = .ok (.iconst 0, 1) := by decide +kernel
theorem dL_law_314 : decode cL_law 314 = .ok (.ireturn, 1) := by decide +kernel
theorem dL_law_315 : decode cL_law 315 = .ok (.iload 5, 2) := by decide +kernel
theorem dL_law_317 : decode cL_law 317 = .ok (.ifCond .ne 15, 3) := by decide +kernel
theorem dL_law_320 : decode cL_law 320 = .ok (.aload_n 3, 1) := by decide +kernel
theorem dL_law_321 : decode cL_law 321 = .ok (.iconst 0, 1) := by decide +kernel
theorem dL_law_322 : decode cL_law 322 = .ok (.laload, 1) := by decide +kernel
theorem dL_law_323 : decode cL_law 323 = .ok (.iload 6, 2) := by decide +kernel
theorem dL_law_325 : decode cL_law 325 = .ok (.i2l, 1) := by decide +kernel
theorem dL_law_326 : decode cL_law 326 = .ok (.lcmp, 1) := by decide +kernel
theorem dL_law_327 : decode cL_law 327 = .ok (.ifCond .eq 5, 3) := by decide +kernel
theorem dL_law_330 : decode cL_law 330 = .ok (.iconst 0, 1) := by decide +kernel
theorem dL_law_331 : decode cL_law 331 = .ok (.ireturn, 1) := by decide +kernel
theorem dL_law_332 : decode cL_law 332 = .ok (.goto 894, 3) := by decide +kernel
theorem dL_law_335 : decode cL_law 335 = .ok (.aload_n 1, 1) := by decide +kernel
theorem dL_law_336 : decode cL_law 336 = .ok (.aload_n 0, 1) := by decide +kernel
theorem dL_law_337 : decode cL_law 337 = .ok (.iload 4, 2) := by decide +kernel
theorem dL_law_339 : decode cL_law 339 = .ok (.iconst 1, 1) := by decide +kernel
theorem dL_law_340 : decode cL_law 340 = .ok (.iadd, 1) := by decide +kernel
theorem dL_law_341 : decode cL_law 341 = .ok (.iaload, 1) := by decide +kernel
theorem dL_law_342 : decode cL_law 342 = .ok (.aload_n 0, 1) := by decide +kernel
theorem dL_law_343 : decode cL_law 343 = .ok (.iload 4, 2) := by decide +kernel
theorem dL_law_345 : decode cL_law 345 = .ok (.iconst 2, 1) := by decide +kernel
theorem dL_law_346 : decode cL_law 346 = .ok (.iadd, 1) := by decide +kernel
theorem dL_law_347 : decode cL_law 347 = .ok (.iaload, 1) := by decide +kernel
theorem dL_law_348 : decode cL_law 348 = .ok (.aload_n 0, 1) := by decide +kernel
theorem dL_law_349 : decode cL_law 349 = .ok (.iload 4, 2) := by decide +kernel
theorem dL_law_351 : decode cL_law 351 = .ok (.iconst 3, 1) := by decide +kernel
theorem dL_law_352 : decode cL_law 352 = .ok (.iadd, 1) := by decide +kernel
theorem dL_law_353 : decode cL_law 353 = .ok (.iaload, 1) := by decide +kernel
theorem dL_law_354 : decode cL_law 354 = .ok (.aload_n 3, 1) := by decide +kernel
theorem dL_law_355 : decode cL_law 355 = .ok (.invokestatic 94, 3) := by decide +kernel
theorem dL_law_358 : decode cL_law 358 = .ok (.istore 5, 2) := by decide +kernel
theorem dL_law_360 : decode cL_law 360 = .ok (.aload_n 2, 1) := by decide +kernel
theorem dL_law_361 : decode cL_law 361 = .ok (.aload_n 0, 1) := by decide +kernel
theorem dL_law_362 : decode cL_law 362 = .ok (.iload 4, 2) := by decide +kernel
theorem dL_law_364 : decode cL_law 364 = .ok (.iconst 1, 1) := by decide +kernel
theorem dL_law_365 : decode cL_law 365 = .ok (.iadd, 1) := by decide +kernel
theorem dL_law_366 : decode cL_law 366 = .ok (.iaload, 1) := by decide +kernel
theorem dL_law_367 : decode cL_law 367 = .ok (.aload_n 0, 1) := by decide +kernel
theorem dL_law_368 : decode cL_law 368 = .ok (.iload 4, 2) := by decide +kernel
theorem dL_law_370 : decode cL_law 370 = .ok (.iconst 2, 1) := by decide +kernel
theorem dL_law_371 : decode cL_law 371 = .ok (.iadd, 1) := by decide +kernel
theorem dL_law_372 : decode cL_law 372 = .ok (.iaload, 1) := by decide +kernel
theorem dL_law_373 : decode cL_law 373 = .ok (.aload_n 0, 1) := by decide +kernel
theorem dL_law_374 : decode cL_law 374 = .ok (.iload 4, 2) := by decide +kernel
theorem dL_law_376 : decode cL_law 376 = .ok (.iconst 3, 1) := by decide +kernel
theorem dL_law_377 : decode cL_law 377 = .ok (.iadd, 1) := by decide +kernel
theorem dL_law_378 : decode cL_law 378 = .ok (.iaload, 1) := by decide +kernel
theorem dL_law_379 : decode cL_law 379 = .ok (.invokevirtual 97, 3) := by decide +kernel
theorem dL_law_382 : decode cL_law 382 = .ok (.istore 6, 2) := by decide +kernel
theorem dL_law_384 : decode cL_law 384 = .ok (.aload_n 2, 1) := by decide +kernel
theorem dL_law_385 : decode cL_law 385 = .ok (.invokevirtual 84, 3) := by decide +kernel
theorem dL_law_388 : decode cL_law 388 = .ok (.iload 5, 2) := by decide +kernel
theorem dL_law_390 : decode cL_law 390 = .ok (.if_icmp .eq 5, 3) := by decide +kernel
theorem dL_law_393 : decode cL_law 393 = .ok (.iconst 0, 1) := by decide +kernel
theorem dL_law_394 : decode cL_law 394 = .ok (.ireturn, 1) := by decide +kernel
theorem dL_law_395 : decode cL_law 395 = .ok (.iload 5, 2) := by decide +kernel
theorem dL_law_397 : decode cL_law 397 = .ok (.ifCond .ne 15, 3) := by decide +kernel
theorem dL_law_400 : decode cL_law 400 = .ok (.aload_n 3, 1) := by decide +kernel
theorem dL_law_401 : decode cL_law 401 = .ok (.iconst 0, 1) := by decide +kernel
theorem dL_law_402 : decode cL_law 402 = .ok (.laload, 1) := by decide +kernel
theorem dL_law_403 : decode cL_law 403 = .ok (.iload 6, 2) := by decide +kernel
theorem dL_law_405 : decode cL_law 405 = .ok (.i2l, 1) := by decide +kernel
theorem dL_law_406 : decode cL_law 406 = .ok (.lcmp, 1) := by decide +kernel
theorem dL_law_407 : decode cL_law 407 = .ok (.ifCond .eq 5, 3) := by decide +kernel
theorem dL_law_410 : decode cL_law 410 = .ok (.iconst 0, 1) := by decide +kernel
theorem dL_law_411 : decode cL_law 411 = .ok (.ireturn, 1) := by decide +kernel
theorem dL_law_412 : decode cL_law 412 = .ok (.goto 814, 3) := by decide +kernel
theorem dL_law_415 : decode cL_law 415 = .ok (.aload_n 1, 1) := by decide +kernel
theorem dL_law_416 : decode cL_law 416 = .ok (.aload_n 3, 1) := by decide +kernel
theorem dL_law_417 : decode cL_law 417 = .ok (.invokestatic 98, 3) := by decide +kernel
theorem dL_law_420 : decode cL_law 420 = .ok (.istore 5, 2) := by decide +kernel
theorem dL_law_422 : decode cL_law 422 = .ok (.aload_n 2, 1) := by decide +kernel
theorem dL_law_423 : decode cL_law 423 = .ok (.invokevirtual 101, 3) := by decide +kernel
theorem dL_law_426 : decode cL_law 426 = .ok (.istore 6, 2) := by decide +kernel
theorem dL_law_428 : decode cL_law 428 = .ok (.aload_n 2, 1) := by decide +kernel
theorem dL_law_429 : decode cL_law 429 = .ok (.invokevirtual 84, 3) := by decide +kernel
theorem dL_law_432 : decode cL_law 432 = .ok (.iload 5, 2) := by decide +kernel
theorem dL_law_434 : decode cL_law 434 = .ok (.if_icmp .eq 5, 3) := by decide +kernel
theorem dL_law_437 : decode cL_law 437 = .ok (.iconst 0, 1) := by decide +kernel
theorem dL_law_438 : decode cL_law 438 = .ok (.ireturn, 1) := by decide +kernel
theorem dL_law_439 : decode cL_law 439 = .ok (.iload 5, 2) := by decide +kernel
theorem dL_law_441 : decode cL_law 441 = .ok (.ifCond .ne 15, 3) := by decide +kernel
theorem dL_law_444 : decode cL_law 444 = .ok (.aload_n 3, 1) := by decide +kernel
theorem dL_law_445 : decode cL_law 445 = .ok (.iconst 0, 1) := by decide +kernel
theorem dL_law_446 : decode cL_law 446 = .ok (.laload, 1) := by decide +kernel
theorem dL_law_447 : decode cL_law 447 = .ok (.iload 6, 2) := by decide +kernel
theorem dL_law_449 : decode cL_law 449 = .ok (.i2l, 1) := by decide +kernel
theorem dL_law_450 : decode cL_law 450 = .ok (.lcmp, 1) := by decide +kernel
theorem dL_law_451 : decode cL_law 451 = .ok (.ifCond .eq 5, 3) := by decide +kernel
theorem dL_law_454 : decode cL_law 454 = .ok (.iconst 0, 1) := by decide +kernel
theorem dL_law_455 : decode cL_law 455 = .ok (.ireturn, 1) := by decide +kernel
theorem dL_law_456 : decode cL_law 456 = .ok (.goto 770, 3) := by decide +kernel
theorem dL_law_459 : decode cL_law 459 = .ok (.aload_n 1, 1) := by decide +kernel
theorem dL_law_460 : decode cL_law 460 = .ok (.aload_n 0, 1) := by decide +kernel
theorem dL_law_461 : decode cL_law 461 = .ok (.iload 4, 2) := by decide +kernel
theorem dL_law_463 : decode cL_law 463 = .ok (.iconst 1, 1) := by decide +kernel
theorem dL_law_464 : decode cL_law 464 = .ok (.iadd, 1) := by decide +kernel
theorem dL_law_465 : decode cL_law 465 = .ok (.iaload, 1) := by decide +kernel
theorem dL_law_466 : decode cL_law 466 = .ok (.aload_n 0, 1) := by decide +kernel
theorem dL_law_467 : decode cL_law 467 = .ok (.iload 4, 2) := by decide +kernel
theorem dL_law_469 : decode cL_law 469 = .ok (.iconst 2, 1) := by decide +kernel
theorem dL_law_470 : decode cL_law 470 = .ok (.iadd, 1) := by decide +kernel
theorem dL_law_471 : decode cL_law 471 = .ok (.iaload, 1) := by decide +kernel
theorem dL_law_472 : decode cL_law 472 = .ok (.aload_n 3, 1) := by decide +kernel
theorem dL_law_473 : decode cL_law 473 = .ok (.invokestatic 102, 3) := by decide +kernel
theorem dL_law_476 : decode cL_law 476 = .ok (.istore 5, 2) := by decide +kernel
theorem dL_law_478 : decode cL_law 478 = .ok (.aload_n 2, 1) := by decide +kernel
theorem dL_law_479 : decode cL_law 479 = .ok (.aload_n 0, 1) := by decide +kernel
theorem dL_law_480 : decode cL_law 480 = .ok (.iload 4, 2) := by decide +kernel
theorem dL_law_482 : decode cL_law 482 = .ok (.iconst 1, 1) := by decide +kernel
theorem dL_law_483 : decode cL_law 483 = .ok (.iadd, 1) := by decide +kernel
theorem dL_law_484 : decode cL_law 484 = .ok (.iaload, 1) := by decide +kernel
theorem dL_law_485 : decode cL_law 485 = .ok (.aload_n 0, 1) := by decide +kernel
theorem dL_law_486 : decode cL_law 486 = .ok (.iload 4, 2) := by decide +kernel
theorem dL_law_488 : decode cL_law 488 = .ok (.iconst 2, 1) := by decide +kernel
theorem dL_law_489 : decode cL_law 489 = .ok (.iadd, 1) := by decide +kernel
theorem dL_law_490 : decode cL_law 490 = .ok (.iaload, 1) := by decide +kernel
theorem dL_law_491 : decode cL_law 491 = .ok (.invokevirtual 104, 3) := by decide +kernel
theorem dL_law_494 : decode cL_law 494 = .ok (.istore 6, 2) := by decide +kernel
theorem dL_law_496 : decode cL_law 496 = .ok (.aload_n 2, 1) := by decide +kernel
theorem dL_law_497 : decode cL_law 497 = .ok (.invokevirtual 84, 3) := by decide +kernel
theorem dL_law_500 : decode cL_law 500 = .ok (.iload 5, 2) := by decide +kernel
theorem dL_law_502 : decode cL_law 502 = .ok (.if_icmp .eq 5, 3) := by decide +kernel
theorem dL_law_505 : decode cL_law 505 = .ok (.iconst 0, 1) := by decide +kernel
theorem dL_law_506 : decode cL_law 506 = .ok (.ireturn, 1) := by decide +kernel
theorem dL_law_507 : decode cL_law 507 = .ok (.iload 5, 2) := by decide +kernel
theorem dL_law_509 : decode cL_law 509 = .ok (.ifCond .ne 15, 3) := by decide +kernel
theorem dL_law_512 : decode cL_law 512 = .ok (.aload_n 3, 1) := by decide +kernel
theorem dL_law_513 : decode cL_law 513 = .ok (.iconst 0, 1) := by decide +kernel
theorem dL_law_514 : decode cL_law 514 = .ok (.laload, 1) := by decide +kernel
theorem dL_law_515 : decode cL_law 515 = .ok (.iload 6, 2) := by decide +kernel
theorem dL_law_517 : decode cL_law 517 = .ok (.i2l, 1) := by decide +kernel
theorem dL_law_518 : decode cL_law 518 = .ok (.lcmp, 1) := by decide +kernel
theorem dL_law_519 : decode cL_law 519 = .ok (.ifCond .eq 5, 3) := by decide +kernel
theorem dL_law_522 : decode cL_law 522 = .ok (.iconst 0, 1) := by decide +kernel
theorem dL_law_523 : decode cL_law 523 = .ok (.ireturn, 1) := by decide +kernel
theorem dL_law_524 : decode cL_law 524 = .ok (.goto 702, 3) := by decide +kernel
theorem dL_law_527 : decode cL_law 527 = .ok (.aload_n 1, 1) := by decide +kernel
theorem dL_law_528 : decode cL_law 528 = .ok (.invokevirtual 105, 3) := by decide +kernel
theorem dL_law_531 : decode cL_law 531 = .ok (.aload_n 2, 1) := by decide +kernel
theorem dL_law_532 : decode cL_law 532 = .ok (.invokevirtual 108, 3) := by decide +kernel
theorem dL_law_535 : decode cL_law 535 = .ok (.if_icmp .eq 691, 3) := by decide +kernel
theorem dL_law_538 : decode cL_law 538 = .ok (.iconst 0, 1) := by decide +kernel
theorem dL_law_539 : decode cL_law 539 = .ok (.ireturn, 1) := by decide +kernel
theorem dL_law_540 : decode cL_law 540 = .ok (.aload_n 1, 1) := by decide +kernel
theorem dL_law_541 : decode cL_law 541 = .ok (.aload_n 0, 1) := by decide +kernel
theorem dL_law_542 : decode cL_law 542 = .ok (.iload 4, 2) := by decide +kernel
theorem dL_law_544 : decode cL_law 544 = .ok (.iconst 1, 1) := by decide +kernel
theorem dL_law_545 : decode cL_law 545 = .ok (.iadd, 1) := by decide +kernel
theorem dL_law_546 : decode cL_law 546 = .ok (.iaload, 1) := by decide +kernel
theorem dL_law_547 : decode cL_law 547 = .ok (.aload_n 0, 1) := by decide +kernel
theorem dL_law_548 : decode cL_law 548 = .ok (.iload 4, 2) := by decide +kernel
theorem dL_law_550 : decode cL_law 550 = .ok (.iconst 2, 1) := by decide +kernel
theorem dL_law_551 : decode cL_law 551 = .ok (.iadd, 1) := by decide +kernel
theorem dL_law_552 : decode cL_law 552 = .ok (.iaload, 1) := by decide +kernel
theorem dL_law_553 : decode cL_law 553 = .ok (.aload_n 3, 1) := by decide +kernel
theorem dL_law_554 : decode cL_law 554 = .ok (.invokestatic 109, 3) := by decide +kernel
theorem dL_law_557 : decode cL_law 557 = .ok (.istore 5, 2) := by decide +kernel
theorem dL_law_559 : decode cL_law 559 = .ok (.aload_n 2, 1) := by decide +kernel
theorem dL_law_560 : decode cL_law 560 = .ok (.aload_n 0, 1) := by decide +kernel
theorem dL_law_561 : decode cL_law 561 = .ok (.iload 4, 2) := by decide +kernel
theorem dL_law_563 : decode cL_law 563 = .ok (.iconst 1, 1) := by decide +kernel
theorem dL_law_564 : decode cL_law 564 = .ok (.iadd, 1) := by decide +kernel
theorem dL_law_565 : decode cL_law 565 = .ok (.iaload, 1) := by decide +kernel
theorem dL_law_566 : decode cL_law 566 = .ok (.aload_n 0, 1) := by decide +kernel
theorem dL_law_567 : decode cL_law 567 = .ok (.iload 4, 2) := by decide +kernel
theorem dL_law_569 : decode cL_law 569 = .ok (.iconst 2, 1) := by decide +kernel
theorem dL_law_570 : decode cL_law 570 = .ok (.iadd, 1) := by decide +kernel
theorem dL_law_571 : decode cL_law 571 = .ok (.iaload, 1) := by decide +kernel
theorem dL_law_572 : decode cL_law 572 = .ok (.invokevirtual 111, 3) := by decide +kernel
theorem dL_law_575 : decode cL_law 575 = .ok (.istore 6, 2) := by decide +kernel
theorem dL_law_577 : decode cL_law 577 = .ok (.aload_n 2, 1) := by decide +kernel
theorem dL_law_578 : decode cL_law 578 = .ok (.invokevirtual 84, 3) := by decide +kernel
theorem dL_law_581 : decode cL_law 581 = .ok (.iload 5, 2) := by decide +kernel
theorem dL_law_583 : decode cL_law 583 = .ok (.if_icmp .eq 5, 3) := by decide +kernel
theorem dL_law_586 : decode cL_law 586 = .ok (.iconst 0, 1) := by decide +kernel
theorem dL_law_587 : decode cL_law 587 = .ok (.ireturn, 1) := by decide +kernel
theorem dL_law_588 : decode cL_law 588 = .ok (.iload 5, 2) := by decide +kernel
theorem dL_law_590 : decode cL_law 590 = .ok (.ifCond .ne 22, 3) := by decide +kernel
theorem dL_law_593 : decode cL_law 593 = .ok (.aload_n 3, 1) := by decide +kernel
theorem dL_law_594 : decode cL_law 594 = .ok (.iconst 0, 1) := by decide +kernel
theorem dL_law_595 : decode cL_law 595 = .ok (.laload, 1) := by decide +kernel
theorem dL_law_596 : decode cL_law 596 = .ok (.iload 6, 2) := by decide +kernel
theorem dL_law_598 : decode cL_law 598 = .ok (.ifCond .eq 7, 3) := by decide +kernel
theorem dL_law_601 : decode cL_law 601 = .ok (.lconst 1, 1) := by decide +kernel
theorem dL_law_602 : decode cL_law 602 = .ok (.goto 4, 3) := by decide +kernel
theorem dL_law_605 : decode cL_law 605 = .ok (.lconst 0, 1) := by decide +kernel
theorem dL_law_606 : decode cL_law 606 = .ok (.lcmp, 1) := by decide +kernel
theorem dL_law_607 : decode cL_law 607 = .ok (.ifCond .eq 5, 3) := by decide +kernel
theorem dL_law_610 : decode cL_law 610 = .ok (.iconst 0, 1) := by decide +kernel
theorem dL_law_611 : decode cL_law 611 = .ok (.ireturn, 1) := by decide +kernel
theorem dL_law_612 : decode cL_law 612 = .ok (.goto 614, 3) := by decide +kernel
theorem dL_law_615 : decode cL_law 615 = .ok (.aload_n 1, 1) := by decide +kernel
theorem dL_law_616 : decode cL_law 616 = .ok (.aload_n 0, 1) := by decide +kernel
theorem dL_law_617 : decode cL_law 617 = .ok (.iload 4, 2) := by decide +kernel
theorem dL_law_619 : decode cL_law 619 = .ok (.iconst 1, 1) := by decide +kernel
theorem dL_law_620 : decode cL_law 620 = .ok (.iadd, 1) := by decide +kernel
theorem dL_law_621 : decode cL_law 621 = .ok (.iaload, 1) := by decide +kernel
theorem dL_law_622 : decode cL_law 622 = .ok (.aload_n 3, 1) := by decide +kernel
theorem dL_law_623 : decode cL_law 623 = .ok (.invokestatic 112, 3) := by decide +kernel
theorem dL_law_626 : decode cL_law 626 = .ok (.istore 5, 2) := by decide +kernel
theorem dL_law_628 : decode cL_law 628 = .ok (.aload_n 2, 1) := by decide +kernel
theorem dL_law_629 : decode cL_law 629 = .ok (.aload_n 0, 1) := by decide +kernel
theorem dL_law_630 : decode cL_law 630 = .ok (.iload 4, 2) := by decide +kernel
theorem dL_law_632 : decode cL_law 632 = .ok (.iconst 1, 1) := by decide +kernel
theorem dL_law_633 : decode cL_law 633 = .ok (.iadd, 1) := by decide +kernel
theorem dL_law_634 : decode cL_law 634 = .ok (.iaload, 1) := by decide +kernel
theorem dL_law_635 : decode cL_law 635 = .ok (.invokevirtual 114, 3) := by decide +kernel
theorem dL_law_638 : decode cL_law 638 = .ok (.istore 6, 2) := by decide +kernel
theorem dL_law_640 : decode cL_law 640 = .ok (.aload_n 2, 1) := by decide +kernel
theorem dL_law_641 : decode cL_law 641 = .ok (.invokevirtual 84, 3) := by decide +kernel
theorem dL_law_644 : decode cL_law 644 = .ok (.iload 5, 2) := by decide +kernel
theorem dL_law_646 : decode cL_law 646 = .ok (.if_icmp .eq 5, 3) := by decide +kernel
theorem dL_law_649 : decode cL_law 649 = .ok (.iconst 0, 1) := by decide +kernel
theorem dL_law_650 : decode cL_law 650 = .ok (.ireturn, 1) := by decide +kernel
theorem dL_law_651 : decode cL_law 651 = .ok (.iload 5, 2) := by decide +kernel
theorem dL_law_653 : decode cL_law 653 = .ok (.ifCond .ne 15, 3) := by decide +kernel
theorem dL_law_656 : decode cL_law 656 = .ok (.aload_n 3, 1) := by decide +kernel
theorem dL_law_657 : decode cL_law 657 = .ok (.iconst 0, 1) := by decide +kernel
theorem dL_law_658 : decode cL_law 658 = .ok (.laload, 1) := by decide +kernel
theorem dL_law_659 : decode cL_law 659 = .ok (.iload 6, 2) := by decide +kernel
theorem dL_law_661 : decode cL_law 661 = .ok (.i2l, 1) := by decide +kernel
theorem dL_law_662 : decode cL_law 662 = .ok (.lcmp, 1) := by decide +kernel
theorem dL_law_663 : decode cL_law 663 = .ok (.ifCond .eq 5, 3) := by decide +kernel
theorem dL_law_666 : decode cL_law 666 = .ok (.iconst 0, 1) := by decide +kernel
theorem dL_law_667 : decode cL_law 667 = .ok (.ireturn, 1) := by decide +kernel
theorem dL_law_668 : decode cL_law 668 = .ok (.goto 558, 3) := by decide +kernel
theorem dL_law_671 : decode cL_law 671 = .ok (.aload_n 1, 1) := by decide +kernel
theorem dL_law_672 : decode cL_law 672 = .ok (.aload_n 0, 1) := by decide +kernel
theorem dL_law_673 : decode cL_law 673 = .ok (.iload 4, 2) := by decide +kernel
theorem dL_law_675 : decode cL_law 675 = .ok (.iconst 1, 1) := by decide +kernel
theorem dL_law_676 : decode cL_law 676 = .ok (.iadd, 1) := by decide +kernel
theorem dL_law_677 : decode cL_law 677 = .ok (.iaload, 1) := by decide +kernel
theorem dL_law_678 : decode cL_law 678 = .ok (.aload_n 3, 1) := by decide +kernel
theorem dL_law_679 : decode cL_law 679 = .ok (.invokestatic 115, 3) := by decide +kernel
theorem dL_law_682 : decode cL_law 682 = .ok (.istore 5, 2) := by decide +kernel
theorem dL_law_684 : decode cL_law 684 = .ok (.aload_n 2, 1) := by decide +kernel
theorem dL_law_685 : decode cL_law 685 = .ok (.aload_n 0, 1) := by decide +kernel
theorem dL_law_686 : decode cL_law 686 = .ok (.iload 4, 2) := by decide +kernel
theorem dL_law_688 : decode cL_law 688 = .ok (.iconst 1, 1) := by decide +kernel
theorem dL_law_689 : decode cL_law 689 = .ok (.iadd, 1) := by decide +kernel
theorem dL_law_690 : decode cL_law 690 = .ok (.iaload, 1) := by decide +kernel
theorem dL_law_691 : decode cL_law 691 = .ok (.invokevirtual 117, 3) := by decide +kernel
theorem dL_law_694 : decode cL_law 694 = .ok (.istore 6, 2) := by decide +kernel
theorem dL_law_696 : decode cL_law 696 = .ok (.aload_n 2, 1) := by decide +kernel
theorem dL_law_697 : decode cL_law 697 = .ok (.invokevirtual 84, 3) := by decide +kernel
theorem dL_law_700 : decode cL_law 700 = .ok (.iload 5, 2) := by decide +kernel
theorem dL_law_702 : decode cL_law 702 = .ok (.if_icmp .eq 5, 3) := by decide +kernel
theorem dL_law_705 : decode cL_law 705 = .ok (.iconst 0, 1) := by decide +kernel
theorem dL_law_706 : decode cL_law 706 = .ok (.ireturn, 1) := by decide +kernel
theorem dL_law_707 : decode cL_law 707 = .ok (.iload 5, 2) := by decide +kernel
theorem dL_law_709 : decode cL_law 709 = .ok (.ifCond .ne 22, 3) := by decide +kernel
theorem dL_law_712 : decode cL_law 712 = .ok (.aload_n 3, 1) := by decide +kernel
theorem dL_law_713 : decode cL_law 713 = .ok (.iconst 0, 1) := by decide +kernel
theorem dL_law_714 : decode cL_law 714 = .ok (.laload, 1) := by decide +kernel
theorem dL_law_715 : decode cL_law 715 = .ok (.iload 6, 2) := by decide +kernel
theorem dL_law_717 : decode cL_law 717 = .ok (.ifCond .eq 7, 3) := by decide +kernel
theorem dL_law_720 : decode cL_law 720 = .ok (.lconst 1, 1) := by decide +kernel
theorem dL_law_721 : decode cL_law 721 = .ok (.goto 4, 3) := by decide +kernel
theorem dL_law_724 : decode cL_law 724 = .ok (.lconst 0, 1) := by decide +kernel
theorem dL_law_725 : decode cL_law 725 = .ok (.lcmp, 1) := by decide +kernel
theorem dL_law_726 : decode cL_law 726 = .ok (.ifCond .eq 5, 3) := by decide +kernel
theorem dL_law_729 : decode cL_law 729 = .ok (.iconst 0, 1) := by decide +kernel
theorem dL_law_730 : decode cL_law 730 = .ok (.ireturn, 1) := by decide +kernel
theorem dL_law_731 : decode cL_law 731 = .ok (.goto 495, 3) := by decide +kernel
theorem dL_law_734 : decode cL_law 734 = .ok (.aload_n 1, 1) := by decide +kernel
theorem dL_law_735 : decode cL_law 735 = .ok (.aload_n 0, 1) := by decide +kernel
theorem dL_law_736 : decode cL_law 736 = .ok (.iload 4, 2) := by decide +kernel
theorem dL_law_738 : decode cL_law 738 = .ok (.iconst 1, 1) := by decide +kernel
theorem dL_law_739 : decode cL_law 739 = .ok (.iadd, 1) := by decide +kernel
theorem dL_law_740 : decode cL_law 740 = .ok (.iaload, 1) := by decide +kernel
theorem dL_law_741 : decode cL_law 741 = .ok (.aload_n 0, 1) := by decide +kernel
theorem dL_law_742 : decode cL_law 742 = .ok (.iload 4, 2) := by decide +kernel
theorem dL_law_744 : decode cL_law 744 = .ok (.iconst 2, 1) := by decide +kernel
theorem dL_law_745 : decode cL_law 745 = .ok (.iadd, 1) := by decide +kernel
theorem dL_law_746 : decode cL_law 746 = .ok (.iaload, 1) := by decide +kernel
theorem dL_law_747 : decode cL_law 747 = .ok (.aload_n 0, 1) := by decide +kernel
theorem dL_law_748 : decode cL_law 748 = .ok (.iload 4, 2) := by decide +kernel
theorem dL_law_750 : decode cL_law 750 = .ok (.iconst 3, 1) := by decide +kernel
theorem dL_law_751 : decode cL_law 751 = .ok (.iadd, 1) := by decide +kernel
theorem dL_law_752 : decode cL_law 752 = .ok (.iaload, 1) := by decide +kernel
theorem dL_law_753 : decode cL_law 753 = .ok (.aload_n 3, 1) := by decide +kernel
theorem dL_law_754 : decode cL_law 754 = .ok (.invokestatic 118, 3) := by decide +kernel
theorem dL_law_757 : decode cL_law 757 = .ok (.istore 5, 2) := by decide +kernel
theorem dL_law_759 : decode cL_law 759 = .ok (.aload_n 2, 1) := by decide +kernel
theorem dL_law_760 : decode cL_law 760 = .ok (.aload_n 0, 1) := by decide +kernel
theorem dL_law_761 : decode cL_law 761 = .ok (.iload 4, 2) := by decide +kernel
theorem dL_law_763 : decode cL_law 763 = .ok (.iconst 1, 1) := by decide +kernel
theorem dL_law_764 : decode cL_law 764 = .ok (.iadd, 1) := by decide +kernel
theorem dL_law_765 : decode cL_law 765 = .ok (.iaload, 1) := by decide +kernel
theorem dL_law_766 : decode cL_law 766 = .ok (.aload_n 0, 1) := by decide +kernel
theorem dL_law_767 : decode cL_law 767 = .ok (.iload 4, 2) := by decide +kernel
theorem dL_law_769 : decode cL_law 769 = .ok (.iconst 2, 1) := by decide +kernel
theorem dL_law_770 : decode cL_law 770 = .ok (.iadd, 1) := by decide +kernel
theorem dL_law_771 : decode cL_law 771 = .ok (.iaload, 1) := by decide +kernel
theorem dL_law_772 : decode cL_law 772 = .ok (.aload_n 0, 1) := by decide +kernel
theorem dL_law_773 : decode cL_law 773 = .ok (.iload 4, 2) := by decide +kernel
theorem dL_law_775 : decode cL_law 775 = .ok (.iconst 3, 1) := by decide +kernel
theorem dL_law_776 : decode cL_law 776 = .ok (.iadd, 1) := by decide +kernel
theorem dL_law_777 : decode cL_law 777 = .ok (.iaload, 1) := by decide +kernel
theorem dL_law_778 : decode cL_law 778 = .ok (.invokevirtual 120, 3) := by decide +kernel
theorem dL_law_781 : decode cL_law 781 = .ok (.istore 6, 2) := by decide +kernel
theorem dL_law_783 : decode cL_law 783 = .ok (.aload_n 2, 1) := by decide +kernel
theorem dL_law_784 : decode cL_law 784 = .ok (.invokevirtual 84, 3) := by decide +kernel
theorem dL_law_787 : decode cL_law 787 = .ok (.iload 5, 2) := by decide +kernel
theorem dL_law_789 : decode cL_law 789 = .ok (.if_icmp .eq 5, 3) := by decide +kernel
theorem dL_law_792 : decode cL_law 792 = .ok (.iconst 0, 1) := by decide +kernel
theorem dL_law_793 : decode cL_law 793 = .ok (.ireturn, 1) := by decide +kernel
theorem dL_law_794 : decode cL_law 794 = .ok (.iload 5, 2) := by decide +kernel
theorem dL_law_796 : decode cL_law 796 = .ok (.ifCond .ne 15, 3) := by decide +kernel
theorem dL_law_799 : decode cL_law 799 = .ok (.aload_n 3, 1) := by decide +kernel
theorem dL_law_800 : decode cL_law 800 = .ok (.iconst 0, 1) := by decide +kernel
theorem dL_law_801 : decode cL_law 801 = .ok (.laload, 1) := by decide +kernel
theorem dL_law_802 : decode cL_law 802 = .ok (.iload 6, 2) := by decide +kernel
theorem dL_law_804 : decode cL_law 804 = .ok (.i2l, 1) := by decide +kernel
theorem dL_law_805 : decode cL_law 805 = .ok (.lcmp, 1) := by decide +kernel
theorem dL_law_806 : decode cL_law 806 = .ok (.ifCond .eq 5, 3) := by decide +kernel
theorem dL_law_809 : decode cL_law 809 = .ok (.iconst 0, 1) := by decide +kernel
theorem dL_law_810 : decode cL_law 810 = .ok (.ireturn, 1) := by decide +kernel
theorem dL_law_811 : decode cL_law 811 = .ok (.goto 415, 3) := by decide +kernel
theorem dL_law_814 : decode cL_law 814 = .ok (.aload_n 1, 1) := by decide +kernel
theorem dL_law_815 : decode cL_law 815 = .ok (.aload_n 3, 1) := by decide +kernel
theorem dL_law_816 : decode cL_law 816 = .ok (.invokestatic 121, 3) := by decide +kernel
theorem dL_law_819 : decode cL_law 819 = .ok (.istore 5, 2) := by decide +kernel
theorem dL_law_821 : decode cL_law 821 = .ok (.aload_n 2, 1) := by decide +kernel
theorem dL_law_822 : decode cL_law 822 = .ok (.invokevirtual 123, 3) := by decide +kernel
theorem dL_law_825 : decode cL_law 825 = .ok (.istore 6, 2) := by decide +kernel
theorem dL_law_827 : decode cL_law 827 = .ok (.aload_n 2, 1) := by decide +kernel
theorem dL_law_828 : decode cL_law 828 = .ok (.invokevirtual 84, 3) := by decide +kernel
theorem dL_law_831 : decode cL_law 831 = .ok (.iload 5, 2) := by decide +kernel
theorem dL_law_833 : decode cL_law 833 = .ok (.if_icmp .eq 5, 3) := by decide +kernel
theorem dL_law_836 : decode cL_law 836 = .ok (.iconst 0, 1) := by decide +kernel
theorem dL_law_837 : decode cL_law 837 = .ok (.ireturn, 1) := by decide +kernel
theorem dL_law_838 : decode cL_law 838 = .ok (.iload 5, 2) := by decide +kernel
theorem dL_law_840 : decode cL_law 840 = .ok (.ifCond .ne 22, 3) := by decide +kernel
theorem dL_law_843 : decode cL_law 843 = .ok (.aload_n 3, 1) := by decide +kernel
theorem dL_law_844 : decode cL_law 844 = .ok (.iconst 0, 1) := by decide +kernel
theorem dL_law_845 : decode cL_law 845 = .ok (.laload, 1) := by decide +kernel
theorem dL_law_846 : decode cL_law 846 = .ok (.iload 6, 2) := by decide +kernel
theorem dL_law_848 : decode cL_law 848 = .ok (.ifCond .eq 7, 3) := by decide +kernel
theorem dL_law_851 : decode cL_law 851 = .ok (.lconst 1, 1) := by decide +kernel
theorem dL_law_852 : decode cL_law 852 = .ok (.goto 4, 3) := by decide +kernel
theorem dL_law_855 : decode cL_law 855 = .ok (.lconst 0, 1) := by decide +kernel
theorem dL_law_856 : decode cL_law 856 = .ok (.lcmp, 1) := by decide +kernel
theorem dL_law_857 : decode cL_law 857 = .ok (.ifCond .eq 5, 3) := by decide +kernel
theorem dL_law_860 : decode cL_law 860 = .ok (.iconst 0, 1) := by decide +kernel
theorem dL_law_861 : decode cL_law 861 = .ok (.ireturn, 1) := by decide +kernel
theorem dL_law_862 : decode cL_law 862 = .ok (.goto 364, 3) := by decide +kernel
theorem dL_law_865 : decode cL_law 865 = .ok (.aload_n 1, 1) := by decide +kernel
theorem dL_law_866 : decode cL_law 866 = .ok (.invokevirtual 124, 3) := by decide +kernel
theorem dL_law_869 : decode cL_law 869 = .ok (.aload_n 2, 1) := by decide +kernel
theorem dL_law_870 : decode cL_law 870 = .ok (.invokevirtual 127, 3) := by decide +kernel
theorem dL_law_873 : decode cL_law 873 = .ok (.if_icmp .eq 353, 3) := by decide +kernel
theorem dL_law_876 : decode cL_law 876 = .ok (.iconst 0, 1) := by decide +kernel
theorem dL_law_877 : decode cL_law 877 = .ok (.ireturn, 1) := by decide +kernel
theorem dL_law_878 : decode cL_law 878 = .ok (.aload_n 1, 1) := by decide +kernel
theorem dL_law_879 : decode cL_law 879 = .ok (.invokevirtual 128, 3) := by decide +kernel
theorem dL_law_882 : decode cL_law 882 = .ok (.aload_n 2, 1) := by decide +kernel
theorem dL_law_883 : decode cL_law 883 = .ok (.invokevirtual 131, 3) := by decide +kernel
theorem dL_law_886 : decode cL_law 886 = .ok (.if_icmp .eq 340, 3) := by decide +kernel
theorem dL_law_889 : decode cL_law 889 = .ok (.iconst 0, 1) := by decide +kernel
theorem dL_law_890 : decode cL_law 890 = .ok (.ireturn, 1) := by decide +kernel
theorem dL_law_891 : decode cL_law 891 = .ok (.aload_n 1, 1) := by decide +kernel
theorem dL_law_892 : decode cL_law 892 = .ok (.aload_n 0, 1) := by decide +kernel
theorem dL_law_893 : decode cL_law 893 = .ok (.iload 4, 2) := by decide +kernel
theorem dL_law_895 : decode cL_law 895 = .ok (.iconst 1, 1) := by decide +kernel
theorem dL_law_896 : decode cL_law 896 = .ok (.iadd, 1) := by decide +kernel
theorem dL_law_897 : decode cL_law 897 = .ok (.iaload, 1) := by decide +kernel
theorem dL_law_898 : decode cL_law 898 = .ok (.aload_n 3, 1) := by decide +kernel
theorem dL_law_899 : decode cL_law 899 = .ok (.invokestatic 132, 3) := by decide +kernel
theorem dL_law_902 : decode cL_law 902 = .ok (.istore 5, 2) := by decide +kernel
theorem dL_law_904 : decode cL_law 904 = .ok (.aload_n 2, 1) := by decide +kernel
theorem dL_law_905 : decode cL_law 905 = .ok (.aload_n 0, 1) := by decide +kernel
theorem dL_law_906 : decode cL_law 906 = .ok (.iload 4, 2) := by decide +kernel
theorem dL_law_908 : decode cL_law 908 = .ok (.iconst 1, 1) := by decide +kernel
theorem dL_law_909 : decode cL_law 909 = .ok (.iadd, 1) := by decide +kernel
theorem dL_law_910 : decode cL_law 910 = .ok (.iaload, 1) := by decide +kernel
theorem dL_law_911 : decode cL_law 911 = .ok (.invokevirtual 134, 3) := by decide +kernel
theorem dL_law_914 : decode cL_law 914 = .ok (.istore 6, 2) := by decide +kernel
theorem dL_law_916 : decode cL_law 916 = .ok (.aload_n 2, 1) := by decide +kernel
theorem dL_law_917 : decode cL_law 917 = .ok (.invokevirtual 84, 3) := by decide +kernel
theorem dL_law_920 : decode cL_law 920 = .ok (.iload 5, 2) := by decide +kernel
theorem dL_law_922 : decode cL_law 922 = .ok (.if_icmp .eq 5, 3) := by decide +kernel
theorem dL_law_925 : decode cL_law 925 = .ok (.iconst 0, 1) := by decide +kernel
theorem dL_law_926 : decode cL_law 926 = .ok (.ireturn, 1) := by decide +kernel
theorem dL_law_927 : decode cL_law 927 = .ok (.iload 5, 2) := by decide +kernel
theorem dL_law_929 : decode cL_law 929 = .ok (.ifCond .ne 15, 3) := by decide +kernel
theorem dL_law_932 : decode cL_law 932 = .ok (.aload_n 3, 1) := by decide +kernel
theorem dL_law_933 : decode cL_law 933 = .ok (.iconst 0, 1) := by decide +kernel
theorem dL_law_934 : decode cL_law 934 = .ok (.laload, 1) := by decide +kernel
theorem dL_law_935 : decode cL_law 935 = .ok (.iload 6, 2) := by decide +kernel
theorem dL_law_937 : decode cL_law 937 = .ok (.i2l, 1) := by decide +kernel
theorem dL_law_938 : decode cL_law 938 = .ok (.lcmp, 1) := by decide +kernel
theorem dL_law_939 : decode cL_law 939 = .ok (.ifCond .eq 5, 3) := by decide +kernel
theorem dL_law_942 : decode cL_law 942 = .ok (.iconst 0, 1) := by decide +kernel
theorem dL_law_943 : decode cL_law 943 = .ok (.ireturn, 1) := by decide +kernel
theorem dL_law_944 : decode cL_law 944 = .ok (.goto 282, 3) := by decide +kernel
theorem dL_law_947 : decode cL_law 947 = .ok (.aload_n 1, 1) := by decide +kernel
theorem dL_law_948 : decode cL_law 948 = .ok (.aload_n 3, 1) := by decide +kernel
theorem dL_law_949 : decode cL_law 949 = .ok (.invokestatic 135, 3) := by decide +kernel
theorem dL_law_952 : decode cL_law 952 = .ok (.istore 5, 2) := by decide +kernel
theorem dL_law_954 : decode cL_law 954 = .ok (.aload_n 2, 1) := by decide +kernel
theorem dL_law_955 : decode cL_law 955 = .ok (.invokevirtual 137, 3) := by decide +kernel
theorem dL_law_958 : decode cL_law 958 = .ok (.istore 6, 2) := by decide +kernel
theorem dL_law_960 : decode cL_law 960 = .ok (.aload_n 2, 1) := by decide +kernel
theorem dL_law_961 : decode cL_law 961 = .ok (.invokevirtual 84, 3) := by decide +kernel
theorem dL_law_964 : decode cL_law 964 = .ok (.iload 5, 2) := by decide +kernel
theorem dL_law_966 : decode cL_law 966 = .ok (.if_icmp .eq 5, 3) := by decide +kernel
theorem dL_law_969 : decode cL_law 969 = .ok (.iconst 0, 1) := by decide +kernel
theorem dL_law_970 : decode cL_law 970 = .ok (.ireturn, 1) := by decide +kernel
theorem dL_law_971 : decode cL_law 971 = .ok (.iload 5, 2) := by decide +kernel
theorem dL_law_973 : decode cL_law 973 = .ok (.ifCond .ne 22, 3) := by decide +kernel
theorem dL_law_976 : decode cL_law 976 = .ok (.aload_n 3, 1) := by decide +kernel
theorem dL_law_977 : decode cL_law 977 = .ok (.iconst 0, 1) := by decide +kernel
theorem dL_law_978 : decode cL_law 978 = .ok (.laload, 1) := by decide +kernel
theorem dL_law_979 : decode cL_law 979 = .ok (.iload 6, 2) := by decide +kernel
theorem dL_law_981 : decode cL_law 981 = .ok (.ifCond .eq 7, 3) := by decide +kernel
theorem dL_law_984 : decode cL_law 984 = .ok (.lconst 1, 1) := by decide +kernel
theorem dL_law_985 : decode cL_law 985 = .ok (.goto 4, 3) := by decide +kernel
theorem dL_law_988 : decode cL_law 988 = .ok (.lconst 0, 1) := by decide +kernel
theorem dL_law_989 : decode cL_law 989 = .ok (.lcmp, 1) := by decide +kernel
theorem dL_law_990 : decode cL_law 990 = .ok (.ifCond .eq 5, 3) := by decide +kernel
theorem dL_law_993 : decode cL_law 993 = .ok (.iconst 0, 1) := by decide +kernel
theorem dL_law_994 : decode cL_law 994 = .ok (.ireturn, 1) := by decide +kernel
theorem dL_law_995 : decode cL_law 995 = .ok (.goto 231, 3) := by decide +kernel
theorem dL_law_998 : decode cL_law 998 = .ok (.aload_n 1, 1) := by decide +kernel
theorem dL_law_999 : decode cL_law 999 = .ok (.aload_n 0, 1) := by decide +kernel
theorem dL_law_1000 : decode cL_law 1000 = .ok (.iload 4, 2) := by decide +kernel
theorem dL_law_1002 : decode cL_law 1002 = .ok (.iconst 1, 1) := by decide +kernel
theorem dL_law_1003 : decode cL_law 1003 = .ok (.iadd, 1) := by decide +kernel
theorem dL_law_1004 : decode cL_law 1004 = .ok (.iaload, 1) := by decide +kernel
theorem dL_law_1005 : decode cL_law 1005 = .ok (.aload_n 0, 1) := by decide +kernel
theorem dL_law_1006 : decode cL_law 1006 = .ok (.iload 4, 2) := by decide +kernel
theorem dL_law_1008 : decode cL_law 1008 = .ok (.iconst 2, 1) := by decide +kernel
theorem dL_law_1009 : decode cL_law 1009 = .ok (.iadd, 1) := by decide +kernel
theorem dL_law_1010 : decode cL_law 1010 = .ok (.iaload, 1) := by decide +kernel
theorem dL_law_1011 : decode cL_law 1011 = .ok (.aload_n 3, 1) := by decide +kernel
theorem dL_law_1012 : decode cL_law 1012 = .ok (.invokestatic 138, 3) := by decide +kernel
theorem dL_law_1015 : decode cL_law 1015 = .ok (.istore 5, 2) := by decide +kernel
theorem dL_law_1017 : decode cL_law 1017 = .ok (.aload_n 2, 1) := by decide +kernel
theorem dL_law_1018 : decode cL_law 1018 = .ok (.aload_n 0, 1) := by decide +kernel
theorem dL_law_1019 : decode cL_law 1019 = .ok (.iload 4, 2) := by decide +kernel
theorem dL_law_1021 : decode cL_law 1021 = .ok (.iconst 1, 1) := by decide +kernel
theorem dL_law_1022 : decode cL_law 1022 = .ok (.iadd, 1) := by decide +kernel
theorem dL_law_1023 : decode cL_law 1023 = .ok (.iaload, 1) := by decide +kernel
theorem dL_law_1024 : decode cL_law 1024 = .ok (.aload_n 0, 1) := by decide +kernel
theorem dL_law_1025 : decode cL_law 1025 = .ok (.iload 4, 2) := by decide +kernel
theorem dL_law_1027 : decode cL_law 1027 = .ok (.iconst 2, 1) := by decide +kernel
theorem dL_law_1028 : decode cL_law 1028 = .ok (.iadd, 1) := by decide +kernel
theorem dL_law_1029 : decode cL_law 1029 = .ok (.iaload, 1) := by decide +kernel
theorem dL_law_1030 : decode cL_law 1030 = .ok (.invokevirtual 140, 3) := by decide +kernel
theorem dL_law_1033 : decode cL_law 1033 = .ok (.istore 6, 2) := by decide +kernel
theorem dL_law_1035 : decode cL_law 1035 = .ok (.aload_n 2, 1) := by decide +kernel
theorem dL_law_1036 : decode cL_law 1036 = .ok (.invokevirtual 84, 3) := by decide +kernel
theorem dL_law_1039 : decode cL_law 1039 = .ok (.iload 5, 2) := by decide +kernel
theorem dL_law_1041 : decode cL_law 1041 = .ok (.if_icmp .eq 5, 3) := by decide +kernel
theorem dL_law_1044 : decode cL_law 1044 = .ok (.iconst 0, 1) := by decide +kernel
theorem dL_law_1045 : decode cL_law 1045 = .ok (.ireturn, 1) := by decide +kernel
theorem dL_law_1046 : decode cL_law 1046 = .ok (.iload 5, 2) := by decide +kernel
theorem dL_law_1048 : decode cL_law 1048 = .ok (.ifCond .ne 15, 3) := by decide +kernel
theorem dL_law_1051 : decode cL_law 1051 = .ok (.aload_n 3, 1) := by decide +kernel
theorem dL_law_1052 : decode cL_law 1052 = .ok (.iconst 0, 1) := by decide +kernel
theorem dL_law_1053 : decode cL_law 1053 = .ok (.laload, 1) := by decide +kernel
theorem dL_law_1054 : decode cL_law 1054 = .ok (.iload 6, 2) := by decide +kernel
theorem dL_law_1056 : decode cL_law 1056 = .ok (.i2l, 1) := by decide +kernel
theorem dL_law_1057 : decode cL_law 1057 = .ok (.lcmp, 1) := by decide +kernel
theorem dL_law_1058 : decode cL_law 1058 = .ok (.ifCond .eq 5, 3) := by decide +kernel
theorem dL_law_1061 : decode cL_law 1061 = .ok (.iconst 0, 1) := by decide +kernel
theorem dL_law_1062 : decode cL_law 1062 = .ok (.ireturn, 1) := by decide +kernel
theorem dL_law_1063 : decode cL_law 1063 = .ok (.goto 163, 3) := by decide +kernel
theorem dL_law_1066 : decode cL_law 1066 = .ok (.aload_n 1, 1) := by decide +kernel
theorem dL_law_1067 : decode cL_law 1067 = .ok (.aload_n 0, 1) := by decide +kernel
theorem dL_law_1068 : decode cL_law 1068 = .ok (.iload 4, 2) := by decide +kernel
theorem dL_law_1070 : decode cL_law 1070 = .ok (.iconst 1, 1) := by decide +kernel
theorem dL_law_1071 : decode cL_law 1071 = .ok (.iadd, 1) := by decide +kernel
theorem dL_law_1072 : decode cL_law 1072 = .ok (.iaload, 1) := by decide +kernel
theorem dL_law_1073 : decode cL_law 1073 = .ok (.aload_n 0, 1) := by decide +kernel
theorem dL_law_1074 : decode cL_law 1074 = .ok (.iload 4, 2) := by decide +kernel
theorem dL_law_1076 : decode cL_law 1076 = .ok (.iconst 2, 1) := by decide +kernel
theorem dL_law_1077 : decode cL_law 1077 = .ok (.iadd, 1) := by decide +kernel
theorem dL_law_1078 : decode cL_law 1078 = .ok (.iaload, 1) := by decide +kernel
theorem dL_law_1079 : decode cL_law 1079 = .ok (.aload_n 0, 1) := by decide +kernel
theorem dL_law_1080 : decode cL_law 1080 = .ok (.iload 4, 2) := by decide +kernel
theorem dL_law_1082 : decode cL_law 1082 = .ok (.iconst 3, 1) := by decide +kernel
theorem dL_law_1083 : decode cL_law 1083 = .ok (.iadd, 1) := by decide +kernel
theorem dL_law_1084 : decode cL_law 1084 = .ok (.iaload, 1) := by decide +kernel
theorem dL_law_1085 : decode cL_law 1085 = .ok (.aload_n 3, 1) := by decide +kernel
theorem dL_law_1086 : decode cL_law 1086 = .ok (.invokestatic 141, 3) := by decide +kernel
theorem dL_law_1089 : decode cL_law 1089 = .ok (.istore 5, 2) := by decide +kernel
theorem dL_law_1091 : decode cL_law 1091 = .ok (.aload_n 2, 1) := by decide +kernel
theorem dL_law_1092 : decode cL_law 1092 = .ok (.aload_n 0, 1) := by decide +kernel
theorem dL_law_1093 : decode cL_law 1093 = .ok (.iload 4, 2) := by decide +kernel
theorem dL_law_1095 : decode cL_law 1095 = .ok (.iconst 1, 1) := by decide +kernel
theorem dL_law_1096 : decode cL_law 1096 = .ok (.iadd, 1) := by decide +kernel
theorem dL_law_1097 : decode cL_law 1097 = .ok (.iaload, 1) := by decide +kernel
theorem dL_law_1098 : decode cL_law 1098 = .ok (.aload_n 0, 1) := by decide +kernel
theorem dL_law_1099 : decode cL_law 1099 = .ok (.iload 4, 2) := by decide +kernel
theorem dL_law_1101 : decode cL_law 1101 = .ok (.iconst 2, 1) := by decide +kernel
theorem dL_law_1102 : decode cL_law 1102 = .ok (.iadd, 1) := by decide +kernel
theorem dL_law_1103 : decode cL_law 1103 = .ok (.iaload, 1) := by decide +kernel
theorem dL_law_1104 : decode cL_law 1104 = .ok (.aload_n 0, 1) := by decide +kernel
theorem dL_law_1105 : decode cL_law 1105 = .ok (.iload 4, 2) := by decide +kernel
theorem dL_law_1107 : decode cL_law 1107 = .ok (.iconst 3, 1) := by decide +kernel
theorem dL_law_1108 : decode cL_law 1108 = .ok (.iadd, 1) := by decide +kernel
theorem dL_law_1109 : decode cL_law 1109 = .ok (.iaload, 1) := by decide +kernel
theorem dL_law_1110 : decode cL_law 1110 = .ok (.invokevirtual 143, 3) := by decide +kernel
theorem dL_law_1113 : decode cL_law 1113 = .ok (.istore 6, 2) := by decide +kernel
theorem dL_law_1115 : decode cL_law 1115 = .ok (.aload_n 2, 1) := by decide +kernel
theorem dL_law_1116 : decode cL_law 1116 = .ok (.invokevirtual 84, 3) := by decide +kernel
theorem dL_law_1119 : decode cL_law 1119 = .ok (.iload 5, 2) := by decide +kernel
theorem dL_law_1121 : decode cL_law 1121 = .ok (.if_icmp .eq 5, 3) := by decide +kernel
theorem dL_law_1124 : decode cL_law 1124 = .ok (.iconst 0, 1) := by decide +kernel
theorem dL_law_1125 : decode cL_law 1125 = .ok (.ireturn, 1) := by decide +kernel
theorem dL_law_1126 : decode cL_law 1126 = .ok (.iload 5, 2) := by decide +kernel
theorem dL_law_1128 : decode cL_law 1128 = .ok (.ifCond .ne 15, 3) := by decide +kernel
theorem dL_law_1131 : decode cL_law 1131 = .ok (.aload_n 3, 1) := by decide +kernel
theorem dL_law_1132 : decode cL_law 1132 = .ok (.iconst 0, 1) := by decide +kernel
theorem dL_law_1133 : decode cL_law 1133 = .ok (.laload, 1) := by decide +kernel
theorem dL_law_1134 : decode cL_law 1134 = .ok (.iload 6, 2) := by decide +kernel
theorem dL_law_1136 : decode cL_law 1136 = .ok (.i2l, 1) := by decide +kernel
theorem dL_law_1137 : decode cL_law 1137 = .ok (.lcmp, 1) := by decide +kernel
theorem dL_law_1138 : decode cL_law 1138 = .ok (.ifCond .eq 5, 3) := by decide +kernel
theorem dL_law_1141 : decode cL_law 1141 = .ok (.iconst 0, 1) := by decide +kernel
theorem dL_law_1142 : decode cL_law 1142 = .ok (.ireturn, 1) := by decide +kernel
theorem dL_law_1143 : decode cL_law 1143 = .ok (.goto 83, 3) := by decide +kernel
theorem dL_law_1146 : decode cL_law 1146 = .ok (.aload_n 1, 1) := by decide +kernel
theorem dL_law_1147 : decode cL_law 1147 = .ok (.aload_n 0, 1) := by decide +kernel
theorem dL_law_1148 : decode cL_law 1148 = .ok (.iload 4, 2) := by decide +kernel
theorem dL_law_1150 : decode cL_law 1150 = .ok (.iconst 1, 1) := by decide +kernel
theorem dL_law_1151 : decode cL_law 1151 = .ok (.iadd, 1) := by decide +kernel
theorem dL_law_1152 : decode cL_law 1152 = .ok (.iaload, 1) := by decide +kernel
theorem dL_law_1153 : decode cL_law 1153 = .ok (.aload_n 0, 1) := by decide +kernel
theorem dL_law_1154 : decode cL_law 1154 = .ok (.iload 4, 2) := by decide +kernel
theorem dL_law_1156 : decode cL_law 1156 = .ok (.iconst 2, 1) := by decide +kernel
theorem dL_law_1157 : decode cL_law 1157 = .ok (.iadd, 1) := by decide +kernel
theorem dL_law_1158 : decode cL_law 1158 = .ok (.iaload, 1) := by decide +kernel
theorem dL_law_1159 : decode cL_law 1159 = .ok (.aload_n 0, 1) := by decide +kernel
theorem dL_law_1160 : decode cL_law 1160 = .ok (.iload 4, 2) := by decide +kernel
theorem dL_law_1162 : decode cL_law 1162 = .ok (.iconst 3, 1) := by decide +kernel
theorem dL_law_1163 : decode cL_law 1163 = .ok (.iadd, 1) := by decide +kernel
theorem dL_law_1164 : decode cL_law 1164 = .ok (.iaload, 1) := by decide +kernel
theorem dL_law_1165 : decode cL_law 1165 = .ok (.aload_n 3, 1) := by decide +kernel
theorem dL_law_1166 : decode cL_law 1166 = .ok (.invokestatic 144, 3) := by decide +kernel
theorem dL_law_1169 : decode cL_law 1169 = .ok (.istore 5, 2) := by decide +kernel
theorem dL_law_1171 : decode cL_law 1171 = .ok (.aload_n 2, 1) := by decide +kernel
theorem dL_law_1172 : decode cL_law 1172 = .ok (.aload_n 0, 1) := by decide +kernel
theorem dL_law_1173 : decode cL_law 1173 = .ok (.iload 4, 2) := by decide +kernel
theorem dL_law_1175 : decode cL_law 1175 = .ok (.iconst 1, 1) := by decide +kernel
theorem dL_law_1176 : decode cL_law 1176 = .ok (.iadd, 1) := by decide +kernel
theorem dL_law_1177 : decode cL_law 1177 = .ok (.iaload, 1) := by decide +kernel
theorem dL_law_1178 : decode cL_law 1178 = .ok (.aload_n 0, 1) := by decide +kernel
theorem dL_law_1179 : decode cL_law 1179 = .ok (.iload 4, 2) := by decide +kernel
theorem dL_law_1181 : decode cL_law 1181 = .ok (.iconst 2, 1) := by decide +kernel
theorem dL_law_1182 : decode cL_law 1182 = .ok (.iadd, 1) := by decide +kernel
theorem dL_law_1183 : decode cL_law 1183 = .ok (.iaload, 1) := by decide +kernel
theorem dL_law_1184 : decode cL_law 1184 = .ok (.aload_n 0, 1) := by decide +kernel
theorem dL_law_1185 : decode cL_law 1185 = .ok (.iload 4, 2) := by decide +kernel
theorem dL_law_1187 : decode cL_law 1187 = .ok (.iconst 3, 1) := by decide +kernel
theorem dL_law_1188 : decode cL_law 1188 = .ok (.iadd, 1) := by decide +kernel
theorem dL_law_1189 : decode cL_law 1189 = .ok (.iaload, 1) := by decide +kernel
theorem dL_law_1190 : decode cL_law 1190 = .ok (.invokevirtual 146, 3) := by decide +kernel
theorem dL_law_1193 : decode cL_law 1193 = .ok (.istore 6, 2) := by decide +kernel
theorem dL_law_1195 : decode cL_law 1195 = .ok (.aload_n 2, 1) := by decide +kernel
theorem dL_law_1196 : decode cL_law 1196 = .ok (.invokevirtual 84, 3) := by decide +kernel
theorem dL_law_1199 : decode cL_law 1199 = .ok (.iload 5, 2) := by decide +kernel
theorem dL_law_1201 : decode cL_law 1201 = .ok (.if_icmp .eq 5, 3) := by decide +kernel
theorem dL_law_1204 : decode cL_law 1204 = .ok (.iconst 0, 1) := by decide +kernel
theorem dL_law_1205 : decode cL_law 1205 = .ok (.ireturn, 1) := by decide +kernel
theorem dL_law_1206 : decode cL_law 1206 = .ok (.iload 5, 2) := by decide +kernel
theorem dL_law_1208 : decode cL_law 1208 = .ok (.ifCond .ne 15, 3) := by decide +kernel
theorem dL_law_1211 : decode cL_law 1211 = .ok (.aload_n 3, 1) := by decide +kernel
theorem dL_law_1212 : decode cL_law 1212 = .ok (.iconst 0, 1) := by decide +kernel
theorem dL_law_1213 : decode cL_law 1213 = .ok (.laload, 1) := by decide +kernel
theorem dL_law_1214 : decode cL_law 1214 = .ok (.iload 6, 2) := by decide +kernel
theorem dL_law_1216 : decode cL_law 1216 = .ok (.i2l, 1) := by decide +kernel
theorem dL_law_1217 : decode cL_law 1217 = .ok (.lcmp, 1) := by decide +kernel
theorem dL_law_1218 : decode cL_law 1218 = .ok (.ifCond .eq 5, 3) := by decide +kernel
theorem dL_law_1221 : decode cL_law 1221 = .ok (.iconst 0, 1) := by decide +kernel
theorem dL_law_1222 : decode cL_law 1222 = .ok (.ireturn, 1) := by decide +kernel
theorem dL_law_1223 : decode cL_law 1223 = .ok (.goto 3, 3) := by decide +kernel
theorem dL_law_1226 : decode cL_law 1226 = .ok (.iinc 4 4, 3) := by decide +kernel
theorem dL_law_1229 : decode cL_law 1229 = .ok (.goto (-1206), 3) := by decide +kernel
theorem dL_law_1232 : decode cL_law 1232 = .ok (.iconst 1, 1) := by decide +kernel
theorem dL_law_1233 : decode cL_law 1233 = .ok (.ireturn, 1) := by decide +kernel
end
section
def iI (z : Int) : Int32 := Int32.ofInt z
theorem iI_toInt {z : Int} (h : -2147483648 ≤ z ∧ z < 2147483648) : (iI z).toInt = z := by
  unfold iI
  rw [Int32.toInt_ofInt, show Int32.size = 4294967296 from rfl]
  exact Int.bmod_eq_of_le (by omega) (by omega)
theorem iI_add (a b : Int) : iI a + iI b = iI (a + b) := (Int32.ofInt_add a b).symm
theorem iI_mul (a b : Int) : iI a * iI b = iI (a * b) := (Int32.ofInt_mul a b).symm
theorem iI_neg (a : Int) : -iI a = iI (-a) := (Int32.ofInt_neg a).symm
theorem iI_sub (a b : Int) : iI a - iI b = iI (a - b) := (Int32.ofInt_sub a b).symm
theorem iI_inj {a b : Int} (ha : -2147483648 ≤ a ∧ a < 2147483648) (hb : -2147483648 ≤ b ∧ b < 2147483648) : iI a = iI b ↔ a = b := by
  rw [← Int32.toInt_inj, iI_toInt ha, iI_toInt hb]
theorem iI_lt {a b : Int} (ha : -2147483648 ≤ a ∧ a < 2147483648) (hb : -2147483648 ≤ b ∧ b < 2147483648) : iI a < iI b ↔ a < b := by
  rw [Int32.lt_iff_toInt_lt, iI_toInt ha, iI_toInt hb]
theorem iI_le {a b : Int} (ha : -2147483648 ≤ a ∧ a < 2147483648) (hb : -2147483648 ≤ b ∧ b < 2147483648) : iI a ≤ iI b ↔ a ≤ b := by
  rw [Int32.le_iff_toInt_le, iI_toInt ha, iI_toInt hb]
theorem iI_nat (n : Nat) : iI (n : Int) = nI n := Int32.ofInt_eq_ofNat
theorem iI_0 : iI 0 = 0 := rfl
theorem iI_1 : iI 1 = 1 := rfl
theorem iI_of (x : Int32) : ∃ z : Int, (-2147483648 ≤ z ∧ z < 2147483648) ∧ x = iI z := ⟨x.toInt, ⟨Int32.le_toInt x, Int32.toInt_lt x⟩, (Int32.ofInt_toInt x).symm⟩
theorem iI_div {a b : Int} (ha : -2147483647 ≤ a ∧ a < 2147483648) (hb : -2147483648 ≤ b ∧ b < 2147483648) : iI a / iI b = iI (a.tdiv b) := by
  rw [← Int32.toInt_inj, Int32.toInt_div, iI_toInt ⟨by omega, ha.2⟩, iI_toInt hb]
  unfold iI
  rw [Int32.toInt_ofInt]
theorem iI_rem {a b : Int} (ha : -2147483647 ≤ a ∧ a < 2147483648) (hb : -2147483648 ≤ b ∧ b < 2147483648) : iI a - iI a / iI b * iI b = iI (a.tmod b) := by
  rw [iI_div ha hb, iI_mul, iI_sub]
  congr 1
  have := Int.mul_tdiv_add_tmod a b
  rw [Int.mul_comm] at this
  omega
def bI (b : Bool) : Int := bif b then 1 else 0
theorem bI_t : bI true = 1 := rfl
theorem bI_f : bI false = 0 := rfl
theorem bI_r (b : Bool) : 0 ≤ bI b ∧ bI b ≤ 1 := by cases b <;> decide
theorem bI_0 {b : Bool} : bI b = 0 ↔ b = false := by cases b <;> decide
theorem bI_1 {b : Bool} : bI b = 1 ↔ b = true := by cases b <;> decide
theorem bI_n (b : Bool) : narrow .boolean (.int (iI (bI b))) = .int (iI (bI b)) := by cases b <;> rfl
theorem bI_inj {a b : Bool} : bI a = bI b ↔ a = b := by cases a <;> cases b <;> decide
abbrev AI (n : Nat) (f : Nat → Int) : pCell := aI n (fun j => iI (f j))
abbrev AZ (n : Nat) (f : Nat → Bool) : pCell := aZ n (fun j => iI (bI (f j)))
abbrev AL (n : Nat) (f : Nat → Nat) : pCell := aJ n (fun j => lN (f j))
/-- one answer, one world -/
def Rt (v : Option Value) (u : Wd) : Option Value → Wd → Prop := fun r w => r = v ∧ w = u
def NX : String → Wd → Prop := fun _ _ => False
/-- nothing returned: it throws E and leaves the world -/
def NR : Option Value → Wd → Prop := fun _ _ => False
def XE (E : String) (u : Wd) : String → Wd → Prop := fun F w => F = E ∧ w = u
section TI
variable {y : MethodName} {cc : ByteArray} {nL : Nat} {ret : Option FieldType} {hh : List (Nat × Nat × Nat × Nat)} {R : Room} {Q : Option Value → Wd → Prop} {QX : String → Wd → Prop} {pc : Nat} {L : List (Option Value)} {st : List Value} {σ : Wd} {cells slots : Nat}

theorem i_iconst {n : Int} (d : decode cc pc = .ok (.iconst n, 1)) (hv : Int32.ofInt n = iI n) (k : T y cc nL ret hh R Q QX (pc + 1) L (.int (iI n) :: st) σ cells slots) : T y cc nL ret hh R Q QX pc L st σ cells slots := z_iconst d hv k
theorem i_bipush {n : Int} (d : decode cc pc = .ok (.bipush n, 2)) (hv : (Int8.ofInt n).toInt32 = iI n) (k : T y cc nL ret hh R Q QX (pc + 2) L (.int (iI n) :: st) σ cells slots) : T y cc nL ret hh R Q QX pc L st σ cells slots := z_bipush d hv k
theorem i_sipush {n : Int} (d : decode cc pc = .ok (.sipush n, 3)) (hv : (Int16.ofInt n).toInt32 = iI n) (k : T y cc nL ret hh R Q QX (pc + 3) L (.int (iI n) :: st) σ cells slots) : T y cc nL ret hh R Q QX pc L st σ cells slots := z_sipush d hv k
theorem i_iadd {a b : Int} (d : decode cc pc = .ok (.iadd, 1)) (k : T y cc nL ret hh R Q QX (pc + 1) L (.int (iI (a + b)) :: st) σ cells slots) : T y cc nL ret hh R Q QX pc L (.int (iI b) :: .int (iI a) :: st) σ cells slots := z_iadd d (by rw [iI_add]; exact k)
theorem i_isub {a b : Int} (d : decode cc pc = .ok (.isub, 1)) (k : T y cc nL ret hh R Q QX (pc + 1) L (.int (iI (a - b)) :: st) σ cells slots) : T y cc nL ret hh R Q QX pc L (.int (iI b) :: .int (iI a) :: st) σ cells slots := z_isub d (by rw [iI_sub]; exact k)
theorem i_imul {a b : Int} (d : decode cc pc = .ok (.imul, 1)) (k : T y cc nL ret hh R Q QX (pc + 1) L (.int (iI (a * b)) :: st) σ cells slots) : T y cc nL ret hh R Q QX pc L (.int (iI b) :: .int (iI a) :: st) σ cells slots := z_imul d (by rw [iI_mul]; exact k)
theorem i_ineg {a : Int} (d : decode cc pc = .ok (.ineg, 1)) (k : T y cc nL ret hh R Q QX (pc + 1) L (.int (iI (-a)) :: st) σ cells slots) : T y cc nL ret hh R Q QX pc L (.int (iI a) :: st) σ cells slots := z_ineg d (by rw [iI_neg]; exact k)
theorem i_idiv {a b : Int} (d : decode cc pc = .ok (.idiv, 1)) (ha : -2147483647 ≤ a ∧ a < 2147483648) (hb : -2147483648 ≤ b ∧ b < 2147483648) (h0 : b ≠ 0) (k : T y cc nL ret hh R Q QX (pc + 1) L (.int (iI (a.tdiv b)) :: st) σ cells slots) : T y cc nL ret hh R Q QX pc L (.int (iI b) :: .int (iI a) :: st) σ cells slots := z_idiv d (fun e => h0 ((iI_inj hb (by omega)).mp (by rw [e]; rfl))) (by rw [iI_div ha hb]; exact k)
theorem i_irem {a b : Int} (d : decode cc pc = .ok (.irem, 1)) (ha : -2147483647 ≤ a ∧ a < 2147483648) (hb : -2147483648 ≤ b ∧ b < 2147483648) (h0 : b ≠ 0) (k : T y cc nL ret hh R Q QX (pc + 1) L (.int (iI (a.tmod b)) :: st) σ cells slots) : T y cc nL ret hh R Q QX pc L (.int (iI b) :: .int (iI a) :: st) σ cells slots := z_irem d (fun e => h0 ((iI_inj hb (by omega)).mp (by rw [e]; rfl))) (by rw [iI_rem ha hb]; exact k)
theorem i_iinc {i : Nat} {n a : Int} (d : decode cc pc = .ok (.iinc i n, 3)) (h : lget L i = some (.int (iI a))) (hn : i < nL) (k : T y cc nL ret hh R Q QX (pc + 3) (lset L i (.int (iI (a + n)))) st σ cells slots) : T y cc nL ret hh R Q QX pc L st σ cells slots := z_iinc d h (iI_add a n) hn k
theorem i_icmp_eq {a b : Int} {off : Int} {tgt : Nat} (d : decode cc pc = .ok (.if_icmp .eq off, 3)) (ht : (pc : Int) + off = (tgt : Int)) (ha : -2147483648 ≤ a ∧ a < 2147483648) (hb : -2147483648 ≤ b ∧ b < 2147483648) (kt : a = b → T y cc nL ret hh R Q QX tgt L st σ cells slots) (kf : a ≠ b → T y cc nL ret hh R Q QX (pc + 3) L st σ cells slots) : T y cc nL ret hh R Q QX pc L (.int (iI b) :: .int (iI a) :: st) σ cells slots := z_icmp_eq d ht (fun q => kt ((iI_inj ha hb).mp q)) (fun q => kf (fun e => q ((iI_inj ha hb).mpr e)))
theorem i_if_eq {a : Int} {off : Int} {tgt : Nat} (d : decode cc pc = .ok (.ifCond .eq off, 3)) (ht : (pc : Int) + off = (tgt : Int)) (ha : -2147483648 ≤ a ∧ a < 2147483648) (kt : a = 0 → T y cc nL ret hh R Q QX tgt L st σ cells slots) (kf : a ≠ 0 → T y cc nL ret hh R Q QX (pc + 3) L st σ cells slots) : T y cc nL ret hh R Q QX pc L (.int (iI a) :: st) σ cells slots := by
  have hb : -2147483648 ≤ (0 : Int) ∧ (0 : Int) < 2147483648 := by decide
  exact z_if_eq d ht (fun q => kt ((iI_inj ha hb).mp q)) (fun q => kf (fun e => q ((iI_inj ha hb).mpr e)))
theorem i_icmp_ne {a b : Int} {off : Int} {tgt : Nat} (d : decode cc pc = .ok (.if_icmp .ne off, 3)) (ht : (pc : Int) + off = (tgt : Int)) (ha : -2147483648 ≤ a ∧ a < 2147483648) (hb : -2147483648 ≤ b ∧ b < 2147483648) (kt : a ≠ b → T y cc nL ret hh R Q QX tgt L st σ cells slots) (kf : a = b → T y cc nL ret hh R Q QX (pc + 3) L st σ cells slots) : T y cc nL ret hh R Q QX pc L (.int (iI b) :: .int (iI a) :: st) σ cells slots := z_icmp_ne d ht (fun q => kt (fun e => q ((iI_inj ha hb).mpr e))) (fun q => kf ((iI_inj ha hb).mp q))
theorem i_if_ne {a : Int} {off : Int} {tgt : Nat} (d : decode cc pc = .ok (.ifCond .ne off, 3)) (ht : (pc : Int) + off = (tgt : Int)) (ha : -2147483648 ≤ a ∧ a < 2147483648) (kt : a ≠ 0 → T y cc nL ret hh R Q QX tgt L st σ cells slots) (kf : a = 0 → T y cc nL ret hh R Q QX (pc + 3) L st σ cells slots) : T y cc nL ret hh R Q QX pc L (.int (iI a) :: st) σ cells slots := by
  have hb : -2147483648 ≤ (0 : Int) ∧ (0 : Int) < 2147483648 := by decide
  exact z_if_ne d ht (fun q => kt (fun e => q ((iI_inj ha hb).mpr e))) (fun q => kf ((iI_inj ha hb).mp q))
theorem i_icmp_lt {a b : Int} {off : Int} {tgt : Nat} (d : decode cc pc = .ok (.if_icmp .lt off, 3)) (ht : (pc : Int) + off = (tgt : Int)) (ha : -2147483648 ≤ a ∧ a < 2147483648) (hb : -2147483648 ≤ b ∧ b < 2147483648) (kt : a < b → T y cc nL ret hh R Q QX tgt L st σ cells slots) (kf : b ≤ a → T y cc nL ret hh R Q QX (pc + 3) L st σ cells slots) : T y cc nL ret hh R Q QX pc L (.int (iI b) :: .int (iI a) :: st) σ cells slots := z_icmp_lt d ht (fun q => kt ((iI_lt ha hb).mp q)) (fun q => kf (Int.not_lt.mp fun e => q ((iI_lt ha hb).mpr e)))
theorem i_if_lt {a : Int} {off : Int} {tgt : Nat} (d : decode cc pc = .ok (.ifCond .lt off, 3)) (ht : (pc : Int) + off = (tgt : Int)) (ha : -2147483648 ≤ a ∧ a < 2147483648) (kt : a < 0 → T y cc nL ret hh R Q QX tgt L st σ cells slots) (kf : 0 ≤ a → T y cc nL ret hh R Q QX (pc + 3) L st σ cells slots) : T y cc nL ret hh R Q QX pc L (.int (iI a) :: st) σ cells slots := by
  have hb : -2147483648 ≤ (0 : Int) ∧ (0 : Int) < 2147483648 := by decide
  exact z_if_lt d ht (fun q => kt ((iI_lt ha hb).mp q)) (fun q => kf (Int.not_lt.mp fun e => q ((iI_lt ha hb).mpr e)))
theorem i_icmp_ge {a b : Int} {off : Int} {tgt : Nat} (d : decode cc pc = .ok (.if_icmp .ge off, 3)) (ht : (pc : Int) + off = (tgt : Int)) (ha : -2147483648 ≤ a ∧ a < 2147483648) (hb : -2147483648 ≤ b ∧ b < 2147483648) (kt : b ≤ a → T y cc nL ret hh R Q QX tgt L st σ cells slots) (kf : a < b → T y cc nL ret hh R Q QX (pc + 3) L st σ cells slots) : T y cc nL ret hh R Q QX pc L (.int (iI b) :: .int (iI a) :: st) σ cells slots := z_icmp_ge d ht (fun q => kt ((iI_le hb ha).mp q)) (fun q => kf (Int.not_le.mp fun e => q ((iI_le hb ha).mpr e)))
theorem i_if_ge {a : Int} {off : Int} {tgt : Nat} (d : decode cc pc = .ok (.ifCond .ge off, 3)) (ht : (pc : Int) + off = (tgt : Int)) (ha : -2147483648 ≤ a ∧ a < 2147483648) (kt : 0 ≤ a → T y cc nL ret hh R Q QX tgt L st σ cells slots) (kf : a < 0 → T y cc nL ret hh R Q QX (pc + 3) L st σ cells slots) : T y cc nL ret hh R Q QX pc L (.int (iI a) :: st) σ cells slots := by
  have hb : -2147483648 ≤ (0 : Int) ∧ (0 : Int) < 2147483648 := by decide
  exact z_if_ge d ht (fun q => kt ((iI_le hb ha).mp q)) (fun q => kf (Int.not_le.mp fun e => q ((iI_le hb ha).mpr e)))
theorem i_icmp_gt {a b : Int} {off : Int} {tgt : Nat} (d : decode cc pc = .ok (.if_icmp .gt off, 3)) (ht : (pc : Int) + off = (tgt : Int)) (ha : -2147483648 ≤ a ∧ a < 2147483648) (hb : -2147483648 ≤ b ∧ b < 2147483648) (kt : b < a → T y cc nL ret hh R Q QX tgt L st σ cells slots) (kf : a ≤ b → T y cc nL ret hh R Q QX (pc + 3) L st σ cells slots) : T y cc nL ret hh R Q QX pc L (.int (iI b) :: .int (iI a) :: st) σ cells slots := z_icmp_gt d ht (fun q => kt ((iI_lt hb ha).mp q)) (fun q => kf (Int.not_lt.mp fun e => q ((iI_lt hb ha).mpr e)))
theorem i_if_gt {a : Int} {off : Int} {tgt : Nat} (d : decode cc pc = .ok (.ifCond .gt off, 3)) (ht : (pc : Int) + off = (tgt : Int)) (ha : -2147483648 ≤ a ∧ a < 2147483648) (kt : 0 < a → T y cc nL ret hh R Q QX tgt L st σ cells slots) (kf : a ≤ 0 → T y cc nL ret hh R Q QX (pc + 3) L st σ cells slots) : T y cc nL ret hh R Q QX pc L (.int (iI a) :: st) σ cells slots := by
  have hb : -2147483648 ≤ (0 : Int) ∧ (0 : Int) < 2147483648 := by decide
  exact z_if_gt d ht (fun q => kt ((iI_lt hb ha).mp q)) (fun q => kf (Int.not_lt.mp fun e => q ((iI_lt hb ha).mpr e)))
theorem i_icmp_le {a b : Int} {off : Int} {tgt : Nat} (d : decode cc pc = .ok (.if_icmp .le off, 3)) (ht : (pc : Int) + off = (tgt : Int)) (ha : -2147483648 ≤ a ∧ a < 2147483648) (hb : -2147483648 ≤ b ∧ b < 2147483648) (kt : a ≤ b → T y cc nL ret hh R Q QX tgt L st σ cells slots) (kf : b < a → T y cc nL ret hh R Q QX (pc + 3) L st σ cells slots) : T y cc nL ret hh R Q QX pc L (.int (iI b) :: .int (iI a) :: st) σ cells slots := z_icmp_le d ht (fun q => kt ((iI_le ha hb).mp q)) (fun q => kf (Int.not_le.mp fun e => q ((iI_le ha hb).mpr e)))
theorem i_if_le {a : Int} {off : Int} {tgt : Nat} (d : decode cc pc = .ok (.ifCond .le off, 3)) (ht : (pc : Int) + off = (tgt : Int)) (ha : -2147483648 ≤ a ∧ a < 2147483648) (kt : a ≤ 0 → T y cc nL ret hh R Q QX tgt L st σ cells slots) (kf : 0 < a → T y cc nL ret hh R Q QX (pc + 3) L st σ cells slots) : T y cc nL ret hh R Q QX pc L (.int (iI a) :: st) σ cells slots := by
  have hb : -2147483648 ≤ (0 : Int) ∧ (0 : Int) < 2147483648 := by decide
  exact z_if_le d ht (fun q => kt ((iI_le ha hb).mp q)) (fun q => kf (Int.not_le.mp fun e => q ((iI_le ha hb).mpr e)))
theorem i_ifb_eq {b : Bool} {off : Int} {tgt : Nat} (d : decode cc pc = .ok (.ifCond .eq off, 3)) (ht : (pc : Int) + off = (tgt : Int)) (kt : b = false → T y cc nL ret hh R Q QX tgt L st σ cells slots) (kf : b = true → T y cc nL ret hh R Q QX (pc + 3) L st σ cells slots) : T y cc nL ret hh R Q QX pc L (.int (iI (bI b)) :: st) σ cells slots := by
  have hb := bI_r b
  refine i_if_eq d ht (by omega) (fun q => kt ?_) (fun q => kf ?_)
  · cases b <;> simp_all [bI]
  · cases b <;> simp_all [bI]
theorem i_ifb_ne {b : Bool} {off : Int} {tgt : Nat} (d : decode cc pc = .ok (.ifCond .ne off, 3)) (ht : (pc : Int) + off = (tgt : Int)) (kt : b = true → T y cc nL ret hh R Q QX tgt L st σ cells slots) (kf : b = false → T y cc nL ret hh R Q QX (pc + 3) L st σ cells slots) : T y cc nL ret hh R Q QX pc L (.int (iI (bI b)) :: st) σ cells slots := by
  have hb := bI_r b
  refine i_if_ne d ht (by omega) (fun q => kt ?_) (fun q => kf ?_)
  · cases b <;> simp_all [bI]
  · cases b <;> simp_all [bI]
theorem i_iald {o n : Nat} {f : Nat → Int} {i : Int} (d : decode cc pc = .ok (.iaload, 1)) (ho : σ o = some (AI n f)) (j : Nat) (hi : i = j) (hj : j < n) (k : T y cc nL ret hh R Q QX (pc + 1) L (.int (iI (f j)) :: st) σ cells slots) (hn : n < 2147483648 := by decide) : T y cc nL ret hh R Q QX pc L (.int (iI i) :: .ref o :: st) σ cells slots := z_iald d ho j (by rw [hi]; exact iI_nat j) hj k hn
theorem i_zald {o n : Nat} {f : Nat → Bool} {i : Int} (d : decode cc pc = .ok (.baload, 1)) (ho : σ o = some (AZ n f)) (j : Nat) (hi : i = j) (hj : j < n) (k : T y cc nL ret hh R Q QX (pc + 1) L (.int (iI (bI (f j))) :: st) σ cells slots) (hn : n < 2147483648 := by decide) : T y cc nL ret hh R Q QX pc L (.int (iI i) :: .ref o :: st) σ cells slots := z_zald d ho j (by rw [hi]; exact iI_nat j) hj k hn
theorem i_lald {o n : Nat} {f : Nat → Nat} {i : Int} (d : decode cc pc = .ok (.laload, 1)) (ho : σ o = some (AL n f)) (j : Nat) (hi : i = j) (hj : j < n) (k : T y cc nL ret hh R Q QX (pc + 1) L (.long (lN (f j)) :: st) σ cells slots) (hn : n < 2147483648 := by decide) : T y cc nL ret hh R Q QX pc L (.int (iI i) :: .ref o :: st) σ cells slots := z_lald d ho j (by rw [hi]; exact iI_nat j) hj k hn
theorem i_aald {o n a : Nat} {g : Nat → Option Nat} {i : Int} (d : decode cc pc = .ok (.aaload, 1)) (ho : σ o = some (aR n g)) (j : Nat) (hi : i = j) (hj : j < n) (ha : g j = some a) (k : T y cc nL ret hh R Q QX (pc + 1) L (.ref a :: st) σ cells slots) (hn : n < 2147483648 := by decide) : T y cc nL ret hh R Q QX pc L (.int (iI i) :: .ref o :: st) σ cells slots := z_aald d ho j (by rw [hi]; exact iI_nat j) hj ha k hn
theorem AI_up (n : Nat) (f : Nat → Int) (j : Nat) (x : Int) : aI n (upd (fun j => iI (f j)) j (iI x)) = AI n (va_up f j x) := by
  have e : upd (fun j => iI (f j)) j (iI x) = fun q => iI (va_up f j x q) := by
    funext q
    by_cases hq : q = j <;> simp [upd, va_up, hq]
  rw [e]
theorem AZ_up (n : Nat) (f : Nat → Bool) (j : Nat) (x : Bool) : aZ n (upd (fun j => iI (bI (f j))) j (iI (bI x))) = AZ n (va_up f j x) := by
  have e : upd (fun j => iI (bI (f j))) j (iI (bI x)) = fun q => iI (bI (va_up f j x q)) := by
    funext q
    by_cases hq : q = j <;> simp [upd, va_up, hq]
  rw [e]
theorem AL_up (n : Nat) (f : Nat → Nat) (j : Nat) (x : Nat) : aJ n (vp_updL (fun j => lN (f j)) j (lN x)) = AL n (va_up f j x) := by
  have e : vp_updL (fun j => lN (f j)) j (lN x) = fun q => lN (va_up f j x q) := by
    funext q
    by_cases hq : q = j <;> simp [vp_updL, va_up, hq]
  rw [e]
theorem i_iast {o n : Nat} {f : Nat → Int} {i x : Int} (d : decode cc pc = .ok (.iastore, 1)) (ho : σ o = some (AI n f)) (j : Nat) (hi : i = j) (hj : j < n) (k : T y cc nL ret hh R Q QX (pc + 1) L st (up σ o (AI n (va_up f j x))) cells slots) (hn : n < 2147483648 := by decide) : T y cc nL ret hh R Q QX pc L (.int (iI x) :: .int (iI i) :: .ref o :: st) σ cells slots := z_iast d ho j (by rw [hi]; exact iI_nat j) hj (by rw [AI_up]; exact k) hn
theorem i_zast {o n : Nat} {f : Nat → Bool} {i : Int} {x : Bool} (d : decode cc pc = .ok (.bastore, 1)) (ho : σ o = some (AZ n f)) (j : Nat) (hi : i = j) (hj : j < n) (k : T y cc nL ret hh R Q QX (pc + 1) L st (up σ o (AZ n (va_up f j x))) cells slots) (hn : n < 2147483648 := by decide) : T y cc nL ret hh R Q QX pc L (.int (iI (bI x)) :: .int (iI i) :: .ref o :: st) σ cells slots := z_zast d (bI_n x) ho j (by rw [hi]; exact iI_nat j) hj (by rw [AZ_up]; exact k) hn
theorem i_last {o n : Nat} {f : Nat → Nat} {i : Int} {x : Nat} (d : decode cc pc = .ok (.lastore, 1)) (ho : σ o = some (AL n f)) (j : Nat) (hi : i = j) (hj : j < n) (k : T y cc nL ret hh R Q QX (pc + 1) L st (up σ o (AL n (va_up f j x))) cells slots) (hn : n < 2147483648 := by decide) : T y cc nL ret hh R Q QX pc L (.long (lN x) :: .int (iI i) :: .ref o :: st) σ cells slots := z_last d ho j (by rw [hi]; exact iI_nat j) hj (by rw [AL_up]; exact k) hn
theorem i_alen {o n t : Nat} {x : pArr} (d : decode cc pc = .ok (.arraylength, 1)) (ho : σ o = some (.inl (t, n, x))) (ht : t < 4) (k : T y cc nL ret hh R Q QX (pc + 1) L (.int (iI n) :: st) σ cells slots) : T y cc nL ret hh R Q QX pc L (.ref o :: st) σ cells slots := z_alen d ho ht (iI_nat n).symm k
theorem i_puti {o idx ci N : Nat} {Cn : String} {Tt : u_T} {ty0 : Nat → FieldType} {fs : List Value} {a : Int32} (hc : Cls ci Cn Tt N ty0) (f : Nat) (hf : Cond.fieldLink y.cls idx (Tt f).1 (Tt f).2.1 (Tt f).2.2.1 ∈ WT) (d : decode cc pc = .ok (.putfield idx, 3)) (hk : f < N) (hfin : (Tt f).2.2.2 = false) (hd : parseFieldDescriptor (Tt f).2.2.1 = some .int) (ho : σ o = some (.inr (ci, fs))) (hlen : f < fs.length) (k : T y cc nL ret hh R Q QX (pc + 3) L st (up σ o (.inr (ci, fs.set f (.int a)))) cells slots) : T y cc nL ret hh R Q QX pc L (.int a :: .ref o :: st) σ cells slots := z_putf hc f hf d hk hfin hd (fun _ => ⟨rfl, rfl⟩) ho hlen k
theorem i_putj {o idx ci N : Nat} {Cn : String} {Tt : u_T} {ty0 : Nat → FieldType} {fs : List Value} {a : Int64} (hc : Cls ci Cn Tt N ty0) (f : Nat) (hf : Cond.fieldLink y.cls idx (Tt f).1 (Tt f).2.1 (Tt f).2.2.1 ∈ WT) (d : decode cc pc = .ok (.putfield idx, 3)) (hk : f < N) (hfin : (Tt f).2.2.2 = false) (hd : parseFieldDescriptor (Tt f).2.2.1 = some .long) (ho : σ o = some (.inr (ci, fs))) (hlen : f < fs.length) (k : T y cc nL ret hh R Q QX (pc + 3) L st (up σ o (.inr (ci, fs.set f (.long a)))) cells slots) : T y cc nL ret hh R Q QX pc L (.long a :: .ref o :: st) σ cells slots := z_putf hc f hf d hk hfin hd (fun _ => ⟨rfl, rfl⟩) ho hlen k
theorem i_putz {o idx ci N : Nat} {Cn : String} {Tt : u_T} {ty0 : Nat → FieldType} {fs : List Value} {b : Bool} (hc : Cls ci Cn Tt N ty0) (f : Nat) (hf : Cond.fieldLink y.cls idx (Tt f).1 (Tt f).2.1 (Tt f).2.2.1 ∈ WT) (d : decode cc pc = .ok (.putfield idx, 3)) (hk : f < N) (hfin : (Tt f).2.2.2 = false) (hd : parseFieldDescriptor (Tt f).2.2.1 = some .boolean) (ho : σ o = some (.inr (ci, fs))) (hlen : f < fs.length) (k : T y cc nL ret hh R Q QX (pc + 3) L st (up σ o (.inr (ci, fs.set f (.int (iI (bI b)))))) cells slots) : T y cc nL ret hh R Q QX pc L (.int (iI (bI b)) :: .ref o :: st) σ cells slots := z_putf hc f hf d hk hfin hd (fun _ => ⟨bI_n b, by cases b <;> rfl⟩) ho hlen k
theorem i_callV {y' : MethodName} {cc' : ByteArray} {nL' n idx : Nat} {ret' : Option FieldType} {R' : Room} {av : List Value} {v : Option Value} {u : Wd} {st0 : List Value} {o ci : Nat} {fs : List Value} (hc : Ct y' cc' nL' ret' R' (.ref o :: av) σ (Rt v u) NX) (hm : MV y.cls idx y' cc' nL' ret' n) (d : decode cc pc = .ok (.invokevirtual idx, 3)) (ho : σ o = some (.inr (ci, fs))) (hci : (vwCl[ci]?).map (·.1) = some y'.cls) (hst0 : st0 = av.reverse ++ .ref o :: st) (hn : av.length = n) (hR : R'.frames + 1 ≤ R.frames ∧ 8 + (nL' + 11) + R'.locals ≤ R.locals) (hw : (st.map Value.category).sum ≤ 8) (hcs : cells + R'.cells ≤ R.cells ∧ slots + R'.slots ≤ R.slots) (k : T y cc nL ret hh R Q QX (pc + 3) L (v.toList ++ st) u (cells + R'.cells) (slots + R'.slots)) : T y cc nL ret hh R Q QX pc L st0 σ cells slots := z_callVX hc hm d ho hci hst0 hn hR hw hcs (fun _ _ h => h.elim) (fun r w hq => by obtain ⟨rfl, rfl⟩ := hq; exact k)
theorem i_callS {y' : MethodName} {cc' : ByteArray} {nL' n idx : Nat} {ret' : Option FieldType} {R' : Room} {av : List Value} {v : Option Value} {u : Wd} {st0 : List Value} (hc : Ct y' cc' nL' ret' R' av σ (Rt v u) NX) (hm : MS y.cls idx y' cc' nL' ret' n) (d : decode cc pc = .ok (.invokestatic idx, 3)) (hst0 : st0 = av.reverse ++ st) (hn : av.length = n) (hR : R'.frames + 1 ≤ R.frames ∧ 8 + (nL' + 11) + R'.locals ≤ R.locals) (hw : (st.map Value.category).sum ≤ 8) (hcs : cells + R'.cells ≤ R.cells ∧ slots + R'.slots ≤ R.slots) (k : T y cc nL ret hh R Q QX (pc + 3) L (v.toList ++ st) u (cells + R'.cells) (slots + R'.slots)) : T y cc nL ret hh R Q QX pc L st0 σ cells slots := z_callSX hc hm d hst0 hn hR hw hcs (fun _ _ h => h.elim) (fun r w hq => by obtain ⟨rfl, rfl⟩ := hq; exact k)
theorem i_cVr {y' : MethodName} {cc' : ByteArray} {nL' n idx : Nat} {ret' : Option FieldType} {R' : Room} {av : List Value} {v1 : Value} {u : Wd} {st0 : List Value} {o ci : Nat} {fs : List Value} (hc : Ct y' cc' nL' ret' R' (.ref o :: av) σ (Rt (some v1) u) NX) (hm : MV y.cls idx y' cc' nL' ret' n) (d : decode cc pc = .ok (.invokevirtual idx, 3)) (ho : σ o = some (.inr (ci, fs))) (hci : (vwCl[ci]?).map (·.1) = some y'.cls) (hst0 : st0 = av.reverse ++ .ref o :: st) (hn : av.length = n) (hR : R'.frames + 1 ≤ R.frames ∧ 8 + (nL' + 11) + R'.locals ≤ R.locals) (hw : (st.map Value.category).sum ≤ 8) (hcs : cells + R'.cells ≤ R.cells ∧ slots + R'.slots ≤ R.slots) (k : T y cc nL ret hh R Q QX (pc + 3) L (v1 :: st) u (cells + R'.cells) (slots + R'.slots)) : T y cc nL ret hh R Q QX pc L st0 σ cells slots := i_callV hc hm d ho hci hst0 hn hR hw hcs k
theorem i_cSr {y' : MethodName} {cc' : ByteArray} {nL' n idx : Nat} {ret' : Option FieldType} {R' : Room} {av : List Value} {v1 : Value} {u : Wd} {st0 : List Value} (hc : Ct y' cc' nL' ret' R' av σ (Rt (some v1) u) NX) (hm : MS y.cls idx y' cc' nL' ret' n) (d : decode cc pc = .ok (.invokestatic idx, 3)) (hst0 : st0 = av.reverse ++ st) (hn : av.length = n) (hR : R'.frames + 1 ≤ R.frames ∧ 8 + (nL' + 11) + R'.locals ≤ R.locals) (hw : (st.map Value.category).sum ≤ 8) (hcs : cells + R'.cells ≤ R.cells ∧ slots + R'.slots ≤ R.slots) (k : T y cc nL ret hh R Q QX (pc + 3) L (v1 :: st) u (cells + R'.cells) (slots + R'.slots)) : T y cc nL ret hh R Q QX pc L st0 σ cells slots := i_callS hc hm d hst0 hn hR hw hcs k
theorem i_cVv {y' : MethodName} {cc' : ByteArray} {nL' n idx : Nat} {ret' : Option FieldType} {R' : Room} {av : List Value}  {u : Wd} {st0 : List Value} {o ci : Nat} {fs : List Value} (hc : Ct y' cc' nL' ret' R' (.ref o :: av) σ (Rt none u) NX) (hm : MV y.cls idx y' cc' nL' ret' n) (d : decode cc pc = .ok (.invokevirtual idx, 3)) (ho : σ o = some (.inr (ci, fs))) (hci : (vwCl[ci]?).map (·.1) = some y'.cls) (hst0 : st0 = av.reverse ++ .ref o :: st) (hn : av.length = n) (hR : R'.frames + 1 ≤ R.frames ∧ 8 + (nL' + 11) + R'.locals ≤ R.locals) (hw : (st.map Value.category).sum ≤ 8) (hcs : cells + R'.cells ≤ R.cells ∧ slots + R'.slots ≤ R.slots) (k : T y cc nL ret hh R Q QX (pc + 3) L st u (cells + R'.cells) (slots + R'.slots)) : T y cc nL ret hh R Q QX pc L st0 σ cells slots := i_callV hc hm d ho hci hst0 hn hR hw hcs k
theorem i_cSv {y' : MethodName} {cc' : ByteArray} {nL' n idx : Nat} {ret' : Option FieldType} {R' : Room} {av : List Value}  {u : Wd} {st0 : List Value} (hc : Ct y' cc' nL' ret' R' av σ (Rt none u) NX) (hm : MS y.cls idx y' cc' nL' ret' n) (d : decode cc pc = .ok (.invokestatic idx, 3)) (hst0 : st0 = av.reverse ++ st) (hn : av.length = n) (hR : R'.frames + 1 ≤ R.frames ∧ 8 + (nL' + 11) + R'.locals ≤ R.locals) (hw : (st.map Value.category).sum ≤ 8) (hcs : cells + R'.cells ≤ R.cells ∧ slots + R'.slots ≤ R.slots) (k : T y cc nL ret hh R Q QX (pc + 3) L st u (cells + R'.cells) (slots + R'.slots)) : T y cc nL ret hh R Q QX pc L st0 σ cells slots := i_callS hc hm d hst0 hn hR hw hcs k
theorem i_cI {y' : MethodName} {cc' : ByteArray} {nL' n idx : Nat} {R' : Room} {av : List Value} {u : Wd} {st0 : List Value} {o : Nat} (hc : Ct y' cc' nL' none R' (.ref o :: av) σ (Rt none u) NX) (hm : MI y.cls idx y' cc' nL' n) (d : decode cc pc = .ok (.invokespecial idx, 3)) (hst0 : st0 = av.reverse ++ .ref o :: st) (hn : av.length = n) (hR : R'.frames + 1 ≤ R.frames ∧ 8 + (nL' + 11) + R'.locals ≤ R.locals) (hw : (st.map Value.category).sum ≤ 8) (hcs : cells + R'.cells ≤ R.cells ∧ slots + R'.slots ≤ R.slots) (k : T y cc nL ret hh R Q QX (pc + 3) L st u (cells + R'.cells) (slots + R'.slots)) : T y cc nL ret hh R Q QX pc L st0 σ cells slots := z_callI hc hm d hst0 hn hR hw hcs (fun r w hq => by obtain ⟨rfl, rfl⟩ := hq; exact k)
theorem i_iret {x : Int32} {u : Wd} (d : decode cc pc = .ok (.ireturn, 1)) (hr : ret = some .int) (hc : cells ≤ R.cells) (hs : slots ≤ R.slots) (hu : σ = u) : T y cc nL ret hh R (Rt (some (.int x)) u) QX pc L [.int x] σ cells slots := z_iret d hr hc hs ⟨rfl, hu⟩
theorem i_zret {b : Bool} {u : Wd} (d : decode cc pc = .ok (.ireturn, 1)) (hr : ret = some .boolean) (hc : cells ≤ R.cells) (hs : slots ≤ R.slots) (hu : σ = u) : T y cc nL ret hh R (Rt (some (.int (iI (bI b)))) u) QX pc L [.int (iI (bI b))] σ cells slots := z_zret d hr hc hs (bI_n b) ⟨rfl, hu⟩
theorem i_lret {x : Int64} {u : Wd} (d : decode cc pc = .ok (.lreturn, 1)) (hr : ret = some .long) (hc : cells ≤ R.cells) (hs : slots ≤ R.slots) (hu : σ = u) : T y cc nL ret hh R (Rt (some (.long x)) u) QX pc L [.long x] σ cells slots := z_lret d hr hc hs ⟨rfl, hu⟩
theorem i_vret {u : Wd} (d : decode cc pc = .ok (.return_, 1)) (hr : ret = none) (hc : cells ≤ R.cells) (hs : slots ≤ R.slots) (hu : σ = u) : T y cc nL ret hh R (Rt none u) QX pc L [] σ cells slots := z_vret d hr hc hs ⟨rfl, hu⟩
end TI
end
section
abbrev rmJ7_fill_53178 : Room := { frames := 0, cells := 0, slots := 0, locals := 0 }
abbrev rmJ9_abs_0f7a4 : Room := { frames := 0, cells := 0, slots := 0, locals := 0 }
abbrev rmJ9_floorMod_7cf53 : Room := { frames := 0, cells := 0, slots := 0, locals := 0 }
abbrev rmJ9_max_7cf53 : Room := { frames := 0, cells := 0, slots := 0, locals := 0 }
abbrev rmJ9_min_7cf53 : Room := { frames := 0, cells := 0, slots := 0, locals := 0 }
abbrev rmL_add : Room := { frames := 7, cells := 1, slots := 6, locals := 136 }
abbrev rmL_coef : Room := { frames := 7, cells := 1, slots := 6, locals := 106 }
abbrev rmL_combine : Room := { frames := 7, cells := 1, slots := 6, locals := 107 }
abbrev rmL_compile : Room := { frames := 8, cells := 1, slots := 6, locals := 179 }
abbrev rmL_explore : Room := { frames := 8, cells := 1, slots := 6, locals := 193 }
abbrev rmL_kind : Room := { frames := 8, cells := 2, slots := 12, locals := 131 }
abbrev rmL_law : Room := { frames := 9, cells := 0, slots := 0, locals := 216 }
abbrev rmL_meet : Room := { frames := 7, cells := 1, slots := 6, locals := 144 }
abbrev rmL_mod : Room := { frames := 7, cells := 1, slots := 6, locals := 106 }
abbrev rmL_output : Room := { frames := 7, cells := 1, slots := 6, locals := 112 }
abbrev rmL_recovers : Room := { frames := 8, cells := 1, slots := 6, locals := 192 }
abbrev rmL_rule : Room := { frames := 8, cells := 2, slots := 12, locals := 167 }
abbrev rmL_state : Room := { frames := 7, cells := 1, slots := 6, locals := 107 }
abbrev rmL_sum : Room := { frames := 7, cells := 1, slots := 6, locals := 105 }
abbrev rmL_sweep : Room := { frames := 8, cells := 1, slots := 6, locals := 192 }
abbrev rmL_table : Room := { frames := 8, cells := 1, slots := 6, locals := 130 }
abbrev rmL_truth : Room := { frames := 7, cells := 1, slots := 6, locals := 110 }
abbrev rmX0_afterMeeting : Room := { frames := 2, cells := 0, slots := 0, locals := 43 }
abbrev rmX0_become : Room := { frames := 1, cells := 0, slots := 0, locals := 21 }
abbrev rmX0_beginning : Room := { frames := 2, cells := 0, slots := 0, locals := 43 }
abbrev rmX0_codeOf : Room := { frames := 0, cells := 0, slots := 0, locals := 0 }
abbrev rmX0_countRules : Room := { frames := 4, cells := 0, slots := 0, locals := 94 }
abbrev rmX0_findStates : Room := { frames := 3, cells := 0, slots := 0, locals := 72 }
abbrev rmX0_firstOfRule : Room := { frames := 0, cells := 0, slots := 0, locals := 0 }
abbrev rmX0_init : Room := { frames := 1, cells := 4, slots := 777, locals := 20 }
abbrev rmX0_isRule : Room := { frames := 3, cells := 0, slots := 0, locals := 72 }
abbrev rmX0_isTrueOf : Room := { frames := 2, cells := 0, slots := 0, locals := 43 }
abbrev rmX0_learn : Room := { frames := 0, cells := 0, slots := 0, locals := 0 }
abbrev rmX0_learnBoth : Room := { frames := 1, cells := 0, slots := 0, locals := 21 }
abbrev rmX0_makeTable : Room := { frames := 5, cells := 0, slots := 0, locals := 117 }
abbrev rmX0_numberStates : Room := { frames := 0, cells := 0, slots := 0, locals := 0 }
abbrev rmX0_opinionOf : Room := { frames := 0, cells := 0, slots := 0, locals := 0 }
abbrev rmX0_reduce : Room := { frames := 1, cells := 0, slots := 0, locals := 22 }
abbrev rmX0_ruleCount : Room := { frames := 0, cells := 0, slots := 0, locals := 0 }
abbrev rmX0_ruleFact : Room := { frames := 5, cells := 0, slots := 0, locals := 118 }
abbrev rmX0_secondOfRule : Room := { frames := 4, cells := 0, slots := 0, locals := 94 }
abbrev rmX0_stateCount : Room := { frames := 0, cells := 0, slots := 0, locals := 0 }
abbrev rmX1_atAtom : Room := { frames := 0, cells := 0, slots := 0, locals := 0 }
abbrev rmX1_fact : Room := { frames := 1, cells := 0, slots := 0, locals := 20 }
abbrev rmX1_first : Room := { frames := 0, cells := 0, slots := 0, locals := 0 }
abbrev rmX1_leads : Room := { frames := 0, cells := 0, slots := 0, locals := 0 }
abbrev rmX1_leadsSomewhere : Room := { frames := 0, cells := 0, slots := 0, locals := 0 }
abbrev rmX1_of : Room := { frames := 0, cells := 0, slots := 0, locals := 0 }
abbrev rmX1_ofAtom : Room := { frames := 0, cells := 0, slots := 0, locals := 0 }
abbrev rmX1_opinion : Room := { frames := 0, cells := 0, slots := 0, locals := 0 }
abbrev rmX1_pair : Room := { frames := 0, cells := 0, slots := 0, locals := 0 }
abbrev rmX1_second : Room := { frames := 0, cells := 0, slots := 0, locals := 0 }
abbrev rmX1_value : Room := { frames := 0, cells := 0, slots := 0, locals := 0 }
abbrev rmX2_admit : Room := { frames := 4, cells := 0, slots := 0, locals := 89 }
abbrev rmX2_agent : Room := { frames := 0, cells := 0, slots := 0, locals := 0 }
abbrev rmX2_behindLastLeader : Room := { frames := 1, cells := 0, slots := 0, locals := 21 }
abbrev rmX2_bringTogether : Room := { frames := 4, cells := 0, slots := 0, locals := 98 }
abbrev rmX2_count : Room := { frames := 0, cells := 0, slots := 0, locals := 0 }
abbrev rmX2_hasAgent : Room := { frames := 0, cells := 0, slots := 0, locals := 0 }
abbrev rmX2_init : Room := { frames := 2, cells := 3, slots := 211, locals := 41 }
abbrev rmX2_isOfOneMind : Room := { frames := 5, cells := 0, slots := 0, locals := 116 }
abbrev rmX2_isQuiet : Room := { frames := 5, cells := 0, slots := 0, locals := 123 }
abbrev rmX2_letterCounts : Room := { frames := 0, cells := 0, slots := 0, locals := 0 }
abbrev rmX2_reset : Room := { frames := 1, cells := 0, slots := 0, locals := 23 }
abbrev rmX2_sweepOften : Room := { frames := 6, cells := 0, slots := 0, locals := 146 }
abbrev rmX2_sweepOnce : Room := { frames := 5, cells := 0, slots := 0, locals := 121 }
abbrev rmX3_addAtom : Room := { frames := 2, cells := 0, slots := 0, locals := 45 }
abbrev rmX3_addNode : Room := { frames := 0, cells := 0, slots := 0, locals := 0 }
abbrev rmX3_allOutputsAre : Room := { frames := 4, cells := 0, slots := 0, locals := 91 }
abbrev rmX3_atom : Room := { frames := 0, cells := 0, slots := 0, locals := 0 }
abbrev rmX3_atomCount : Room := { frames := 0, cells := 0, slots := 0, locals := 0 }
abbrev rmX3_beginning : Room := { frames := 3, cells := 0, slots := 0, locals := 65 }
abbrev rmX3_bit : Room := { frames := 0, cells := 0, slots := 0, locals := 0 }
abbrev rmX3_evaluate : Room := { frames := 2, cells := 0, slots := 0, locals := 44 }
abbrev rmX3_hasAtom : Room := { frames := 0, cells := 0, slots := 0, locals := 0 }
abbrev rmX3_hasNode : Room := { frames := 0, cells := 0, slots := 0, locals := 0 }
abbrev rmX3_hasSharedNode : Room := { frames := 0, cells := 0, slots := 0, locals := 0 }
abbrev rmX3_init : Room := { frames := 2, cells := 30, slots := 3998, locals := 40 }
abbrev rmX3_isCompiled : Room := { frames := 0, cells := 0, slots := 0, locals := 0 }
abbrev rmX3_isEmpty : Room := { frames := 0, cells := 0, slots := 0, locals := 0 }
abbrev rmX3_isTrueOf : Room := { frames := 3, cells := 0, slots := 0, locals := 67 }
abbrev rmX3_makeRules : Room := { frames := 6, cells := 0, slots := 0, locals := 137 }
abbrev rmX3_nodeTruth : Room := { frames := 1, cells := 0, slots := 0, locals := 21 }
abbrev rmX3_outputOf : Room := { frames := 3, cells := 0, slots := 0, locals := 67 }
abbrev rmX3_reset : Room := { frames := 1, cells := 0, slots := 0, locals := 23 }
abbrev rmX3_setPending : Room := { frames := 0, cells := 0, slots := 0, locals := 0 }
abbrev rmX3_takesAtom : Room := { frames := 1, cells := 0, slots := 0, locals := 20 }
abbrev rmX3_takesNode : Room := { frames := 0, cells := 0, slots := 0, locals := 0 }
abbrev rmX4_changes : Room := { frames := 3, cells := 0, slots := 0, locals := 72 }
abbrev rmX4_changesNone : Room := { frames := 4, cells := 0, slots := 0, locals := 98 }
abbrev rmX4_first : Room := { frames := 0, cells := 0, slots := 0, locals := 0 }
abbrev rmX4_init : Room := { frames := 1, cells := 0, slots := 0, locals := 20 }
abbrev rmX4_second : Room := { frames := 0, cells := 0, slots := 0, locals := 0 }
abbrev rmX5_allCanEndRight : Room := { frames := 6, cells := 0, slots := 0, locals := 147 }
abbrev rmX5_findAll : Room := { frames := 6, cells := 0, slots := 0, locals := 148 }
abbrev rmX5_init : Room := { frames := 2, cells := 5, slots := 29201, locals := 41 }
abbrev rmX5_isNext : Room := { frames := 0, cells := 0, slots := 0, locals := 0 }
abbrev rmX5_isRightEnd : Room := { frames := 5, cells := 0, slots := 0, locals := 123 }
abbrev rmX5_keepAllAfter : Room := { frames := 5, cells := 0, slots := 0, locals := 123 }
abbrev rmX5_keepNext : Room := { frames := 0, cells := 0, slots := 0, locals := 0 }
abbrev rmX5_leadsToRightEnd : Room := { frames := 5, cells := 0, slots := 0, locals := 123 }
abbrev rmX5_slotOfNext : Room := { frames := 1, cells := 0, slots := 0, locals := 22 }
abbrev rmX5_sortNext : Room := { frames := 0, cells := 0, slots := 0, locals := 0 }
abbrev rmX5_stepToNext : Room := { frames := 4, cells := 0, slots := 0, locals := 98 }
abbrev rmX6_add : Room := { frames := 6, cells := 1, slots := 6, locals := 114 }
abbrev rmX6_agree : Room := { frames := 6, cells := 0, slots := 0, locals := 136 }
abbrev rmX6_checkTable : Room := { frames := 6, cells := 1, slots := 6, locals := 84 }
abbrev rmX6_clear : Room := { frames := 2, cells := 0, slots := 0, locals := 43 }
abbrev rmX6_coef : Room := { frames := 6, cells := 1, slots := 6, locals := 84 }
abbrev rmX6_combine : Room := { frames := 6, cells := 1, slots := 6, locals := 84 }
abbrev rmX6_compile : Room := { frames := 7, cells := 1, slots := 6, locals := 159 }
abbrev rmX6_explore : Room := { frames := 7, cells := 1, slots := 6, locals := 171 }
abbrev rmX6_init : Room := { frames := 3, cells := 35, slots := 4222, locals := 62 }
abbrev rmX6_isCoefficient : Room := { frames := 0, cells := 0, slots := 0, locals := 0 }
abbrev rmX6_isFact : Room := { frames := 0, cells := 0, slots := 0, locals := 0 }
abbrev rmX6_isLetter : Room := { frames := 0, cells := 0, slots := 0, locals := 0 }
abbrev rmX6_kind : Room := { frames := 7, cells := 2, slots := 12, locals := 107 }
abbrev rmX6_meet : Room := { frames := 6, cells := 1, slots := 6, locals := 121 }
abbrev rmX6_mod : Room := { frames := 6, cells := 1, slots := 6, locals := 84 }
abbrev rmX6_output : Room := { frames := 6, cells := 1, slots := 6, locals := 91 }
abbrev rmX6_recovers : Room := { frames := 7, cells := 1, slots := 6, locals := 172 }
abbrev rmX6_rule : Room := { frames := 7, cells := 2, slots := 12, locals := 143 }
abbrev rmX6_silent : Room := { frames := 6, cells := 0, slots := 0, locals := 143 }
abbrev rmX6_size : Room := { frames := 1, cells := 0, slots := 0, locals := 20 }
abbrev rmX6_state : Room := { frames := 6, cells := 1, slots := 6, locals := 84 }
abbrev rmX6_sum : Room := { frames := 6, cells := 1, slots := 6, locals := 84 }
abbrev rmX6_sweep : Room := { frames := 7, cells := 1, slots := 6, locals := 170 }
abbrev rmX6_table : Room := { frames := 7, cells := 1, slots := 6, locals := 107 }
abbrev rmX6_truth : Room := { frames := 6, cells := 1, slots := 6, locals := 90 }
abbrev rmX7_add : Room := { frames := 2, cells := 0, slots := 0, locals := 47 }
abbrev rmX7_after : Room := { frames := 2, cells := 0, slots := 0, locals := 52 }
abbrev rmX7_agree : Room := { frames := 2, cells := 0, slots := 0, locals := 43 }
abbrev rmX7_atom : Room := { frames := 1, cells := 0, slots := 0, locals := 23 }
abbrev rmX7_clear : Room := { frames := 0, cells := 0, slots := 0, locals := 0 }
abbrev rmX7_coef : Room := { frames := 0, cells := 0, slots := 0, locals := 0 }
abbrev rmX7_combine : Room := { frames := 1, cells := 0, slots := 0, locals := 23 }
abbrev rmX7_compile : Room := { frames := 3, cells := 0, slots := 0, locals := 77 }
abbrev rmX7_explore : Room := { frames := 3, cells := 0, slots := 0, locals := 80 }
abbrev rmX7_find : Room := { frames := 0, cells := 0, slots := 0, locals := 0 }
abbrev rmX7_findRule : Room := { frames := 2, cells := 0, slots := 0, locals := 52 }
abbrev rmX7_findStates : Room := { frames := 2, cells := 0, slots := 0, locals := 52 }
abbrev rmX7_firstState : Room := { frames := 1, cells := 0, slots := 0, locals := 24 }
abbrev rmX7_formula : Room := { frames := 0, cells := 0, slots := 0, locals := 0 }
abbrev rmX7_full : Room := { frames := 0, cells := 0, slots := 0, locals := 0 }
abbrev rmX7_init : Room := { frames := 1, cells := 16, slots := 31223, locals := 20 }
abbrev rmX7_kind : Room := { frames := 2, cells := 0, slots := 0, locals := 41 }
abbrev rmX7_leadsToGood : Room := { frames := 3, cells := 0, slots := 0, locals := 80 }
abbrev rmX7_meet : Room := { frames := 3, cells := 0, slots := 0, locals := 77 }
abbrev rmX7_meeting : Room := { frames := 1, cells := 0, slots := 0, locals := 24 }
abbrev rmX7_meets : Room := { frames := 2, cells := 0, slots := 0, locals := 52 }
abbrev rmX7_mod : Room := { frames := 2, cells := 0, slots := 0, locals := 48 }
abbrev rmX7_noAgent : Room := { frames := 0, cells := 0, slots := 0, locals := 0 }
abbrev rmX7_node : Room := { frames := 0, cells := 0, slots := 0, locals := 0 }
abbrev rmX7_numberOf : Room := { frames := 0, cells := 0, slots := 0, locals := 0 }
abbrev rmX7_opinionOf : Room := { frames := 0, cells := 0, slots := 0, locals := 0 }
abbrev rmX7_output : Room := { frames := 2, cells := 0, slots := 0, locals := 43 }
abbrev rmX7_outputOf : Room := { frames := 1, cells := 0, slots := 0, locals := 21 }
abbrev rmX7_partOf : Room := { frames := 1, cells := 0, slots := 0, locals := 20 }
abbrev rmX7_recovers : Room := { frames := 4, cells := 0, slots := 0, locals := 103 }
abbrev rmX7_rightCrowd : Room := { frames := 1, cells := 0, slots := 0, locals := 22 }
abbrev rmX7_rule : Room := { frames := 3, cells := 0, slots := 0, locals := 77 }
abbrev rmX7_silent : Room := { frames := 3, cells := 0, slots := 0, locals := 77 }
abbrev rmX7_silentCrowd : Room := { frames := 3, cells := 0, slots := 0, locals := 80 }
abbrev rmX7_size : Room := { frames := 0, cells := 0, slots := 0, locals := 0 }
abbrev rmX7_sort : Room := { frames := 0, cells := 0, slots := 0, locals := 0 }
abbrev rmX7_state : Room := { frames := 2, cells := 0, slots := 0, locals := 41 }
abbrev rmX7_stateCount : Room := { frames := 0, cells := 0, slots := 0, locals := 0 }
abbrev rmX7_stateIn : Room := { frames := 0, cells := 0, slots := 0, locals := 0 }
abbrev rmX7_stateOf : Room := { frames := 0, cells := 0, slots := 0, locals := 0 }
abbrev rmX7_sum : Room := { frames := 2, cells := 0, slots := 0, locals := 48 }
abbrev rmX7_sweep : Room := { frames := 3, cells := 0, slots := 0, locals := 77 }
abbrev rmX7_table : Room := { frames := 3, cells := 0, slots := 0, locals := 77 }
abbrev rmX7_tableFault : Room := { frames := 0, cells := 0, slots := 0, locals := 0 }
abbrev rmX7_thrown : Room := { frames := 0, cells := 0, slots := 0, locals := 0 }
abbrev rmX7_truth : Room := { frames := 2, cells := 0, slots := 0, locals := 45 }
abbrev rmX7_truthNow : Room := { frames := 1, cells := 0, slots := 0, locals := 21 }
abbrev rmX7_valueOf : Room := { frames := 0, cells := 0, slots := 0, locals := 0 }
abbrev rmX6_explore0 : Room := { frames := 7, cells := 7, slots := 29215, locals := 171 }
abbrev rmL_explore0 : Room := { frames := 8, cells := 7, slots := 29215, locals := 193 }
abbrev KJ7_fill_53178 : List Value → Wd → (Option Value → Wd → Prop) → (String → Wd → Prop) → Prop := Ct yJ7_fill_53178 cJ7_fill_53178 4 none rmJ7_fill_53178
abbrev KJ9_abs_0f7a4 : List Value → Wd → (Option Value → Wd → Prop) → (String → Wd → Prop) → Prop := Ct yJ9_abs_0f7a4 cJ9_abs_0f7a4 1 (some .int) rmJ9_abs_0f7a4
abbrev KJ9_floorMod_7cf53 : List Value → Wd → (Option Value → Wd → Prop) → (String → Wd → Prop) → Prop := Ct yJ9_floorMod_7cf53 cJ9_floorMod_7cf53 3 (some .int) rmJ9_floorMod_7cf53
abbrev KJ9_max_7cf53 : List Value → Wd → (Option Value → Wd → Prop) → (String → Wd → Prop) → Prop := Ct yJ9_max_7cf53 cJ9_max_7cf53 2 (some .int) rmJ9_max_7cf53
abbrev KJ9_min_7cf53 : List Value → Wd → (Option Value → Wd → Prop) → (String → Wd → Prop) → Prop := Ct yJ9_min_7cf53 cJ9_min_7cf53 2 (some .int) rmJ9_min_7cf53
abbrev KL_add : List Value → Wd → (Option Value → Wd → Prop) → (String → Wd → Prop) → Prop := CtH yL_add cL_add 5 (some .int) [(0, 10, 13, 13), (0, 10, 17, 19)] rmL_add
abbrev KL_coef : List Value → Wd → (Option Value → Wd → Prop) → (String → Wd → Prop) → Prop := CtH yL_coef cL_coef 5 (some .int) [(0, 10, 13, 13)] rmL_coef
abbrev KL_combine : List Value → Wd → (Option Value → Wd → Prop) → (String → Wd → Prop) → Prop := CtH yL_combine cL_combine 6 (some .int) [(0, 12, 15, 13), (0, 12, 19, 19)] rmL_combine
abbrev KL_compile : List Value → Wd → (Option Value → Wd → Prop) → (String → Wd → Prop) → Prop := CtH yL_compile cL_compile 3 (some .int) [(0, 8, 11, 19)] rmL_compile
abbrev KL_explore : List Value → Wd → (Option Value → Wd → Prop) → (String → Wd → Prop) → Prop := CtH yL_explore cL_explore 4 (some .int) [(0, 9, 12, 13), (0, 9, 15, 19)] rmL_explore
abbrev KL_kind : List Value → Wd → (Option Value → Wd → Prop) → (String → Wd → Prop) → Prop := CtH yL_kind cL_kind 6 (some .int) [(0, 12, 15, 39), (0, 12, 19, 19)] rmL_kind
abbrev KL_meet : List Value → Wd → (Option Value → Wd → Prop) → (String → Wd → Prop) → Prop := CtH yL_meet cL_meet 5 (some .int) [(0, 17, 20, 13), (0, 17, 24, 39)] rmL_meet
abbrev KL_mod : List Value → Wd → (Option Value → Wd → Prop) → (String → Wd → Prop) → Prop := CtH yL_mod cL_mod 5 (some .int) [(0, 10, 13, 13), (0, 10, 17, 19)] rmL_mod
abbrev KL_output : List Value → Wd → (Option Value → Wd → Prop) → (String → Wd → Prop) → Prop := CtH yL_output cL_output 4 (some .int) [(0, 16, 19, 39)] rmL_output
abbrev KL_recovers : List Value → Wd → (Option Value → Wd → Prop) → (String → Wd → Prop) → Prop := CtH yL_recovers cL_recovers 3 (some .int) [(0, 15, 18, 19)] rmL_recovers
abbrev KL_rule : List Value → Wd → (Option Value → Wd → Prop) → (String → Wd → Prop) → Prop := CtH yL_rule cL_rule 6 (some .int) [(0, 12, 15, 39), (0, 12, 19, 19)] rmL_rule
abbrev KL_state : List Value → Wd → (Option Value → Wd → Prop) → (String → Wd → Prop) → Prop := CtH yL_state cL_state 6 (some .int) [(0, 12, 15, 39)] rmL_state
abbrev KL_sum : List Value → Wd → (Option Value → Wd → Prop) → (String → Wd → Prop) → Prop := CtH yL_sum cL_sum 4 (some .int) [(0, 9, 12, 13), (0, 9, 15, 19)] rmL_sum
abbrev KL_sweep : List Value → Wd → (Option Value → Wd → Prop) → (String → Wd → Prop) → Prop := CtH yL_sweep cL_sweep 4 (some .int) [(0, 9, 12, 13)] rmL_sweep
abbrev KL_table : List Value → Wd → (Option Value → Wd → Prop) → (String → Wd → Prop) → Prop := CtH yL_table cL_table 5 (some .int) [(0, 10, 13, 39), (0, 10, 17, 19)] rmL_table
abbrev KL_truth : List Value → Wd → (Option Value → Wd → Prop) → (String → Wd → Prop) → Prop := CtH yL_truth cL_truth 3 (some .int) [(0, 15, 18, 19)] rmL_truth
abbrev KX0_afterMeeting : List Value → Wd → (Option Value → Wd → Prop) → (String → Wd → Prop) → Prop := Ct yX0_afterMeeting cX0_afterMeeting 10 (some .int) rmX0_afterMeeting
abbrev KX0_become : List Value → Wd → (Option Value → Wd → Prop) → (String → Wd → Prop) → Prop := Ct yX0_become cX0_become 5 none rmX0_become
abbrev KX0_beginning : List Value → Wd → (Option Value → Wd → Prop) → (String → Wd → Prop) → Prop := Ct yX0_beginning cX0_beginning 3 (some .int) rmX0_beginning
abbrev KX0_codeOf : List Value → Wd → (Option Value → Wd → Prop) → (String → Wd → Prop) → Prop := Ct yX0_codeOf cX0_codeOf 2 (some .int) rmX0_codeOf
abbrev KX0_countRules : List Value → Wd → (Option Value → Wd → Prop) → (String → Wd → Prop) → Prop := Ct yX0_countRules cX0_countRules 4 none rmX0_countRules
abbrev KX0_findStates : List Value → Wd → (Option Value → Wd → Prop) → (String → Wd → Prop) → Prop := Ct yX0_findStates cX0_findStates 3 none rmX0_findStates
abbrev KX0_firstOfRule : List Value → Wd → (Option Value → Wd → Prop) → (String → Wd → Prop) → Prop := Ct yX0_firstOfRule cX0_firstOfRule 3 (some .int) rmX0_firstOfRule
abbrev KX0_init : List Value → Wd → (Option Value → Wd → Prop) → (String → Wd → Prop) → Prop := Ct yX0_init cX0_init 1 none rmX0_init
abbrev KX0_isRule : List Value → Wd → (Option Value → Wd → Prop) → (String → Wd → Prop) → Prop := Ct yX0_isRule cX0_isRule 3 (some .boolean) rmX0_isRule
abbrev KX0_isTrueOf : List Value → Wd → (Option Value → Wd → Prop) → (String → Wd → Prop) → Prop := Ct yX0_isTrueOf cX0_isTrueOf 4 (some .boolean) rmX0_isTrueOf
abbrev KX0_learn : List Value → Wd → (Option Value → Wd → Prop) → (String → Wd → Prop) → Prop := Ct yX0_learn cX0_learn 2 none rmX0_learn
abbrev KX0_learnBoth : List Value → Wd → (Option Value → Wd → Prop) → (String → Wd → Prop) → Prop := Ct yX0_learnBoth cX0_learnBoth 2 none rmX0_learnBoth
abbrev KX0_makeTable : List Value → Wd → (Option Value → Wd → Prop) → (String → Wd → Prop) → Prop := Ct yX0_makeTable cX0_makeTable 1 none rmX0_makeTable
abbrev KX0_numberStates : List Value → Wd → (Option Value → Wd → Prop) → (String → Wd → Prop) → Prop := Ct yX0_numberStates cX0_numberStates 3 none rmX0_numberStates
abbrev KX0_opinionOf : List Value → Wd → (Option Value → Wd → Prop) → (String → Wd → Prop) → Prop := Ct yX0_opinionOf cX0_opinionOf 2 (some .boolean) rmX0_opinionOf
abbrev KX0_reduce : List Value → Wd → (Option Value → Wd → Prop) → (String → Wd → Prop) → Prop := Ct yX0_reduce cX0_reduce 2 (some .int) rmX0_reduce
abbrev KX0_ruleCount : List Value → Wd → (Option Value → Wd → Prop) → (String → Wd → Prop) → Prop := Ct yX0_ruleCount cX0_ruleCount 1 (some .int) rmX0_ruleCount
abbrev KX0_ruleFact : List Value → Wd → (Option Value → Wd → Prop) → (String → Wd → Prop) → Prop := Ct yX0_ruleFact cX0_ruleFact 6 (some .int) rmX0_ruleFact
abbrev KX0_secondOfRule : List Value → Wd → (Option Value → Wd → Prop) → (String → Wd → Prop) → Prop := Ct yX0_secondOfRule cX0_secondOfRule 5 (some .int) rmX0_secondOfRule
abbrev KX0_stateCount : List Value → Wd → (Option Value → Wd → Prop) → (String → Wd → Prop) → Prop := Ct yX0_stateCount cX0_stateCount 1 (some .int) rmX0_stateCount
abbrev KX1_atAtom : List Value → Wd → (Option Value → Wd → Prop) → (String → Wd → Prop) → Prop := Ct yX1_atAtom cX1_atAtom 2 (some .long) rmX1_atAtom
abbrev KX1_fact : List Value → Wd → (Option Value → Wd → Prop) → (String → Wd → Prop) → Prop := Ct yX1_fact cX1_fact 2 (some .int) rmX1_fact
abbrev KX1_first : List Value → Wd → (Option Value → Wd → Prop) → (String → Wd → Prop) → Prop := Ct yX1_first cX1_first 1 (some .int) rmX1_first
abbrev KX1_leads : List Value → Wd → (Option Value → Wd → Prop) → (String → Wd → Prop) → Prop := Ct yX1_leads cX1_leads 1 (some .boolean) rmX1_leads
abbrev KX1_leadsSomewhere : List Value → Wd → (Option Value → Wd → Prop) → (String → Wd → Prop) → Prop := Ct yX1_leadsSomewhere cX1_leadsSomewhere 2 (some .boolean) rmX1_leadsSomewhere
abbrev KX1_of : List Value → Wd → (Option Value → Wd → Prop) → (String → Wd → Prop) → Prop := Ct yX1_of cX1_of 4 (some .int) rmX1_of
abbrev KX1_ofAtom : List Value → Wd → (Option Value → Wd → Prop) → (String → Wd → Prop) → Prop := Ct yX1_ofAtom cX1_ofAtom 3 (some .int) rmX1_ofAtom
abbrev KX1_opinion : List Value → Wd → (Option Value → Wd → Prop) → (String → Wd → Prop) → Prop := Ct yX1_opinion cX1_opinion 1 (some .int) rmX1_opinion
abbrev KX1_pair : List Value → Wd → (Option Value → Wd → Prop) → (String → Wd → Prop) → Prop := Ct yX1_pair cX1_pair 2 (some .int) rmX1_pair
abbrev KX1_second : List Value → Wd → (Option Value → Wd → Prop) → (String → Wd → Prop) → Prop := Ct yX1_second cX1_second 1 (some .int) rmX1_second
abbrev KX1_value : List Value → Wd → (Option Value → Wd → Prop) → (String → Wd → Prop) → Prop := Ct yX1_value cX1_value 1 (some .int) rmX1_value
abbrev KX2_admit : List Value → Wd → (Option Value → Wd → Prop) → (String → Wd → Prop) → Prop := Ct yX2_admit cX2_admit 6 none rmX2_admit
abbrev KX2_agent : List Value → Wd → (Option Value → Wd → Prop) → (String → Wd → Prop) → Prop := Ct yX2_agent cX2_agent 2 (some .long) rmX2_agent
abbrev KX2_behindLastLeader : List Value → Wd → (Option Value → Wd → Prop) → (String → Wd → Prop) → Prop := Ct yX2_behindLastLeader cX2_behindLastLeader 2 (some .int) rmX2_behindLastLeader
abbrev KX2_bringTogether : List Value → Wd → (Option Value → Wd → Prop) → (String → Wd → Prop) → Prop := Ct yX2_bringTogether cX2_bringTogether 4 (some .boolean) rmX2_bringTogether
abbrev KX2_count : List Value → Wd → (Option Value → Wd → Prop) → (String → Wd → Prop) → Prop := Ct yX2_count cX2_count 1 (some .int) rmX2_count
abbrev KX2_hasAgent : List Value → Wd → (Option Value → Wd → Prop) → (String → Wd → Prop) → Prop := Ct yX2_hasAgent cX2_hasAgent 2 (some .boolean) rmX2_hasAgent
abbrev KX2_init : List Value → Wd → (Option Value → Wd → Prop) → (String → Wd → Prop) → Prop := Ct yX2_init cX2_init 2 none rmX2_init
abbrev KX2_isOfOneMind : List Value → Wd → (Option Value → Wd → Prop) → (String → Wd → Prop) → Prop := Ct yX2_isOfOneMind cX2_isOfOneMind 1 (some .boolean) rmX2_isOfOneMind
abbrev KX2_isQuiet : List Value → Wd → (Option Value → Wd → Prop) → (String → Wd → Prop) → Prop := Ct yX2_isQuiet cX2_isQuiet 1 (some .boolean) rmX2_isQuiet
abbrev KX2_letterCounts : List Value → Wd → (Option Value → Wd → Prop) → (String → Wd → Prop) → Prop := Ct yX2_letterCounts cX2_letterCounts 1 (some (.array .int)) rmX2_letterCounts
abbrev KX2_reset : List Value → Wd → (Option Value → Wd → Prop) → (String → Wd → Prop) → Prop := Ct yX2_reset cX2_reset 1 none rmX2_reset
abbrev KX2_sweepOften : List Value → Wd → (Option Value → Wd → Prop) → (String → Wd → Prop) → Prop := Ct yX2_sweepOften cX2_sweepOften 5 (some .int) rmX2_sweepOften
abbrev KX2_sweepOnce : List Value → Wd → (Option Value → Wd → Prop) → (String → Wd → Prop) → Prop := Ct yX2_sweepOnce cX2_sweepOnce 6 (some .int) rmX2_sweepOnce
abbrev KX3_addAtom : List Value → Wd → (Option Value → Wd → Prop) → (String → Wd → Prop) → Prop := Ct yX3_addAtom cX3_addAtom 4 (some .int) rmX3_addAtom
abbrev KX3_addNode : List Value → Wd → (Option Value → Wd → Prop) → (String → Wd → Prop) → Prop := Ct yX3_addNode cX3_addNode 5 (some .int) rmX3_addNode
abbrev KX3_allOutputsAre : List Value → Wd → (Option Value → Wd → Prop) → (String → Wd → Prop) → Prop := Ct yX3_allOutputsAre cX3_allOutputsAre 6 (some .boolean) rmX3_allOutputsAre
abbrev KX3_atom : List Value → Wd → (Option Value → Wd → Prop) → (String → Wd → Prop) → Prop := Ct yX3_atom cX3_atom 2 (some (.object "CrowdDesk$Atom")) rmX3_atom
abbrev KX3_atomCount : List Value → Wd → (Option Value → Wd → Prop) → (String → Wd → Prop) → Prop := Ct yX3_atomCount cX3_atomCount 1 (some .int) rmX3_atomCount
abbrev KX3_beginning : List Value → Wd → (Option Value → Wd → Prop) → (String → Wd → Prop) → Prop := Ct yX3_beginning cX3_beginning 5 (some .long) rmX3_beginning
abbrev KX3_bit : List Value → Wd → (Option Value → Wd → Prop) → (String → Wd → Prop) → Prop := Ct yX3_bit cX3_bit 2 (some .int) rmX3_bit
abbrev KX3_evaluate : List Value → Wd → (Option Value → Wd → Prop) → (String → Wd → Prop) → Prop := Ct yX3_evaluate cX3_evaluate 4 (some .boolean) rmX3_evaluate
abbrev KX3_hasAtom : List Value → Wd → (Option Value → Wd → Prop) → (String → Wd → Prop) → Prop := Ct yX3_hasAtom cX3_hasAtom 2 (some .boolean) rmX3_hasAtom
abbrev KX3_hasNode : List Value → Wd → (Option Value → Wd → Prop) → (String → Wd → Prop) → Prop := Ct yX3_hasNode cX3_hasNode 2 (some .boolean) rmX3_hasNode
abbrev KX3_hasSharedNode : List Value → Wd → (Option Value → Wd → Prop) → (String → Wd → Prop) → Prop := Ct yX3_hasSharedNode cX3_hasSharedNode 5 (some .boolean) rmX3_hasSharedNode
abbrev KX3_init : List Value → Wd → (Option Value → Wd → Prop) → (String → Wd → Prop) → Prop := Ct yX3_init cX3_init 2 none rmX3_init
abbrev KX3_isCompiled : List Value → Wd → (Option Value → Wd → Prop) → (String → Wd → Prop) → Prop := Ct yX3_isCompiled cX3_isCompiled 1 (some .boolean) rmX3_isCompiled
abbrev KX3_isEmpty : List Value → Wd → (Option Value → Wd → Prop) → (String → Wd → Prop) → Prop := Ct yX3_isEmpty cX3_isEmpty 1 (some .boolean) rmX3_isEmpty
abbrev KX3_isTrueOf : List Value → Wd → (Option Value → Wd → Prop) → (String → Wd → Prop) → Prop := Ct yX3_isTrueOf cX3_isTrueOf 4 (some .boolean) rmX3_isTrueOf
abbrev KX3_makeRules : List Value → Wd → (Option Value → Wd → Prop) → (String → Wd → Prop) → Prop := Ct yX3_makeRules cX3_makeRules 3 (some .int) rmX3_makeRules
abbrev KX3_nodeTruth : List Value → Wd → (Option Value → Wd → Prop) → (String → Wd → Prop) → Prop := Ct yX3_nodeTruth cX3_nodeTruth 4 (some .int) rmX3_nodeTruth
abbrev KX3_outputOf : List Value → Wd → (Option Value → Wd → Prop) → (String → Wd → Prop) → Prop := Ct yX3_outputOf cX3_outputOf 5 (some .boolean) rmX3_outputOf
abbrev KX3_reset : List Value → Wd → (Option Value → Wd → Prop) → (String → Wd → Prop) → Prop := Ct yX3_reset cX3_reset 1 none rmX3_reset
abbrev KX3_setPending : List Value → Wd → (Option Value → Wd → Prop) → (String → Wd → Prop) → Prop := Ct yX3_setPending cX3_setPending 4 (some .int) rmX3_setPending
abbrev KX3_takesAtom : List Value → Wd → (Option Value → Wd → Prop) → (String → Wd → Prop) → Prop := Ct yX3_takesAtom cX3_takesAtom 1 (some .boolean) rmX3_takesAtom
abbrev KX3_takesNode : List Value → Wd → (Option Value → Wd → Prop) → (String → Wd → Prop) → Prop := Ct yX3_takesNode cX3_takesNode 1 (some .boolean) rmX3_takesNode
abbrev KX4_changes : List Value → Wd → (Option Value → Wd → Prop) → (String → Wd → Prop) → Prop := Ct yX4_changes cX4_changes 7 (some .boolean) rmX4_changes
abbrev KX4_changesNone : List Value → Wd → (Option Value → Wd → Prop) → (String → Wd → Prop) → Prop := Ct yX4_changesNone cX4_changesNone 6 (some .boolean) rmX4_changesNone
abbrev KX4_first : List Value → Wd → (Option Value → Wd → Prop) → (String → Wd → Prop) → Prop := Ct yX4_first cX4_first 1 (some .long) rmX4_first
abbrev KX4_init : List Value → Wd → (Option Value → Wd → Prop) → (String → Wd → Prop) → Prop := Ct yX4_init cX4_init 2 none rmX4_init
abbrev KX4_second : List Value → Wd → (Option Value → Wd → Prop) → (String → Wd → Prop) → Prop := Ct yX4_second cX4_second 1 (some .long) rmX4_second
abbrev KX5_allCanEndRight : List Value → Wd → (Option Value → Wd → Prop) → (String → Wd → Prop) → Prop := Ct yX5_allCanEndRight cX5_allCanEndRight 6 (some .boolean) rmX5_allCanEndRight
abbrev KX5_findAll : List Value → Wd → (Option Value → Wd → Prop) → (String → Wd → Prop) → Prop := Ct yX5_findAll cX5_findAll 4 (some .int) rmX5_findAll
abbrev KX5_init : List Value → Wd → (Option Value → Wd → Prop) → (String → Wd → Prop) → Prop := Ct yX5_init cX5_init 2 none rmX5_init
abbrev KX5_isNext : List Value → Wd → (Option Value → Wd → Prop) → (String → Wd → Prop) → Prop := Ct yX5_isNext cX5_isNext 3 (some .boolean) rmX5_isNext
abbrev KX5_isRightEnd : List Value → Wd → (Option Value → Wd → Prop) → (String → Wd → Prop) → Prop := Ct yX5_isRightEnd cX5_isRightEnd 4 (some .boolean) rmX5_isRightEnd
abbrev KX5_keepAllAfter : List Value → Wd → (Option Value → Wd → Prop) → (String → Wd → Prop) → Prop := Ct yX5_keepAllAfter cX5_keepAllAfter 6 (some .boolean) rmX5_keepAllAfter
abbrev KX5_keepNext : List Value → Wd → (Option Value → Wd → Prop) → (String → Wd → Prop) → Prop := Ct yX5_keepNext cX5_keepNext 3 none rmX5_keepNext
abbrev KX5_leadsToRightEnd : List Value → Wd → (Option Value → Wd → Prop) → (String → Wd → Prop) → Prop := Ct yX5_leadsToRightEnd cX5_leadsToRightEnd 5 (some .boolean) rmX5_leadsToRightEnd
abbrev KX5_slotOfNext : List Value → Wd → (Option Value → Wd → Prop) → (String → Wd → Prop) → Prop := Ct yX5_slotOfNext cX5_slotOfNext 5 (some .int) rmX5_slotOfNext
abbrev KX5_sortNext : List Value → Wd → (Option Value → Wd → Prop) → (String → Wd → Prop) → Prop := Ct yX5_sortNext cX5_sortNext 5 none rmX5_sortNext
abbrev KX5_stepToNext : List Value → Wd → (Option Value → Wd → Prop) → (String → Wd → Prop) → Prop := Ct yX5_stepToNext cX5_stepToNext 6 (some .boolean) rmX5_stepToNext
abbrev KX6_add : List Value → Wd → (Option Value → Wd → Prop) → (String → Wd → Prop) → Prop := Ct yX6_add cX6_add 3 (some .int) rmX6_add
abbrev KX6_agree : List Value → Wd → (Option Value → Wd → Prop) → (String → Wd → Prop) → Prop := Ct yX6_agree cX6_agree 1 (some .boolean) rmX6_agree
abbrev KX6_checkTable : List Value → Wd → (Option Value → Wd → Prop) → (String → Wd → Prop) → Prop := Ct yX6_checkTable cX6_checkTable 4 none rmX6_checkTable
abbrev KX6_clear : List Value → Wd → (Option Value → Wd → Prop) → (String → Wd → Prop) → Prop := Ct yX6_clear cX6_clear 1 none rmX6_clear
abbrev KX6_coef : List Value → Wd → (Option Value → Wd → Prop) → (String → Wd → Prop) → Prop := Ct yX6_coef cX6_coef 3 (some .int) rmX6_coef
abbrev KX6_combine : List Value → Wd → (Option Value → Wd → Prop) → (String → Wd → Prop) → Prop := Ct yX6_combine cX6_combine 4 (some .int) rmX6_combine
abbrev KX6_compile : List Value → Wd → (Option Value → Wd → Prop) → (String → Wd → Prop) → Prop := Ct yX6_compile cX6_compile 1 (some .int) rmX6_compile
abbrev KX6_explore : List Value → Wd → (Option Value → Wd → Prop) → (String → Wd → Prop) → Prop := Ct yX6_explore cX6_explore 3 (some .int) rmX6_explore
abbrev KX6_init : List Value → Wd → (Option Value → Wd → Prop) → (String → Wd → Prop) → Prop := Ct yX6_init cX6_init 1 none rmX6_init
abbrev KX6_isCoefficient : List Value → Wd → (Option Value → Wd → Prop) → (String → Wd → Prop) → Prop := Ct yX6_isCoefficient cX6_isCoefficient 1 (some .boolean) rmX6_isCoefficient
abbrev KX6_isFact : List Value → Wd → (Option Value → Wd → Prop) → (String → Wd → Prop) → Prop := Ct yX6_isFact cX6_isFact 2 (some .boolean) rmX6_isFact
abbrev KX6_isLetter : List Value → Wd → (Option Value → Wd → Prop) → (String → Wd → Prop) → Prop := Ct yX6_isLetter cX6_isLetter 1 (some .boolean) rmX6_isLetter
abbrev KX6_kind : List Value → Wd → (Option Value → Wd → Prop) → (String → Wd → Prop) → Prop := Ct yX6_kind cX6_kind 5 (some .int) rmX6_kind
abbrev KX6_meet : List Value → Wd → (Option Value → Wd → Prop) → (String → Wd → Prop) → Prop := Ct yX6_meet cX6_meet 4 (some .boolean) rmX6_meet
abbrev KX6_mod : List Value → Wd → (Option Value → Wd → Prop) → (String → Wd → Prop) → Prop := Ct yX6_mod cX6_mod 3 (some .int) rmX6_mod
abbrev KX6_output : List Value → Wd → (Option Value → Wd → Prop) → (String → Wd → Prop) → Prop := Ct yX6_output cX6_output 2 (some .boolean) rmX6_output
abbrev KX6_recovers : List Value → Wd → (Option Value → Wd → Prop) → (String → Wd → Prop) → Prop := Ct yX6_recovers cX6_recovers 1 (some .boolean) rmX6_recovers
abbrev KX6_rule : List Value → Wd → (Option Value → Wd → Prop) → (String → Wd → Prop) → Prop := Ct yX6_rule cX6_rule 5 (some .int) rmX6_rule
abbrev KX6_silent : List Value → Wd → (Option Value → Wd → Prop) → (String → Wd → Prop) → Prop := Ct yX6_silent cX6_silent 1 (some .boolean) rmX6_silent
abbrev KX6_size : List Value → Wd → (Option Value → Wd → Prop) → (String → Wd → Prop) → Prop := Ct yX6_size cX6_size 1 (some .int) rmX6_size
abbrev KX6_state : List Value → Wd → (Option Value → Wd → Prop) → (String → Wd → Prop) → Prop := Ct yX6_state cX6_state 4 (some .int) rmX6_state
abbrev KX6_sum : List Value → Wd → (Option Value → Wd → Prop) → (String → Wd → Prop) → Prop := Ct yX6_sum cX6_sum 2 (some .int) rmX6_sum
abbrev KX6_sweep : List Value → Wd → (Option Value → Wd → Prop) → (String → Wd → Prop) → Prop := Ct yX6_sweep cX6_sweep 3 (some .int) rmX6_sweep
abbrev KX6_table : List Value → Wd → (Option Value → Wd → Prop) → (String → Wd → Prop) → Prop := Ct yX6_table cX6_table 4 (some .int) rmX6_table
abbrev KX6_truth : List Value → Wd → (Option Value → Wd → Prop) → (String → Wd → Prop) → Prop := Ct yX6_truth cX6_truth 1 (some .boolean) rmX6_truth
abbrev KX7_add : List Value → Wd → (Option Value → Wd → Prop) → (String → Wd → Prop) → Prop := Ct yX7_add cX7_add 5 (some .int) rmX7_add
abbrev KX7_after : List Value → Wd → (Option Value → Wd → Prop) → (String → Wd → Prop) → Prop := Ct yX7_after cX7_after 9 (some .boolean) rmX7_after
abbrev KX7_agree : List Value → Wd → (Option Value → Wd → Prop) → (String → Wd → Prop) → Prop := Ct yX7_agree cX7_agree 2 (some .boolean) rmX7_agree
abbrev KX7_atom : List Value → Wd → (Option Value → Wd → Prop) → (String → Wd → Prop) → Prop := Ct yX7_atom cX7_atom 6 (some .int) rmX7_atom
abbrev KX7_clear : List Value → Wd → (Option Value → Wd → Prop) → (String → Wd → Prop) → Prop := Ct yX7_clear cX7_clear 2 none rmX7_clear
abbrev KX7_coef : List Value → Wd → (Option Value → Wd → Prop) → (String → Wd → Prop) → Prop := Ct yX7_coef cX7_coef 4 (some .int) rmX7_coef
abbrev KX7_combine : List Value → Wd → (Option Value → Wd → Prop) → (String → Wd → Prop) → Prop := Ct yX7_combine cX7_combine 5 (some .int) rmX7_combine
abbrev KX7_compile : List Value → Wd → (Option Value → Wd → Prop) → (String → Wd → Prop) → Prop := Ct yX7_compile cX7_compile 5 (some .int) rmX7_compile
abbrev KX7_explore : List Value → Wd → (Option Value → Wd → Prop) → (String → Wd → Prop) → Prop := Ct yX7_explore cX7_explore 5 (some .int) rmX7_explore
abbrev KX7_find : List Value → Wd → (Option Value → Wd → Prop) → (String → Wd → Prop) → Prop := Ct yX7_find cX7_find 8 (some .int) rmX7_find
abbrev KX7_findRule : List Value → Wd → (Option Value → Wd → Prop) → (String → Wd → Prop) → Prop := Ct yX7_findRule cX7_findRule 6 (some .int) rmX7_findRule
abbrev KX7_findStates : List Value → Wd → (Option Value → Wd → Prop) → (String → Wd → Prop) → Prop := Ct yX7_findStates cX7_findStates 6 none rmX7_findStates
abbrev KX7_firstState : List Value → Wd → (Option Value → Wd → Prop) → (String → Wd → Prop) → Prop := Ct yX7_firstState cX7_firstState 4 (some .int) rmX7_firstState
abbrev KX7_formula : List Value → Wd → (Option Value → Wd → Prop) → (String → Wd → Prop) → Prop := Ct yX7_formula cX7_formula 2 (some .boolean) rmX7_formula
abbrev KX7_full : List Value → Wd → (Option Value → Wd → Prop) → (String → Wd → Prop) → Prop := Ct yX7_full cX7_full 1 (some .boolean) rmX7_full
abbrev KX7_init : List Value → Wd → (Option Value → Wd → Prop) → (String → Wd → Prop) → Prop := Ct yX7_init cX7_init 1 none rmX7_init
abbrev KX7_kind : List Value → Wd → (Option Value → Wd → Prop) → (String → Wd → Prop) → Prop := Ct yX7_kind cX7_kind 5 (some .int) rmX7_kind
abbrev KX7_leadsToGood : List Value → Wd → (Option Value → Wd → Prop) → (String → Wd → Prop) → Prop := Ct yX7_leadsToGood cX7_leadsToGood 4 (some .boolean) rmX7_leadsToGood
abbrev KX7_meet : List Value → Wd → (Option Value → Wd → Prop) → (String → Wd → Prop) → Prop := Ct yX7_meet cX7_meet 3 (some .boolean) rmX7_meet
abbrev KX7_meeting : List Value → Wd → (Option Value → Wd → Prop) → (String → Wd → Prop) → Prop := Ct yX7_meeting cX7_meeting 9 none rmX7_meeting
abbrev KX7_meets : List Value → Wd → (Option Value → Wd → Prop) → (String → Wd → Prop) → Prop := Ct yX7_meets cX7_meets 6 (some .boolean) rmX7_meets
abbrev KX7_mod : List Value → Wd → (Option Value → Wd → Prop) → (String → Wd → Prop) → Prop := Ct yX7_mod cX7_mod 3 (some .int) rmX7_mod
abbrev KX7_noAgent : List Value → Wd → (Option Value → Wd → Prop) → (String → Wd → Prop) → Prop := Ct yX7_noAgent cX7_noAgent 2 (some .boolean) rmX7_noAgent
abbrev KX7_node : List Value → Wd → (Option Value → Wd → Prop) → (String → Wd → Prop) → Prop := Ct yX7_node cX7_node 4 (some .int) rmX7_node
abbrev KX7_numberOf : List Value → Wd → (Option Value → Wd → Prop) → (String → Wd → Prop) → Prop := Ct yX7_numberOf cX7_numberOf 5 (some .int) rmX7_numberOf
abbrev KX7_opinionOf : List Value → Wd → (Option Value → Wd → Prop) → (String → Wd → Prop) → Prop := Ct yX7_opinionOf cX7_opinionOf 3 (some .boolean) rmX7_opinionOf
abbrev KX7_output : List Value → Wd → (Option Value → Wd → Prop) → (String → Wd → Prop) → Prop := Ct yX7_output cX7_output 2 (some .boolean) rmX7_output
abbrev KX7_outputOf : List Value → Wd → (Option Value → Wd → Prop) → (String → Wd → Prop) → Prop := Ct yX7_outputOf cX7_outputOf 3 (some .boolean) rmX7_outputOf
abbrev KX7_partOf : List Value → Wd → (Option Value → Wd → Prop) → (String → Wd → Prop) → Prop := Ct yX7_partOf cX7_partOf 2 (some .int) rmX7_partOf
abbrev KX7_recovers : List Value → Wd → (Option Value → Wd → Prop) → (String → Wd → Prop) → Prop := Ct yX7_recovers cX7_recovers 4 (some .boolean) rmX7_recovers
abbrev KX7_rightCrowd : List Value → Wd → (Option Value → Wd → Prop) → (String → Wd → Prop) → Prop := Ct yX7_rightCrowd cX7_rightCrowd 5 (some .boolean) rmX7_rightCrowd
abbrev KX7_rule : List Value → Wd → (Option Value → Wd → Prop) → (String → Wd → Prop) → Prop := Ct yX7_rule cX7_rule 5 (some .int) rmX7_rule
abbrev KX7_silent : List Value → Wd → (Option Value → Wd → Prop) → (String → Wd → Prop) → Prop := Ct yX7_silent cX7_silent 3 (some .boolean) rmX7_silent
abbrev KX7_silentCrowd : List Value → Wd → (Option Value → Wd → Prop) → (String → Wd → Prop) → Prop := Ct yX7_silentCrowd cX7_silentCrowd 4 (some .boolean) rmX7_silentCrowd
abbrev KX7_size : List Value → Wd → (Option Value → Wd → Prop) → (String → Wd → Prop) → Prop := Ct yX7_size cX7_size 1 (some .int) rmX7_size
abbrev KX7_sort : List Value → Wd → (Option Value → Wd → Prop) → (String → Wd → Prop) → Prop := Ct yX7_sort cX7_sort 5 none rmX7_sort
abbrev KX7_state : List Value → Wd → (Option Value → Wd → Prop) → (String → Wd → Prop) → Prop := Ct yX7_state cX7_state 4 (some .int) rmX7_state
abbrev KX7_stateCount : List Value → Wd → (Option Value → Wd → Prop) → (String → Wd → Prop) → Prop := Ct yX7_stateCount cX7_stateCount 4 (some .int) rmX7_stateCount
abbrev KX7_stateIn : List Value → Wd → (Option Value → Wd → Prop) → (String → Wd → Prop) → Prop := Ct yX7_stateIn cX7_stateIn 3 (some .int) rmX7_stateIn
abbrev KX7_stateOf : List Value → Wd → (Option Value → Wd → Prop) → (String → Wd → Prop) → Prop := Ct yX7_stateOf cX7_stateOf 5 (some .int) rmX7_stateOf
abbrev KX7_sum : List Value → Wd → (Option Value → Wd → Prop) → (String → Wd → Prop) → Prop := Ct yX7_sum cX7_sum 2 (some .int) rmX7_sum
abbrev KX7_sweep : List Value → Wd → (Option Value → Wd → Prop) → (String → Wd → Prop) → Prop := Ct yX7_sweep cX7_sweep 7 (some .int) rmX7_sweep
abbrev KX7_table : List Value → Wd → (Option Value → Wd → Prop) → (String → Wd → Prop) → Prop := Ct yX7_table cX7_table 3 (some .int) rmX7_table
abbrev KX7_tableFault : List Value → Wd → (Option Value → Wd → Prop) → (String → Wd → Prop) → Prop := Ct yX7_tableFault cX7_tableFault 4 (some .int) rmX7_tableFault
abbrev KX7_thrown : List Value → Wd → (Option Value → Wd → Prop) → (String → Wd → Prop) → Prop := Ct yX7_thrown cX7_thrown 1 (some .int) rmX7_thrown
abbrev KX7_truth : List Value → Wd → (Option Value → Wd → Prop) → (String → Wd → Prop) → Prop := Ct yX7_truth cX7_truth 1 (some .boolean) rmX7_truth
abbrev KX7_truthNow : List Value → Wd → (Option Value → Wd → Prop) → (String → Wd → Prop) → Prop := Ct yX7_truthNow cX7_truthNow 5 (some .boolean) rmX7_truthNow
abbrev KX7_valueOf : List Value → Wd → (Option Value → Wd → Prop) → (String → Wd → Prop) → Prop := Ct yX7_valueOf cX7_valueOf 1 (some .int) rmX7_valueOf
end
section
/-! CODES: numbers below 256 -/
section Z0
variable {y : MethodName} {cc : ByteArray} {nL : Nat} {ret : Option FieldType} {hh : List (Nat × Nat × Nat × Nat)} {R : Room} {Q : Option Value → Wd → Prop} {QX : String → Wd → Prop} {pc : Nat} {L : List (Option Value)} {st : List Value} {σ : Wd} {cells slots : Nat}
theorem z_eqi {x : Int32} (x' : Int32) (h : x = x') (k : T y cc nL ret hh R Q QX pc L (.int x' :: st) σ cells slots) : T y cc nL ret hh R Q QX pc L (.int x :: st) σ cells slots := by rw [h]; exact k
theorem z_eql {x : Int64} (x' : Int64) (h : x = x') (k : T y cc nL ret hh R Q QX pc L (.long x' :: st) σ cells slots) : T y cc nL ret hh R Q QX pc L (.long x :: st) σ cells slots := by rw [h]; exact k
theorem z_eqw {u : Wd} (h : σ = u) (k : T y cc nL ret hh R Q QX pc L st u cells slots) : T y cc nL ret hh R Q QX pc L st σ cells slots := by rw [h]; exact k
theorem i_rt {b : Bool} {u : Wd} (d : decode cc pc = .ok (.ireturn, 1)) (hr : ret = some .boolean) (hc : cells ≤ R.cells) (hs : slots ≤ R.slots) (hb : b = true) (hu : σ = u) : T y cc nL ret hh R (Rt (some (.int (iI (bI b)))) u) QX pc L [.int (iI 1)] σ cells slots := by subst hb; exact i_zret (b := true) d hr hc hs hu
theorem i_rf {b : Bool} {u : Wd} (d : decode cc pc = .ok (.ireturn, 1)) (hr : ret = some .boolean) (hc : cells ≤ R.cells) (hs : slots ≤ R.slots) (hb : b = false) (hu : σ = u) : T y cc nL ret hh R (Rt (some (.int (iI (bI b)))) u) QX pc L [.int (iI 0)] σ cells slots := by subst hb; exact i_zret (b := false) d hr hc hs hu
end Z0
theorem sh1 {w : Int} (h : 0 ≤ w ∧ w < 64) : iI w <<< (iI 1 &&& 31) = iI (2 * w) := by
  obtain ⟨n, rfl⟩ := Int.eq_ofNat_of_zero_le h.1
  have k : ∀ n : Nat, n < 64 → iI (n : Int) <<< (iI 1 &&& 31) = iI (2 * (n : Int)) := by decide +kernel
  exact k n (by omega)
theorem or128 {w : Int} (h : 0 ≤ w ∧ w < 128) : iI w ||| iI 128 = iI (w + 128) := by
  obtain ⟨n, rfl⟩ := Int.eq_ofNat_of_zero_le h.1
  have k : ∀ n : Nat, n < 128 → iI (n : Int) ||| iI 128 = iI ((n : Int) + 128) := by decide +kernel
  exact k n (by omega)
theorem or1 {w : Int} (h : 0 ≤ w ∧ w < 128) : iI (2 * w) ||| iI 1 = iI (2 * w + 1) := by
  obtain ⟨n, rfl⟩ := Int.eq_ofNat_of_zero_le h.1
  have k : ∀ n : Nat, n < 128 → iI (2 * (n : Int)) ||| iI 1 = iI (2 * (n : Int) + 1) := by decide +kernel
  exact k n (by omega)
/-- a state of an atom as a number: leads, value, opinion -/
def enc (ld : Bool) (v : Int) (op : Bool) : Int := 128 * bI ld + 2 * (v + 32) + bI op
def cdv (c : Nat) : Int := ((c / 2 % 64 : Nat) : Int) - 32
def cdl (c : Nat) : Bool := Nat.ble 128 c
def cdo (c : Nat) : Bool := Nat.beq (c % 2) 1
theorem cd_val : ∀ c : Nat, c < 256 → ((iI (c : Int) >>> (iI 1 &&& 31)) &&& iI 63) = iI ((c / 2 % 64 : Nat) : Int) := by decide +kernel
theorem cd_lead : ∀ c : Nat, c < 256 → (iI (c : Int) &&& iI 128) = iI (128 * bI (cdl c)) := by decide +kernel
theorem cd_op : ∀ c : Nat, c < 256 → (iI (c : Int) &&& iI 1) = iI (bI (cdo c)) := by decide +kernel
theorem k_X1_of (ld op : Bool) (v : Int) (hv : -32 ≤ v ∧ v < 32) (σ : Wd) : KX1_of [.int (iI (bI ld)), .int (iI v), .int (iI (bI op))] σ (Rt (some (.int (iI (enc ld v op)))) σ) NX := by
  refine Ct.intro (by decide) (Nat.le_of_ble_eq_true rfl) ?_
  refine z_iload_n dX1_of_0 rfl ?_
  refine i_bipush dX1_of_1 (by decide) ?_
  refine i_iadd dX1_of_3 ?_
  refine i_iconst dX1_of_4 rfl ?_
  refine z_ishl dX1_of_5 ?_
  refine z_eqi (iI (2 * (v + 32))) (sh1 (by omega)) ?_
  refine z_istore_n dX1_of_6 (by decide) ?_
  refine z_iload_n dX1_of_7 rfl ?_
  refine i_ifb_eq (tgt := 17) dX1_of_8 (by decide) (fun h1 => ?_) (fun h1 => ?_)
  · skip
    subst h1
    refine z_iload_n dX1_of_17 rfl ?_
    refine i_ifb_eq (tgt := 27) dX1_of_18 (by decide) (fun h2 => ?_) (fun h2 => ?_)
    · skip
      subst h2
      refine z_iload_n dX1_of_27 rfl ?_
      refine z_eqi (iI (enc false v false)) (by congr 1; simp [enc, bI]) ?_
      exact i_iret dX1_of_28 rfl (by decide) (by decide) rfl
    · skip
      subst h2
      refine z_iload_n dX1_of_21 rfl ?_
      refine i_iconst dX1_of_22 rfl ?_
      refine z_ior dX1_of_23 ?_
      refine z_eqi (iI (enc false v true)) ((or1 (by omega)).trans (by congr 1; simp [enc, bI])) ?_
      refine z_goto (tgt := 28) dX1_of_24 (by decide) ?_
      exact i_iret dX1_of_28 rfl (by decide) (by decide) rfl
  · skip
    subst h1
    refine z_iload_n dX1_of_11 rfl ?_
    refine i_sipush dX1_of_12 (by decide) ?_
    refine z_ior dX1_of_15 ?_
    refine z_eqi (iI (2 * (v + 96))) ((or128 (by omega)).trans (by congr 1; omega)) ?_
    refine z_istore_n dX1_of_16 (by decide) ?_
    refine z_iload_n dX1_of_17 rfl ?_
    refine i_ifb_eq (tgt := 27) dX1_of_18 (by decide) (fun h2 => ?_) (fun h2 => ?_)
    · skip
      subst h2
      refine z_iload_n dX1_of_27 rfl ?_
      refine z_eqi (iI (enc true v false)) (by congr 1; simp [enc, bI]; omega) ?_
      exact i_iret dX1_of_28 rfl (by decide) (by decide) rfl
    · skip
      subst h2
      refine z_iload_n dX1_of_21 rfl ?_
      refine i_iconst dX1_of_22 rfl ?_
      refine z_ior dX1_of_23 ?_
      refine z_eqi (iI (enc true v true)) ((or1 (by omega)).trans (by congr 1; simp [enc, bI]; omega)) ?_
      refine z_goto (tgt := 28) dX1_of_24 (by decide) ?_
      exact i_iret dX1_of_28 rfl (by decide) (by decide) rfl
theorem k_X1_value (c : Nat) (hc : c < 256) (σ : Wd) : KX1_value [.int (iI c)] σ (Rt (some (.int (iI (cdv c)))) σ) NX := by
  refine Ct.intro (by decide) (Nat.le_of_ble_eq_true rfl) ?_
  refine z_iload_n dX1_value_0 rfl ?_
  refine i_iconst dX1_value_1 rfl ?_
  refine z_ishr dX1_value_2 ?_
  refine i_bipush dX1_value_3 (by decide) ?_
  refine z_iand dX1_value_5 ?_
  refine z_eqi _ (cd_val c hc) ?_
  refine i_bipush dX1_value_6 (by decide) ?_
  refine i_isub dX1_value_8 ?_
  exact i_iret dX1_value_9 rfl (by decide) (by decide) rfl
theorem k_X1_leads (c : Nat) (hc : c < 256) (σ : Wd) : KX1_leads [.int (iI c)] σ (Rt (some (.int (iI (bI (cdl c))))) σ) NX := by
  refine Ct.intro (by decide) (Nat.le_of_ble_eq_true rfl) ?_
  refine z_iload_n dX1_leads_0 rfl ?_
  refine i_sipush dX1_leads_1 (by decide) ?_
  refine z_iand dX1_leads_4 ?_
  refine z_eqi _ (cd_lead c hc) ?_
  have hb := bI_r (cdl c)
  refine i_if_eq (tgt := 12) dX1_leads_5 (by decide) (by omega) (fun h1 => ?_) (fun h1 => ?_)
  · skip
    refine i_iconst dX1_leads_12 rfl ?_
    exact i_rf dX1_leads_13 rfl (by decide) (by decide) (bI_0.mp (by omega)) rfl
  · skip
    refine i_iconst dX1_leads_8 rfl ?_
    refine z_goto (tgt := 13) dX1_leads_9 (by decide) ?_
    exact i_rt dX1_leads_13 rfl (by decide) (by decide) (bI_1.mp (by omega)) rfl
theorem k_X1_opinion (c : Nat) (hc : c < 256) (σ : Wd) : KX1_opinion [.int (iI c)] σ (Rt (some (.int (iI (bI (cdo c))))) σ) NX := by
  refine Ct.intro (by decide) (Nat.le_of_ble_eq_true rfl) ?_
  refine z_iload_n dX1_opinion_0 rfl ?_
  refine i_iconst dX1_opinion_1 rfl ?_
  refine z_iand dX1_opinion_2 ?_
  refine z_eqi _ (cd_op c hc) ?_
  exact i_iret dX1_opinion_3 rfl (by decide) (by decide) rfl
theorem k_X1_fact (c : Nat) (hc : c < 256) (w : Int) (hw : 0 ≤ w ∧ w < 3) (σ : Wd) : KX1_fact [.int (iI c), .int (iI w)] σ (Rt (some (.int (iI (if w = 0 then cdv c else if w = 1 then bI (cdl c) else bI (cdo c))))) σ) NX := by
  refine Ct.intro (by decide) (Nat.le_of_ble_eq_true rfl) ?_
  refine z_iload_n dX1_fact_0 rfl ?_
  refine i_if_ne (tgt := 9) dX1_fact_1 (by decide) (by omega) (fun h1 => ?_) (fun h1 => ?_)
  · skip
    rw [if_neg h1]
    refine z_iload_n dX1_fact_9 rfl ?_
    refine i_iconst dX1_fact_10 rfl ?_
    refine i_icmp_ne (tgt := 27) dX1_fact_11 (by decide) (by omega) (by omega) (fun h2 => ?_) (fun h2 => ?_)
    · skip
      rw [if_neg h2]
      refine z_iload_n dX1_fact_27 rfl ?_
      refine i_cSr (k_X1_opinion c hc σ) mX1_17 dX1_fact_28 rfl rfl ⟨by decide, by decide⟩ (Nat.le_of_ble_eq_true rfl) ⟨by decide, by decide⟩ ?_
      exact i_iret dX1_fact_31 rfl (by decide) (by decide) rfl
    · skip
      rw [if_pos h2]
      refine z_iload_n dX1_fact_14 rfl ?_
      refine i_cSr (k_X1_leads c hc σ) mX1_13 dX1_fact_15 rfl rfl ⟨by decide, by decide⟩ (Nat.le_of_ble_eq_true rfl) ⟨by decide, by decide⟩ ?_
      refine i_ifb_eq (tgt := 25) dX1_fact_18 (by decide) (fun h3 => ?_) (fun h3 => ?_)
      · skip
        refine i_iconst dX1_fact_25 rfl ?_
        rw [h3]
        exact i_iret dX1_fact_26 rfl (by decide) (by decide) rfl
      · skip
        refine i_iconst dX1_fact_21 rfl ?_
        refine z_goto (tgt := 26) dX1_fact_22 (by decide) ?_
        rw [h3]
        exact i_iret dX1_fact_26 rfl (by decide) (by decide) rfl
  · skip
    rw [if_pos h1]
    refine z_iload_n dX1_fact_4 rfl ?_
    refine i_cSr (k_X1_value c hc σ) mX1_9 dX1_fact_5 rfl rfl ⟨by decide, by decide⟩ (Nat.le_of_ble_eq_true rfl) ⟨by decide, by decide⟩ ?_
    exact i_iret dX1_fact_8 rfl (by decide) (by decide) rfl
theorem or_sh8 {a b : Nat} (ha : a < 256) (hb : b < 256) : (iI (a : Int) <<< (iI 8 &&& 31)) ||| iI (b : Int) = iI ((a * 256 + b : Nat) : Int) := by
  rw [iI_nat, iI_nat, iI_nat, show iI 8 &&& 31 = 8 from rfl, pk_shlN (8 : Int32) 8 (by decide) (by omega)]
  rw [← Int32.toBitVec_inj, Int32.toBitVec_or]
  show BitVec.ofNat 32 (a * 2 ^ 8) ||| BitVec.ofNat 32 b = BitVec.ofNat 32 (a * 256 + b)
  rw [← BitVec.ofNat_or]
  congr 1
  rw [show a * 2 ^ 8 = a <<< 8 by rw [Nat.shiftLeft_eq], ← Nat.shiftLeft_add_eq_or_of_lt (by omega), Nat.shiftLeft_eq]
theorem k_X1_pair (a b : Nat) (ha : a < 256) (hb : b < 256) (σ : Wd) : KX1_pair [.int (iI a), .int (iI b)] σ (Rt (some (.int (iI ((a * 256 + b : Nat) : Int)))) σ) NX := by
  refine Ct.intro (by decide) (Nat.le_of_ble_eq_true rfl) ?_
  refine z_iload_n dX1_pair_0 rfl ?_
  refine i_bipush dX1_pair_1 (by decide) ?_
  refine z_ishl dX1_pair_3 ?_
  refine z_iload_n dX1_pair_4 rfl ?_
  refine z_ior dX1_pair_5 ?_
  refine z_eqi _ (or_sh8 ha hb) ?_
  exact i_iret dX1_pair_6 rfl (by decide) (by decide) rfl
theorem fst8 {p : Nat} (hp : p < 65536) : (iI (p : Int) >>> (iI 8 &&& 31)) &&& iI 255 = iI ((p / 256 : Nat) : Int) := by
  rw [iI_nat, iI_nat, show iI 8 &&& 31 = 8 from rfl, pk_shrN (by omega) (8 : Int32) 8 (by decide), pk_andN (by omega) 8 (by decide)]
  congr 1
  omega
theorem snd8 {p : Nat} (hp : p < 65536) : iI (p : Int) &&& iI 255 = iI ((p % 256 : Nat) : Int) := by
  rw [iI_nat, iI_nat, pk_andN (by omega) 8 (by decide)]
theorem k_X1_first (p : Nat) (hp : p < 65536) (σ : Wd) : KX1_first [.int (iI p)] σ (Rt (some (.int (iI ((p / 256 : Nat) : Int)))) σ) NX := by
  refine Ct.intro (by decide) (Nat.le_of_ble_eq_true rfl) ?_
  refine z_iload_n dX1_first_0 rfl ?_
  refine i_bipush dX1_first_1 (by decide) ?_
  refine z_ishr dX1_first_3 ?_
  refine i_sipush dX1_first_4 (by decide) ?_
  refine z_iand dX1_first_7 ?_
  refine z_eqi _ (fst8 hp) ?_
  exact i_iret dX1_first_8 rfl (by decide) (by decide) rfl
theorem k_X1_second (p : Nat) (hp : p < 65536) (σ : Wd) : KX1_second [.int (iI p)] σ (Rt (some (.int (iI ((p % 256 : Nat) : Int)))) σ) NX := by
  refine Ct.intro (by decide) (Nat.le_of_ble_eq_true rfl) ?_
  refine z_iload_n dX1_second_0 rfl ?_
  refine i_sipush dX1_second_1 (by decide) ?_
  refine z_iand dX1_second_4 ?_
  refine z_eqi _ (snd8 hp) ?_
  exact i_iret dX1_second_5 rfl (by decide) (by decide) rfl
end
