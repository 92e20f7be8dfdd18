section
-- ===== PART A: goes FIRST, ahead of the names: the tables' words, and 'selects' of the private methods out of them =====
/-- a private method of a class that the tables say can be made, by its rows of tables_1 -/
def lw_okq (q : MethodName × Nat) : Prop := (q.1.cls ≠ "java/lang/invoke/MethodHandle" ∧ q.1.cls ≠ "java/lang/invoke/VarHandle") ∧ Cond.instantiable q.1.cls q.2 ∈ tables_1 ∧ Cond.privateMethod q.1 ∈ tables_1 ∧ Cond.instanceMethod q.1 ∈ tables_1
theorem lw_p0 : lw_okq (⟨"BarrierLights", "controllerOf", "(I)LBarrierLights$Controller;"⟩, 4) := ⟨⟨by decide +kernel, by decide +kernel⟩, List.mem_of_getElem? (i := 20) (by decide +kernel), List.mem_of_getElem? (i := 261) (by decide +kernel), List.mem_of_getElem? (i := 262) (by decide +kernel)⟩
theorem lw_p1 : lw_okq (⟨"BarrierLights$Controller", "ring", "(I)LBarrierLights$Ring;"⟩, 16) := ⟨⟨by decide +kernel, by decide +kernel⟩, List.mem_of_getElem? (i := 45) (by decide +kernel), List.mem_of_getElem? (i := 391) (by decide +kernel), List.mem_of_getElem? (i := 392) (by decide +kernel)⟩
theorem lw_p2 : lw_okq (⟨"java/lang/Throwable", "fillInStackTrace", "(I)Ljava/lang/Throwable;"⟩, 6) := ⟨⟨by decide +kernel, by decide +kernel⟩, List.mem_of_getElem? (i := 474) (by decide +kernel), List.mem_of_getElem? (i := 472) (by decide +kernel), List.mem_of_getElem? (i := 473) (by decide +kernel)⟩
theorem lw_p3 : lw_okq (⟨"BarrierLights$Table", "isRight", "(II)Z"⟩, 1) := ⟨⟨by decide +kernel, by decide +kernel⟩, List.mem_of_getElem? (i := 51) (by decide +kernel), List.mem_of_getElem? (i := 517) (by decide +kernel), List.mem_of_getElem? (i := 518) (by decide +kernel)⟩
theorem lw_p4 : lw_okq (⟨"BarrierLights$Controller", "passCalls", "()V"⟩, 16) := ⟨⟨by decide +kernel, by decide +kernel⟩, List.mem_of_getElem? (i := 45) (by decide +kernel), List.mem_of_getElem? (i := 590) (by decide +kernel), List.mem_of_getElem? (i := 591) (by decide +kernel)⟩
theorem lw_p5 : lw_okq (⟨"BarrierLights$Controller", "passGap", "(LBarrierLights$Ring;)V"⟩, 16) := ⟨⟨by decide +kernel, by decide +kernel⟩, List.mem_of_getElem? (i := 45) (by decide +kernel), List.mem_of_getElem? (i := 598) (by decide +kernel), List.mem_of_getElem? (i := 599) (by decide +kernel)⟩
theorem lw_p6 : lw_okq (⟨"BarrierLights$Controller", "noteCalls", "(I)V"⟩, 16) := ⟨⟨by decide +kernel, by decide +kernel⟩, List.mem_of_getElem? (i := 45) (by decide +kernel), List.mem_of_getElem? (i := 606) (by decide +kernel), List.mem_of_getElem? (i := 607) (by decide +kernel)⟩
theorem lw_p7 : lw_okq (⟨"BarrierLights$Controller", "passTimes", "(LBarrierLights$Ring;)V"⟩, 16) := ⟨⟨by decide +kernel, by decide +kernel⟩, List.mem_of_getElem? (i := 45) (by decide +kernel), List.mem_of_getElem? (i := 614) (by decide +kernel), List.mem_of_getElem? (i := 615) (by decide +kernel)⟩
theorem lw_p8 : lw_okq (⟨"BarrierLights$Controller", "countingCalls", "()I"⟩, 16) := ⟨⟨by decide +kernel, by decide +kernel⟩, List.mem_of_getElem? (i := 45) (by decide +kernel), List.mem_of_getElem? (i := 630) (by decide +kernel), List.mem_of_getElem? (i := 631) (by decide +kernel)⟩
theorem lw_p9 : lw_okq (⟨"BarrierLights$Controller", "greenPhases", "()I"⟩, 16) := ⟨⟨by decide +kernel, by decide +kernel⟩, List.mem_of_getElem? (i := 45) (by decide +kernel), List.mem_of_getElem? (i := 634) (by decide +kernel), List.mem_of_getElem? (i := 635) (by decide +kernel)⟩
theorem lw_p10 : lw_okq (⟨"BarrierLights$Controller", "weigh", "(LBarrierLights$Ring;I)V"⟩, 16) := ⟨⟨by decide +kernel, by decide +kernel⟩, List.mem_of_getElem? (i := 45) (by decide +kernel), List.mem_of_getElem? (i := 643) (by decide +kernel), List.mem_of_getElem? (i := 644) (by decide +kernel)⟩
theorem lw_p11 : lw_okq (⟨"BarrierLights$Controller", "end", "(LBarrierLights$Ring;)V"⟩, 16) := ⟨⟨by decide +kernel, by decide +kernel⟩, List.mem_of_getElem? (i := 45) (by decide +kernel), List.mem_of_getElem? (i := 663) (by decide +kernel), List.mem_of_getElem? (i := 664) (by decide +kernel)⟩
theorem lw_p12 : lw_okq (⟨"BarrierLights$Controller", "begin", "(LBarrierLights$Ring;I)V"⟩, 16) := ⟨⟨by decide +kernel, by decide +kernel⟩, List.mem_of_getElem? (i := 45) (by decide +kernel), List.mem_of_getElem? (i := 667) (by decide +kernel), List.mem_of_getElem? (i := 668) (by decide +kernel)⟩
theorem lw_p13 : lw_okq (⟨"BarrierLights$Controller", "beginWalk", "(LBarrierLights$Ring;)V"⟩, 16) := ⟨⟨by decide +kernel, by decide +kernel⟩, List.mem_of_getElem? (i := 45) (by decide +kernel), List.mem_of_getElem? (i := 676) (by decide +kernel), List.mem_of_getElem? (i := 677) (by decide +kernel)⟩
theorem lw_p14 : lw_okq (⟨"BarrierLights$Controller", "goByInput", "(I)V"⟩, 16) := ⟨⟨by decide +kernel, by decide +kernel⟩, List.mem_of_getElem? (i := 45) (by decide +kernel), List.mem_of_getElem? (i := 684) (by decide +kernel), List.mem_of_getElem? (i := 685) (by decide +kernel)⟩
theorem lw_p15 : lw_okq (⟨"BarrierLights$Controller", "goalOf", "(II)I"⟩, 16) := ⟨⟨by decide +kernel, by decide +kernel⟩, List.mem_of_getElem? (i := 45) (by decide +kernel), List.mem_of_getElem? (i := 691) (by decide +kernel), List.mem_of_getElem? (i := 692) (by decide +kernel)⟩
def lw_privs_1 : List (MethodName × Nat) := [(⟨"BarrierLights", "controllerOf", "(I)LBarrierLights$Controller;"⟩, 4), (⟨"BarrierLights$Controller", "ring", "(I)LBarrierLights$Ring;"⟩, 16), (⟨"java/lang/Throwable", "fillInStackTrace", "(I)Ljava/lang/Throwable;"⟩, 6), (⟨"BarrierLights$Table", "isRight", "(II)Z"⟩, 1), (⟨"BarrierLights$Controller", "passCalls", "()V"⟩, 16), (⟨"BarrierLights$Controller", "passGap", "(LBarrierLights$Ring;)V"⟩, 16), (⟨"BarrierLights$Controller", "noteCalls", "(I)V"⟩, 16), (⟨"BarrierLights$Controller", "passTimes", "(LBarrierLights$Ring;)V"⟩, 16), (⟨"BarrierLights$Controller", "countingCalls", "()I"⟩, 16), (⟨"BarrierLights$Controller", "greenPhases", "()I"⟩, 16), (⟨"BarrierLights$Controller", "weigh", "(LBarrierLights$Ring;I)V"⟩, 16), (⟨"BarrierLights$Controller", "end", "(LBarrierLights$Ring;)V"⟩, 16), (⟨"BarrierLights$Controller", "begin", "(LBarrierLights$Ring;I)V"⟩, 16), (⟨"BarrierLights$Controller", "beginWalk", "(LBarrierLights$Ring;)V"⟩, 16), (⟨"BarrierLights$Controller", "goByInput", "(I)V"⟩, 16), (⟨"BarrierLights$Controller", "goalOf", "(II)I"⟩, 16)]
theorem lw_r1 : ∀ q ∈ lw_privs_1, lw_okq q := List.forall_mem_cons.mpr ⟨lw_p0, List.forall_mem_cons.mpr ⟨lw_p1, List.forall_mem_cons.mpr ⟨lw_p2, List.forall_mem_cons.mpr ⟨lw_p3, List.forall_mem_cons.mpr ⟨lw_p4, List.forall_mem_cons.mpr ⟨lw_p5, List.forall_mem_cons.mpr ⟨lw_p6, List.forall_mem_cons.mpr ⟨lw_p7, List.forall_mem_cons.mpr ⟨lw_p8, List.forall_mem_cons.mpr ⟨lw_p9, List.forall_mem_cons.mpr ⟨lw_p10, List.forall_mem_cons.mpr ⟨lw_p11, List.forall_mem_cons.mpr ⟨lw_p12, List.forall_mem_cons.mpr ⟨lw_p13, List.forall_mem_cons.mpr ⟨lw_p14, List.forall_mem_cons.mpr ⟨lw_p15, fun _ h => absurd h List.not_mem_nil⟩⟩⟩⟩⟩⟩⟩⟩⟩⟩⟩⟩⟩⟩⟩⟩
theorem lw_p16 : lw_okq (⟨"BarrierLights$Controller", "giveWay", "(LBarrierLights$Ring;IZ)V"⟩, 16) := ⟨⟨by decide +kernel, by decide +kernel⟩, List.mem_of_getElem? (i := 45) (by decide +kernel), List.mem_of_getElem? (i := 695) (by decide +kernel), List.mem_of_getElem? (i := 696) (by decide +kernel)⟩
theorem lw_p17 : lw_okq (⟨"BarrierLights$Controller", "mayLeaveByInput", "(LBarrierLights$Ring;)Z"⟩, 16) := ⟨⟨by decide +kernel, by decide +kernel⟩, List.mem_of_getElem? (i := 45) (by decide +kernel), List.mem_of_getElem? (i := 708) (by decide +kernel), List.mem_of_getElem? (i := 709) (by decide +kernel)⟩
theorem lw_p18 : lw_okq (⟨"BarrierLights$Controller", "leaveSide", "()V"⟩, 16) := ⟨⟨by decide +kernel, by decide +kernel⟩, List.mem_of_getElem? (i := 45) (by decide +kernel), List.mem_of_getElem? (i := 712) (by decide +kernel), List.mem_of_getElem? (i := 713) (by decide +kernel)⟩
theorem lw_p19 : lw_okq (⟨"BarrierLights$Controller", "goByCalls", "(Z)V"⟩, 16) := ⟨⟨by decide +kernel, by decide +kernel⟩, List.mem_of_getElem? (i := 45) (by decide +kernel), List.mem_of_getElem? (i := 724) (by decide +kernel), List.mem_of_getElem? (i := 725) (by decide +kernel)⟩
theorem lw_p20 : lw_okq (⟨"BarrierLights$Controller", "goOn", "(LBarrierLights$Ring;Z)V"⟩, 16) := ⟨⟨by decide +kernel, by decide +kernel⟩, List.mem_of_getElem? (i := 45) (by decide +kernel), List.mem_of_getElem? (i := 728) (by decide +kernel), List.mem_of_getElem? (i := 729) (by decide +kernel)⟩
theorem lw_p21 : lw_okq (⟨"BarrierLights$Controller", "isDone", "(LBarrierLights$Ring;Z)Z"⟩, 16) := ⟨⟨by decide +kernel, by decide +kernel⟩, List.mem_of_getElem? (i := 45) (by decide +kernel), List.mem_of_getElem? (i := 732) (by decide +kernel), List.mem_of_getElem? (i := 733) (by decide +kernel)⟩
theorem lw_p22 : lw_okq (⟨"BarrierLights$Controller", "mayLeave", "(LBarrierLights$Ring;Z)Z"⟩, 16) := ⟨⟨by decide +kernel, by decide +kernel⟩, List.mem_of_getElem? (i := 45) (by decide +kernel), List.mem_of_getElem? (i := 736) (by decide +kernel), List.mem_of_getElem? (i := 737) (by decide +kernel)⟩
theorem lw_p23 : lw_okq (⟨"BarrierLights$Controller", "cross", "(I)V"⟩, 16) := ⟨⟨by decide +kernel, by decide +kernel⟩, List.mem_of_getElem? (i := 45) (by decide +kernel), List.mem_of_getElem? (i := 740) (by decide +kernel), List.mem_of_getElem? (i := 741) (by decide +kernel)⟩
theorem lw_p24 : lw_okq (⟨"BarrierLights$Controller", "firstOfSide", "(II)I"⟩, 16) := ⟨⟨by decide +kernel, by decide +kernel⟩, List.mem_of_getElem? (i := 45) (by decide +kernel), List.mem_of_getElem? (i := 744) (by decide +kernel), List.mem_of_getElem? (i := 745) (by decide +kernel)⟩
theorem lw_p25 : lw_okq (⟨"BarrierLights$Controller", "watch", "()V"⟩, 16) := ⟨⟨by decide +kernel, by decide +kernel⟩, List.mem_of_getElem? (i := 45) (by decide +kernel), List.mem_of_getElem? (i := 748) (by decide +kernel), List.mem_of_getElem? (i := 749) (by decide +kernel)⟩
theorem lw_p26 : lw_okq (⟨"BarrierLights$Monitor", "seesConflict", "(I)Z"⟩, 4) := ⟨⟨by decide +kernel, by decide +kernel⟩, List.mem_of_getElem? (i := 118) (by decide +kernel), List.mem_of_getElem? (i := 762) (by decide +kernel), List.mem_of_getElem? (i := 763) (by decide +kernel)⟩
theorem lw_p27 : lw_okq (⟨"BarrierLights$Monitor", "seesDark", "(I)Z"⟩, 4) := ⟨⟨by decide +kernel, by decide +kernel⟩, List.mem_of_getElem? (i := 118) (by decide +kernel), List.mem_of_getElem? (i := 775) (by decide +kernel), List.mem_of_getElem? (i := 776) (by decide +kernel)⟩
theorem lw_p28 : lw_okq (⟨"BarrierLights$Monitor", "seesShort", "(I)Z"⟩, 4) := ⟨⟨by decide +kernel, by decide +kernel⟩, List.mem_of_getElem? (i := 118) (by decide +kernel), List.mem_of_getElem? (i := 779) (by decide +kernel), List.mem_of_getElem? (i := 780) (by decide +kernel)⟩
theorem lw_p29 : lw_okq (⟨"BarrierLights$Monitor", "remember", "()V"⟩, 4) := ⟨⟨by decide +kernel, by decide +kernel⟩, List.mem_of_getElem? (i := 118) (by decide +kernel), List.mem_of_getElem? (i := 783) (by decide +kernel), List.mem_of_getElem? (i := 784) (by decide +kernel)⟩
theorem lw_p30 : lw_okq (⟨"BarrierLightsModel", "wrongPlace", "(I)I"⟩, 37) := ⟨⟨by decide +kernel, by decide +kernel⟩, List.mem_of_getElem? (i := 787) (by decide +kernel), List.mem_of_getElem? (i := 924) (by decide +kernel), List.mem_of_getElem? (i := 925) (by decide +kernel)⟩
theorem lw_p31 : lw_okq (⟨"BarrierLightsModel", "isWrong", "(II)Z"⟩, 37) := ⟨⟨by decide +kernel, by decide +kernel⟩, List.mem_of_getElem? (i := 787) (by decide +kernel), List.mem_of_getElem? (i := 928) (by decide +kernel), List.mem_of_getElem? (i := 929) (by decide +kernel)⟩
def lw_privs_2 : List (MethodName × Nat) := [(⟨"BarrierLights$Controller", "giveWay", "(LBarrierLights$Ring;IZ)V"⟩, 16), (⟨"BarrierLights$Controller", "mayLeaveByInput", "(LBarrierLights$Ring;)Z"⟩, 16), (⟨"BarrierLights$Controller", "leaveSide", "()V"⟩, 16), (⟨"BarrierLights$Controller", "goByCalls", "(Z)V"⟩, 16), (⟨"BarrierLights$Controller", "goOn", "(LBarrierLights$Ring;Z)V"⟩, 16), (⟨"BarrierLights$Controller", "isDone", "(LBarrierLights$Ring;Z)Z"⟩, 16), (⟨"BarrierLights$Controller", "mayLeave", "(LBarrierLights$Ring;Z)Z"⟩, 16), (⟨"BarrierLights$Controller", "cross", "(I)V"⟩, 16), (⟨"BarrierLights$Controller", "firstOfSide", "(II)I"⟩, 16), (⟨"BarrierLights$Controller", "watch", "()V"⟩, 16), (⟨"BarrierLights$Monitor", "seesConflict", "(I)Z"⟩, 4), (⟨"BarrierLights$Monitor", "seesDark", "(I)Z"⟩, 4), (⟨"BarrierLights$Monitor", "seesShort", "(I)Z"⟩, 4), (⟨"BarrierLights$Monitor", "remember", "()V"⟩, 4), (⟨"BarrierLightsModel", "wrongPlace", "(I)I"⟩, 37), (⟨"BarrierLightsModel", "isWrong", "(II)Z"⟩, 37)]
theorem lw_r2 : ∀ q ∈ lw_privs_2, lw_okq q := List.forall_mem_cons.mpr ⟨lw_p16, List.forall_mem_cons.mpr ⟨lw_p17, List.forall_mem_cons.mpr ⟨lw_p18, List.forall_mem_cons.mpr ⟨lw_p19, List.forall_mem_cons.mpr ⟨lw_p20, List.forall_mem_cons.mpr ⟨lw_p21, List.forall_mem_cons.mpr ⟨lw_p22, List.forall_mem_cons.mpr ⟨lw_p23, List.forall_mem_cons.mpr ⟨lw_p24, List.forall_mem_cons.mpr ⟨lw_p25, List.forall_mem_cons.mpr ⟨lw_p26, List.forall_mem_cons.mpr ⟨lw_p27, List.forall_mem_cons.mpr ⟨lw_p28, List.forall_mem_cons.mpr ⟨lw_p29, List.forall_mem_cons.mpr ⟨lw_p30, List.forall_mem_cons.mpr ⟨lw_p31, fun _ h => absurd h List.not_mem_nil⟩⟩⟩⟩⟩⟩⟩⟩⟩⟩⟩⟩⟩⟩⟩⟩
theorem lw_p32 : lw_okq (⟨"BarrierLightsModel", "entry", "(III)I"⟩, 37) := ⟨⟨by decide +kernel, by decide +kernel⟩, List.mem_of_getElem? (i := 787) (by decide +kernel), List.mem_of_getElem? (i := 935) (by decide +kernel), List.mem_of_getElem? (i := 936) (by decide +kernel)⟩
theorem lw_p33 : lw_okq (⟨"BarrierLightsModel", "start", "(I)V"⟩, 37) := ⟨⟨by decide +kernel, by decide +kernel⟩, List.mem_of_getElem? (i := 787) (by decide +kernel), List.mem_of_getElem? (i := 939) (by decide +kernel), List.mem_of_getElem? (i := 940) (by decide +kernel)⟩
theorem lw_p34 : lw_okq (⟨"BarrierLightsModel", "stopRing", "(I)V"⟩, 37) := ⟨⟨by decide +kernel, by decide +kernel⟩, List.mem_of_getElem? (i := 787) (by decide +kernel), List.mem_of_getElem? (i := 943) (by decide +kernel), List.mem_of_getElem? (i := 944) (by decide +kernel)⟩
theorem lw_p35 : lw_okq (⟨"BarrierLightsModel", "runs", "(I)Z"⟩, 37) := ⟨⟨by decide +kernel, by decide +kernel⟩, List.mem_of_getElem? (i := 787) (by decide +kernel), List.mem_of_getElem? (i := 959) (by decide +kernel), List.mem_of_getElem? (i := 960) (by decide +kernel)⟩
theorem lw_p36 : lw_okq (⟨"BarrierLightsModel", "step", "(I)V"⟩, 37) := ⟨⟨by decide +kernel, by decide +kernel⟩, List.mem_of_getElem? (i := 787) (by decide +kernel), List.mem_of_getElem? (i := 991) (by decide +kernel), List.mem_of_getElem? (i := 992) (by decide +kernel)⟩
theorem lw_p37 : lw_okq (⟨"BarrierLightsModel", "sense", "(I)V"⟩, 37) := ⟨⟨by decide +kernel, by decide +kernel⟩, List.mem_of_getElem? (i := 787) (by decide +kernel), List.mem_of_getElem? (i := 995) (by decide +kernel), List.mem_of_getElem? (i := 996) (by decide +kernel)⟩
theorem lw_p38 : lw_okq (⟨"BarrierLightsModel", "link", "(I)V"⟩, 37) := ⟨⟨by decide +kernel, by decide +kernel⟩, List.mem_of_getElem? (i := 787) (by decide +kernel), List.mem_of_getElem? (i := 1001) (by decide +kernel), List.mem_of_getElem? (i := 1002) (by decide +kernel)⟩
theorem lw_p39 : lw_okq (⟨"BarrierLightsModel", "inputOf", "(I)I"⟩, 37) := ⟨⟨by decide +kernel, by decide +kernel⟩, List.mem_of_getElem? (i := 787) (by decide +kernel), List.mem_of_getElem? (i := 1005) (by decide +kernel), List.mem_of_getElem? (i := 1006) (by decide +kernel)⟩
theorem lw_p40 : lw_okq (⟨"BarrierLightsModel", "call", "(I)V"⟩, 37) := ⟨⟨by decide +kernel, by decide +kernel⟩, List.mem_of_getElem? (i := 787) (by decide +kernel), List.mem_of_getElem? (i := 1009) (by decide +kernel), List.mem_of_getElem? (i := 1010) (by decide +kernel)⟩
theorem lw_p41 : lw_okq (⟨"BarrierLightsModel", "isGreen", "(II)Z"⟩, 37) := ⟨⟨by decide +kernel, by decide +kernel⟩, List.mem_of_getElem? (i := 787) (by decide +kernel), List.mem_of_getElem? (i := 1013) (by decide +kernel), List.mem_of_getElem? (i := 1014) (by decide +kernel)⟩
theorem lw_p42 : lw_okq (⟨"BarrierLightsModel", "passes", "(II)Z"⟩, 37) := ⟨⟨by decide +kernel, by decide +kernel⟩, List.mem_of_getElem? (i := 787) (by decide +kernel), List.mem_of_getElem? (i := 1020) (by decide +kernel), List.mem_of_getElem? (i := 1021) (by decide +kernel)⟩
theorem lw_p43 : lw_okq (⟨"BarrierLightsModel", "failed", "(II)Z"⟩, 37) := ⟨⟨by decide +kernel, by decide +kernel⟩, List.mem_of_getElem? (i := 787) (by decide +kernel), List.mem_of_getElem? (i := 1024) (by decide +kernel), List.mem_of_getElem? (i := 1025) (by decide +kernel)⟩
theorem lw_p44 : lw_okq (⟨"BarrierLightsModel", "grow", "(IIZ)V"⟩, 37) := ⟨⟨by decide +kernel, by decide +kernel⟩, List.mem_of_getElem? (i := 787) (by decide +kernel), List.mem_of_getElem? (i := 1028) (by decide +kernel), List.mem_of_getElem? (i := 1029) (by decide +kernel)⟩
theorem lw_p45 : lw_okq (⟨"BarrierLightsModel", "pace", "(II)V"⟩, 37) := ⟨⟨by decide +kernel, by decide +kernel⟩, List.mem_of_getElem? (i := 787) (by decide +kernel), List.mem_of_getElem? (i := 1032) (by decide +kernel), List.mem_of_getElem? (i := 1033) (by decide +kernel)⟩
theorem lw_p46 : lw_okq (⟨"BarrierLightsModel", "wanted", "(II)Z"⟩, 37) := ⟨⟨by decide +kernel, by decide +kernel⟩, List.mem_of_getElem? (i := 787) (by decide +kernel), List.mem_of_getElem? (i := 1036) (by decide +kernel), List.mem_of_getElem? (i := 1037) (by decide +kernel)⟩
theorem lw_p47 : lw_okq (⟨"BarrierLightsModel", "forward", "(II)I"⟩, 37) := ⟨⟨by decide +kernel, by decide +kernel⟩, List.mem_of_getElem? (i := 787) (by decide +kernel), List.mem_of_getElem? (i := 1040) (by decide +kernel), List.mem_of_getElem? (i := 1041) (by decide +kernel)⟩
def lw_privs_3 : List (MethodName × Nat) := [(⟨"BarrierLightsModel", "entry", "(III)I"⟩, 37), (⟨"BarrierLightsModel", "start", "(I)V"⟩, 37), (⟨"BarrierLightsModel", "stopRing", "(I)V"⟩, 37), (⟨"BarrierLightsModel", "runs", "(I)Z"⟩, 37), (⟨"BarrierLightsModel", "step", "(I)V"⟩, 37), (⟨"BarrierLightsModel", "sense", "(I)V"⟩, 37), (⟨"BarrierLightsModel", "link", "(I)V"⟩, 37), (⟨"BarrierLightsModel", "inputOf", "(I)I"⟩, 37), (⟨"BarrierLightsModel", "call", "(I)V"⟩, 37), (⟨"BarrierLightsModel", "isGreen", "(II)Z"⟩, 37), (⟨"BarrierLightsModel", "passes", "(II)Z"⟩, 37), (⟨"BarrierLightsModel", "failed", "(II)Z"⟩, 37), (⟨"BarrierLightsModel", "grow", "(IIZ)V"⟩, 37), (⟨"BarrierLightsModel", "pace", "(II)V"⟩, 37), (⟨"BarrierLightsModel", "wanted", "(II)Z"⟩, 37), (⟨"BarrierLightsModel", "forward", "(II)I"⟩, 37)]
theorem lw_r3 : ∀ q ∈ lw_privs_3, lw_okq q := List.forall_mem_cons.mpr ⟨lw_p32, List.forall_mem_cons.mpr ⟨lw_p33, List.forall_mem_cons.mpr ⟨lw_p34, List.forall_mem_cons.mpr ⟨lw_p35, List.forall_mem_cons.mpr ⟨lw_p36, List.forall_mem_cons.mpr ⟨lw_p37, List.forall_mem_cons.mpr ⟨lw_p38, List.forall_mem_cons.mpr ⟨lw_p39, List.forall_mem_cons.mpr ⟨lw_p40, List.forall_mem_cons.mpr ⟨lw_p41, List.forall_mem_cons.mpr ⟨lw_p42, List.forall_mem_cons.mpr ⟨lw_p43, List.forall_mem_cons.mpr ⟨lw_p44, List.forall_mem_cons.mpr ⟨lw_p45, List.forall_mem_cons.mpr ⟨lw_p46, List.forall_mem_cons.mpr ⟨lw_p47, fun _ h => absurd h List.not_mem_nil⟩⟩⟩⟩⟩⟩⟩⟩⟩⟩⟩⟩⟩⟩⟩⟩
theorem lw_p48 : lw_okq (⟨"BarrierLightsModel", "called", "(II)Z"⟩, 37) := ⟨⟨by decide +kernel, by decide +kernel⟩, List.mem_of_getElem? (i := 787) (by decide +kernel), List.mem_of_getElem? (i := 1044) (by decide +kernel), List.mem_of_getElem? (i := 1045) (by decide +kernel)⟩
theorem lw_p49 : lw_okq (⟨"BarrierLightsModel", "needed", "(I)Z"⟩, 37) := ⟨⟨by decide +kernel, by decide +kernel⟩, List.mem_of_getElem? (i := 787) (by decide +kernel), List.mem_of_getElem? (i := 1048) (by decide +kernel), List.mem_of_getElem? (i := 1049) (by decide +kernel)⟩
theorem lw_p50 : lw_okq (⟨"BarrierLightsModel", "calledOn", "(II)Z"⟩, 37) := ⟨⟨by decide +kernel, by decide +kernel⟩, List.mem_of_getElem? (i := 787) (by decide +kernel), List.mem_of_getElem? (i := 1052) (by decide +kernel), List.mem_of_getElem? (i := 1053) (by decide +kernel)⟩
theorem lw_p51 : lw_okq (⟨"BarrierLightsModel", "begin", "(II)V"⟩, 37) := ⟨⟨by decide +kernel, by decide +kernel⟩, List.mem_of_getElem? (i := 787) (by decide +kernel), List.mem_of_getElem? (i := 1056) (by decide +kernel), List.mem_of_getElem? (i := 1057) (by decide +kernel)⟩
theorem lw_p52 : lw_okq (⟨"BarrierLightsModel", "beginWalk", "(II)V"⟩, 37) := ⟨⟨by decide +kernel, by decide +kernel⟩, List.mem_of_getElem? (i := 787) (by decide +kernel), List.mem_of_getElem? (i := 1060) (by decide +kernel), List.mem_of_getElem? (i := 1061) (by decide +kernel)⟩
theorem lw_p53 : lw_okq (⟨"BarrierLightsModel", "actGreater", "(II)V"⟩, 37) := ⟨⟨by decide +kernel, by decide +kernel⟩, List.mem_of_getElem? (i := 787) (by decide +kernel), List.mem_of_getElem? (i := 1064) (by decide +kernel), List.mem_of_getElem? (i := 1065) (by decide +kernel)⟩
theorem lw_p54 : lw_okq (⟨"BarrierLightsModel", "greaterDone", "(III)Z"⟩, 37) := ⟨⟨by decide +kernel, by decide +kernel⟩, List.mem_of_getElem? (i := 787) (by decide +kernel), List.mem_of_getElem? (i := 1068) (by decide +kernel), List.mem_of_getElem? (i := 1069) (by decide +kernel)⟩
theorem lw_p55 : lw_okq (⟨"BarrierLightsModel", "goal", "(III)I"⟩, 37) := ⟨⟨by decide +kernel, by decide +kernel⟩, List.mem_of_getElem? (i := 787) (by decide +kernel), List.mem_of_getElem? (i := 1072) (by decide +kernel), List.mem_of_getElem? (i := 1073) (by decide +kernel)⟩
theorem lw_p56 : lw_okq (⟨"BarrierLightsModel", "yellow", "(II)V"⟩, 37) := ⟨⟨by decide +kernel, by decide +kernel⟩, List.mem_of_getElem? (i := 787) (by decide +kernel), List.mem_of_getElem? (i := 1076) (by decide +kernel), List.mem_of_getElem? (i := 1077) (by decide +kernel)⟩
theorem lw_p57 : lw_okq (⟨"BarrierLightsModel", "empty", "(II)V"⟩, 37) := ⟨⟨by decide +kernel, by decide +kernel⟩, List.mem_of_getElem? (i := 787) (by decide +kernel), List.mem_of_getElem? (i := 1080) (by decide +kernel), List.mem_of_getElem? (i := 1081) (by decide +kernel)⟩
theorem lw_p58 : lw_okq (⟨"BarrierLightsModel", "plainDone", "(II)Z"⟩, 37) := ⟨⟨by decide +kernel, by decide +kernel⟩, List.mem_of_getElem? (i := 787) (by decide +kernel), List.mem_of_getElem? (i := 1084) (by decide +kernel), List.mem_of_getElem? (i := 1085) (by decide +kernel)⟩
theorem lw_p59 : lw_okq (⟨"BarrierLightsModel", "isEarly", "(I)Z"⟩, 37) := ⟨⟨by decide +kernel, by decide +kernel⟩, List.mem_of_getElem? (i := 787) (by decide +kernel), List.mem_of_getElem? (i := 1088) (by decide +kernel), List.mem_of_getElem? (i := 1089) (by decide +kernel)⟩
theorem lw_p60 : lw_okq (⟨"BarrierLightsModel", "bothWait", "(I)Z"⟩, 37) := ⟨⟨by decide +kernel, by decide +kernel⟩, List.mem_of_getElem? (i := 787) (by decide +kernel), List.mem_of_getElem? (i := 1092) (by decide +kernel), List.mem_of_getElem? (i := 1093) (by decide +kernel)⟩
theorem lw_p61 : lw_okq (⟨"BarrierLightsModel", "actPlain", "(I)V"⟩, 37) := ⟨⟨by decide +kernel, by decide +kernel⟩, List.mem_of_getElem? (i := 787) (by decide +kernel), List.mem_of_getElem? (i := 1096) (by decide +kernel), List.mem_of_getElem? (i := 1097) (by decide +kernel)⟩
theorem lw_p62 : lw_okq (⟨"BarrierLightsModel", "cross", "(I)V"⟩, 37) := ⟨⟨by decide +kernel, by decide +kernel⟩, List.mem_of_getElem? (i := 787) (by decide +kernel), List.mem_of_getElem? (i := 1100) (by decide +kernel), List.mem_of_getElem? (i := 1101) (by decide +kernel)⟩
theorem lw_p63 : lw_okq (⟨"BarrierLightsModel", "watch", "(I)V"⟩, 37) := ⟨⟨by decide +kernel, by decide +kernel⟩, List.mem_of_getElem? (i := 787) (by decide +kernel), List.mem_of_getElem? (i := 1104) (by decide +kernel), List.mem_of_getElem? (i := 1105) (by decide +kernel)⟩
def lw_privs_4 : List (MethodName × Nat) := [(⟨"BarrierLightsModel", "called", "(II)Z"⟩, 37), (⟨"BarrierLightsModel", "needed", "(I)Z"⟩, 37), (⟨"BarrierLightsModel", "calledOn", "(II)Z"⟩, 37), (⟨"BarrierLightsModel", "begin", "(II)V"⟩, 37), (⟨"BarrierLightsModel", "beginWalk", "(II)V"⟩, 37), (⟨"BarrierLightsModel", "actGreater", "(II)V"⟩, 37), (⟨"BarrierLightsModel", "greaterDone", "(III)Z"⟩, 37), (⟨"BarrierLightsModel", "goal", "(III)I"⟩, 37), (⟨"BarrierLightsModel", "yellow", "(II)V"⟩, 37), (⟨"BarrierLightsModel", "empty", "(II)V"⟩, 37), (⟨"BarrierLightsModel", "plainDone", "(II)Z"⟩, 37), (⟨"BarrierLightsModel", "isEarly", "(I)Z"⟩, 37), (⟨"BarrierLightsModel", "bothWait", "(I)Z"⟩, 37), (⟨"BarrierLightsModel", "actPlain", "(I)V"⟩, 37), (⟨"BarrierLightsModel", "cross", "(I)V"⟩, 37), (⟨"BarrierLightsModel", "watch", "(I)V"⟩, 37)]
theorem lw_r4 : ∀ q ∈ lw_privs_4, lw_okq q := List.forall_mem_cons.mpr ⟨lw_p48, List.forall_mem_cons.mpr ⟨lw_p49, List.forall_mem_cons.mpr ⟨lw_p50, List.forall_mem_cons.mpr ⟨lw_p51, List.forall_mem_cons.mpr ⟨lw_p52, List.forall_mem_cons.mpr ⟨lw_p53, List.forall_mem_cons.mpr ⟨lw_p54, List.forall_mem_cons.mpr ⟨lw_p55, List.forall_mem_cons.mpr ⟨lw_p56, List.forall_mem_cons.mpr ⟨lw_p57, List.forall_mem_cons.mpr ⟨lw_p58, List.forall_mem_cons.mpr ⟨lw_p59, List.forall_mem_cons.mpr ⟨lw_p60, List.forall_mem_cons.mpr ⟨lw_p61, List.forall_mem_cons.mpr ⟨lw_p62, List.forall_mem_cons.mpr ⟨lw_p63, fun _ h => absurd h List.not_mem_nil⟩⟩⟩⟩⟩⟩⟩⟩⟩⟩⟩⟩⟩⟩⟩⟩
theorem lw_p64 : lw_okq (⟨"BarrierLightsModel", "lampsOf", "(II)I"⟩, 37) := ⟨⟨by decide +kernel, by decide +kernel⟩, List.mem_of_getElem? (i := 787) (by decide +kernel), List.mem_of_getElem? (i := 1108) (by decide +kernel), List.mem_of_getElem? (i := 1109) (by decide +kernel)⟩
theorem lw_p65 : lw_okq (⟨"BarrierLightsModel", "dark", "(I)Z"⟩, 37) := ⟨⟨by decide +kernel, by decide +kernel⟩, List.mem_of_getElem? (i := 787) (by decide +kernel), List.mem_of_getElem? (i := 1112) (by decide +kernel), List.mem_of_getElem? (i := 1113) (by decide +kernel)⟩
theorem lw_p66 : lw_okq (⟨"BarrierLightsModel", "tooShort", "(I)Z"⟩, 37) := ⟨⟨by decide +kernel, by decide +kernel⟩, List.mem_of_getElem? (i := 787) (by decide +kernel), List.mem_of_getElem? (i := 1116) (by decide +kernel), List.mem_of_getElem? (i := 1117) (by decide +kernel)⟩
theorem lw_p67 : lw_okq (⟨"BarrierLightsModel", "conflict", "(I)Z"⟩, 37) := ⟨⟨by decide +kernel, by decide +kernel⟩, List.mem_of_getElem? (i := 787) (by decide +kernel), List.mem_of_getElem? (i := 1120) (by decide +kernel), List.mem_of_getElem? (i := 1121) (by decide +kernel)⟩
def lw_privs_5 : List (MethodName × Nat) := [(⟨"BarrierLightsModel", "lampsOf", "(II)I"⟩, 37), (⟨"BarrierLightsModel", "dark", "(I)Z"⟩, 37), (⟨"BarrierLightsModel", "tooShort", "(I)Z"⟩, 37), (⟨"BarrierLightsModel", "conflict", "(I)Z"⟩, 37)]
theorem lw_r5 : ∀ q ∈ lw_privs_5, lw_okq q := List.forall_mem_cons.mpr ⟨lw_p64, List.forall_mem_cons.mpr ⟨lw_p65, List.forall_mem_cons.mpr ⟨lw_p66, List.forall_mem_cons.mpr ⟨lw_p67, fun _ h => absurd h List.not_mem_nil⟩⟩⟩⟩
def lw_privs : List (MethodName × Nat) := lw_privs_1 ++ (lw_privs_2 ++ (lw_privs_3 ++ (lw_privs_4 ++ (lw_privs_5))))
def lw_tbl : List Cond := k2_sels lw_privs ++ tables_1
theorem lw_privs_ok : ∀ q ∈ lw_privs, lw_okq q := by
  show ∀ q ∈ lw_privs_1 ++ (lw_privs_2 ++ (lw_privs_3 ++ (lw_privs_4 ++ (lw_privs_5)))), lw_okq q
  exact List.forall_mem_append.mpr ⟨lw_r1, List.forall_mem_append.mpr ⟨lw_r2, List.forall_mem_append.mpr ⟨lw_r3, List.forall_mem_append.mpr ⟨lw_r4, lw_r5⟩⟩⟩⟩
end
section
/-! ===== BEGIN words of one list among another's, by their places ===== -/
theorem goodIn_r {big : List Cond} (ws : List Cond) (ps : List Nat) (hp : ws = ps.filterMap (fun i => big[i]?)) (h : ws.all goodWord = true) : GoodIn big ws := by
  intro w hw
  have h1 := List.all_eq_true.mp h w hw
  rw [hp] at hw
  obtain ⟨i, -, hi⟩ := List.mem_filterMap.mp hw
  have hm : w ∈ big := by first | exact List.mem_of_getElem? hi | exact List.getElem?_mem hi
  exact ⟨hm, good_of_word h1⟩
theorem goodIn_app {big a b : List Cond} (ha : GoodIn big a) (hb : GoodIn big b) : GoodIn big (a ++ b) := fun w h => (List.mem_append.mp h).elim (ha w) (hb w)
theorem goodIn_ca {big a b : List Cond} {c : Cond} (ha : GoodIn big (c :: a)) (hb : GoodIn big b) : GoodIn big (c :: (a ++ b)) := fun w h => (List.mem_cons.mp h).elim (fun e => ha w (List.mem_cons.mpr (Or.inl e))) (fun h => (List.mem_append.mp h).elim (fun h => ha w (List.mem_cons.mpr (Or.inr h))) (hb w))
theorem goodIn_sub {big ws : List Cond} (hm : ∀ w ∈ ws, w ∈ big) (h : ws.all goodWord = true) : GoodIn big ws := fun w hw => ⟨hm w hw, good_of_word (List.all_eq_true.mp h w hw)⟩
/-! ===== END ===== -/

/-! ===== BEGIN exceptions that leave a method, and their catching by the caller (launches without stack traces) ===== -/
section VXA
/-! The laws vx_back, vx_callV, vx_callS, vx_callSW, vx_throw0, vx_throwS follow proofs of the library, with one case more: JvmDerived/Free/Laws.lean (Back.of_free), Shelf42/LK1.lean (callV, callS), Shelf/KitTraced.lean (throwNew0V, throwNewS). -/
/-- where a method has thrown q: the class by its name, the cell, what was written, the world -/
def vx_T (XC : String → State → State → Prop) (st : State) (q : Addr) (t : State) (mc ms : Nat) (free : Addr → Prop) : Prop :=
  ∃ (E : String) (ce : Cell) (L : List Loc), XC E st t ∧ t.heap[q]? = some ce ∧ ce.vm = .none ∧ st.vm.findClass E = some ce.cls ∧ st.WarmedH t.vm ∧ st.sameButNew ({ t with vm := st.vm } : State) L mc ms ∧ ∀ z ∈ L, free z.base
def vx_Q (Qc : Array Value → State → Outcome → State → Prop) (XC : String → State → State → Prop) (mc ms : Nat) (free : Addr → Prop) : Array Value → State → Outcome → State → Prop := fun a st o t =>
  (Qc a st o t ∧ ∃ L, FrameEnd st o t L mc ms ∧ ∀ q ∈ L, free q.base) ∨ ∃ q, o = .threw q ∧ vx_T XC st q t mc ms free
/-- a callee that returns or throws -/
def vx_Met (l : Launch) (y : MethodName) (ws : List Cond) (rm : Room) (Pc : Array Value → State → Prop) (Qc : Array Value → State → Outcome → State → Prop) (XC : String → State → State → Prop) (mc ms : Nat) (free : Addr → Prop) : Prop :=
  MetFree l y (headSpec ws rm) Pc (fun _ _ _ _ _ => True) (vx_Q Qc XC mc ms free)
def vx_Post (XC : String → State → State → Prop) (mc ms : Nat) (free : Addr → Prop) : Pt → Array Value → Addr → Pt → Prop := fun A a q B =>
  ∃ (g : JFrame) (mk : MethodId) (t : State) (L : List Loc) (E : String) (ce : Cell), B.U.heap = t.heap ∧ B.U.vm = t.vm ∧ XC E (A.U.calling g mk a) t ∧ t.heap[q]? = some ce ∧ ce.vm = .none ∧ A.U.vm.findClass E = some ce.cls ∧ B.locs = A.locs ++ L ∧ (∀ z ∈ L, free z.base) ∧ B.cells = A.cells + mc ∧ B.slots = A.slots + ms
def vx_Back (l : Launch) (R : Room) (p : Program) (e : Env) (below : List Frame) (s : State) (sargs : Array Value) (y : MethodName) (len W9 : Nat)
    (Pre : Pt → Array Value → Prop) (Post : Pt → Array Value → Option Value → Pt → Prop) (PostX : Pt → Array Value → Addr → Pt → Prop) : Prop :=
  ∀ (m : MethodId) (meth : Method) (c : Code) (A : Pt) (g : JFrame) (ig : Instr) (mk : MethodId) (a : Array Value),
    Stand p l e R s m sargs below meth c A.U A.locs A.cells A.slots → g.method = m → g.locals.size = c.maxLocals → decode c.code g.pc = .ok (ig, len) →
    2 * g.monitorRoom + (g.stack.map fun v => v.category).sum ≤ W9 → A.U.methodNamed? y = some mk → Pre A a →
    (∃ (v : Option Value) (B : Pt), Stand p l e R s m sargs below meth c B.U B.locs B.cells B.slots ∧ Post A a v B ∧
      Steps p.tables e below (doInvoke e (A.U.setTop g) [] mk a).1 (B.U.setTop { g with pc := g.pc + len, stack := v.toList ++ g.stack })) ∨
    (∃ (q : Addr) (B : Pt), Stand p l e R s m sargs below meth c B.U B.locs B.cells B.slots ∧ PostX A a q B ∧
      Steps p.tables e below (doInvoke e (A.U.setTop g) [] mk a).1 ((B.U.setTop g).pushFrame (.throwing q)))
section Payer
variable {l : Launch} {R : Room} {p : Program} {e : Env} {below : List Frame} {s : State} {sargs : Array Value} {y : MethodName} {len W9 : Nat}
theorem vx_back {ws : List Cond} {rm : Room} {Pc : Array Value → State → Prop} {Qc : Array Value → State → Outcome → State → Prop} {XC : String → State → State → Prop} {mc ms : Nat} {free : Addr → Prop} {bytes : ByteArray} {maxL : Nat} {ret : Option FieldType}
    (hM : vx_Met l y ws rm Pc Qc XC mc ms free) (hblind : FrameBlind Pc) (hrc : rm.cells = mc) (hrs : rm.slots = ms)
    (hframes : rm.frames + 1 ≤ R.frames) (hlocals : W9 + (maxL + 11) + rm.locals ≤ R.locals)
    (hws : ∀ w ∈ ws, ∀ a' U, s.WarmedH U.vm → w.before a' U = true) (hcode : Cond.code y bytes maxL ret ∈ ws) (hinit : ∀ a' U, s.WarmedH U.vm → (Cond.initialized y.cls).before a' U = true) :
    vx_Back l R p e below s sargs y len W9 (PreOf R mc ms Pc) (PostOf Qc mc ms free) (vx_Post XC mc ms free) := by
  intro m meth c A g ig mk a X hg hsize hdg hW hn hp
  have h1 : (headSpec ws rm).pre.before a A.U = true := atoms_intro fun w hw => hws w hw _ _ X.warmed
  have h2 : (Cond.code y bytes maxL ret).before a A.U = true := hws _ hcode _ _ X.warmed
  have h3 : (Cond.initialized y.cls).before a A.U = true := hinit _ _ X.warmed
  have h4 : A.cells + (headSpec ws rm).room.cells ≤ R.cells := by rw [show (headSpec ws rm).room.cells = mc from hrc]; exact hp.1
  have h5 : A.slots + (headSpec ws rm).room.slots ≤ R.slots := by rw [show (headSpec ws rm).room.slots = ms from hrs]; exact hp.2.1
  have hPc : Pc a (A.U.calling g mk a) := hblind _ _ _ _ hp.2.2
  obtain ⟨U, Ls, c0, s0⟩ := A
  dsimp only [Pt.U, Pt.locs, Pt.cells, Pt.slots] at h1 h2 h3 h4 h5 X hn hPc ⊢
  obtain ⟨methY, cY, hmY, hcY, -, hlY, -, -, -, -⟩ := Cond.code_spec hn h2
  obtain ⟨kY, hkY, -⟩ := className_of_methodNamed hn
  have hinitY : kY.init = .initialized := Cond.initialized_spec (findClass_of_methodNamed hn) hkY h3
  have h : At U g.method c below := by rw [hg]; exact X.here
  have hlocals9 : W9 + (maxL + 11) + (headSpec ws rm).room.locals ≤ R.locals := hlocals
  have happ : (headSpec ws rm).appliesLoose y e.platform (U.calling g mk a) = true :=
    Spec.appliesLoose_calling (g := g) h hdg hn hkY hinitY
      (X.room_calling (g := g) (R' := (headSpec ws rm).room) hsize hmY hcY hframes (by rw [hlY]; omega) h4 h5) h1
  obtain ⟨mid, hmid⟩ := h.above
  have hfr : (U.setTop g).frames = (.java g :: mid) ++ below := by rw [State.frames_setTop' g h.top, hmid]; rfl
  obtain ⟨o, s₂, hsteps, -, hend, hq⟩ := Steps.callFree hM p X.admits X.cas X.clock (acts := []) hfr happ hPc trivial
  have hq' : vx_Q Qc XC mc ms free a (U.calling g mk a) o s₂ := hq
  rw [State.frames_setTop' g h.top] at hend
  obtain ⟨g₀, hg0⟩ := Option.isSome_iff_exists.mp h.top
  obtain ⟨r, hr⟩ := State.topJava?_eq_some.mp hg0
  have hr' : (({ U with heap := s₂.heap, slotsUsed := s₂.slotsUsed } : State).setVm s₂.vm).frames = .java g₀ :: r := hr
  rcases hq' with ⟨hqc, L, hfe, hL⟩ | ⟨q, rfl, E, ce, L, hx, hce, hcv, hcl, hW₂, hsm, hL⟩
  · obtain ⟨⟨v, rfl⟩, hW₂, e2, q2, q3, q4, q5, q6⟩ := id hfe
    have e3 : s₂ = ({ (U.calling g mk a).setFrames s₂.frames with heap := s₂.heap, slotsUsed := s₂.slotsUsed } : State).setVm s₂.vm := by
      have : s₂ = ({ s₂ with vm := (U.calling g mk a).vm } : State).setVm s₂.vm := rfl
      rw [e2] at this
      exact this
    obtain ⟨c₂, i₂, len₂, hc₂, hd₂, hf₂⟩ := hend
    have hW' : U.WarmedH s₂.vm := hW₂
    have hcc : c₂ = c := by
      have h1 : s₂.code? g.method = U.code? g.method := by
        rw [State.code?_eq, State.code?_eq, hW'.alike.method?]
      exact Option.some.inj (hc₂.symm.trans (h1.trans h.code))
    subst hcc
    have hlen : len₂ = len := by rw [hdg] at hd₂; cases hd₂; rfl
    subst hlen
    have hs₂ : s₂ = (({ U with heap := s₂.heap, slotsUsed := s₂.slotsUsed } : State).setVm s₂.vm).setTop { g with pc := g.pc + len₂, stack := v.toList ++ g.stack } := by
      refine e3.trans ?_
      rw [hf₂, State.calling_eq h.top, State.setFrames_setFrames, State.setTop_of_frames _ hr', hr]
      rfl
    have hsame : U.sameButNew ({ U with heap := s₂.heap, slotsUsed := s₂.slotsUsed } : State) L mc ms := by
      refine ⟨?_, q2, q3, q4, q5, q6⟩
      obtain ⟨t, ht, -⟩ := State.frames_cons hr
      show ({ U with heap := s₂.heap, slotsUsed := s₂.slotsUsed } : State) = { U.setFrames U.frames with heap := s₂.heap, slotsUsed := s₂.slotsUsed }
      rw [State.setFrames_self ht]
    subst hg
    refine Or.inl ⟨v, ⟨(({ U with heap := s₂.heap, slotsUsed := s₂.slotsUsed } : State).setVm s₂.vm), Ls ++ L, c0 + mc, s0 + ms⟩,
      ⟨X.admits, X.cas, X.clock, X.frames, X.room, X.hears, X.method, X.code, (X.here.setHeapUsed s₂.heap s₂.slotsUsed).setVm hW'.alike, X.tail, State.WarmedH.trans X.warmed hW', X.limits, X.bytes, X.same.trans (hsame.setVm s.vm)⟩,
      ⟨g, mk, s₂, L, rfl, rfl, hqc, rfl, hL, rfl, rfl⟩, ?_⟩
    show Steps p.tables e below _ ((({ U with heap := s₂.heap, slotsUsed := s₂.slotsUsed } : State).setVm s₂.vm).setTop { g with pc := g.pc + len₂, stack := v.toList ++ g.stack })
    rw [← hs₂]
    exact hsteps
  · obtain ⟨e2, q2, q3, q4, q5, q6⟩ := id hsm
    have e3 : s₂ = ({ (U.calling g mk a).setFrames s₂.frames with heap := s₂.heap, slotsUsed := s₂.slotsUsed } : State).setVm s₂.vm := by
      have : s₂ = ({ s₂ with vm := (U.calling g mk a).vm } : State).setVm s₂.vm := rfl
      rw [e2] at this
      exact this
    have hf₂ : s₂.frames = .throwing q :: .java g :: U.frames.tail := hend
    have hW' : U.WarmedH s₂.vm := hW₂
    have hs₂ : s₂ = ((({ U with heap := s₂.heap, slotsUsed := s₂.slotsUsed } : State).setVm s₂.vm).setTop g).pushFrame (.throwing q) := by
      refine e3.trans ?_
      rw [hf₂, State.calling_eq h.top, State.setFrames_setFrames, State.pushFrame, State.frames_setTop _ hr', State.setTop_of_frames _ hr', State.setFrames_setFrames, hr]
      rfl
    have hsame : U.sameButNew ({ U with heap := s₂.heap, slotsUsed := s₂.slotsUsed } : State) L mc ms := by
      refine ⟨?_, q2, q3, q4, q5, q6⟩
      obtain ⟨t, ht, -⟩ := State.frames_cons hr
      show ({ U with heap := s₂.heap, slotsUsed := s₂.slotsUsed } : State) = { U.setFrames U.frames with heap := s₂.heap, slotsUsed := s₂.slotsUsed }
      rw [State.setFrames_self ht]
    subst hg
    refine Or.inr ⟨q, ⟨(({ U with heap := s₂.heap, slotsUsed := s₂.slotsUsed } : State).setVm s₂.vm), Ls ++ L, c0 + mc, s0 + ms⟩,
      ⟨X.admits, X.cas, X.clock, X.frames, X.room, X.hears, X.method, X.code, (X.here.setHeapUsed s₂.heap s₂.slotsUsed).setVm hW'.alike, X.tail, State.WarmedH.trans X.warmed hW', X.limits, X.bytes, X.same.trans (hsame.setVm s.vm)⟩,
      ⟨g, mk, s₂, L, E, ce, rfl, rfl, hx, hce, hcv, hcl, rfl, hL, rfl, rfl⟩, ?_⟩
    show Steps p.tables e below _ (((({ U with heap := s₂.heap, slotsUsed := s₂.slotsUsed } : State).setVm s₂.vm).setTop g).pushFrame (.throwing q))
    rw [← hs₂]
    exact hsteps
end Payer
section Calls
variable {p : Program} {l : Launch} {e : Env} {R : Room} {s : State} {m : MethodId} {args : Array Value} {below : List Frame} {meth : Method} {c : Code} {T : State} {locs : List Loc} {cells slots : Nat}
theorem vx_callV (X : Stand p l e R s m args below meth c T locs cells slots) (hexec : p.tables.exec = Jvm.exec) {own C : String} {index : Nat} {y : MethodName} {bytes : ByteArray} {maxL : Nat} {ret : Option FieldType}
    (hown : s.vm.findClass own = some m.cls) (hlink : (Cond.methodLink own index y).before args s = true) (hinst : (Cond.instanceMethod y).before args s = true) (hsel : (Cond.selects C y y).before args s = true)
    (hcode : (Cond.code y bytes maxL ret).before args s = true) (hy : y.cls ≠ "java/lang/invoke/MethodHandle" ∧ y.cls ≠ "java/lang/invoke/VarHandle")
    {W9 : Nat} {Pre : Pt → Array Value → Prop} {Post : Pt → Array Value → Option Value → Pt → Prop} {PostX : Pt → Array Value → Addr → Pt → Prop} (hK : vx_Back l R p e below s args y 3 W9 Pre Post PostX)
    {b : Addr} {cellB : Cell} (hcell : T.heap[b]? = some cellB) (hobj : cellB.vm.isStatics = false) (hcls : s.vm.findClass C = some cellB.cls)
    {g : JFrame} (hg : g.method = m) (hsize : g.locals.size = c.maxLocals) {argsL rest : List Value} (hlen : ∀ sig, parseMethodDescriptor y.desc = some sig → argsL.length = sig.parameters.length)
    (hstack : g.stack = argsL.reverse ++ .ref b :: rest) (hW : 2 * g.monitorRoom + (rest.map fun v => v.category).sum ≤ W9) (hdg : decode c.code g.pc = .ok (.invokevirtual index, 3))
    (hpre : ∀ vm₁, s.WarmedH vm₁ → Pre ⟨T.setVm vm₁, locs, cells, slots⟩ (Value.ref b :: argsL).toArray) :
    (∃ (v : Option Value) (vm₁ : Vm) (B : Pt), s.WarmedH vm₁ ∧ Stand p l e R s m args below meth c B.U B.locs B.cells B.slots ∧ Post ⟨T.setVm vm₁, locs, cells, slots⟩ (Value.ref b :: argsL).toArray v B ∧
      ∀ target, Steps p.tables e below (B.U.setTop { g with pc := g.pc + 3, stack := v.toList ++ rest }) target → Steps p.tables e below (T.setTop g) target) ∨
    (∃ (q : Addr) (vm₁ : Vm) (B : Pt), s.WarmedH vm₁ ∧ Stand p l e R s m args below meth c B.U B.locs B.cells B.slots ∧ PostX ⟨T.setVm vm₁, locs, cells, slots⟩ (Value.ref b :: argsL).toArray q B ∧
      Steps p.tables e below (T.setTop g) ((B.U.setTop { g with stack := rest }).pushFrame (.throwing q))) := by
  obtain ⟨mk, methM, hnamed, hmethM, hstM, habM⟩ := Cond.instanceMethod_spec hinst
  obtain ⟨methM', cM, hmethM', -, -, -, -, -, -, hsigM⟩ := Cond.code_spec hnamed hcode
  cases hmethM.symm.trans hmethM'
  obtain ⟨c2, r2, m2, q1, q2, q3, q4, kP, hkP, hkPi⟩ := Cond.selects_spec hsel
  cases hcls.symm.trans q1
  cases (State.methodFound?_of_named hnamed hy).symm.trans q2
  cases hnamed.symm.trans q3
  have hselP : selectMethod e.platform s.vm cellB.cls mk = .method mk := by rw [Launch.admits_selectMethod X.admits]; exact q4
  obtain ⟨vm₁, X₁, hstep₁⟩ := X.invokevirtual hexec hown hlink hnamed hmethM hstM hkP hkPi hy (a := b) (cell := cellB) hcell
    (fun z h => by rw [h] at hobj; cases hobj) hselP hmethM habM hkP hkPi (g := g) hg (argsL := argsL) (rest := rest) (hlen _ hsigM) hstack hdg
  rcases hK m meth c ⟨T.setVm vm₁, locs, cells, slots⟩ { g with stack := rest } (.invokevirtual index) mk (Value.ref b :: argsL).toArray X₁ hg hsize hdg hW (X₁.named hnamed) (hpre vm₁ X₁.warmed) with ⟨v, B, X', hpost, hsteps⟩ | ⟨q, B, X', hpost, hsteps⟩
  · exact Or.inl ⟨v, vm₁, B, X₁.warmed, X', hpost, fun target h => hstep₁ _ fun acts => by rw [doInvoke_state]; exact hsteps.trans h⟩
  · exact Or.inr ⟨q, vm₁, B, X₁.warmed, X', hpost, hstep₁ _ fun acts => by rw [doInvoke_state]; exact hsteps⟩
theorem vx_callS (X : Stand p l e R s m args below meth c T locs cells slots) (hexec : p.tables.exec = Jvm.exec) {own : String} {index : Nat} {y : MethodName} {bytes : ByteArray} {maxL : Nat} {ret : Option FieldType}
    (hown : s.vm.findClass own = some m.cls) (hlink : (Cond.methodLink own index y).before args s = true) (hstat : (Cond.static y).before args s = true) (hinit : (Cond.initialized y.cls).before args s = true)
    (hcode : (Cond.code y bytes maxL ret).before args s = true) (hy : y.cls ≠ "java/lang/invoke/MethodHandle" ∧ y.cls ≠ "java/lang/invoke/VarHandle")
    {W9 : Nat} {Pre : Pt → Array Value → Prop} {Post : Pt → Array Value → Option Value → Pt → Prop} {PostX : Pt → Array Value → Addr → Pt → Prop} (hK : vx_Back l R p e below s args y 3 W9 Pre Post PostX)
    {g : JFrame} (hg : g.method = m) (hsize : g.locals.size = c.maxLocals) {argsL rest : List Value} (hlen : ∀ sig, parseMethodDescriptor y.desc = some sig → argsL.length = sig.parameters.length)
    (hstack : g.stack = argsL.reverse ++ rest) (hW : 2 * g.monitorRoom + (rest.map fun v => v.category).sum ≤ W9) (hdg : decode c.code g.pc = .ok (.invokestatic index, 3))
    (hpre : ∀ vm₁, s.WarmedH vm₁ → Pre ⟨T.setVm vm₁, locs, cells, slots⟩ argsL.toArray) :
    (∃ (v : Option Value) (vm₁ : Vm) (B : Pt), s.WarmedH vm₁ ∧ Stand p l e R s m args below meth c B.U B.locs B.cells B.slots ∧ Post ⟨T.setVm vm₁, locs, cells, slots⟩ argsL.toArray v B ∧
      ∀ target, Steps p.tables e below (B.U.setTop { g with pc := g.pc + 3, stack := v.toList ++ rest }) target → Steps p.tables e below (T.setTop g) target) ∨
    (∃ (q : Addr) (vm₁ : Vm) (B : Pt), s.WarmedH vm₁ ∧ Stand p l e R s m args below meth c B.U B.locs B.cells B.slots ∧ PostX ⟨T.setVm vm₁, locs, cells, slots⟩ argsL.toArray q B ∧
      Steps p.tables e below (T.setTop g) ((B.U.setTop { g with stack := rest }).pushFrame (.throwing q))) := by
  obtain ⟨mk, hnamed⟩ := Cond.code_named hcode
  obtain ⟨methM, cM, hmethM, -, -, -, -, -, -, hsigM⟩ := Cond.code_spec hnamed hcode
  have hstatic : methM.isStatic = true := Cond.static_spec hnamed hmethM hstat
  obtain ⟨kP, hkP, -⟩ := className_of_methodNamed hnamed
  have hinitP : kP.init = .initialized := Cond.initialized_spec (findClass_of_methodNamed hnamed) hkP hinit
  obtain ⟨vm₁, X₁, hstep₁⟩ := X.invokestatic hexec hown hlink hnamed hmethM hstatic hkP hinitP hy (g := g) hg (argsL := argsL) (rest := rest) (hlen _ hsigM) hstack hdg
  rcases hK m meth c ⟨T.setVm vm₁, locs, cells, slots⟩ { g with stack := rest } (.invokestatic index) mk argsL.toArray X₁ hg hsize hdg hW (X₁.named hnamed) (hpre vm₁ X₁.warmed) with ⟨v, B, X', hpost, hsteps⟩ | ⟨q, B, X', hpost, hsteps⟩
  · exact Or.inl ⟨v, vm₁, B, X₁.warmed, X', hpost, fun target h => hstep₁ _ fun acts => by rw [doInvoke_state]; exact hsteps.trans h⟩
  · exact Or.inr ⟨q, vm₁, B, X₁.warmed, X', hpost, hstep₁ _ fun acts => by rw [doInvoke_state]; exact hsteps⟩
end Calls
theorem vx_cls {s : State} {T : State} {vm₁ : Vm} {E : String} {k : ClassId} (hW : s.WarmedH vm₁) (h : (T.setVm vm₁).vm.findClass E = some k) : s.vm.findClass E = some k := by
  have h1 : vm₁.findClass E = some k := h
  rw [hW.alike.findClass] at h1
  exact h1
/-- the method's frame g, with q thrown over it -/
def vx_W (p : Program) (l : Launch) (e : Env) (R : Room) (s : State) (m : MethodId) (args : Array Value) (below : List Frame) (meth : Method) (c : Code) (H : Heap) (locs : List Loc) (cells slots : Nat) (Q : State → Prop) (g : JFrame) (q : Addr) : Prop :=
  ∀ T : State, T.heap = H → Stand p l e R s m args below meth c T locs cells slots → ∃ t, Steps p.tables e below ((T.setTop g).pushFrame (.throwing q)) t ∧ Q t
def vx_Run (p : Program) (l : Launch) (e : Env) (R : Room) (s : State) (m : MethodId) (args : Array Value) (below : List Frame) (meth : Method) (c : Code) (H : Heap) (locs : List Loc) (cells slots mc ms : Nat) (g : JFrame) (rest : List Value) (Qa : State → Outcome → State → Prop) (XC : String → State → State → Prop) (free : Addr → Prop) : Prop :=
  ∀ T : State, T.heap = H → Stand p l e R s m args below meth c T locs cells slots →
    (∃ (v : Option Value) (st₀ t T' : State) (L : List Loc), st₀.heap = H ∧ Stand p l e R s m args below meth c T' (locs ++ L) (cells + mc) (slots + ms) ∧ (∀ q ∈ L, free q.base) ∧ T'.heap = t.heap ∧ T'.vm = t.vm ∧ Qa st₀ (.returned v) t ∧
      Goes p e below T g T' { g with pc := g.pc + 3, stack := v.toList ++ rest }) ∨
    (∃ (q : Addr) (st₀ t T' : State) (L : List Loc) (E : String) (ce : Cell), st₀.heap = H ∧ Stand p l e R s m args below meth c T' (locs ++ L) (cells + mc) (slots + ms) ∧ (∀ z ∈ L, free z.base) ∧ T'.heap = t.heap ∧ T'.vm = t.vm ∧ XC E st₀ t ∧ t.heap[q]? = some ce ∧ ce.vm = .none ∧ s.vm.findClass E = some ce.cls ∧
      Steps p.tables e below (T.setTop g) ((T'.setTop { g with stack := rest }).pushFrame (.throwing q)))
def vx_X {S : Type} (px : S → Prop) (B : String → S → State → Prop) (A : Nat → Prop) : String → State → State → Prop := fun E st t => ∃ u : S, px u ∧ B E u t ∧ va_F A st t
section Runs
variable {p : Program} {l : Launch} {e : Env} {R : Room} {s : State} {m : MethodId} {args : Array Value} {below : List Frame} {meth : Method} {c : Code} {H : Heap} {locs : List Loc} {cells slots : Nat}
variable {y : MethodName} {bytes cc : ByteArray} {maxL nL mc ms n index : Nat} {ret : Option FieldType} {ws : List Cond} {rm : Room} {Pc : Array Value → State → Prop} {Qc : Array Value → State → Outcome → State → Prop} {XC : String → State → State → Prop} {free : Addr → Prop} {Ts : List Cond} {own C : String} {b : Addr} {As rest : List Value} {g : JFrame}
theorem vx_callBack (cb : CallB R s args own index y bytes maxL ret ws rm mc ms n) (hM : vx_Met l y ws rm Pc Qc XC mc ms free) (hbl : FrameBlind Pc) : vx_Back l R p e below s args y 3 8 (PreOf R mc ms Pc) (PostOf Qc mc ms free) (vx_Post XC mc ms free) := by
  obtain ⟨hrc, hrs, hfr, hlo, hws, hcw, -, hini, -⟩ := cb
  exact vx_back (bytes := bytes) (maxL := maxL) (ret := ret) hM hbl hrc hrs hfr hlo hws hcw (fun a' U hW => word_at hW (Or.inl (by first | rfl | simp [Cond.onTables, Cond.keeps, Cond.steady])) hini)
theorem vx_runV (S : CallFix p m c cc nL s args Ts own) (hM : vx_Met l y ws rm Pc Qc XC mc ms free) (cw : CallW R s args own C index y bytes maxL ret ws rm mc ms n) (hp : PreV s H C b Pc As)
    (hg : g.method = m) (hn : As.length = n) (hsize : g.locals.size = nL) (hstack : g.stack = As.reverse ++ .ref b :: rest) (hW : 2 * g.monitorRoom + (rest.map fun v => v.category).sum ≤ 8) (hdg : decode cc g.pc = .ok (.invokevirtual index, 3)) (hf : cells + mc ≤ R.cells ∧ slots + ms ≤ R.slots) :
    vx_Run p l e R s m args below meth c H locs cells slots mc ms g rest (Qc (Value.ref b :: As).toArray) XC free := by
  have hK : vx_Back l R p e below s args y 3 8 (PreOf R mc ms Pc) (PostOf Qc mc ms free) (vx_Post XC mc ms free) := vx_callBack cw.1 hM hp.1
  obtain ⟨⟨-, -, -, -, -, -, hcode, -, hy, hlen, hl⟩, hin, hse⟩ := cw
  obtain ⟨hx, hb, hml, ho, -⟩ := S
  obtain ⟨-, ⟨cellB, hcB, hoB, hclB⟩, hPc⟩ := hp
  intro T hT X
  rcases vx_callV X hx (C := C) (bytes := bytes) (maxL := maxL) (ret := ret) ho hl hin hse hcode hy hK (by rw [hT]; exact hcB) hoB hclB hg (hsize.trans hml.symm) (argsL := As) (rest := rest) (fun sig h => hn.trans (hlen sig h)) hstack hW (by rw [hb]; exact hdg)
    (fun vm₁ hW₁ => ⟨hf.1, hf.2, hPc (T.setVm vm₁) hT hW₁⟩) with ⟨v, vm₁, ⟨U', l2, c2, s2⟩, hW₁, X', ⟨g', mk, t, L, e1, e2, hq, h1, hL, h2, h3⟩, st⟩ | ⟨q, vm₁, ⟨U', l2, c2, s2⟩, hW₁, X', ⟨g', mk, t, L, E, ce, e1, e2, hq, hce, hcv, hcl, h1, hL, h2, h3⟩, st⟩
  · dsimp only [Pt.U, Pt.locs, Pt.cells, Pt.slots] at X' e1 e2 h1 h2 h3 st
    subst h1; subst h2; subst h3
    exact Or.inl ⟨v, (T.setVm vm₁).calling g' mk (Value.ref b :: As).toArray, t, U', L, hT, X', hL, e1, e2, hq, st⟩
  · dsimp only [Pt.U, Pt.locs, Pt.cells, Pt.slots] at X' e1 e2 h1 h2 h3 st hcl
    subst h1; subst h2; subst h3
    exact Or.inr ⟨q, (T.setVm vm₁).calling g' mk (Value.ref b :: As).toArray, t, U', L, E, ce, hT, X', hL, e1, e2, hq, hce, hcv, vx_cls hW₁ hcl, st⟩
theorem vx_runS (S : CallFix p m c cc nL s args Ts own) (hM : vx_Met l y ws rm Pc Qc XC mc ms free) (cw : CallB R s args own index y bytes maxL ret ws rm mc ms n ∧ (Cond.static y).before args s = true) (hp : PreS s H Pc As)
    (hg : g.method = m) (hn : As.length = n) (hsize : g.locals.size = nL) (hstack : g.stack = As.reverse ++ rest) (hW : 2 * g.monitorRoom + (rest.map fun v => v.category).sum ≤ 8) (hdg : decode cc g.pc = .ok (.invokestatic index, 3)) (hf : cells + mc ≤ R.cells ∧ slots + ms ≤ R.slots) :
    vx_Run p l e R s m args below meth c H locs cells slots mc ms g rest (Qc As.toArray) XC free := by
  have hK : vx_Back l R p e below s args y 3 8 (PreOf R mc ms Pc) (PostOf Qc mc ms free) (vx_Post XC mc ms free) := vx_callBack cw.1 hM hp.1
  obtain ⟨⟨-, -, -, -, -, -, hcode, hini, hy, hlen, hl⟩, hstt⟩ := cw
  obtain ⟨hx, hb, hml, ho, -⟩ := S
  intro T hT X
  rcases vx_callS X hx (bytes := bytes) (maxL := maxL) (ret := ret) ho hl hstt hini hcode hy hK hg (hsize.trans hml.symm) (argsL := As) (rest := rest) (fun sig h => hn.trans (hlen sig h)) hstack hW (by rw [hb]; exact hdg)
    (fun vm₁ hW₁ => ⟨hf.1, hf.2, hp.2 (T.setVm vm₁) hT hW₁⟩) with ⟨v, vm₁, ⟨U', l2, c2, s2⟩, hW₁, X', ⟨g', mk, t, L, e1, e2, hq, h1, hL, h2, h3⟩, st⟩ | ⟨q, vm₁, ⟨U', l2, c2, s2⟩, hW₁, X', ⟨g', mk, t, L, E, ce, e1, e2, hq, hce, hcv, hcl, h1, hL, h2, h3⟩, st⟩
  · dsimp only [Pt.U, Pt.locs, Pt.cells, Pt.slots] at X' e1 e2 h1 h2 h3 st
    subst h1; subst h2; subst h3
    exact Or.inl ⟨v, (T.setVm vm₁).calling g' mk As.toArray, t, U', L, hT, X', hL, e1, e2, hq, st⟩
  · dsimp only [Pt.U, Pt.locs, Pt.cells, Pt.slots] at X' e1 e2 h1 h2 h3 st hcl
    subst h1; subst h2; subst h3
    exact Or.inr ⟨q, (T.setVm vm₁).calling g' mk As.toArray, t, U', L, E, ce, hT, X', hL, e1, e2, hq, hce, hcv, vx_cls hW₁ hcl, st⟩
end Runs
section Rows
variable {p : Program} {l : Launch} {e : Env} {R : Room} {s : State} {m : MethodId} {args : Array Value} {below : List Frame} {meth : Method} {c : Code} {H : Heap} {locs : List Loc} {cells slots : Nat} {Q : State → Prop}
variable {mc ms : Nat} {free : Addr → Prop} {A0 A1 : Nat → Prop} {H0 : Heap} {a : Array Value} {pc : Nat} {ls : Array Slot} {st0 rest : List Value}
theorem vx_keep {st₀ t T' : State} {L : List Loc} (h0 : st₀.heap = H) (e1 : T'.heap = t.heap) (hS : va_S A0 H0 H locs) (hA : ∀ q, q < H.size → A1 q → A0 q) (hf : ∀ q, free q → A0 q) (hL : ∀ q ∈ L, free q.base) (hF : va_F A1 st₀ t) :
    H.size ≤ T'.heap.size ∧ (∀ q : Nat, q < H.size → ¬ A1 q → T'.heap[q]? = H[q]?) ∧ va_S A0 H0 T'.heap (locs ++ L) := by
  obtain ⟨hz, hk⟩ := hF
  rw [h0] at hz hk
  exact ⟨by rw [e1]; exact hz, fun q h1 h2 => by rw [e1]; exact hk q h1 h2,
    ⟨Nat.le_trans hS.1 (by rw [e1]; exact hz), fun q h1 h2 => by rw [e1, hk q (Nat.lt_of_lt_of_le h1 hS.1) (fun z => h2 (hA q (Nat.lt_of_lt_of_le h1 hS.1) z))]; exact hS.2.1 q h1 h2, fun q hq => by
      rcases List.mem_append.mp hq with h | h
      · exact hS.2.2 q h
      · exact hf _ (hL q h)⟩⟩
theorem vx_calli {S SX : Type} {post : Int32 → S → Prop} {px : SX → Prop} {B : S → State → Prop} {BX : String → SX → State → Prop} {AX : Nat → Prop} (hr : vx_Run p l e R s m args below meth c H locs cells slots mc ms (F0 m pc ls st0) rest (va_Qi post B A1 a) (vx_X px BX AX) free) (hS : va_S A0 H0 H locs) (hA : ∀ q, q < H.size → A1 q → A0 q) (hf : ∀ q, free q → A0 q) (hAX : ∀ q, q < H.size → AX q → A0 q)
    (kx : ∀ (E : String) (ce : Cell) (q9 : Addr) (u : SX) (t : State) (H1 : Heap) (locs1 : List Loc), t.heap = H1 → s.vm.Alike t.vm → px u → BX E u t → H.size ≤ H1.size → (∀ q : Nat, q < H.size → ¬ AX q → H1[q]? = H[q]?) → va_S A0 H0 H1 locs1 → H1[q9]? = some ce → ce.vm = .none → s.vm.findClass E = some ce.cls → vx_W p l e R s m args below meth c H1 locs1 (cells + mc) (slots + ms) Q (F0 m pc ls rest) q9)
    (kk : ∀ (r : Int32) (u : S) (t : State) (H1 : Heap) (locs1 : List Loc), t.heap = H1 → s.vm.Alike t.vm → post r u → B u t → H.size ≤ H1.size → (∀ q : Nat, q < H.size → ¬ A1 q → H1[q]? = H[q]?) → va_S A0 H0 H1 locs1 → W p l e R s m args below meth c H1 locs1 (cells + mc) (slots + ms) Q (F0 m (pc + 3) ls (.int r :: rest))) : W p l e R s m args below meth c H locs cells slots Q (F0 m pc ls st0) := by
  intro T hT X
  rcases hr T hT X with ⟨v, st₀, t, T', L, h0, X', hL, e1, e2, ⟨⟨r, u, hv, hp, hb⟩, hF⟩, st⟩ | ⟨q, st₀, t, T', L, E, ce, h0, X', hL, e1, e2, ⟨u, hp, hb, hF⟩, hce, hcv, hcl, st⟩
  · cases hv
    obtain ⟨k1, k2, k3⟩ := vx_keep h0 e1 hS hA hf hL hF
    obtain ⟨t2, a1, b1⟩ := kk r u t T'.heap (locs ++ L) e1.symm (by rw [← e2]; exact X'.warmed.alike) hp hb k1 k2 k3 T' rfl X'
    exact ⟨t2, st t2 a1, b1⟩
  · obtain ⟨k1, k2, k3⟩ := vx_keep h0 e1 hS hAX hf hL hF
    obtain ⟨t2, a1, b1⟩ := kx E ce q u t T'.heap (locs ++ L) e1.symm (by rw [← e2]; exact X'.warmed.alike) hp hb k1 k2 k3 (by rw [e1]; exact hce) hcv hcl T' rfl X'
    exact ⟨t2, st.trans a1, b1⟩
theorem vx_calll {S SX : Type} {post : Int64 → S → Prop} {px : SX → Prop} {B : S → State → Prop} {BX : String → SX → State → Prop} {AX : Nat → Prop} (hr : vx_Run p l e R s m args below meth c H locs cells slots mc ms (F0 m pc ls st0) rest (va_Ql post B A1 a) (vx_X px BX AX) free) (hS : va_S A0 H0 H locs) (hA : ∀ q, q < H.size → A1 q → A0 q) (hf : ∀ q, free q → A0 q) (hAX : ∀ q, q < H.size → AX q → A0 q)
    (kx : ∀ (E : String) (ce : Cell) (q9 : Addr) (u : SX) (t : State) (H1 : Heap) (locs1 : List Loc), t.heap = H1 → s.vm.Alike t.vm → px u → BX E u t → H.size ≤ H1.size → (∀ q : Nat, q < H.size → ¬ AX q → H1[q]? = H[q]?) → va_S A0 H0 H1 locs1 → H1[q9]? = some ce → ce.vm = .none → s.vm.findClass E = some ce.cls → vx_W p l e R s m args below meth c H1 locs1 (cells + mc) (slots + ms) Q (F0 m pc ls rest) q9)
    (kk : ∀ (r : Int64) (u : S) (t : State) (H1 : Heap) (locs1 : List Loc), t.heap = H1 → s.vm.Alike t.vm → post r u → B u t → H.size ≤ H1.size → (∀ q : Nat, q < H.size → ¬ A1 q → H1[q]? = H[q]?) → va_S A0 H0 H1 locs1 → W p l e R s m args below meth c H1 locs1 (cells + mc) (slots + ms) Q (F0 m (pc + 3) ls (.long r :: rest))) : W p l e R s m args below meth c H locs cells slots Q (F0 m pc ls st0) := by
  intro T hT X
  rcases hr T hT X with ⟨v, st₀, t, T', L, h0, X', hL, e1, e2, ⟨⟨r, u, hv, hp, hb⟩, hF⟩, st⟩ | ⟨q, st₀, t, T', L, E, ce, h0, X', hL, e1, e2, ⟨u, hp, hb, hF⟩, hce, hcv, hcl, st⟩
  · cases hv
    obtain ⟨k1, k2, k3⟩ := vx_keep h0 e1 hS hA hf hL hF
    obtain ⟨t2, a1, b1⟩ := kk r u t T'.heap (locs ++ L) e1.symm (by rw [← e2]; exact X'.warmed.alike) hp hb k1 k2 k3 T' rfl X'
    exact ⟨t2, st t2 a1, b1⟩
  · obtain ⟨k1, k2, k3⟩ := vx_keep h0 e1 hS hAX hf hL hF
    obtain ⟨t2, a1, b1⟩ := kx E ce q u t T'.heap (locs ++ L) e1.symm (by rw [← e2]; exact X'.warmed.alike) hp hb k1 k2 k3 (by rw [e1]; exact hce) hcv hcl T' rfl X'
    exact ⟨t2, st.trans a1, b1⟩
theorem vx_callf {S SX : Type} {post : UInt32 → S → Prop} {px : SX → Prop} {B : S → State → Prop} {BX : String → SX → State → Prop} {AX : Nat → Prop} (hr : vx_Run p l e R s m args below meth c H locs cells slots mc ms (F0 m pc ls st0) rest (va_Qf post B A1 a) (vx_X px BX AX) free) (hS : va_S A0 H0 H locs) (hA : ∀ q, q < H.size → A1 q → A0 q) (hf : ∀ q, free q → A0 q) (hAX : ∀ q, q < H.size → AX q → A0 q)
    (kx : ∀ (E : String) (ce : Cell) (q9 : Addr) (u : SX) (t : State) (H1 : Heap) (locs1 : List Loc), t.heap = H1 → s.vm.Alike t.vm → px u → BX E u t → H.size ≤ H1.size → (∀ q : Nat, q < H.size → ¬ AX q → H1[q]? = H[q]?) → va_S A0 H0 H1 locs1 → H1[q9]? = some ce → ce.vm = .none → s.vm.findClass E = some ce.cls → vx_W p l e R s m args below meth c H1 locs1 (cells + mc) (slots + ms) Q (F0 m pc ls rest) q9)
    (kk : ∀ (r : UInt32) (u : S) (t : State) (H1 : Heap) (locs1 : List Loc), t.heap = H1 → s.vm.Alike t.vm → post r u → B u t → H.size ≤ H1.size → (∀ q : Nat, q < H.size → ¬ A1 q → H1[q]? = H[q]?) → va_S A0 H0 H1 locs1 → W p l e R s m args below meth c H1 locs1 (cells + mc) (slots + ms) Q (F0 m (pc + 3) ls (.float r :: rest))) : W p l e R s m args below meth c H locs cells slots Q (F0 m pc ls st0) := by
  intro T hT X
  rcases hr T hT X with ⟨v, st₀, t, T', L, h0, X', hL, e1, e2, ⟨⟨r, u, hv, hp, hb⟩, hF⟩, st⟩ | ⟨q, st₀, t, T', L, E, ce, h0, X', hL, e1, e2, ⟨u, hp, hb, hF⟩, hce, hcv, hcl, st⟩
  · cases hv
    obtain ⟨k1, k2, k3⟩ := vx_keep h0 e1 hS hA hf hL hF
    obtain ⟨t2, a1, b1⟩ := kk r u t T'.heap (locs ++ L) e1.symm (by rw [← e2]; exact X'.warmed.alike) hp hb k1 k2 k3 T' rfl X'
    exact ⟨t2, st t2 a1, b1⟩
  · obtain ⟨k1, k2, k3⟩ := vx_keep h0 e1 hS hAX hf hL hF
    obtain ⟨t2, a1, b1⟩ := kx E ce q u t T'.heap (locs ++ L) e1.symm (by rw [← e2]; exact X'.warmed.alike) hp hb k1 k2 k3 (by rw [e1]; exact hce) hcv hcl T' rfl X'
    exact ⟨t2, st.trans a1, b1⟩
theorem vx_calld {S SX : Type} {post : UInt64 → S → Prop} {px : SX → Prop} {B : S → State → Prop} {BX : String → SX → State → Prop} {AX : Nat → Prop} (hr : vx_Run p l e R s m args below meth c H locs cells slots mc ms (F0 m pc ls st0) rest (va_Qd post B A1 a) (vx_X px BX AX) free) (hS : va_S A0 H0 H locs) (hA : ∀ q, q < H.size → A1 q → A0 q) (hf : ∀ q, free q → A0 q) (hAX : ∀ q, q < H.size → AX q → A0 q)
    (kx : ∀ (E : String) (ce : Cell) (q9 : Addr) (u : SX) (t : State) (H1 : Heap) (locs1 : List Loc), t.heap = H1 → s.vm.Alike t.vm → px u → BX E u t → H.size ≤ H1.size → (∀ q : Nat, q < H.size → ¬ AX q → H1[q]? = H[q]?) → va_S A0 H0 H1 locs1 → H1[q9]? = some ce → ce.vm = .none → s.vm.findClass E = some ce.cls → vx_W p l e R s m args below meth c H1 locs1 (cells + mc) (slots + ms) Q (F0 m pc ls rest) q9)
    (kk : ∀ (r : UInt64) (u : S) (t : State) (H1 : Heap) (locs1 : List Loc), t.heap = H1 → s.vm.Alike t.vm → post r u → B u t → H.size ≤ H1.size → (∀ q : Nat, q < H.size → ¬ A1 q → H1[q]? = H[q]?) → va_S A0 H0 H1 locs1 → W p l e R s m args below meth c H1 locs1 (cells + mc) (slots + ms) Q (F0 m (pc + 3) ls (.double r :: rest))) : W p l e R s m args below meth c H locs cells slots Q (F0 m pc ls st0) := by
  intro T hT X
  rcases hr T hT X with ⟨v, st₀, t, T', L, h0, X', hL, e1, e2, ⟨⟨r, u, hv, hp, hb⟩, hF⟩, st⟩ | ⟨q, st₀, t, T', L, E, ce, h0, X', hL, e1, e2, ⟨u, hp, hb, hF⟩, hce, hcv, hcl, st⟩
  · cases hv
    obtain ⟨k1, k2, k3⟩ := vx_keep h0 e1 hS hA hf hL hF
    obtain ⟨t2, a1, b1⟩ := kk r u t T'.heap (locs ++ L) e1.symm (by rw [← e2]; exact X'.warmed.alike) hp hb k1 k2 k3 T' rfl X'
    exact ⟨t2, st t2 a1, b1⟩
  · obtain ⟨k1, k2, k3⟩ := vx_keep h0 e1 hS hAX hf hL hF
    obtain ⟨t2, a1, b1⟩ := kx E ce q u t T'.heap (locs ++ L) e1.symm (by rw [← e2]; exact X'.warmed.alike) hp hb k1 k2 k3 (by rw [e1]; exact hce) hcv hcl T' rfl X'
    exact ⟨t2, st.trans a1, b1⟩
theorem vx_callv {S SX : Type} {post : S → Prop} {px : SX → Prop} {B : S → State → Prop} {BX : String → SX → State → Prop} {AX : Nat → Prop} (hr : vx_Run p l e R s m args below meth c H locs cells slots mc ms (F0 m pc ls st0) rest (va_Qv post B A1 a) (vx_X px BX AX) free) (hS : va_S A0 H0 H locs) (hA : ∀ q, q < H.size → A1 q → A0 q) (hf : ∀ q, free q → A0 q) (hAX : ∀ q, q < H.size → AX q → A0 q)
    (kx : ∀ (E : String) (ce : Cell) (q9 : Addr) (u : SX) (t : State) (H1 : Heap) (locs1 : List Loc), t.heap = H1 → s.vm.Alike t.vm → px u → BX E u t → H.size ≤ H1.size → (∀ q : Nat, q < H.size → ¬ AX q → H1[q]? = H[q]?) → va_S A0 H0 H1 locs1 → H1[q9]? = some ce → ce.vm = .none → s.vm.findClass E = some ce.cls → vx_W p l e R s m args below meth c H1 locs1 (cells + mc) (slots + ms) Q (F0 m pc ls rest) q9)
    (kk : ∀ (u : S) (t : State) (H1 : Heap) (locs1 : List Loc), t.heap = H1 → s.vm.Alike t.vm → post u → B u t → H.size ≤ H1.size → (∀ q : Nat, q < H.size → ¬ A1 q → H1[q]? = H[q]?) → va_S A0 H0 H1 locs1 → W p l e R s m args below meth c H1 locs1 (cells + mc) (slots + ms) Q (F0 m (pc + 3) ls (rest))) : W p l e R s m args below meth c H locs cells slots Q (F0 m pc ls st0) := by
  intro T hT X
  rcases hr T hT X with ⟨v, st₀, t, T', L, h0, X', hL, e1, e2, ⟨⟨u, hv, hp, hb⟩, hF⟩, st⟩ | ⟨q, st₀, t, T', L, E, ce, h0, X', hL, e1, e2, ⟨u, hp, hb, hF⟩, hce, hcv, hcl, st⟩
  · cases hv
    obtain ⟨k1, k2, k3⟩ := vx_keep h0 e1 hS hA hf hL hF
    obtain ⟨t2, a1, b1⟩ := kk u t T'.heap (locs ++ L) e1.symm (by rw [← e2]; exact X'.warmed.alike) hp hb k1 k2 k3 T' rfl X'
    exact ⟨t2, st t2 a1, b1⟩
  · obtain ⟨k1, k2, k3⟩ := vx_keep h0 e1 hS hAX hf hL hF
    obtain ⟨t2, a1, b1⟩ := kx E ce q u t T'.heap (locs ++ L) e1.symm (by rw [← e2]; exact X'.warmed.alike) hp hb k1 k2 k3 (by rw [e1]; exact hce) hcv hcl T' rfl X'
    exact ⟨t2, st.trans a1, b1⟩
end Rows
section Ends
variable {p : Program} {l : Launch} {e : Env} {R : Room} {s : State} {m : MethodId} {args : Array Value} {below : List Frame} {meth : Method} {c : Code} {H : Heap} {locs : List Loc} {cells slots : Nat} {Q : State → Prop}
variable {mc ms : Nat} {free : Addr → Prop} {A0 A1 : Nat → Prop} {H0 : Heap} {a : Array Value} {ls : Array Slot} {st0 rest : List Value}
variable {Qc : Array Value → State → Outcome → State → Prop} {XC : String → State → State → Prop}
/-- what a body that may throw owes at its end -/
def vx_MQ (below : List Frame) (Qc : Array Value → State → Outcome → State → Prop) (XC : String → State → State → Prop) (a : Array Value) (s : State) (mc ms : Nat) (free : Addr → Prop) : State → Prop := fun t =>
  ∃ o, t.status = .running ∧ Ended t below o ∧ vx_Q Qc XC mc ms free a s o t
theorem vx_ret {g : JFrame} {mc ms : Nat} (k : W p l e R s m args below meth c H locs cells slots (MQ below Qc args s mc ms free) g) : W p l e R s m args below meth c H locs cells slots (vx_MQ below Qc XC args s mc ms free) g := by
  intro T hT X
  obtain ⟨t, a1, o, b1, b2, b3, b4⟩ := k T hT X
  exact ⟨t, a1, o, b1, b2, Or.inl ⟨b3, b4⟩⟩
/-- not caught here: it goes on to the caller -/
theorem vx_widen {g : JFrame} {q : Addr} {k n : Nat} (h1 : cells ≤ k) (h2 : slots ≤ n) (kk : vx_W p l e R s m args below meth c H locs k n Q g q) : vx_W p l e R s m args below meth c H locs cells slots Q g q := fun T hT X => kk T hT (stand_widen X h1 h2)
theorem vx_out {pc : Nat} {E : String} {ce : Cell} {q : Addr} {mc ms : Nat} (hout : ∀ x ∈ c.exceptionTable.toList, covers x pc = false) (hlocks : meth.locks = false) (hcell : H[q]? = some ce) (hv : ce.vm = .none) (hcl : s.vm.findClass E = some ce.cls)
    (hx : ∀ t : State, t.heap = H → s.vm.Alike t.vm → XC E s t) (hf : ∀ z ∈ locs, free z.base) (hc : cells ≤ mc) (hs : slots ≤ ms) :
    vx_W p l e R s m args below meth c H locs cells slots (vx_MQ below Qc XC args s mc ms free) (F0 m pc ls rest) q := by
  intro T hT X
  obtain ⟨st1, hrun, hend, hW, hsm⟩ := X.leaveThrown q (g := F0 m pc ls rest) rfl rfl rfl hout hlocks
  have hcell9 : (T.setFrames (.throwing q :: below)).heap[q]? = some ce := by
    show T.heap[q]? = some ce
    rw [hT]; exact hcell
  exact ⟨_, st1, .threw q, hrun, hend, Or.inr ⟨q, rfl, E, ce, locs, hx _ hT hW.alike, hcell9, hv, hcl, hW, hsm.mono hc hs, hf⟩⟩
theorem vx_frame {U : State} {k n : Nat} (h : s.sameButNew ({ U with vm := s.vm } : State) locs k n) : s.heap.size ≤ U.heap.size ∧ ∀ q : Nat, q < s.heap.size → (∀ z ∈ locs, z.base ≠ q) → U.heap[q]? = s.heap[q]? := by
  obtain ⟨-, h2, -, -, -, h6⟩ := h
  refine ⟨h2, fun q hq hz => ?_⟩
  obtain ⟨c9, e1, e2, e3, e4⟩ := h6 q _ (Array.getElem?_eq_getElem hq)
  have hs : c9.slots = (s.heap[q]).slots := Array.ext_getElem? fun i => e4 i fun hm => hz _ hm rfl
  have h9 : c9 = s.heap[q] := by
    rw [hs] at e2
    exact e2
  have e5 : U.heap[q]? = some c9 := e1
  rw [e5, h9, Array.getElem?_eq_getElem hq]
/-- the words of a throw but the four that speak of the heap -/
def vx_no (w : Cond) : Bool := decide (w ≠ .isRef (.static Bundle.tN "UNASSIGNED_STACK" Bundle.steD)) && decide (w ≠ .isRef (.static Bundle.tN "SUPPRESSED_SENTINEL" Bundle.listD)) && decide (w ≠ .laysStatic Bundle.tN "UNASSIGNED_STACK" Bundle.steD) && decide (w ≠ .laysStatic Bundle.tN "SUPPRESSED_SENTINEL" Bundle.listD)
def vx_at0 (own : String) (ic : Nat) (X : String) (names : List String) : List Cond := (Bundle.ownAtoms0 own ic X names).filter vx_no
def vx_atS (own : String) (ic : Nat) (X : String) (names : List String) : List Cond := (Bundle.ownAtoms own ic X names).filter vx_no
/-- a word that the tables alone decide, or a good one -/
def vx_ot (w : Cond) : Bool := w.onTables || goodWord w
theorem vx_ot_at {args a' : Array Value} {s U : State} {w : Cond} (hW : s.WarmedH U.vm) (hvm : s.vm = U.vm) (hg : vx_ot w = true) (h : w.before args s = true) : w.before a' U = true := by
  simp only [vx_ot, Bool.or_eq_true] at hg
  rcases hg with hg | hg
  · exact va_tabs hg hvm h
  · exact word_at hW (good_of_word hg) h
/-- a list's words: the good ones out of the method's own list, the others by premises of their own -/
theorem vx_hat {args : Array Value} {s : State} {L B : List Cond} (h1 : ∀ w ∈ L.filter goodWord, w.before args s = true) (h2 : ∀ w ∈ L.filter (fun w => !goodWord w), w ∈ B) (h3 : ∀ w ∈ B, w.before args s = true) : ∀ w ∈ L, w.before args s = true := by
  intro w hw
  by_cases g : goodWord w = true
  · exact h1 w (List.mem_filter.mpr ⟨hw, g⟩)
  · refine h3 w (h2 w (List.mem_filter.mpr ⟨hw, ?_⟩))
    show (!goodWord w) = true
    cases hgw : goodWord w
    · rfl
    · exact absurd hgw g
theorem vx_c {args : Array Value} {s : State} {w : Cond} {B : List Cond} (h : w.before args s = true) (t : ∀ w ∈ B, w.before args s = true) : ∀ w' ∈ w :: B, w'.before args s = true := fun w' h' => (List.mem_cons.mp h').elim (fun e => by rw [e]; exact h) (t w')
theorem vx_n {args : Array Value} {s : State} : ∀ w ∈ ([] : List Cond), w.before args s = true := fun _ h => nomatch h
theorem vx_own {args : Array Value} {s : State} {L : List Cond} (h1 : ∀ w ∈ L.filter vx_no, w.before args s = true)
    (hU : (Cond.isRef (.static Bundle.tN "UNASSIGNED_STACK" Bundle.steD)).before args s = true) (hN : (Cond.isRef (.static Bundle.tN "SUPPRESSED_SENTINEL" Bundle.listD)).before args s = true)
    (lU : (Cond.laysStatic Bundle.tN "UNASSIGNED_STACK" Bundle.steD).before args s = true) (lN : (Cond.laysStatic Bundle.tN "SUPPRESSED_SENTINEL" Bundle.listD).before args s = true) : ∀ w ∈ L, w.before args s = true := by
  intro w hw
  by_cases e1 : w = .isRef (.static Bundle.tN "UNASSIGNED_STACK" Bundle.steD)
  · rw [e1]; exact hU
  · by_cases e2 : w = .isRef (.static Bundle.tN "SUPPRESSED_SENTINEL" Bundle.listD)
    · rw [e2]; exact hN
    · by_cases e3 : w = .laysStatic Bundle.tN "UNASSIGNED_STACK" Bundle.steD
      · rw [e3]; exact lU
      · by_cases e4 : w = .laysStatic Bundle.tN "SUPPRESSED_SENTINEL" Bundle.listD
        · rw [e4]; exact lN
        · exact h1 w (List.mem_filter.mpr ⟨hw, by unfold vx_no; rw [decide_eq_true e1, decide_eq_true e2, decide_eq_true e3, decide_eq_true e4]; rfl⟩)
/-- where a static field lies, its class's statics cell in H -/
def vx_L (C n d : String) (A : Nat → Prop) (U : State) (H : Heap) : Prop := ∃ (c : ClassId) (k : Class) (i : Nat) (f : Field) (a : Nat) (cell : Cell), U.vm.findClass C = some c ∧ U.fieldFound? C n d = some (c, k, i, f) ∧ f.isStatic = true ∧ k.statics = some a ∧ H[a]? = some cell ∧ cell.vm.isStatics = true ∧ cell.cls = c ∧ f.slot < cell.slots.size ∧ k.staticTypes[f.slot]? = some f.type ∧ ¬ A a
theorem vx_L.moved {C n d : String} {A : Nat → Prop} {u U : State} {H : Heap} (hvm : u.vm.Alike U.vm) (h : vx_L C n d A u H) : vx_L C n d A U H := by
  obtain ⟨c, k, i, f, a, cell, h1, h2, h3, h4, h5, h6, h7, h8, h9, h10⟩ := h
  obtain ⟨k', hi', he⟩ := State.fieldFound?_setVm hvm h2
  exact ⟨c, k', i, f, a, cell, by rw [hvm.findClass]; exact h1, hi', h3, by rw [he]; exact h4, h5, h6, h7, h8, by rw [he]; exact h9, h10⟩
theorem vx_L.kept {C n d : String} {A : Nat → Prop} {U : State} {H H1 : Heap} (h : vx_L C n d A U H) (hq : ∀ a : Nat, a < H.size → ¬ A a → H1[a]? = H[a]?) : vx_L C n d A U H1 := by
  obtain ⟨c, k, i, f, a, cell, h1, h2, h3, h4, h5, h6, h7, h8, h9, h10⟩ := h
  exact ⟨c, k, i, f, a, cell, h1, h2, h3, h4, by rw [hq a (Array.getElem?_eq_some_iff.mp h5).1 h10]; exact h5, h6, h7, h8, h9, h10⟩
theorem vx_L.narrow {C n d : String} {A B : Nat → Prop} {U : State} {H : Heap} (h : vx_L C n d A U H) (hAB : ∀ q, B q → A q) : vx_L C n d B U H := by
  obtain ⟨c, k, i, f, a, cell, h1, h2, h3, h4, h5, h6, h7, h8, h9, h10⟩ := h
  exact ⟨c, k, i, f, a, cell, h1, h2, h3, h4, h5, h6, h7, h8, h9, fun z => h10 (hAB _ z)⟩
theorem vx_L.word {C n d : String} {A : Nat → Prop} {s : State} {args : Array Value} (h : vx_L C n d A s s.heap) : (Cond.laysStatic C n d).before args s = true := by
  obtain ⟨c, k, i, f, a, cell, h1, h2, h3, h4, h5, h6, h7, h8, h9, -⟩ := h
  show (Cond.laysStatic C n d).holds args s none s [] = true
  exact Cond.laysStatic_of h1 h2 h3 h4 h5 h6 h7 h8 h9
/-- .. and what it holds: null or some reference -/
def vx_Zq (C n d : String) (A : Nat → Prop) (U : State) (H : Heap) : Prop := va_Zq C n d A U H ∧ vx_L C n d A U H
theorem vx_Zq.moved {C n d : String} {A : Nat → Prop} {u U : State} {H : Heap} (hvm : u.vm.Alike U.vm) (h : vx_Zq C n d A u H) : vx_Zq C n d A U H := ⟨va_Zq.moved hvm h.1, vx_L.moved hvm h.2⟩
theorem vx_Zq.kept {C n d : String} {A : Nat → Prop} {U : State} {H H1 : Heap} (h : vx_Zq C n d A U H) (hq : ∀ a : Nat, a < H.size → ¬ A a → H1[a]? = H[a]?) : vx_Zq C n d A U H1 := ⟨va_Zq.kept h.1 hq, vx_L.kept h.2 hq⟩
theorem vx_Zq.narrow {C n d : String} {A B : Nat → Prop} {U : State} {H : Heap} (h : vx_Zq C n d A U H) (hAB : ∀ q, B q → A q) : vx_Zq C n d B U H := ⟨va_Zq.narrow h.1 hAB, vx_L.narrow h.2 hAB⟩
theorem vx_Zqof {args : Array Value} {s : State} {C n d : String} {A : Nat → Prop} (hl : (Cond.laysStatic C n d).before args s = true) (hini : (Cond.initialized C).before args s = true) (h : (Cond.isRef (.static C n d)).before args s = true) (hA : ∀ a : Nat, a < s.heap.size → ¬ A a) : vx_Zq C n d A s s.heap := by
  refine ⟨va_Zqof hl hini h hA, ?_⟩
  obtain ⟨c, k, i, f, a, cell, h1, h2, h3, h4, h5, h6, h7, h8, h9⟩ := Cond.laysStatic_spec hl
  exact ⟨c, k, i, f, a, cell, h1, h2, h3, h4, h5, h6, h7, h8, h9, hA a (Array.getElem?_eq_some_iff.mp h5).1⟩
theorem vx_isRef {C n d : String} {v : Value} {A : Nat → Prop} {s : State} {args : Array Value} (h : va_Z C n d v A s s.heap) (hv : v.isRef = true) : (Cond.isRef (.static C n d)).before args s = true := by
  obtain ⟨cf, kf, fi, f, a, cell, h1, h2, h3, h4, h5, h6, h7, -⟩ := h
  have he : (Term.static C n d).eval args s none [] s = some v := by
    simp [Term.eval, State.fieldNamed?, h1, h2, h4, h5, h6, h7]
  simp only [Cond.before, Cond.holds, Cond.value, he]
  cases v <;> simp_all [Value.isRef]
theorem vx_isRefq {C n d : String} {A : Nat → Prop} {s : State} {args : Array Value} (h : va_Zq C n d A s s.heap) : (Cond.isRef (.static C n d)).before args s = true := by
  rcases h with h | ⟨t, h⟩
  · exact vx_isRef h rfl
  · exact vx_isRef h rfl
/-- the same frame, seen from here: as if the method were called anew in this heap -/
theorem vx_rebase {T : State} (X : Stand p l e R s m args below meth c T locs cells slots) {R' : Room} (hf : R'.frames ≤ R.frames) (hl : R'.locals ≤ R.locals) (hc : cells + R'.cells ≤ R.cells) (hs : slots + R'.slots ≤ R.slots) :
    Stand p l e R' ((T.setVm s.vm).setFrames (.invoking m args :: below)) m args below meth c T [] 0 0 := by
  have htop : (T.setVm s.vm).topJava?.isSome := X.here.top
  have hF : ((T.setVm s.vm).setFrames (.invoking m args :: below)).frames = .invoking m args :: below := State.frames_setFrames _ (State.cur_lt_of_top htop)
  obtain ⟨g₀, hg0⟩ := Option.isSome_iff_exists.mp htop
  obtain ⟨r, hr⟩ := State.topJava?_eq_some.mp hg0
  have hl9 : e.platform.stackLimits (T.setVm s.vm).me = e.platform.stackLimits s.me := X.limits
  have hb9 : (T.setVm s.vm).me.stackBytes = s.me.stackBytes := X.bytes
  refine ⟨X.admits, X.cas, X.clock, hF, ?_, X.hears, X.method, X.code, X.here, X.tail, X.warmed, ?_, ?_, ?_⟩
  · have h := X.room
    have hU : ((T.setVm s.vm).setFrames (.invoking m args :: below)).localsInUse = s.localsInUse := by
      rw [State.localsInUse_invoking hF (meth := meth) (c := c) X.method X.code, State.localsInUse_invoking X.frames X.method X.code]
    simp only [State.hasRoom, Bool.and_eq_true, decide_eq_true_eq] at h ⊢
    obtain ⟨⟨⟨⟨h1, h2, h3, h4, h5, h6⟩, h7⟩, h8⟩, h9⟩ := h
    rw [X.frames, List.length_cons] at h2 h3
    have q1 := X.heapSize
    have q2 := X.used
    simp only [hF, hU, List.length_cons, State.stackLimits_setFrames, State.stackBytes_setFrames, hl9, hb9]
    refine ⟨⟨⟨⟨by omega, by omega, by omega, by omega, by omega, h6⟩, ?_⟩, ?_⟩, X.book⟩
    · show T.heap.size + R'.cells ≤ e.platform.maxCells
      omega
    · show T.slotsUsed + R'.slots ≤ e.platform.maxSlots
      omega
  · rw [State.stackLimits_setFrames]; rfl
  · rw [State.stackBytes_setFrames]; rfl
  · refine ⟨?_, Nat.le_refl _, Nat.le_refl _, ?_, ?_, fun a c9 h9 => ⟨c9, h9, rfl, rfl, fun _ _ => rfl⟩⟩
    · obtain ⟨t, ht, -⟩ := State.frames_cons hr
      show T.setVm s.vm = { ((T.setVm s.vm).setFrames (.invoking m args :: below)).setFrames (T.setVm s.vm).frames with heap := T.heap, slotsUsed := T.slotsUsed }
      rw [State.setFrames_setFrames, State.setFrames_self ht]
      rfl
    · show T.slotsUsed = T.slotsUsed + ((T.heap.toList.drop T.heap.size).map (·.slots.size)).sum
      rw [List.drop_eq_nil_of_le (Nat.le_of_eq Array.length_toList)]
      rfl
    · show ((T.heap.toList.drop T.heap.size).map (·.slots.size)).sum ≤ 0
      rw [List.drop_eq_nil_of_le (Nat.le_of_eq Array.length_toList)]
      exact Nat.le_refl _
/-- 'throw new E()': new; dup; invokespecial; athrow -/
theorem vx_throw0 {cc : ByteArray} {pc : Nat} (hexec : p.tables.exec = Jvm.exec) (hb : c.code = cc) (hl : l.stackTraces = false) {own cls : String} {names : List String} {ik ic mc ms : Nat} {A : Nat → Prop}
    (hown : s.vm.findClass own = some m.cls) (hcls : Bundle.fit cls = true) (hnames : ∀ n ∈ names, Bundle.fit n = true)
    (hk : (Cond.classLink own ik cls).before args s = true) (hini : (Cond.initialized cls).before args s = true) (hat : ∀ w ∈ vx_at0 own ic cls names, w.before args s = true)
    (hgood : ∀ w ∈ Cond.classLink own ik cls :: Cond.initialized cls :: vx_at0 own ic cls names, vx_ot w = true)
    (hU : vx_Zq Bundle.tN "UNASSIGNED_STACK" Bundle.steD A s s.heap) (hN : vx_Zq Bundle.tN "SUPPRESSED_SENTINEL" Bundle.listD A s s.heap) (hS : va_S A s.heap H locs) (hsize : ls.size = c.maxLocals)
    (d0 : decode cc pc = .ok (.new ik, 3)) (d3 : decode cc (pc + 3) = .ok (.dup, 1)) (d4 : decode cc (pc + 4) = .ok (.invokespecial ic, 3)) (d7 : decode cc (pc + 7) = .ok (.athrow, 1))
    (hout : ∀ x ∈ c.exceptionTable.toList, covers x (pc + 7) = false)
    (hRframes : names.length + 3 < R.frames) (hRlocals : (rest.map fun v => v.category).sum + (13 * (names.length + 1) + 42) ≤ R.locals) (hRcells : cells + 1 ≤ R.cells) (hRslots : slots + 6 ≤ R.slots) (hlocks : meth.locks = false)
    (hx : ∀ t : State, s.vm.Alike t.vm → H.size ≤ t.heap.size → (∀ q : Nat, q < H.size → t.heap[q]? = H[q]?) → XC cls s t)
    (hf : ∀ z ∈ locs, free z.base) (hc : cells + 1 ≤ mc) (hs : slots + 6 ≤ ms) :
    W p l e R s m args below meth c H locs cells slots (vx_MQ below Qc XC args s mc ms free) (F0 m pc ls rest) := by
  intro T hT X
  have htr : e.platform.stackTraces = false := (show e.platform.stackTraces = l.stackTraces by rw [X.admits.platform]).trans hl
  have Y := vx_rebase X (R' := { frames := R.frames, locals := R.locals, cells := 1, slots := 6 }) (Nat.le_refl _) (Nat.le_refl _) hRcells hRslots
  obtain ⟨s', hA⟩ : ∃ z, z = (T.setVm s.vm).setFrames (.invoking m args :: below) := ⟨_, rfl⟩
  rw [← hA] at Y
  have hvm : s'.vm = s.vm := by rw [hA]; rfl
  have hhp : s'.heap = H := by rw [hA]; exact hT
  have hW0 : s.WarmedH s'.vm := by rw [hvm]; exact State.WarmedH.refl s
  have hat' : ∀ w ∈ vx_at0 own ic cls names, w.before args s' = true := fun w hw => vx_ot_at hW0 hvm.symm (hgood w (List.mem_cons_of_mem _ (List.mem_cons_of_mem _ hw))) (hat w hw)
  have hk' : (Cond.classLink own ik cls).before args s' = true := vx_ot_at hW0 hvm.symm (hgood _ List.mem_cons_self) hk
  have hini' : (Cond.initialized cls).before args s' = true := vx_ot_at hW0 hvm.symm (hgood _ (List.mem_cons_of_mem _ List.mem_cons_self)) hini
  have hU' : vx_Zq Bundle.tN "UNASSIGNED_STACK" Bundle.steD A s' s'.heap := by rw [hhp]; exact vx_Zq.moved hW0.alike (hU.kept hS.2.1)
  have hN' : vx_Zq Bundle.tN "SUPPRESSED_SENTINEL" Bundle.listD A s' s'.heap := by rw [hhp]; exact vx_Zq.moved hW0.alike (hN.kept hS.2.1)
  have h : ∀ w ∈ Bundle.ownAtoms0 own ic cls names, w.before args s' = true := vx_own hat' (vx_isRefq hU'.1) (vx_isRefq hN'.1) hU'.2.word hN'.2.word
  have hown' : s'.vm.findClass own = some m.cls := by rw [hvm]; exact hown
  have hins : (Cond.instantiable cls 6).before args s' = true := h _ (by simp [Bundle.ownAtoms0])
  obtain ⟨vm₁, cX, kX, hfX, hkX, -, -, X₁, st1⟩ := Y.newCold hexec (own := own) (C := cls) (index := ik) (n := 6) hown' hk' hins hini'
    (g := F0 m pc ls rest) rfl (by rw [hb]; exact d0) (Nat.le_refl _) (Nat.le_refl _)
  generalize hT1 : (T.setVm vm₁).pushCell { cls := cX, slots := kX.instanceTypes.map defaultValue, vm := .none } = T1 at X₁ st1
  have hcat : (Value.ref T.heap.size).category = 1 := rfl
  have hcellA : T1.heap[T.heap.size]? = some (freshCell cX kX) := by rw [← hT1]; exact State.heap_pushCell_size _ _
  have d3' : decode c.code (pc + 3) = .ok (.dup, 1) := by rw [hb]; exact d3
  obtain ⟨U, hsteps, hrun, hend, hW, hsame, ce, hce, hO⟩ := X₁.ctorThrow0 hexec htr (own := own) (cls := cls) (names := names) (ic := ic) hown' hcls hnames h (fun x hx => nomatch hx) hfX hkX hcellA (by rw [hhp, hT]; exact Nat.le_refl _)
    (g := { method := m, pc := pc + 4, locals := ls, stack := .ref T.heap.size :: .ref T.heap.size :: rest, locked := none }) rfl hsize rfl rfl (rest := rest) rfl
    (by rw [hb]; exact d4) (by rw [hb]; exact d7) hout hRframes (by simp only [List.map_cons, List.sum_cons, hcat]; omega) hlocks
  obtain ⟨f1, f2⟩ := vx_frame hsame
  rw [hhp] at f1 f2
  have hWs : s.WarmedH U.vm := State.WarmedH.trans hW0 hW
  have hcl : s.vm.findClass cls = some ce.cls := by
    have h9 := hO.cls
    rw [hvm] at h9
    exact h9
  have hall : s.sameButNew ({ U with vm := s.vm } : State) locs mc ms := by
    subst hA
    obtain ⟨e1, e2⟩ := hsame
    rw [State.setFrames_setFrames] at e1
    have h2 : (T.setVm s.vm).sameButNew ({ U with vm := s.vm } : State) [] (0 + 1) (0 + 6) := ⟨e1, e2⟩
    have h3 := X.same.trans h2
    rw [List.append_nil] at h3
    exact h3.mono hc hs
  refine ⟨U, ?_, .threw T.heap.size, hrun, hend, Or.inr ⟨T.heap.size, rfl, cls, ce, locs, hx U hWs.alike f1 (fun q hq => f2 q hq (fun z hz => nomatch hz)), hce, hO.vm, hcl, hWs, hall, hf⟩⟩
  refine st1 _ ?_
  show Steps p.tables e below (T1.setTop { method := m, pc := pc + 3, locals := ls, stack := .ref T.heap.size :: rest, locked := none }) _
  jvm_step X₁.here [X₁.here.top, hexec, d3', Value.category]
  exact hsteps
/-- 'throw new E("text")': new; dup; ldc; invokespecial; athrow -/
theorem vx_throwS {cc : ByteArray} {pc : Nat} (hexec : p.tables.exec = Jvm.exec) (hb : c.code = cc) (hl : l.stackTraces = false) {own cls text : String} {names : List String} {ik is ic mc ms sa : Nat} {A : Nat → Prop}
    (hown : s.vm.findClass own = some m.cls) (hcls : Bundle.fit cls = true) (hnames : ∀ n ∈ names, Bundle.fit n = true)
    (hk : (Cond.classLink own ik cls).before args s = true) (hini : (Cond.initialized cls).before args s = true) (hstr : vk_R own is text sa s) (hat : ∀ w ∈ vx_atS own ic cls names, w.before args s = true)
    (hgood : ∀ w ∈ Cond.classLink own ik cls :: Cond.initialized cls :: vx_atS own ic cls names, vx_ot w = true)
    (hU : vx_Zq Bundle.tN "UNASSIGNED_STACK" Bundle.steD A s s.heap) (hN : vx_Zq Bundle.tN "SUPPRESSED_SENTINEL" Bundle.listD A s s.heap) (hS : va_S A s.heap H locs) (hsize : ls.size = c.maxLocals)
    (d0 : decode cc pc = .ok (.new ik, 3)) (d3 : decode cc (pc + 3) = .ok (.dup, 1)) (d4 : decode cc (pc + 4) = .ok (.ldc is, 2)) (d6 : decode cc (pc + 6) = .ok (.invokespecial ic, 3)) (d9 : decode cc (pc + 9) = .ok (.athrow, 1))
    (hout : ∀ x ∈ c.exceptionTable.toList, covers x (pc + 9) = false)
    (hRframes : names.length + 3 < R.frames) (hRlocals : (rest.map fun v => v.category).sum + (13 * (names.length + 1) + 43) ≤ R.locals) (hRcells : cells + 1 ≤ R.cells) (hRslots : slots + 6 ≤ R.slots) (hlocks : meth.locks = false)
    (hx : ∀ t : State, s.vm.Alike t.vm → H.size ≤ t.heap.size → (∀ q : Nat, q < H.size → t.heap[q]? = H[q]?) → XC cls s t)
    (hf : ∀ z ∈ locs, free z.base) (hc : cells + 1 ≤ mc) (hs : slots + 6 ≤ ms) :
    W p l e R s m args below meth c H locs cells slots (vx_MQ below Qc XC args s mc ms free) (F0 m pc ls rest) := by
  intro T hT X
  have htr : e.platform.stackTraces = false := (show e.platform.stackTraces = l.stackTraces by rw [X.admits.platform]).trans hl
  have Y := vx_rebase X (R' := { frames := R.frames, locals := R.locals, cells := 1, slots := 6 }) (Nat.le_refl _) (Nat.le_refl _) hRcells hRslots
  obtain ⟨s', hA⟩ : ∃ z, z = (T.setVm s.vm).setFrames (.invoking m args :: below) := ⟨_, rfl⟩
  rw [← hA] at Y
  have hvm : s'.vm = s.vm := by rw [hA]; rfl
  have hhp : s'.heap = H := by rw [hA]; exact hT
  have hW0 : s.WarmedH s'.vm := by rw [hvm]; exact State.WarmedH.refl s
  have hat' : ∀ w ∈ vx_atS own ic cls names, w.before args s' = true := fun w hw => vx_ot_at hW0 hvm.symm (hgood w (List.mem_cons_of_mem _ (List.mem_cons_of_mem _ hw))) (hat w hw)
  have hk' : (Cond.classLink own ik cls).before args s' = true := vx_ot_at hW0 hvm.symm (hgood _ List.mem_cons_self) hk
  have hini' : (Cond.initialized cls).before args s' = true := vx_ot_at hW0 hvm.symm (hgood _ (List.mem_cons_of_mem _ List.mem_cons_self)) hini
  have hU' : vx_Zq Bundle.tN "UNASSIGNED_STACK" Bundle.steD A s' s'.heap := by rw [hhp]; exact vx_Zq.moved hW0.alike (hU.kept hS.2.1)
  have hN' : vx_Zq Bundle.tN "SUPPRESSED_SENTINEL" Bundle.listD A s' s'.heap := by rw [hhp]; exact vx_Zq.moved hW0.alike (hN.kept hS.2.1)
  have h : ∀ w ∈ Bundle.ownAtoms own ic cls names, w.before args s' = true := vx_own hat' (vx_isRefq hU'.1) (vx_isRefq hN'.1) hU'.2.word hN'.2.word
  have hown' : s'.vm.findClass own = some m.cls := by rw [hvm]; exact hown
  have hins : (Cond.instantiable cls 6).before args s' = true := h _ (by simp [Bundle.ownAtoms])
  obtain ⟨vm₁, cX, kX, hfX, hkX, -, -, X₁, st1⟩ := Y.newCold hexec (own := own) (C := cls) (index := ik) (n := 6) hown' hk' hins hini'
    (g := F0 m pc ls rest) rfl (by rw [hb]; exact d0) (Nat.le_refl _) (Nat.le_refl _)
  generalize hT1 : (T.setVm vm₁).pushCell { cls := cX, slots := kX.instanceTypes.map defaultValue, vm := .none } = T1 at X₁ st1
  have hcat : (Value.ref T.heap.size).category = 1 := rfl
  have hcellA : T1.heap[T.heap.size]? = some (freshCell cX kX) := by rw [← hT1]; exact State.heap_pushCell_size _ _
  have d3' : decode c.code (pc + 3) = .ok (.dup, 1) := by rw [hb]; exact d3
  have d4' : decode c.code (pc + 4) = .ok (.ldc is, 2) := by rw [hb]; exact d4
  have hstr' : vk_R own is text sa s' := vk_R.warm hW0 hstr
  obtain ⟨U, hsteps, hrun, hend, hW, hsame, ce, hce, hO⟩ := X₁.ctorThrowS hexec htr (own := own) (cls := cls) (names := names) (ic := ic) hown' hcls hnames h (fun x hx => nomatch hx) hfX hkX hcellA (by rw [hhp, hT]; exact Nat.le_refl _) (msg := .ref sa) rfl
    (g := { method := m, pc := pc + 6, locals := ls, stack := .ref sa :: .ref T.heap.size :: .ref T.heap.size :: rest, locked := none }) rfl hsize rfl rfl (rest := rest) rfl
    (by rw [hb]; exact d6) (by rw [hb]; exact d9) hout hRframes (by simp only [List.map_cons, List.sum_cons, hcat]; omega) hlocks
  obtain ⟨f1, f2⟩ := vx_frame hsame
  rw [hhp] at f1 f2
  have hWs : s.WarmedH U.vm := State.WarmedH.trans hW0 hW
  have hcl : s.vm.findClass cls = some ce.cls := by
    have h9 := hO.cls
    rw [hvm] at h9
    exact h9
  have hall : s.sameButNew ({ U with vm := s.vm } : State) locs mc ms := by
    subst hA
    obtain ⟨e1, e2⟩ := hsame
    rw [State.setFrames_setFrames] at e1
    have h2 : (T.setVm s.vm).sameButNew ({ U with vm := s.vm } : State) [] (0 + 1) (0 + 6) := ⟨e1, e2⟩
    have h3 := X.same.trans h2
    rw [List.append_nil] at h3
    exact h3.mono hc hs
  refine ⟨U, ?_, .threw T.heap.size, hrun, hend, Or.inr ⟨T.heap.size, rfl, cls, ce, locs, hx U hWs.alike f1 (fun q hq => f2 q hq (fun z hz => nomatch hz)), hce, hO.vm, hcl, hWs, hall, hf⟩⟩
  refine st1 _ ?_
  show Steps p.tables e below (T1.setTop { method := m, pc := pc + 3, locals := ls, stack := .ref T.heap.size :: rest, locked := none }) _
  jvm_step X₁.here [X₁.here.top, hexec, d3', Value.category]
  exact X₁.ldcString hexec (own := own) (text := text) (index := is) (a := sa) hown' hstr'.1 hstr'.2
    (g := { method := m, pc := pc + 4, locals := ls, stack := .ref T.heap.size :: .ref T.heap.size :: rest, locked := none }) rfl d4' _ hsteps
/-- 'throw new E("text")', the text by a wide index -/
theorem vx_throwSW {cc : ByteArray} {pc : Nat} (hexec : p.tables.exec = Jvm.exec) (hb : c.code = cc) (hl : l.stackTraces = false) {own cls text : String} {names : List String} {ik is ic mc ms sa : Nat} {A : Nat → Prop}
    (hown : s.vm.findClass own = some m.cls) (hcls : Bundle.fit cls = true) (hnames : ∀ n ∈ names, Bundle.fit n = true)
    (hk : (Cond.classLink own ik cls).before args s = true) (hini : (Cond.initialized cls).before args s = true) (hstr : vk_R own is text sa s) (hat : ∀ w ∈ vx_atS own ic cls names, w.before args s = true)
    (hgood : ∀ w ∈ Cond.classLink own ik cls :: Cond.initialized cls :: vx_atS own ic cls names, vx_ot w = true)
    (hU : vx_Zq Bundle.tN "UNASSIGNED_STACK" Bundle.steD A s s.heap) (hN : vx_Zq Bundle.tN "SUPPRESSED_SENTINEL" Bundle.listD A s s.heap) (hS : va_S A s.heap H locs) (hsize : ls.size = c.maxLocals)
    (d0 : decode cc pc = .ok (.new ik, 3)) (d3 : decode cc (pc + 3) = .ok (.dup, 1)) (d4 : decode cc (pc + 4) = .ok (.ldc_w is, 3)) (d7 : decode cc (pc + 7) = .ok (.invokespecial ic, 3)) (d10 : decode cc (pc + 10) = .ok (.athrow, 1))
    (hout : ∀ x ∈ c.exceptionTable.toList, covers x (pc + 10) = false)
    (hRframes : names.length + 3 < R.frames) (hRlocals : (rest.map fun v => v.category).sum + (13 * (names.length + 1) + 43) ≤ R.locals) (hRcells : cells + 1 ≤ R.cells) (hRslots : slots + 6 ≤ R.slots) (hlocks : meth.locks = false)
    (hx : ∀ t : State, s.vm.Alike t.vm → H.size ≤ t.heap.size → (∀ q : Nat, q < H.size → t.heap[q]? = H[q]?) → XC cls s t)
    (hf : ∀ z ∈ locs, free z.base) (hc : cells + 1 ≤ mc) (hs : slots + 6 ≤ ms) :
    W p l e R s m args below meth c H locs cells slots (vx_MQ below Qc XC args s mc ms free) (F0 m pc ls rest) := by
  intro T hT X
  have htr : e.platform.stackTraces = false := (show e.platform.stackTraces = l.stackTraces by rw [X.admits.platform]).trans hl
  have Y := vx_rebase X (R' := { frames := R.frames, locals := R.locals, cells := 1, slots := 6 }) (Nat.le_refl _) (Nat.le_refl _) hRcells hRslots
  obtain ⟨s', hA⟩ : ∃ z, z = (T.setVm s.vm).setFrames (.invoking m args :: below) := ⟨_, rfl⟩
  rw [← hA] at Y
  have hvm : s'.vm = s.vm := by rw [hA]; rfl
  have hhp : s'.heap = H := by rw [hA]; exact hT
  have hW0 : s.WarmedH s'.vm := by rw [hvm]; exact State.WarmedH.refl s
  have hat' : ∀ w ∈ vx_atS own ic cls names, w.before args s' = true := fun w hw => vx_ot_at hW0 hvm.symm (hgood w (List.mem_cons_of_mem _ (List.mem_cons_of_mem _ hw))) (hat w hw)
  have hk' : (Cond.classLink own ik cls).before args s' = true := vx_ot_at hW0 hvm.symm (hgood _ List.mem_cons_self) hk
  have hini' : (Cond.initialized cls).before args s' = true := vx_ot_at hW0 hvm.symm (hgood _ (List.mem_cons_of_mem _ List.mem_cons_self)) hini
  have hU' : vx_Zq Bundle.tN "UNASSIGNED_STACK" Bundle.steD A s' s'.heap := by rw [hhp]; exact vx_Zq.moved hW0.alike (hU.kept hS.2.1)
  have hN' : vx_Zq Bundle.tN "SUPPRESSED_SENTINEL" Bundle.listD A s' s'.heap := by rw [hhp]; exact vx_Zq.moved hW0.alike (hN.kept hS.2.1)
  have h : ∀ w ∈ Bundle.ownAtoms own ic cls names, w.before args s' = true := vx_own hat' (vx_isRefq hU'.1) (vx_isRefq hN'.1) hU'.2.word hN'.2.word
  have hown' : s'.vm.findClass own = some m.cls := by rw [hvm]; exact hown
  have hins : (Cond.instantiable cls 6).before args s' = true := h _ (by simp [Bundle.ownAtoms])
  obtain ⟨vm₁, cX, kX, hfX, hkX, -, -, X₁, st1⟩ := Y.newCold hexec (own := own) (C := cls) (index := ik) (n := 6) hown' hk' hins hini'
    (g := F0 m pc ls rest) rfl (by rw [hb]; exact d0) (Nat.le_refl _) (Nat.le_refl _)
  generalize hT1 : (T.setVm vm₁).pushCell { cls := cX, slots := kX.instanceTypes.map defaultValue, vm := .none } = T1 at X₁ st1
  have hcat : (Value.ref T.heap.size).category = 1 := rfl
  have hcellA : T1.heap[T.heap.size]? = some (freshCell cX kX) := by rw [← hT1]; exact State.heap_pushCell_size _ _
  have d3' : decode c.code (pc + 3) = .ok (.dup, 1) := by rw [hb]; exact d3
  have d4' : decode c.code (pc + 4) = .ok (.ldc_w is, 3) := by rw [hb]; exact d4
  have hstr' : vk_R own is text sa s' := vk_R.warm hW0 hstr
  obtain ⟨U, hsteps, hrun, hend, hW, hsame, ce, hce, hO⟩ := X₁.ctorThrowS hexec htr (own := own) (cls := cls) (names := names) (ic := ic) hown' hcls hnames h (fun x hx => nomatch hx) hfX hkX hcellA (by rw [hhp, hT]; exact Nat.le_refl _) (msg := .ref sa) rfl
    (g := { method := m, pc := pc + 7, locals := ls, stack := .ref sa :: .ref T.heap.size :: .ref T.heap.size :: rest, locked := none }) rfl hsize rfl rfl (rest := rest) rfl
    (by rw [hb]; exact d7) (by rw [hb]; exact d10) hout hRframes (by simp only [List.map_cons, List.sum_cons, hcat]; omega) hlocks
  obtain ⟨f1, f2⟩ := vx_frame hsame
  rw [hhp] at f1 f2
  have hWs : s.WarmedH U.vm := State.WarmedH.trans hW0 hW
  have hcl : s.vm.findClass cls = some ce.cls := by
    have h9 := hO.cls
    rw [hvm] at h9
    exact h9
  have hall : s.sameButNew ({ U with vm := s.vm } : State) locs mc ms := by
    subst hA
    obtain ⟨e1, e2⟩ := hsame
    rw [State.setFrames_setFrames] at e1
    have h2 : (T.setVm s.vm).sameButNew ({ U with vm := s.vm } : State) [] (0 + 1) (0 + 6) := ⟨e1, e2⟩
    have h3 := X.same.trans h2
    rw [List.append_nil] at h3
    exact h3.mono hc hs
  refine ⟨U, ?_, .threw T.heap.size, hrun, hend, Or.inr ⟨T.heap.size, rfl, cls, ce, locs, hx U hWs.alike f1 (fun q hq => f2 q hq (fun z hz => nomatch hz)), hce, hO.vm, hcl, hWs, hall, hf⟩⟩
  refine st1 _ ?_
  show Steps p.tables e below (T1.setTop { method := m, pc := pc + 3, locals := ls, stack := .ref T.heap.size :: rest, locked := none }) _
  jvm_step X₁.here [X₁.here.top, hexec, d3', Value.category]
  exact X₁.ldcStringW hexec (own := own) (text := text) (index := is) (a := sa) hown' hstr'.1 hstr'.2
    (g := { method := m, pc := pc + 4, locals := ls, stack := .ref T.heap.size :: .ref T.heap.size :: rest, locked := none }) rfl d4' _ hsteps
end Ends
section Bodies
variable {l : Launch}
theorem vx_ofW {y : MethodName} {ws ws' : List Cond} {rm : Room} {Pc : Array Value → State → Prop} {Qc : Array Value → State → Outcome → State → Prop} {XC : String → State → State → Prop} {mc ms : Nat} {free : Addr → Prop} {cc : ByteArray} {maxL : Nat} {ret : Option FieldType}
    (hy : plainName y.cls = true) (hw : ws = Cond.code y cc maxL ret :: ws')
    (body : ∀ p e s m args below meth c s₁, BodyLoose p l y (headSpec ws rm) cc maxL ret e s m args below meth c s₁ → c.maxLocals = maxL → (∀ x ∈ c.exceptionTable.toList, False) → Pc args s →
      W p l e (headSpec ws rm).room s m args below meth c s.heap [] 0 0 (vx_MQ below Qc XC args s mc ms free) (entryFrame m args maxL)) : vx_Met l y ws rm Pc Qc XC mc ms free := by
  refine MetFree.of_bodyS (code := cc) (maxLocals := maxL) (ret := ret) hy ?_ ?_
  · intro args s m h hn
    obtain ⟨meth, c, h1, h2, h3, h4, h5, h6, -, -⟩ := Cond.code_spec hn (atoms_spec (ws := ws) h _ (by rw [hw]; exact List.mem_cons_self))
    exact ⟨meth, c, h1, h2, h3, h4, h5, h6⟩
  · intro p e s m args below meth c s₁ B hml hP _
    have hh0 : s₁.heap = s.heap := by rw [B.state]; rfl
    have ht : ∀ x ∈ c.exceptionTable.toList, False := by
      obtain ⟨meth9, c9, h1, h2, -, -, -, -, h7, -⟩ := Cond.code_spec B.named (atoms_spec (ws := ws) B.pre _ (by rw [hw]; exact List.mem_cons_self))
      cases Option.some.inj (h1.symm.trans B.method)
      cases Option.some.inj (h2.symm.trans (Stand.of_body B).code)
      intro x hx
      rw [Array.isEmpty_iff.mp h7] at hx
      cases hx
    obtain ⟨t, a1, o, b1, b2, b3⟩ := body p e s m args below meth c s₁ B hml ht hP s₁ hh0 (Stand.of_body B)
    exact ⟨t, o, a1, b1, b2, b3⟩
/-- the table of a body with handlers -/
theorem vx_table {p : Program} {x y : MethodName} {S : Spec} {cc bytes : ByteArray} {maxL maxL' : Nat} {ret ret' : Option FieldType} {e : Env} {s s₁ : State} {m : MethodId} {args : Array Value} {below : List Frame} {meth : Method} {c : Code} {hh : List (Nat × Nat × Nat × Nat)}
    (B : BodyLoose p l y S cc maxL ret e s m args below meth c s₁) (h : (Cond.codeWith y bytes maxL' ret' hh).before args s = true) : c.exceptionTable.toList = tableOf hh := by
  obtain ⟨m9, meth9, c9, hn9, h1, h2, -, -, h6, -⟩ := Cond.codeWith_spec h
  cases Option.some.inj (hn9.symm.trans B.named)
  cases Option.some.inj (h1.symm.trans B.method)
  cases Option.some.inj (h2.symm.trans (Stand.of_body B).code)
  rw [← h6, table_eq]
end Bodies
end VXA
/-! ===== END ===== -/
/-! ===== BEGIN a static call of a method with an exception table ===== -/
section VXS
variable {p : Program} {l : Launch} {e : Env} {R : Room} {s : State} {m : MethodId} {args : Array Value} {below : List Frame} {meth : Method} {c : Code} {T : State} {H : Heap} {locs : List Loc} {cells slots : Nat}
abbrev vx_CSW (R : Room) (s : State) (args : Array Value) (own : String) (index : Nat) (y : MethodName) (bytes : ByteArray) (maxL : Nat) (ret : Option FieldType) (hh : List (Nat × Nat × Nat × Nat)) (ws : List Cond) (rm : Room) (mc ms n : Nat) : Prop :=
  (rm.cells = mc ∧ rm.slots = ms ∧ rm.frames + 1 ≤ R.frames ∧ 8 + (maxL + 11) + rm.locals ≤ R.locals ∧ (∀ w ∈ ws, ∀ (a' : Array Value) (U : State), s.WarmedH U.vm → w.before a' U = true) ∧ Cond.codeWith y bytes maxL ret hh ∈ ws) ∧
  (Cond.codeWith y bytes maxL ret hh).before args s = true ∧ (Cond.initialized y.cls).before args s = true ∧ (y.cls ≠ "java/lang/invoke/MethodHandle" ∧ y.cls ≠ "java/lang/invoke/VarHandle") ∧
  (∀ sig, parseMethodDescriptor y.desc = some sig → n = sig.parameters.length) ∧ (Cond.methodLink own index y).before args s = true ∧ (Cond.static y).before args s = true
theorem vx_cwSW {own : String} {index maxL mc ms : Nat} {y : MethodName} {bytes : ByteArray} {ret : Option FieldType} {hh : List (Nat × Nat × Nat × Nat)} {Ts ws ws' : List Cond} {rm : Room} (n : Nat) (ht : ∀ w ∈ Ts, w.before args s = true) (hT : GoodIn Ts (va_wsS own index y ws)) (hw : ws = Cond.codeWith y bytes maxL ret hh :: ws') (hrc : rm.cells = mc) (hrs : rm.slots = ms)
    (hd : y.cls ≠ "java/lang/invoke/MethodHandle" ∧ y.cls ≠ "java/lang/invoke/VarHandle" ∧ (parseMethodDescriptor y.desc).map (fun d => d.parameters.length) = some n) (hR : rm.frames + 1 ≤ R.frames ∧ 8 + (maxL + 11) + rm.locals ≤ R.locals) :
    vx_CSW R s args own index y bytes maxL ret hh ws rm mc ms n := by
  have ok : ∀ w ∈ va_wsS own index y ws, w.before args s = true := fun w h => ht w (hT w h).1
  have hG : GoodIn Ts ws := fun w h => hT w (by unfold va_wsS; exact List.mem_append_right _ h)
  have hc : Cond.codeWith y bytes maxL ret hh ∈ ws := by rw [hw]; exact List.mem_cons_self
  refine ⟨⟨hrc, hrs, hR.1, hR.2, pay_in ht hG, hc⟩, ht _ (hG _ hc).1, ok _ (by simp [va_wsS]), ⟨hd.1, hd.2.1⟩, fun sig h => ?_, ok _ (by simp [va_wsS]), ok _ (by simp [va_wsS])⟩
  have h2 := hd.2.2
  rw [h] at h2
  exact (Option.some.inj h2).symm
theorem vx_callSW (X : Stand p l e R s m args below meth c T locs cells slots) (hexec : p.tables.exec = Jvm.exec) {own : String} {index : Nat} {y : MethodName} {bytes : ByteArray} {maxL : Nat} {ret : Option FieldType} {hh : List (Nat × Nat × Nat × Nat)}
    (hown : s.vm.findClass own = some m.cls) (hlink : (Cond.methodLink own index y).before args s = true) (hstat : (Cond.static y).before args s = true) (hinit : (Cond.initialized y.cls).before args s = true)
    (hcode : (Cond.codeWith y bytes maxL ret hh).before args s = true) (hy : y.cls ≠ "java/lang/invoke/MethodHandle" ∧ y.cls ≠ "java/lang/invoke/VarHandle")
    {W9 : Nat} {Pre : Pt → Array Value → Prop} {Post : Pt → Array Value → Option Value → Pt → Prop} (hK : Back l R p e below s args y 3 W9 Pre Post)
    {g : JFrame} (hg : g.method = m) (hsize : g.locals.size = c.maxLocals) {argsL rest : List Value} (hlen : ∀ sig, parseMethodDescriptor y.desc = some sig → argsL.length = sig.parameters.length)
    (hstack : g.stack = argsL.reverse ++ rest) (hW : 2 * g.monitorRoom + (rest.map fun v => v.category).sum ≤ W9) (hdg : decode c.code g.pc = .ok (.invokestatic index, 3))
    (hpre : ∀ vm₁, s.WarmedH vm₁ → Pre ⟨T.setVm vm₁, locs, cells, slots⟩ argsL.toArray) :
    ∃ (v : Option Value) (vm₁ : Vm) (B : Pt), s.WarmedH vm₁ ∧ Stand p l e R s m args below meth c B.U B.locs B.cells B.slots ∧ Post ⟨T.setVm vm₁, locs, cells, slots⟩ argsL.toArray v B ∧
      ∀ target, Steps p.tables e below (B.U.setTop { g with pc := g.pc + 3, stack := v.toList ++ rest }) target → Steps p.tables e below (T.setTop g) target := by
  obtain ⟨mk, methM, cM, hnamed, hmethM, -, -, -, -, -, -, hsigM⟩ := Cond.codeWith_spec hcode
  have hstatic : methM.isStatic = true := Cond.static_spec hnamed hmethM hstat
  obtain ⟨kP, hkP, -⟩ := className_of_methodNamed hnamed
  have hinitP : kP.init = .initialized := Cond.initialized_spec (findClass_of_methodNamed hnamed) hkP hinit
  obtain ⟨vm₁, X₁, hstep₁⟩ := X.invokestatic hexec hown hlink hnamed hmethM hstatic hkP hinitP hy (g := g) hg (argsL := argsL) (rest := rest) (hlen _ hsigM) hstack hdg
  obtain ⟨v, B, X', hpost, hsteps⟩ := hK m meth c ⟨T.setVm vm₁, locs, cells, slots⟩ { g with stack := rest } (.invokestatic index) mk argsL.toArray X₁ hg hsize hdg hW (X₁.named hnamed) (hpre vm₁ X₁.warmed)
  exact ⟨v, vm₁, B, X₁.warmed, X', hpost, fun target h => hstep₁ _ fun acts => by rw [doInvoke_state]; exact hsteps.trans h⟩
theorem vx_runSW {y : MethodName} {bytes cc : ByteArray} {maxL nL mc ms n index : Nat} {ret : Option FieldType} {hh : List (Nat × Nat × Nat × Nat)} {ws : List Cond} {rm : Room} {Pc : Array Value → State → Prop} {Qc : Array Value → State → Outcome → State → Prop} {free : Addr → Prop} {Ts : List Cond} {own : String} {As rest : List Value} {g : JFrame}
    (S : CallFix p m c cc nL s args Ts own) (hM : Met l y ws rm Pc Qc mc ms free) (cw : vx_CSW R s args own index y bytes maxL ret hh ws rm mc ms n) (hp : PreS s H Pc As)
    (hg : g.method = m) (hn : As.length = n) (hsize : g.locals.size = nL) (hstack : g.stack = As.reverse ++ rest) (hW : 2 * g.monitorRoom + (rest.map fun v => v.category).sum ≤ 8) (hdg : decode cc g.pc = .ok (.invokestatic index, 3)) (hf : cells + mc ≤ R.cells ∧ slots + ms ≤ R.slots) :
    va_Run p l e R s m args below meth c H locs cells slots mc ms g rest (Qc As.toArray) (free) := by
  obtain ⟨⟨hrc, hrs, hfr, hlo, hws, hcw⟩, hcode, hini, hy, hlen, hl, hstt⟩ := cw
  have hK : Back l R p e below s args y 3 8 (PreOf R mc ms Pc) (PostOf Qc mc ms free) := va_backW (hh := hh) (bytes := bytes) (maxL := maxL) (ret := ret) hM hp.1 hrc hrs hfr hlo hws hcw (fun a' U hW => word_at hW (Or.inl (by first | rfl | simp [Cond.onTables, Cond.keeps, Cond.steady])) hini)
  obtain ⟨hx, hb, hml, ho, -⟩ := S
  intro T hT X
  obtain ⟨v, vm₁, ⟨U', l2, c2, s2⟩, hW₁, X', ⟨g', mk, t, L, e1, e2, hq, h1, hL, h2, h3⟩, st⟩ := vx_callSW X hx (hh := hh) (bytes := bytes) (maxL := maxL) (ret := ret) ho hl hstt hini hcode hy hK hg (hsize.trans hml.symm) (argsL := As) (rest := rest) (fun sig h => hn.trans (hlen sig h)) hstack hW (by rw [hb]; exact hdg)
    (fun vm₁ hW₁ => ⟨hf.1, hf.2, hp.2 (T.setVm vm₁) hT hW₁⟩)
  dsimp only [Pt.U, Pt.locs, Pt.cells, Pt.slots] at X' e1 e2 h1 h2 h3 st
  subst h1; subst h2; subst h3
  exact ⟨v, (T.setVm vm₁).calling g' mk As.toArray, t, U', L, hT, X', hL, e1, e2, hq, st⟩
/-- a thing of a world lies in the heap -/
theorem vx_lt {D : va_G} {cl : List vw_C} {ws : va_W} {H1 : Heap} (h : va_P D cl ws H1) {k : Nat} {q : Nat × va_E} (hk : ws[k]? = some q) : q.1 < H1.size := (h k q hk).lt
end VXS
/-! ===== END ===== -/
/-! ===== BEGIN methods with a table of their own: called by a name, returning or throwing ===== -/
section VXH
/-! vx_backW, vx_callVX, vx_callSX, vx_callVW, vx_runVW, vx_runVX, vx_runSX, vx_ofWH follow the same proofs as their sisters above (Free/Laws.lean, Shelf42/LK1.lean); vx_outP calls Shelf42/NT130.lean (outThrough). -/
section
variable {l : Launch} {R : Room} {p : Program} {e : Env} {below : List Frame} {s : State} {sargs : Array Value} {y : MethodName} {len W9 : Nat}
theorem vx_backW {ws : List Cond} {rm : Room} {Pc : Array Value → State → Prop} {Qc : Array Value → State → Outcome → State → Prop} {XC : String → State → State → Prop} {mc ms : Nat} {free : Addr → Prop} {bytes : ByteArray} {maxL : Nat} {ret : Option FieldType} {hh : List (Nat × Nat × Nat × Nat)}
    (hM : vx_Met l y ws rm Pc Qc XC mc ms free) (hblind : FrameBlind Pc) (hrc : rm.cells = mc) (hrs : rm.slots = ms)
    (hframes : rm.frames + 1 ≤ R.frames) (hlocals : W9 + (maxL + 11) + rm.locals ≤ R.locals)
    (hws : ∀ w ∈ ws, ∀ a' U, s.WarmedH U.vm → w.before a' U = true) (hcode : Cond.codeWith y bytes maxL ret hh ∈ ws) (hinit : ∀ a' U, s.WarmedH U.vm → (Cond.initialized y.cls).before a' U = true) :
    vx_Back l R p e below s sargs y len W9 (PreOf R mc ms Pc) (PostOf Qc mc ms free) (vx_Post XC mc ms free) := by
  intro m meth c A g ig mk a X hg hsize hdg hW hn hp
  have h1 : (headSpec ws rm).pre.before a A.U = true := atoms_intro fun w hw => hws w hw _ _ X.warmed
  have h2 : (Cond.codeWith y bytes maxL ret hh).before a A.U = true := hws _ hcode _ _ X.warmed
  have h3 : (Cond.initialized y.cls).before a A.U = true := hinit _ _ X.warmed
  have h4 : A.cells + (headSpec ws rm).room.cells ≤ R.cells := by rw [show (headSpec ws rm).room.cells = mc from hrc]; exact hp.1
  have h5 : A.slots + (headSpec ws rm).room.slots ≤ R.slots := by rw [show (headSpec ws rm).room.slots = ms from hrs]; exact hp.2.1
  have hPc : Pc a (A.U.calling g mk a) := hblind _ _ _ _ hp.2.2
  obtain ⟨U, Ls, c0, s0⟩ := A
  dsimp only [Pt.U, Pt.locs, Pt.cells, Pt.slots] at h1 h2 h3 h4 h5 X hn hPc ⊢
  obtain ⟨m9, methY, cY, hn9, hmY, hcY, -, hlY, -⟩ := Cond.codeWith_spec h2
  cases Option.some.inj (hn9.symm.trans hn)
  obtain ⟨kY, hkY, -⟩ := className_of_methodNamed hn
  have hinitY : kY.init = .initialized := Cond.initialized_spec (findClass_of_methodNamed hn) hkY h3
  have h : At U g.method c below := by rw [hg]; exact X.here
  have hlocals9 : W9 + (maxL + 11) + (headSpec ws rm).room.locals ≤ R.locals := hlocals
  have happ : (headSpec ws rm).appliesLoose y e.platform (U.calling g mk a) = true :=
    Spec.appliesLoose_calling (g := g) h hdg hn hkY hinitY
      (X.room_calling (g := g) (R' := (headSpec ws rm).room) hsize hmY hcY hframes (by rw [hlY]; omega) h4 h5) h1
  obtain ⟨mid, hmid⟩ := h.above
  have hfr : (U.setTop g).frames = (.java g :: mid) ++ below := by rw [State.frames_setTop' g h.top, hmid]; rfl
  obtain ⟨o, s₂, hsteps, -, hend, hq⟩ := Steps.callFree hM p X.admits X.cas X.clock (acts := []) hfr happ hPc trivial
  have hq' : vx_Q Qc XC mc ms free a (U.calling g mk a) o s₂ := hq
  rw [State.frames_setTop' g h.top] at hend
  obtain ⟨g₀, hg0⟩ := Option.isSome_iff_exists.mp h.top
  obtain ⟨r, hr⟩ := State.topJava?_eq_some.mp hg0
  have hr' : (({ U with heap := s₂.heap, slotsUsed := s₂.slotsUsed } : State).setVm s₂.vm).frames = .java g₀ :: r := hr
  rcases hq' with ⟨hqc, L, hfe, hL⟩ | ⟨q, rfl, E, ce, L, hx, hce, hcv, hcl, hW₂, hsm, hL⟩
  · obtain ⟨⟨v, rfl⟩, hW₂, e2, q2, q3, q4, q5, q6⟩ := id hfe
    have e3 : s₂ = ({ (U.calling g mk a).setFrames s₂.frames with heap := s₂.heap, slotsUsed := s₂.slotsUsed } : State).setVm s₂.vm := by
      have : s₂ = ({ s₂ with vm := (U.calling g mk a).vm } : State).setVm s₂.vm := rfl
      rw [e2] at this
      exact this
    obtain ⟨c₂, i₂, len₂, hc₂, hd₂, hf₂⟩ := hend
    have hW' : U.WarmedH s₂.vm := hW₂
    have hcc : c₂ = c := by
      have h1 : s₂.code? g.method = U.code? g.method := by
        rw [State.code?_eq, State.code?_eq, hW'.alike.method?]
      exact Option.some.inj (hc₂.symm.trans (h1.trans h.code))
    subst hcc
    have hlen : len₂ = len := by rw [hdg] at hd₂; cases hd₂; rfl
    subst hlen
    have hs₂ : s₂ = (({ U with heap := s₂.heap, slotsUsed := s₂.slotsUsed } : State).setVm s₂.vm).setTop { g with pc := g.pc + len₂, stack := v.toList ++ g.stack } := by
      refine e3.trans ?_
      rw [hf₂, State.calling_eq h.top, State.setFrames_setFrames, State.setTop_of_frames _ hr', hr]
      rfl
    have hsame : U.sameButNew ({ U with heap := s₂.heap, slotsUsed := s₂.slotsUsed } : State) L mc ms := by
      refine ⟨?_, q2, q3, q4, q5, q6⟩
      obtain ⟨t, ht, -⟩ := State.frames_cons hr
      show ({ U with heap := s₂.heap, slotsUsed := s₂.slotsUsed } : State) = { U.setFrames U.frames with heap := s₂.heap, slotsUsed := s₂.slotsUsed }
      rw [State.setFrames_self ht]
    subst hg
    refine Or.inl ⟨v, ⟨(({ U with heap := s₂.heap, slotsUsed := s₂.slotsUsed } : State).setVm s₂.vm), Ls ++ L, c0 + mc, s0 + ms⟩,
      ⟨X.admits, X.cas, X.clock, X.frames, X.room, X.hears, X.method, X.code, (X.here.setHeapUsed s₂.heap s₂.slotsUsed).setVm hW'.alike, X.tail, State.WarmedH.trans X.warmed hW', X.limits, X.bytes, X.same.trans (hsame.setVm s.vm)⟩,
      ⟨g, mk, s₂, L, rfl, rfl, hqc, rfl, hL, rfl, rfl⟩, ?_⟩
    show Steps p.tables e below _ ((({ U with heap := s₂.heap, slotsUsed := s₂.slotsUsed } : State).setVm s₂.vm).setTop { g with pc := g.pc + len₂, stack := v.toList ++ g.stack })
    rw [← hs₂]
    exact hsteps
  · obtain ⟨e2, q2, q3, q4, q5, q6⟩ := id hsm
    have e3 : s₂ = ({ (U.calling g mk a).setFrames s₂.frames with heap := s₂.heap, slotsUsed := s₂.slotsUsed } : State).setVm s₂.vm := by
      have : s₂ = ({ s₂ with vm := (U.calling g mk a).vm } : State).setVm s₂.vm := rfl
      rw [e2] at this
      exact this
    have hf₂ : s₂.frames = .throwing q :: .java g :: U.frames.tail := hend
    have hW' : U.WarmedH s₂.vm := hW₂
    have hs₂ : s₂ = ((({ U with heap := s₂.heap, slotsUsed := s₂.slotsUsed } : State).setVm s₂.vm).setTop g).pushFrame (.throwing q) := by
      refine e3.trans ?_
      rw [hf₂, State.calling_eq h.top, State.setFrames_setFrames, State.pushFrame, State.frames_setTop _ hr', State.setTop_of_frames _ hr', State.setFrames_setFrames, hr]
      rfl
    have hsame : U.sameButNew ({ U with heap := s₂.heap, slotsUsed := s₂.slotsUsed } : State) L mc ms := by
      refine ⟨?_, q2, q3, q4, q5, q6⟩
      obtain ⟨t, ht, -⟩ := State.frames_cons hr
      show ({ U with heap := s₂.heap, slotsUsed := s₂.slotsUsed } : State) = { U.setFrames U.frames with heap := s₂.heap, slotsUsed := s₂.slotsUsed }
      rw [State.setFrames_self ht]
    subst hg
    refine Or.inr ⟨q, ⟨(({ U with heap := s₂.heap, slotsUsed := s₂.slotsUsed } : State).setVm s₂.vm), Ls ++ L, c0 + mc, s0 + ms⟩,
      ⟨X.admits, X.cas, X.clock, X.frames, X.room, X.hears, X.method, X.code, (X.here.setHeapUsed s₂.heap s₂.slotsUsed).setVm hW'.alike, X.tail, State.WarmedH.trans X.warmed hW', X.limits, X.bytes, X.same.trans (hsame.setVm s.vm)⟩,
      ⟨g, mk, s₂, L, E, ce, rfl, rfl, hx, hce, hcv, hcl, rfl, hL, rfl, rfl⟩, ?_⟩
    show Steps p.tables e below _ (((({ U with heap := s₂.heap, slotsUsed := s₂.slotsUsed } : State).setVm s₂.vm).setTop g).pushFrame (.throwing q))
    rw [← hs₂]
    exact hsteps
end
variable {p : Program} {l : Launch} {e : Env} {R : Room} {s : State} {m : MethodId} {args : Array Value} {below : List Frame} {meth : Method} {c : Code} {T : State} {H : Heap} {locs : List Loc} {cells slots : Nat}
theorem vx_callVX (X : Stand p l e R s m args below meth c T locs cells slots) (hexec : p.tables.exec = Jvm.exec) {own C : String} {index : Nat} {y : MethodName} {bytes : ByteArray} {maxL : Nat} {ret : Option FieldType} {hh : List (Nat × Nat × Nat × Nat)}
    (hown : s.vm.findClass own = some m.cls) (hlink : (Cond.methodLink own index y).before args s = true) (hinst : (Cond.instanceMethod y).before args s = true) (hsel : (Cond.selects C y y).before args s = true)
    (hcode : (Cond.codeWith y bytes maxL ret hh).before args s = true) (hy : y.cls ≠ "java/lang/invoke/MethodHandle" ∧ y.cls ≠ "java/lang/invoke/VarHandle")
    {W9 : Nat} {Pre : Pt → Array Value → Prop} {Post : Pt → Array Value → Option Value → Pt → Prop} {PostX : Pt → Array Value → Addr → Pt → Prop} (hK : vx_Back l R p e below s args y 3 W9 Pre Post PostX)
    {b : Addr} {cellB : Cell} (hcell : T.heap[b]? = some cellB) (hobj : cellB.vm.isStatics = false) (hcls : s.vm.findClass C = some cellB.cls)
    {g : JFrame} (hg : g.method = m) (hsize : g.locals.size = c.maxLocals) {argsL rest : List Value} (hlen : ∀ sig, parseMethodDescriptor y.desc = some sig → argsL.length = sig.parameters.length)
    (hstack : g.stack = argsL.reverse ++ .ref b :: rest) (hW : 2 * g.monitorRoom + (rest.map fun v => v.category).sum ≤ W9) (hdg : decode c.code g.pc = .ok (.invokevirtual index, 3))
    (hpre : ∀ vm₁, s.WarmedH vm₁ → Pre ⟨T.setVm vm₁, locs, cells, slots⟩ (Value.ref b :: argsL).toArray) :
    (∃ (v : Option Value) (vm₁ : Vm) (B : Pt), s.WarmedH vm₁ ∧ Stand p l e R s m args below meth c B.U B.locs B.cells B.slots ∧ Post ⟨T.setVm vm₁, locs, cells, slots⟩ (Value.ref b :: argsL).toArray v B ∧
      ∀ target, Steps p.tables e below (B.U.setTop { g with pc := g.pc + 3, stack := v.toList ++ rest }) target → Steps p.tables e below (T.setTop g) target) ∨
    (∃ (q : Addr) (vm₁ : Vm) (B : Pt), s.WarmedH vm₁ ∧ Stand p l e R s m args below meth c B.U B.locs B.cells B.slots ∧ PostX ⟨T.setVm vm₁, locs, cells, slots⟩ (Value.ref b :: argsL).toArray q B ∧
      Steps p.tables e below (T.setTop g) ((B.U.setTop { g with stack := rest }).pushFrame (.throwing q))) := by
  obtain ⟨mk, methM, hnamed, hmethM, hstM, habM⟩ := Cond.instanceMethod_spec hinst
  obtain ⟨m8, methM', cM, hn8, hmethM', -, -, -, -, -, -, hsigM⟩ := Cond.codeWith_spec hcode
  cases Option.some.inj (hn8.symm.trans hnamed)
  cases hmethM.symm.trans hmethM'
  obtain ⟨c2, r2, m2, q1, q2, q3, q4, kP, hkP, hkPi⟩ := Cond.selects_spec hsel
  cases hcls.symm.trans q1
  cases (State.methodFound?_of_named hnamed hy).symm.trans q2
  cases hnamed.symm.trans q3
  have hselP : selectMethod e.platform s.vm cellB.cls mk = .method mk := by rw [Launch.admits_selectMethod X.admits]; exact q4
  obtain ⟨vm₁, X₁, hstep₁⟩ := X.invokevirtual hexec hown hlink hnamed hmethM hstM hkP hkPi hy (a := b) (cell := cellB) hcell
    (fun z h => by rw [h] at hobj; cases hobj) hselP hmethM habM hkP hkPi (g := g) hg (argsL := argsL) (rest := rest) (hlen _ hsigM) hstack hdg
  rcases hK m meth c ⟨T.setVm vm₁, locs, cells, slots⟩ { g with stack := rest } (.invokevirtual index) mk (Value.ref b :: argsL).toArray X₁ hg hsize hdg hW (X₁.named hnamed) (hpre vm₁ X₁.warmed) with ⟨v, B, X', hpost, hsteps⟩ | ⟨q, B, X', hpost, hsteps⟩
  · exact Or.inl ⟨v, vm₁, B, X₁.warmed, X', hpost, fun target h => hstep₁ _ fun acts => by rw [doInvoke_state]; exact hsteps.trans h⟩
  · exact Or.inr ⟨q, vm₁, B, X₁.warmed, X', hpost, hstep₁ _ fun acts => by rw [doInvoke_state]; exact hsteps⟩
theorem vx_callSX (X : Stand p l e R s m args below meth c T locs cells slots) (hexec : p.tables.exec = Jvm.exec) {own : String} {index : Nat} {y : MethodName} {bytes : ByteArray} {maxL : Nat} {ret : Option FieldType} {hh : List (Nat × Nat × Nat × Nat)}
    (hown : s.vm.findClass own = some m.cls) (hlink : (Cond.methodLink own index y).before args s = true) (hstat : (Cond.static y).before args s = true) (hinit : (Cond.initialized y.cls).before args s = true)
    (hcode : (Cond.codeWith y bytes maxL ret hh).before args s = true) (hy : y.cls ≠ "java/lang/invoke/MethodHandle" ∧ y.cls ≠ "java/lang/invoke/VarHandle")
    {W9 : Nat} {Pre : Pt → Array Value → Prop} {Post : Pt → Array Value → Option Value → Pt → Prop} {PostX : Pt → Array Value → Addr → Pt → Prop} (hK : vx_Back l R p e below s args y 3 W9 Pre Post PostX)
    {g : JFrame} (hg : g.method = m) (hsize : g.locals.size = c.maxLocals) {argsL rest : List Value} (hlen : ∀ sig, parseMethodDescriptor y.desc = some sig → argsL.length = sig.parameters.length)
    (hstack : g.stack = argsL.reverse ++ rest) (hW : 2 * g.monitorRoom + (rest.map fun v => v.category).sum ≤ W9) (hdg : decode c.code g.pc = .ok (.invokestatic index, 3))
    (hpre : ∀ vm₁, s.WarmedH vm₁ → Pre ⟨T.setVm vm₁, locs, cells, slots⟩ argsL.toArray) :
    (∃ (v : Option Value) (vm₁ : Vm) (B : Pt), s.WarmedH vm₁ ∧ Stand p l e R s m args below meth c B.U B.locs B.cells B.slots ∧ Post ⟨T.setVm vm₁, locs, cells, slots⟩ argsL.toArray v B ∧
      ∀ target, Steps p.tables e below (B.U.setTop { g with pc := g.pc + 3, stack := v.toList ++ rest }) target → Steps p.tables e below (T.setTop g) target) ∨
    (∃ (q : Addr) (vm₁ : Vm) (B : Pt), s.WarmedH vm₁ ∧ Stand p l e R s m args below meth c B.U B.locs B.cells B.slots ∧ PostX ⟨T.setVm vm₁, locs, cells, slots⟩ argsL.toArray q B ∧
      Steps p.tables e below (T.setTop g) ((B.U.setTop { g with stack := rest }).pushFrame (.throwing q))) := by
  obtain ⟨mk, methM, cM, hnamed, hmethM, -, -, -, -, -, -, hsigM⟩ := Cond.codeWith_spec hcode
  have hstatic : methM.isStatic = true := Cond.static_spec hnamed hmethM hstat
  obtain ⟨kP, hkP, -⟩ := className_of_methodNamed hnamed
  have hinitP : kP.init = .initialized := Cond.initialized_spec (findClass_of_methodNamed hnamed) hkP hinit
  obtain ⟨vm₁, X₁, hstep₁⟩ := X.invokestatic hexec hown hlink hnamed hmethM hstatic hkP hinitP hy (g := g) hg (argsL := argsL) (rest := rest) (hlen _ hsigM) hstack hdg
  rcases hK m meth c ⟨T.setVm vm₁, locs, cells, slots⟩ { g with stack := rest } (.invokestatic index) mk argsL.toArray X₁ hg hsize hdg hW (X₁.named hnamed) (hpre vm₁ X₁.warmed) with ⟨v, B, X', hpost, hsteps⟩ | ⟨q, B, X', hpost, hsteps⟩
  · exact Or.inl ⟨v, vm₁, B, X₁.warmed, X', hpost, fun target h => hstep₁ _ fun acts => by rw [doInvoke_state]; exact hsteps.trans h⟩
  · exact Or.inr ⟨q, vm₁, B, X₁.warmed, X', hpost, hstep₁ _ fun acts => by rw [doInvoke_state]; exact hsteps⟩
theorem vx_callVW (X : Stand p l e R s m args below meth c T locs cells slots) (hexec : p.tables.exec = Jvm.exec) {own C : String} {index : Nat} {y : MethodName} {bytes : ByteArray} {maxL : Nat} {ret : Option FieldType} {hh : List (Nat × Nat × Nat × Nat)}
    (hown : s.vm.findClass own = some m.cls) (hlink : (Cond.methodLink own index y).before args s = true) (hinst : (Cond.instanceMethod y).before args s = true) (hsel : (Cond.selects C y y).before args s = true)
    (hcode : (Cond.codeWith y bytes maxL ret hh).before args s = true) (hy : y.cls ≠ "java/lang/invoke/MethodHandle" ∧ y.cls ≠ "java/lang/invoke/VarHandle")
    {W9 : Nat} {Pre : Pt → Array Value → Prop} {Post : Pt → Array Value → Option Value → Pt → Prop} (hK : Back l R p e below s args y 3 W9 Pre Post)
    {b : Addr} {cellB : Cell} (hcell : T.heap[b]? = some cellB) (hobj : cellB.vm.isStatics = false) (hcls : s.vm.findClass C = some cellB.cls)
    {g : JFrame} (hg : g.method = m) (hsize : g.locals.size = c.maxLocals) {argsL rest : List Value} (hlen : ∀ sig, parseMethodDescriptor y.desc = some sig → argsL.length = sig.parameters.length)
    (hstack : g.stack = argsL.reverse ++ .ref b :: rest) (hW : 2 * g.monitorRoom + (rest.map fun v => v.category).sum ≤ W9) (hdg : decode c.code g.pc = .ok (.invokevirtual index, 3))
    (hpre : ∀ vm₁, s.WarmedH vm₁ → Pre ⟨T.setVm vm₁, locs, cells, slots⟩ (Value.ref b :: argsL).toArray) :
    ∃ (v : Option Value) (vm₁ : Vm) (B : Pt), s.WarmedH vm₁ ∧ Stand p l e R s m args below meth c B.U B.locs B.cells B.slots ∧ Post ⟨T.setVm vm₁, locs, cells, slots⟩ (Value.ref b :: argsL).toArray v B ∧
      ∀ target, Steps p.tables e below (B.U.setTop { g with pc := g.pc + 3, stack := v.toList ++ rest }) target → Steps p.tables e below (T.setTop g) target := by
  obtain ⟨mk, methM, hnamed, hmethM, hstM, habM⟩ := Cond.instanceMethod_spec hinst
  obtain ⟨m8, methM', cM, hn8, hmethM', -, -, -, -, -, -, hsigM⟩ := Cond.codeWith_spec hcode
  cases Option.some.inj (hn8.symm.trans hnamed)
  cases hmethM.symm.trans hmethM'
  obtain ⟨c2, r2, m2, q1, q2, q3, q4, kP, hkP, hkPi⟩ := Cond.selects_spec hsel
  cases hcls.symm.trans q1
  cases (State.methodFound?_of_named hnamed hy).symm.trans q2
  cases hnamed.symm.trans q3
  have hselP : selectMethod e.platform s.vm cellB.cls mk = .method mk := by rw [Launch.admits_selectMethod X.admits]; exact q4
  obtain ⟨vm₁, X₁, hstep₁⟩ := X.invokevirtual hexec hown hlink hnamed hmethM hstM hkP hkPi hy (a := b) (cell := cellB) hcell
    (fun z h => by rw [h] at hobj; cases hobj) hselP hmethM habM hkP hkPi (g := g) hg (argsL := argsL) (rest := rest) (hlen _ hsigM) hstack hdg
  obtain ⟨v, B, X', hpost, hsteps⟩ := hK m meth c ⟨T.setVm vm₁, locs, cells, slots⟩ { g with stack := rest } (.invokevirtual index) mk (Value.ref b :: argsL).toArray X₁ hg hsize hdg hW (X₁.named hnamed) (hpre vm₁ X₁.warmed)
  exact ⟨v, vm₁, B, X₁.warmed, X', hpost, fun target h => hstep₁ _ fun acts => by rw [doInvoke_state]; exact hsteps.trans h⟩
abbrev vx_CVW (R : Room) (s : State) (args : Array Value) (own C : String) (index : Nat) (y : MethodName) (bytes : ByteArray) (maxL : Nat) (ret : Option FieldType) (hh : List (Nat × Nat × Nat × Nat)) (ws : List Cond) (rm : Room) (mc ms n : Nat) : Prop :=
  (rm.cells = mc ∧ rm.slots = ms ∧ rm.frames + 1 ≤ R.frames ∧ 8 + (maxL + 11) + rm.locals ≤ R.locals ∧ (∀ w ∈ ws, ∀ (a' : Array Value) (U : State), s.WarmedH U.vm → w.before a' U = true) ∧ Cond.codeWith y bytes maxL ret hh ∈ ws) ∧
  (Cond.codeWith y bytes maxL ret hh).before args s = true ∧ (Cond.initialized y.cls).before args s = true ∧ (y.cls ≠ "java/lang/invoke/MethodHandle" ∧ y.cls ≠ "java/lang/invoke/VarHandle") ∧
  (∀ sig, parseMethodDescriptor y.desc = some sig → n = sig.parameters.length) ∧ (Cond.methodLink own index y).before args s = true ∧ (Cond.instanceMethod y).before args s = true ∧ (Cond.selects C y y).before args s = true
theorem vx_cwVW {own C : String} {index maxL mc ms : Nat} {y : MethodName} {bytes : ByteArray} {ret : Option FieldType} {hh : List (Nat × Nat × Nat × Nat)} {Ts ws ws' : List Cond} {rm : Room} (n : Nat) (ht : ∀ w ∈ Ts, w.before args s = true) (hT : GoodIn Ts (wsV own index C y ws)) (hw : ws = Cond.codeWith y bytes maxL ret hh :: ws') (hrc : rm.cells = mc) (hrs : rm.slots = ms)
    (hd : y.cls = C ∧ y.cls ≠ "java/lang/invoke/MethodHandle" ∧ y.cls ≠ "java/lang/invoke/VarHandle" ∧ (parseMethodDescriptor y.desc).map (fun d => d.parameters.length) = some n) (hR : rm.frames + 1 ≤ R.frames ∧ 8 + (maxL + 11) + rm.locals ≤ R.locals) :
    vx_CVW R s args own C index y bytes maxL ret hh ws rm mc ms n := by
  obtain ⟨hC, hd⟩ := hd
  subst hC
  have ok : ∀ w ∈ wsV own index y.cls y ws, w.before args s = true := fun w h => ht w (hT w h).1
  have hG : GoodIn Ts ws := fun w h => hT w (by unfold wsV; exact List.mem_append_right _ h)
  have hc : Cond.codeWith y bytes maxL ret hh ∈ ws := by rw [hw]; exact List.mem_cons_self
  refine ⟨⟨hrc, hrs, hR.1, hR.2, pay_in ht hG, hc⟩, ht _ (hG _ hc).1, ok _ (by simp [wsV]), ⟨hd.1, hd.2.1⟩, fun sig h => ?_, ok _ (by simp [wsV]), ok _ (by simp [wsV]), ok _ (by simp [wsV])⟩
  have h2 := hd.2.2
  rw [h] at h2
  exact (Option.some.inj h2).symm
theorem vx_runVW {y : MethodName} {bytes cc : ByteArray} {maxL nL mc ms n index : Nat} {ret : Option FieldType} {hh : List (Nat × Nat × Nat × Nat)} {ws : List Cond} {rm : Room} {Pc : Array Value → State → Prop} {Qc : Array Value → State → Outcome → State → Prop} {free : Addr → Prop} {Ts : List Cond} {own C : String} {b : Addr} {As rest : List Value} {g : JFrame}
    (S : CallFix p m c cc nL s args Ts own) (hM : Met l y ws rm Pc Qc mc ms free) (cw : vx_CVW R s args own C index y bytes maxL ret hh ws rm mc ms n) (hp : PreV s H C b Pc As)
    (hg : g.method = m) (hn : As.length = n) (hsize : g.locals.size = nL) (hstack : g.stack = As.reverse ++ .ref b :: rest) (hW : 2 * g.monitorRoom + (rest.map fun v => v.category).sum ≤ 8) (hdg : decode cc g.pc = .ok (.invokevirtual index, 3)) (hf : cells + mc ≤ R.cells ∧ slots + ms ≤ R.slots) :
    va_Run p l e R s m args below meth c H locs cells slots mc ms g rest (Qc (Value.ref b :: As).toArray) free := by
  obtain ⟨⟨hrc, hrs, hfr, hlo, hws, hcw⟩, hcode, hini, hy, hlen, hl, hin, hse⟩ := cw
  have hK : Back l R p e below s args y 3 8 (PreOf R mc ms Pc) (PostOf Qc mc ms free) := va_backW (hh := hh) (bytes := bytes) (maxL := maxL) (ret := ret) hM hp.1 hrc hrs hfr hlo hws hcw (fun a' U hW => word_at hW (Or.inl (by first | rfl | simp [Cond.onTables, Cond.keeps, Cond.steady])) hini)
  obtain ⟨hx, hb, hml, ho, -⟩ := S
  obtain ⟨-, ⟨cellB, hcB, hoB, hclB⟩, hPc⟩ := hp
  intro T hT X
  obtain ⟨v, vm₁, ⟨U', l2, c2, s2⟩, hW₁, X', ⟨g', mk, t, L, e1, e2, hq, h1, hL, h2, h3⟩, st⟩ := vx_callVW X hx (C := C) (hh := hh) (bytes := bytes) (maxL := maxL) (ret := ret) ho hl hin hse hcode hy hK (by rw [hT]; exact hcB) hoB hclB hg (hsize.trans hml.symm) (argsL := As) (rest := rest) (fun sig h => hn.trans (hlen sig h)) hstack hW (by rw [hb]; exact hdg)
    (fun vm₁ hW₁ => ⟨hf.1, hf.2, hPc (T.setVm vm₁) hT hW₁⟩)
  dsimp only [Pt.U, Pt.locs, Pt.cells, Pt.slots] at X' e1 e2 h1 h2 h3 st
  subst h1; subst h2; subst h3
  exact ⟨v, (T.setVm vm₁).calling g' mk (Value.ref b :: As).toArray, t, U', L, hT, X', hL, e1, e2, hq, st⟩
section
variable {y : MethodName} {bytes cc : ByteArray} {maxL nL mc ms n index : Nat} {ret : Option FieldType} {ws : List Cond} {rm : Room} {Pc : Array Value → State → Prop} {Qc : Array Value → State → Outcome → State → Prop} {XC : String → State → State → Prop} {free : Addr → Prop} {Ts : List Cond} {own C : String} {b : Addr} {As rest : List Value} {g : JFrame}
theorem vx_runVX {hh : List (Nat × Nat × Nat × Nat)} (S : CallFix p m c cc nL s args Ts own) (hM : vx_Met l y ws rm Pc Qc XC mc ms free) (cw : vx_CVW R s args own C index y bytes maxL ret hh ws rm mc ms n) (hp : PreV s H C b Pc As)
    (hg : g.method = m) (hn : As.length = n) (hsize : g.locals.size = nL) (hstack : g.stack = As.reverse ++ .ref b :: rest) (hW : 2 * g.monitorRoom + (rest.map fun v => v.category).sum ≤ 8) (hdg : decode cc g.pc = .ok (.invokevirtual index, 3)) (hf : cells + mc ≤ R.cells ∧ slots + ms ≤ R.slots) :
    vx_Run p l e R s m args below meth c H locs cells slots mc ms g rest (Qc (Value.ref b :: As).toArray) XC free := by
  obtain ⟨⟨hrc, hrs, hfr, hlo, hws, hcw⟩, hcode, hini, hy, hlen, hl, hin, hse⟩ := cw
  have hK : vx_Back l R p e below s args y 3 8 (PreOf R mc ms Pc) (PostOf Qc mc ms free) (vx_Post XC mc ms free) := vx_backW (hh := hh) (bytes := bytes) (maxL := maxL) (ret := ret) hM hp.1 hrc hrs hfr hlo hws hcw (fun a' U hW => word_at hW (Or.inl (by first | rfl | simp [Cond.onTables, Cond.keeps, Cond.steady])) hini)
  obtain ⟨hx, hb, hml, ho, -⟩ := S
  obtain ⟨-, ⟨cellB, hcB, hoB, hclB⟩, hPc⟩ := hp
  intro T hT X
  rcases vx_callVX X hx (C := C) (hh := hh) (bytes := bytes) (maxL := maxL) (ret := ret) ho hl hin hse hcode hy hK (by rw [hT]; exact hcB) hoB hclB hg (hsize.trans hml.symm) (argsL := As) (rest := rest) (fun sig h => hn.trans (hlen sig h)) hstack hW (by rw [hb]; exact hdg)
    (fun vm₁ hW₁ => ⟨hf.1, hf.2, hPc (T.setVm vm₁) hT hW₁⟩) with ⟨v, vm₁, ⟨U', l2, c2, s2⟩, hW₁, X', ⟨g', mk, t, L, e1, e2, hq, h1, hL, h2, h3⟩, st⟩ | ⟨q, vm₁, ⟨U', l2, c2, s2⟩, hW₁, X', ⟨g', mk, t, L, E, ce, e1, e2, hq, hce, hcv, hcl, h1, hL, h2, h3⟩, st⟩
  · dsimp only [Pt.U, Pt.locs, Pt.cells, Pt.slots] at X' e1 e2 h1 h2 h3 st
    subst h1; subst h2; subst h3
    exact Or.inl ⟨v, (T.setVm vm₁).calling g' mk (Value.ref b :: As).toArray, t, U', L, hT, X', hL, e1, e2, hq, st⟩
  · dsimp only [Pt.U, Pt.locs, Pt.cells, Pt.slots] at X' e1 e2 h1 h2 h3 st hcl
    subst h1; subst h2; subst h3
    exact Or.inr ⟨q, (T.setVm vm₁).calling g' mk (Value.ref b :: As).toArray, t, U', L, E, ce, hT, X', hL, e1, e2, hq, hce, hcv, vx_cls hW₁ hcl, st⟩
theorem vx_runSX {hh : List (Nat × Nat × Nat × Nat)} (S : CallFix p m c cc nL s args Ts own) (hM : vx_Met l y ws rm Pc Qc XC mc ms free) (cw : vx_CSW R s args own index y bytes maxL ret hh ws rm mc ms n) (hp : PreS s H Pc As)
    (hg : g.method = m) (hn : As.length = n) (hsize : g.locals.size = nL) (hstack : g.stack = As.reverse ++ rest) (hW : 2 * g.monitorRoom + (rest.map fun v => v.category).sum ≤ 8) (hdg : decode cc g.pc = .ok (.invokestatic index, 3)) (hf : cells + mc ≤ R.cells ∧ slots + ms ≤ R.slots) :
    vx_Run p l e R s m args below meth c H locs cells slots mc ms g rest (Qc As.toArray) XC free := by
  obtain ⟨⟨hrc, hrs, hfr, hlo, hws, hcw⟩, hcode, hini, hy, hlen, hl, hstt⟩ := cw
  have hK : vx_Back l R p e below s args y 3 8 (PreOf R mc ms Pc) (PostOf Qc mc ms free) (vx_Post XC mc ms free) := vx_backW (hh := hh) (bytes := bytes) (maxL := maxL) (ret := ret) hM hp.1 hrc hrs hfr hlo hws hcw (fun a' U hW => word_at hW (Or.inl (by first | rfl | simp [Cond.onTables, Cond.keeps, Cond.steady])) hini)
  obtain ⟨hx, hb, hml, ho, -⟩ := S
  intro T hT X
  rcases vx_callSX X hx (hh := hh) (bytes := bytes) (maxL := maxL) (ret := ret) ho hl hstt hini hcode hy hK hg (hsize.trans hml.symm) (argsL := As) (rest := rest) (fun sig h => hn.trans (hlen sig h)) hstack hW (by rw [hb]; exact hdg)
    (fun vm₁ hW₁ => ⟨hf.1, hf.2, hp.2 (T.setVm vm₁) hT hW₁⟩) with ⟨v, vm₁, ⟨U', l2, c2, s2⟩, hW₁, X', ⟨g', mk, t, L, e1, e2, hq, h1, hL, h2, h3⟩, st⟩ | ⟨q, vm₁, ⟨U', l2, c2, s2⟩, hW₁, X', ⟨g', mk, t, L, E, ce, e1, e2, hq, hce, hcv, hcl, h1, hL, h2, h3⟩, st⟩
  · dsimp only [Pt.U, Pt.locs, Pt.cells, Pt.slots] at X' e1 e2 h1 h2 h3 st
    subst h1; subst h2; subst h3
    exact Or.inl ⟨v, (T.setVm vm₁).calling g' mk As.toArray, t, U', L, hT, X', hL, e1, e2, hq, st⟩
  · dsimp only [Pt.U, Pt.locs, Pt.cells, Pt.slots] at X' e1 e2 h1 h2 h3 st hcl
    subst h1; subst h2; subst h3
    exact Or.inr ⟨q, (T.setVm vm₁).calling g' mk As.toArray, t, U', L, E, ce, hT, X', hL, e1, e2, hq, hce, hcv, vx_cls hW₁ hcl, st⟩
end
end VXH
theorem vx_ofWH {l : Launch} {y : MethodName} {ws ws' : List Cond} {rm : Room} {Pc : Array Value → State → Prop} {Qc : Array Value → State → Outcome → State → Prop} {XC : String → State → State → Prop} {mc ms : Nat} {free : Addr → Prop} {cc : ByteArray} {maxL : Nat} {ret : Option FieldType} {hh : List (Nat × Nat × Nat × Nat)}
    (hy : plainName y.cls = true) (hw : ws = Cond.codeWith y cc maxL ret hh :: ws')
    (body : ∀ p e s m args below meth c s₁, BodyLoose p l y (headSpec ws rm) cc maxL ret e s m args below meth c s₁ → c.maxLocals = maxL → Pc args s →
      W p l e (headSpec ws rm).room s m args below meth c s.heap [] 0 0 (vx_MQ below Qc XC args s mc ms free) (entryFrame m args maxL)) : vx_Met l y ws rm Pc Qc XC mc ms free := by
  refine MetFree.of_bodyS (code := cc) (maxLocals := maxL) (ret := ret) hy ?_ ?_
  · intro args s m h hn
    obtain ⟨m9, meth, c, hn9, h1, h2, h3, h4, -, h5, h6, -⟩ := Cond.codeWith_spec (atoms_spec (ws := ws) h _ (by rw [hw]; exact List.mem_cons_self))
    cases hn.symm.trans hn9
    exact ⟨meth, c, h1, h2, h3, h4, h5, h6⟩
  · intro p e s m args below meth c s₁ B hml hP _
    have hh0 : s₁.heap = s.heap := by rw [B.state]; rfl
    obtain ⟨t, a1, o, b1, b2, b3⟩ := body p e s m args below meth c s₁ B hml hP s₁ hh0 (Stand.of_body B)
    exact ⟨t, o, a1, b1, b2, b3⟩
/-! ===== END ===== -/
end
section
/-! ===== BEGIN printed: names, fields, word lists, decode rows ===== -/
def RX0 : String := "BarrierLights$Controller"
def TX0 : u_T := fun k => match k with
  | 0 => ("BarrierLights$Controller", "written", "LBarrierLights$Table;", true)
  | 1 => ("BarrierLights$Controller", "table", "LBarrierLights$Table;", true)
  | 2 => ("BarrierLights$Controller", "detectors", "LBarrierLights$Detectors;", true)
  | 3 => ("BarrierLights$Controller", "link", "LBarrierLights$Link;", true)
  | 4 => ("BarrierLights$Controller", "inputs", "LBarrierLights$Inputs;", true)
  | 5 => ("BarrierLights$Controller", "monitor", "LBarrierLights$Monitor;", true)
  | 6 => ("BarrierLights$Controller", "ring0", "LBarrierLights$Ring;", true)
  | 7 => ("BarrierLights$Controller", "ring1", "LBarrierLights$Ring;", true)
  | 8 => ("BarrierLights$Controller", "faults", "[I", true)
  | 9 => ("BarrierLights$Controller", "wrongPlace", "I", false)
  | 10 => ("BarrierLights$Controller", "used", "I", false)
  | 11 => ("BarrierLights$Controller", "whyFlashing", "I", false)
  | 12 => ("BarrierLights$Controller", "side", "I", false)
  | 13 => ("BarrierLights$Controller", "calls", "I", false)
  | 14 => ("BarrierLights$Controller", "walkCalls", "I", false)
  | _ => ("BarrierLights$Controller", "hadInput", "Z", false)
def tyX0 : Nat → FieldType := fun k => match k with
  | 0 => .object "BarrierLights$Table"
  | 1 => .object "BarrierLights$Table"
  | 2 => .object "BarrierLights$Detectors"
  | 3 => .object "BarrierLights$Link"
  | 4 => .object "BarrierLights$Inputs"
  | 5 => .object "BarrierLights$Monitor"
  | 6 => .object "BarrierLights$Ring"
  | 7 => .object "BarrierLights$Ring"
  | 8 => .array .int
  | 9 => .int
  | 10 => .int
  | 11 => .int
  | 12 => .int
  | 13 => .int
  | 14 => .int
  | _ => .boolean
abbrev wsX00 : List Cond := u_ws RX0 TX0 16
theorem nmX0 : ∀ a, a < 16 → ∀ b, b < 16 → a ≠ b → (TX0 a).2.1 ≠ (TX0 b).2.1 := by decide +kernel
theorem tyX0_ok : ∀ k, k < 16 → parseFieldDescriptor (TX0 k).2.2.1 = some (tyX0 k) := by decide +kernel
abbrev cX0_init : ByteArray := prog_2_method_1_code
def yX0_init : MethodName := ⟨RX0, "<init>", "()V"⟩
abbrev cX0_takeWrittenTable : ByteArray := prog_2_method_2_code
def yX0_takeWrittenTable : MethodName := ⟨RX0, "takeWrittenTable", "()Z"⟩
abbrev cX0_isOff : ByteArray := prog_2_method_3_code
def yX0_isOff : MethodName := ⟨RX0, "isOff", "()Z"⟩
abbrev cX0_start : ByteArray := prog_2_method_4_code
def yX0_start : MethodName := ⟨RX0, "start", "()V"⟩
abbrev cX0_takeButton : ByteArray := prog_2_method_5_code
def yX0_takeButton : MethodName := ⟨RX0, "takeButton", "(I)Z"⟩
abbrev cX0_pass : ByteArray := prog_2_method_6_code
def yX0_pass : MethodName := ⟨RX0, "pass", "(LBarrierLights$Plans;I)V"⟩
abbrev cX0_passCalls : ByteArray := prog_2_method_7_code
def yX0_passCalls : MethodName := ⟨RX0, "passCalls", "()V"⟩
abbrev cX0_passGap : ByteArray := prog_2_method_8_code
def yX0_passGap : MethodName := ⟨RX0, "passGap", "(LBarrierLights$Ring;)V"⟩
abbrev cX0_noteCalls : ByteArray := prog_2_method_9_code
def yX0_noteCalls : MethodName := ⟨RX0, "noteCalls", "(I)V"⟩
abbrev cX0_passTimes : ByteArray := prog_2_method_10_code
def yX0_passTimes : MethodName := ⟨RX0, "passTimes", "(LBarrierLights$Ring;)V"⟩
abbrev cX0_weigh : ByteArray := prog_2_method_11_code
def yX0_weigh : MethodName := ⟨RX0, "weigh", "(LBarrierLights$Ring;I)V"⟩
abbrev cX0_end : ByteArray := prog_2_method_12_code
def yX0_end : MethodName := ⟨RX0, "end", "(LBarrierLights$Ring;)V"⟩
abbrev cX0_begin : ByteArray := prog_2_method_13_code
def yX0_begin : MethodName := ⟨RX0, "begin", "(LBarrierLights$Ring;I)V"⟩
abbrev cX0_beginWalk : ByteArray := prog_2_method_14_code
def yX0_beginWalk : MethodName := ⟨RX0, "beginWalk", "(LBarrierLights$Ring;)V"⟩
abbrev cX0_goByCalls : ByteArray := prog_2_method_15_code
def yX0_goByCalls : MethodName := ⟨RX0, "goByCalls", "(Z)V"⟩
abbrev cX0_goOn : ByteArray := prog_2_method_16_code
def yX0_goOn : MethodName := ⟨RX0, "goOn", "(LBarrierLights$Ring;Z)V"⟩
abbrev cX0_mayLeave : ByteArray := prog_2_method_17_code
def yX0_mayLeave : MethodName := ⟨RX0, "mayLeave", "(LBarrierLights$Ring;Z)Z"⟩
abbrev cX0_isDone : ByteArray := prog_2_method_18_code
def yX0_isDone : MethodName := ⟨RX0, "isDone", "(LBarrierLights$Ring;Z)Z"⟩
abbrev cX0_leaveSide : ByteArray := prog_2_method_19_code
def yX0_leaveSide : MethodName := ⟨RX0, "leaveSide", "()V"⟩
abbrev cX0_cross : ByteArray := prog_2_method_20_code
def yX0_cross : MethodName := ⟨RX0, "cross", "(I)V"⟩
abbrev cX0_firstOfSide : ByteArray := prog_2_method_21_code
def yX0_firstOfSide : MethodName := ⟨RX0, "firstOfSide", "(II)I"⟩
abbrev cX0_goByInput : ByteArray := prog_2_method_22_code
def yX0_goByInput : MethodName := ⟨RX0, "goByInput", "(I)V"⟩
abbrev cX0_giveWay : ByteArray := prog_2_method_23_code
def yX0_giveWay : MethodName := ⟨RX0, "giveWay", "(LBarrierLights$Ring;IZ)V"⟩
abbrev cX0_mayLeaveByInput : ByteArray := prog_2_method_24_code
def yX0_mayLeaveByInput : MethodName := ⟨RX0, "mayLeaveByInput", "(LBarrierLights$Ring;)Z"⟩
abbrev cX0_goalOf : ByteArray := prog_2_method_25_code
def yX0_goalOf : MethodName := ⟨RX0, "goalOf", "(II)I"⟩
abbrev cX0_watch : ByteArray := prog_2_method_26_code
def yX0_watch : MethodName := ⟨RX0, "watch", "()V"⟩
abbrev cX0_lampsOf : ByteArray := prog_2_method_27_code
def yX0_lampsOf : MethodName := ⟨RX0, "lampsOf", "(I)I"⟩
abbrev cX0_signsOf : ByteArray := prog_2_method_28_code
def yX0_signsOf : MethodName := ⟨RX0, "signsOf", "(I)I"⟩
abbrev cX0_way : ByteArray := prog_2_method_29_code
def yX0_way : MethodName := ⟨RX0, "way", "()I"⟩
abbrev cX0_countingCalls : ByteArray := prog_2_method_30_code
def yX0_countingCalls : MethodName := ⟨RX0, "countingCalls", "()I"⟩
abbrev cX0_greenPhases : ByteArray := prog_2_method_31_code
def yX0_greenPhases : MethodName := ⟨RX0, "greenPhases", "()I"⟩
abbrev cX0_ring : ByteArray := prog_2_method_32_code
def yX0_ring : MethodName := ⟨RX0, "ring", "(I)LBarrierLights$Ring;"⟩
def RX1 : String := "BarrierLights$Detectors"
def TX1 : u_T := fun k => match k with
  | 0 => ("BarrierLights$Detectors", "onTimes", "[I", true)
  | 1 => ("BarrierLights$Detectors", "occupancies", "[F", true)
  | 2 => ("BarrierLights$Detectors", "on", "I", false)
  | _ => ("BarrierLights$Detectors", "failed", "I", false)
def tyX1 : Nat → FieldType := fun k => match k with
  | 0 => .array .int
  | 1 => .array .float
  | 2 => .int
  | _ => .int
abbrev wsX10 : List Cond := u_ws RX1 TX1 4
theorem nmX1 : ∀ a, a < 4 → ∀ b, b < 4 → a ≠ b → (TX1 a).2.1 ≠ (TX1 b).2.1 := by decide +kernel
theorem tyX1_ok : ∀ k, k < 4 → parseFieldDescriptor (TX1 k).2.2.1 = some (tyX1 k) := by decide +kernel
abbrev cX1_init : ByteArray := prog_3_method_1_code
def yX1_init : MethodName := ⟨RX1, "<init>", "()V"⟩
abbrev cX1_turn : ByteArray := prog_3_method_2_code
def yX1_turn : MethodName := ⟨RX1, "turn", "(IZ)V"⟩
abbrev cX1_pass : ByteArray := prog_3_method_3_code
def yX1_pass : MethodName := ⟨RX1, "pass", "()V"⟩
abbrev cX1_calls : ByteArray := prog_3_method_4_code
def yX1_calls : MethodName := ⟨RX1, "calls", "(I)Z"⟩
abbrev cX1_extendsGreen : ByteArray := prog_3_method_5_code
def yX1_extendsGreen : MethodName := ⟨RX1, "extendsGreen", "(I)Z"⟩
def RX2 : String := "BarrierLights$Inputs"
def TX2 : u_T := fun k => match k with
  | 0 => ("BarrierLights$Inputs", "on", "[Z", true)
  | _ => ("BarrierLights$Inputs", "targets", "[I", true)
def tyX2 : Nat → FieldType := fun k => match k with
  | 0 => .array .boolean
  | _ => .array .int
abbrev wsX20 : List Cond := u_ws RX2 TX2 2
theorem nmX2 : ∀ a, a < 2 → ∀ b, b < 2 → a ≠ b → (TX2 a).2.1 ≠ (TX2 b).2.1 := by decide +kernel
theorem tyX2_ok : ∀ k, k < 2 → parseFieldDescriptor (TX2 k).2.2.1 = some (tyX2 k) := by decide +kernel
abbrev cX2_init : ByteArray := prog_4_method_1_code
def yX2_init : MethodName := ⟨RX2, "<init>", "()V"⟩
abbrev cX2_turn : ByteArray := prog_4_method_2_code
def yX2_turn : MethodName := ⟨RX2, "turn", "(IZ)V"⟩
abbrev cX2_aim : ByteArray := prog_4_method_3_code
def yX2_aim : MethodName := ⟨RX2, "aim", "(II)V"⟩
abbrev cX2_targetInForce : ByteArray := prog_4_method_4_code
def yX2_targetInForce : MethodName := ⟨RX2, "targetInForce", "(I)I"⟩
def RX3 : String := "BarrierLights$Link"
def TX3 : u_T := fun k => match k with
  | 0 => ("BarrierLights$Link", "plan", "I", false)
  | 1 => ("BarrierLights$Link", "localClock", "I", false)
  | 2 => ("BarrierLights$Link", "silence", "I", false)
  | _ => ("BarrierLights$Link", "lastNumber", "I", false)
def tyX3 : Nat → FieldType := fun k => match k with
  | 0 => .int
  | 1 => .int
  | 2 => .int
  | _ => .int
abbrev wsX30 : List Cond := u_ws RX3 TX3 4
theorem nmX3 : ∀ a, a < 4 → ∀ b, b < 4 → a ≠ b → (TX3 a).2.1 ≠ (TX3 b).2.1 := by decide +kernel
theorem tyX3_ok : ∀ k, k < 4 → parseFieldDescriptor (TX3 k).2.2.1 = some (tyX3 k) := by decide +kernel
abbrev cX3_init : ByteArray := prog_5_method_1_code
def yX3_init : MethodName := ⟨RX3, "<init>", "()V"⟩
abbrev cX3_expects : ByteArray := prog_5_method_2_code
def yX3_expects : MethodName := ⟨RX3, "expects", "(I)Z"⟩
abbrev cX3_take : ByteArray := prog_5_method_3_code
def yX3_take : MethodName := ⟨RX3, "take", "(III)V"⟩
abbrev cX3_fitTo : ByteArray := prog_5_method_4_code
def yX3_fitTo : MethodName := ⟨RX3, "fitTo", "(II)V"⟩
abbrev cX3_pass : ByteArray := prog_5_method_5_code
def yX3_pass : MethodName := ⟨RX3, "pass", "(LBarrierLights$Plans;I)V"⟩
abbrev cX3_shorterWay : ByteArray := prog_5_method_6_code
def yX3_shorterWay : MethodName := ⟨RX3, "shorterWay", "(II)I"⟩
abbrev cX3_shownClock : ByteArray := prog_5_method_7_code
def yX3_shownClock : MethodName := ⟨RX3, "shownClock", "()I"⟩
abbrev cX3_isBeforeSplit : ByteArray := prog_5_method_8_code
def yX3_isBeforeSplit : MethodName := ⟨RX3, "isBeforeSplit", "(LBarrierLights$Plans;)Z"⟩
def RX4 : String := "BarrierLights$Monitor"
def TX4 : u_T := fun k => match k with
  | 0 => ("BarrierLights$Monitor", "shown", "[I", true)
  | 1 => ("BarrierLights$Monitor", "shownBefore", "[I", true)
  | 2 => ("BarrierLights$Monitor", "yellowTicks", "[I", true)
  | _ => ("BarrierLights$Monitor", "sawBefore", "Z", false)
def tyX4 : Nat → FieldType := fun k => match k with
  | 0 => .array .int
  | 1 => .array .int
  | 2 => .array .int
  | _ => .boolean
abbrev wsX40 : List Cond := u_ws RX4 TX4 4
theorem nmX4 : ∀ a, a < 4 → ∀ b, b < 4 → a ≠ b → (TX4 a).2.1 ≠ (TX4 b).2.1 := by decide +kernel
theorem tyX4_ok : ∀ k, k < 4 → parseFieldDescriptor (TX4 k).2.2.1 = some (tyX4 k) := by decide +kernel
abbrev cX4_init : ByteArray := prog_6_method_1_code
def yX4_init : MethodName := ⟨RX4, "<init>", "()V"⟩
abbrev cX4_beginAnew : ByteArray := prog_6_method_2_code
def yX4_beginAnew : MethodName := ⟨RX4, "beginAnew", "()V"⟩
abbrev cX4_see : ByteArray := prog_6_method_3_code
def yX4_see : MethodName := ⟨RX4, "see", "(II)V"⟩
abbrev cX4_look : ByteArray := prog_6_method_4_code
def yX4_look : MethodName := ⟨RX4, "look", "(I)I"⟩
abbrev cX4_seesConflict : ByteArray := prog_6_method_5_code
def yX4_seesConflict : MethodName := ⟨RX4, "seesConflict", "(I)Z"⟩
abbrev cX4_seesDark : ByteArray := prog_6_method_6_code
def yX4_seesDark : MethodName := ⟨RX4, "seesDark", "(I)Z"⟩
abbrev cX4_seesShort : ByteArray := prog_6_method_7_code
def yX4_seesShort : MethodName := ⟨RX4, "seesShort", "(I)Z"⟩
abbrev cX4_remember : ByteArray := prog_6_method_8_code
def yX4_remember : MethodName := ⟨RX4, "remember", "()V"⟩
abbrev cX4_goes : ByteArray := prog_6_method_9_code
def yX4_goes : MethodName := ⟨RX4, "goes", "(I)Z"⟩
abbrev cX4_goTogether : ByteArray := prog_6_method_10_code
def yX4_goTogether : MethodName := ⟨RX4, "goTogether", "(II)Z"⟩
def RX5 : String := "BarrierLights$Plans"
def TX5 : u_T := fun k => match k with
  | 0 => ("BarrierLights$Plans", "cycles", "[I", true)
  | 1 => ("BarrierLights$Plans", "offsets", "[I", true)
  | _ => ("BarrierLights$Plans", "splits", "[I", true)
def tyX5 : Nat → FieldType := fun k => match k with
  | 0 => .array .int
  | 1 => .array .int
  | _ => .array .int
abbrev wsX50 : List Cond := u_ws RX5 TX5 3
theorem nmX5 : ∀ a, a < 3 → ∀ b, b < 3 → a ≠ b → (TX5 a).2.1 ≠ (TX5 b).2.1 := by decide +kernel
theorem tyX5_ok : ∀ k, k < 3 → parseFieldDescriptor (TX5 k).2.2.1 = some (tyX5 k) := by decide +kernel
abbrev cX5_init : ByteArray := prog_7_method_1_code
def yX5_init : MethodName := ⟨RX5, "<init>", "()V"⟩
abbrev cX5_make : ByteArray := prog_7_method_2_code
def yX5_make : MethodName := ⟨RX5, "make", "(IIII)Z"⟩
abbrev cX5_isMade : ByteArray := prog_7_method_3_code
def yX5_isMade : MethodName := ⟨RX5, "isMade", "(I)Z"⟩
abbrev cX5_cycleOf : ByteArray := prog_7_method_4_code
def yX5_cycleOf : MethodName := ⟨RX5, "cycleOf", "(I)I"⟩
abbrev cX5_offsetOf : ByteArray := prog_7_method_5_code
def yX5_offsetOf : MethodName := ⟨RX5, "offsetOf", "(I)I"⟩
abbrev cX5_splitOf : ByteArray := prog_7_method_6_code
def yX5_splitOf : MethodName := ⟨RX5, "splitOf", "(I)I"⟩
def RX6 : String := "BarrierLights$Ring"
def TX6 : u_T := fun k => match k with
  | 0 => ("BarrierLights$Ring", "phase", "I", false)
  | 1 => ("BarrierLights$Ring", "next", "I", false)
  | 2 => ("BarrierLights$Ring", "forward", "I", false)
  | 3 => ("BarrierLights$Ring", "wanted", "Z", false)
  | 4 => ("BarrierLights$Ring", "lamps", "I", false)
  | 5 => ("BarrierLights$Ring", "age", "I", false)
  | 6 => ("BarrierLights$Ring", "against", "I", false)
  | 7 => ("BarrierLights$Ring", "gap", "I", false)
  | 8 => ("BarrierLights$Ring", "walkSign", "I", false)
  | _ => ("BarrierLights$Ring", "walkAge", "I", false)
def tyX6 : Nat → FieldType := fun k => match k with
  | 0 => .int
  | 1 => .int
  | 2 => .int
  | 3 => .boolean
  | 4 => .int
  | 5 => .int
  | 6 => .int
  | 7 => .int
  | 8 => .int
  | _ => .int
abbrev wsX60 : List Cond := u_ws RX6 TX6 10
theorem nmX6 : ∀ a, a < 10 → ∀ b, b < 10 → a ≠ b → (TX6 a).2.1 ≠ (TX6 b).2.1 := by decide +kernel
theorem tyX6_ok : ∀ k, k < 10 → parseFieldDescriptor (TX6 k).2.2.1 = some (tyX6 k) := by decide +kernel
abbrev cX6_init : ByteArray := prog_8_method_1_code
def yX6_init : MethodName := ⟨RX6, "<init>", "()V"⟩
abbrev cX6_waits : ByteArray := prog_8_method_2_code
def yX6_waits : MethodName := ⟨RX6, "waits", "()Z"⟩
abbrev cX6_isGreen : ByteArray := prog_8_method_3_code
def yX6_isGreen : MethodName := ⟨RX6, "isGreen", "()Z"⟩
abbrev cX6_mayEnd : ByteArray := prog_8_method_4_code
def yX6_mayEnd : MethodName := ⟨RX6, "mayEnd", "(I)Z"⟩
abbrev cX6_greenPhase : ByteArray := prog_8_method_5_code
def yX6_greenPhase : MethodName := ⟨RX6, "greenPhase", "()I"⟩
abbrev cX6_phaseBefore : ByteArray := prog_8_method_6_code
def yX6_phaseBefore : MethodName := ⟨RX6, "phaseBefore", "()I"⟩
abbrev cX6_phaseBehind : ByteArray := prog_8_method_7_code
def yX6_phaseBehind : MethodName := ⟨RX6, "phaseBehind", "()I"⟩
abbrev cX6_rest : ByteArray := prog_8_method_8_code
def yX6_rest : MethodName := ⟨RX6, "rest", "()V"⟩
abbrev cX6_begin : ByteArray := prog_8_method_9_code
def yX6_begin : MethodName := ⟨RX6, "begin", "(II)V"⟩
abbrev cX6_turnYellow : ByteArray := prog_8_method_10_code
def yX6_turnYellow : MethodName := ⟨RX6, "turnYellow", "(I)V"⟩
abbrev cX6_show : ByteArray := prog_8_method_11_code
def yX6_show : MethodName := ⟨RX6, "show", "(I)V"⟩
abbrev cX6_beginWalk : ByteArray := prog_8_method_12_code
def yX6_beginWalk : MethodName := ⟨RX6, "beginWalk", "()V"⟩
abbrev cX6_beginClear : ByteArray := prog_8_method_13_code
def yX6_beginClear : MethodName := ⟨RX6, "beginClear", "()V"⟩
abbrev cX6_passWalk : ByteArray := prog_8_method_14_code
def yX6_passWalk : MethodName := ⟨RX6, "passWalk", "(II)V"⟩
def RX7 : String := "BarrierLights$Table"
def TX7 : u_T := fun k => match k with
  | _ => ("BarrierLights$Table", "entries", "[I", true)
def tyX7 : Nat → FieldType := fun k => match k with
  | _ => .array .int
abbrev wsX70 : List Cond := u_ws RX7 TX7 1
theorem nmX7 : ∀ a, a < 1 → ∀ b, b < 1 → a ≠ b → (TX7 a).2.1 ≠ (TX7 b).2.1 := by decide +kernel
theorem tyX7_ok : ∀ k, k < 1 → parseFieldDescriptor (TX7 k).2.2.1 = some (tyX7 k) := by decide +kernel
abbrev cX7_init : ByteArray := prog_9_method_1_code
def yX7_init : MethodName := ⟨RX7, "<init>", "()V"⟩
abbrev cX7_at : ByteArray := prog_9_method_2_code
def yX7_at : MethodName := ⟨RX7, "at", "(II)I"⟩
abbrev cX7_write : ByteArray := prog_9_method_3_code
def yX7_write : MethodName := ⟨RX7, "write", "(III)V"⟩
abbrev cX7_copyFrom : ByteArray := prog_9_method_4_code
def yX7_copyFrom : MethodName := ⟨RX7, "copyFrom", "(LBarrierLights$Table;)V"⟩
abbrev cX7_isUsed : ByteArray := prog_9_method_5_code
def yX7_isUsed : MethodName := ⟨RX7, "isUsed", "(I)Z"⟩
abbrev cX7_used : ByteArray := prog_9_method_6_code
def yX7_used : MethodName := ⟨RX7, "used", "()I"⟩
abbrev cX7_wrongPlace : ByteArray := prog_9_method_7_code
def yX7_wrongPlace : MethodName := ⟨RX7, "wrongPlace", "()I"⟩
abbrev cX7_isRight : ByteArray := prog_9_method_8_code
def yX7_isRight : MethodName := ⟨RX7, "isRight", "(II)Z"⟩
def RX8 : String := "BarrierLights"
def TX8 : u_T := fun k => match k with
  | 0 => ("BarrierLights", "plans", "LBarrierLights$Plans;", true)
  | 1 => ("BarrierLights", "controller0", "LBarrierLights$Controller;", true)
  | 2 => ("BarrierLights", "controller1", "LBarrierLights$Controller;", true)
  | _ => ("BarrierLights", "clock", "I", false)
def tyX8 : Nat → FieldType := fun k => match k with
  | 0 => .object "BarrierLights$Plans"
  | 1 => .object "BarrierLights$Controller"
  | 2 => .object "BarrierLights$Controller"
  | _ => .int
abbrev wsX80 : List Cond := u_ws RX8 TX8 4
theorem nmX8 : ∀ a, a < 4 → ∀ b, b < 4 → a ≠ b → (TX8 a).2.1 ≠ (TX8 b).2.1 := by decide +kernel
theorem tyX8_ok : ∀ k, k < 4 → parseFieldDescriptor (TX8 k).2.2.1 = some (tyX8 k) := by decide +kernel
abbrev cX8_init : ByteArray := prog_1_method_1_code
def yX8_init : MethodName := ⟨RX8, "<init>", "()V"⟩
abbrev cX8_put : ByteArray := prog_1_method_2_code
def yX8_put : MethodName := ⟨RX8, "put", "(IIII)Z"⟩
abbrev cX8_enact : ByteArray := prog_1_method_3_code
def yX8_enact : MethodName := ⟨RX8, "enact", "(I)I"⟩
abbrev cX8_place : ByteArray := prog_1_method_4_code
def yX8_place : MethodName := ⟨RX8, "place", "(I)I"⟩
abbrev cX8_detect : ByteArray := prog_1_method_5_code
def yX8_detect : MethodName := ⟨RX8, "detect", "(IIZ)Z"⟩
abbrev cX8_press : ByteArray := prog_1_method_6_code
def yX8_press : MethodName := ⟨RX8, "press", "(II)Z"⟩
abbrev cX8_target : ByteArray := prog_1_method_7_code
def yX8_target : MethodName := ⟨RX8, "target", "(III)Z"⟩
abbrev cX8_preempt : ByteArray := prog_1_method_8_code
def yX8_preempt : MethodName := ⟨RX8, "preempt", "(IIZ)Z"⟩
abbrev cX8_plan : ByteArray := prog_1_method_9_code
def yX8_plan : MethodName := ⟨RX8, "plan", "(IIII)Z"⟩
abbrev cX8_message : ByteArray := prog_1_method_10_code
def yX8_message : MethodName := ⟨RX8, "message", "(III)Z"⟩
abbrev cX8_fault : ByteArray := prog_1_method_11_code
def yX8_fault : MethodName := ⟨RX8, "fault", "(III)Z"⟩
abbrev cX8_reset : ByteArray := prog_1_method_12_code
def yX8_reset : MethodName := ⟨RX8, "reset", "(I)Z"⟩
abbrev cX8_tick : ByteArray := prog_1_method_13_code
def yX8_tick : MethodName := ⟨RX8, "tick", "(I)I"⟩
abbrev cX8_lamp : ByteArray := prog_1_method_14_code
def yX8_lamp : MethodName := ⟨RX8, "lamp", "(II)I"⟩
abbrev cX8_signs : ByteArray := prog_1_method_15_code
def yX8_signs : MethodName := ⟨RX8, "signs", "(II)I"⟩
abbrev cX8_crossing : ByteArray := prog_1_method_16_code
def yX8_crossing : MethodName := ⟨RX8, "crossing", "(II)I"⟩
abbrev cX8_occupancy : ByteArray := prog_1_method_17_code
def yX8_occupancy : MethodName := ⟨RX8, "occupancy", "(II)F"⟩
abbrev cX8_controllerOf : ByteArray := prog_1_method_18_code
def yX8_controllerOf : MethodName := ⟨RX8, "controllerOf", "(I)LBarrierLights$Controller;"⟩
abbrev cX8_isPhase : ByteArray := prog_1_method_19_code
def yX8_isPhase : MethodName := ⟨RX8, "isPhase", "(I)Z"⟩
abbrev cX8_isInput : ByteArray := prog_1_method_20_code
def yX8_isInput : MethodName := ⟨RX8, "isInput", "(I)Z"⟩
abbrev cX8_ringOf : ByteArray := prog_1_method_21_code
def yX8_ringOf : MethodName := ⟨RX8, "ringOf", "(I)I"⟩
abbrev cX8_sideOf : ByteArray := prog_1_method_22_code
def yX8_sideOf : MethodName := ⟨RX8, "sideOf", "(I)I"⟩
abbrev cX8_phasesOfSide : ByteArray := prog_1_method_23_code
def yX8_phasesOfSide : MethodName := ⟨RX8, "phasesOfSide", "(I)I"⟩
abbrev cX8_bit : ByteArray := prog_1_method_24_code
def yX8_bit : MethodName := ⟨RX8, "bit", "(I)I"⟩
abbrev cX8_wrap : ByteArray := prog_1_method_25_code
def yX8_wrap : MethodName := ⟨RX8, "wrap", "(II)I"⟩
def RX9 : String := "BarrierLightsModel"
def TX9 : u_T := fun k => match k with
  | 0 => ("BarrierLightsModel", "code", "I", false)
  | 1 => ("BarrierLightsModel", "clock", "I", false)
  | 2 => ("BarrierLightsModel", "draft", "[S", true)
  | 3 => ("BarrierLightsModel", "table", "[S", true)
  | 4 => ("BarrierLightsModel", "wrong", "[I", true)
  | 5 => ("BarrierLightsModel", "off", "[Z", true)
  | 6 => ("BarrierLightsModel", "why", "[I", true)
  | 7 => ("BarrierLightsModel", "side", "[I", true)
  | 8 => ("BarrierLightsModel", "greater", "[Z", true)
  | 9 => ("BarrierLightsModel", "used", "[Z", true)
  | 10 => ("BarrierLightsModel", "calls", "[Z", true)
  | 11 => ("BarrierLightsModel", "walkCalls", "[Z", true)
  | 12 => ("BarrierLightsModel", "on", "[Z", true)
  | 13 => ("BarrierLightsModel", "onTime", "[S", true)
  | 14 => ("BarrierLightsModel", "occupied", "[F", true)
  | 15 => ("BarrierLightsModel", "faults", "[I", true)
  | 16 => ("BarrierLightsModel", "shown", "[I", true)
  | 17 => ("BarrierLightsModel", "darks", "[I", true)
  | 18 => ("BarrierLightsModel", "went", "[Z", true)
  | 19 => ("BarrierLightsModel", "yellows", "[I", true)
  | 20 => ("BarrierLightsModel", "state", "[I", true)
  | 21 => ("BarrierLightsModel", "phase", "[I", true)
  | 22 => ("BarrierLightsModel", "follows", "[I", true)
  | 23 => ("BarrierLightsModel", "age", "[I", true)
  | 24 => ("BarrierLightsModel", "against", "[I", true)
  | 25 => ("BarrierLightsModel", "gap", "[I", true)
  | 26 => ("BarrierLightsModel", "walker", "[I", true)
  | 27 => ("BarrierLightsModel", "walked", "[I", true)
  | 28 => ("BarrierLightsModel", "targets", "[I", true)
  | 29 => ("BarrierLightsModel", "inputs", "[Z", true)
  | 30 => ("BarrierLightsModel", "cycle", "[I", true)
  | 31 => ("BarrierLightsModel", "offset", "[I", true)
  | 32 => ("BarrierLightsModel", "split", "[I", true)
  | 33 => ("BarrierLightsModel", "plan", "[I", true)
  | 34 => ("BarrierLightsModel", "last", "[I", true)
  | 35 => ("BarrierLightsModel", "silence", "[I", true)
  | _ => ("BarrierLightsModel", "local", "[I", true)
def tyX9 : Nat → FieldType := fun k => match k with
  | 0 => .int
  | 1 => .int
  | 2 => .array .short
  | 3 => .array .short
  | 4 => .array .int
  | 5 => .array .boolean
  | 6 => .array .int
  | 7 => .array .int
  | 8 => .array .boolean
  | 9 => .array .boolean
  | 10 => .array .boolean
  | 11 => .array .boolean
  | 12 => .array .boolean
  | 13 => .array .short
  | 14 => .array .float
  | 15 => .array .int
  | 16 => .array .int
  | 17 => .array .int
  | 18 => .array .boolean
  | 19 => .array .int
  | 20 => .array .int
  | 21 => .array .int
  | 22 => .array .int
  | 23 => .array .int
  | 24 => .array .int
  | 25 => .array .int
  | 26 => .array .int
  | 27 => .array .int
  | 28 => .array .int
  | 29 => .array .boolean
  | 30 => .array .int
  | 31 => .array .int
  | 32 => .array .int
  | 33 => .array .int
  | 34 => .array .int
  | 35 => .array .int
  | _ => .array .int
abbrev wsX90 : List Cond := u_ws RX9 TX9 37
theorem nmX9 : ∀ a, a < 37 → ∀ b, b < 37 → a ≠ b → (TX9 a).2.1 ≠ (TX9 b).2.1 := by decide +kernel
theorem tyX9_ok : ∀ k, k < 37 → parseFieldDescriptor (TX9 k).2.2.1 = some (tyX9 k) := by decide +kernel
abbrev cX9_init : ByteArray := prog_11_method_1_code
def yX9_init : MethodName := ⟨RX9, "<init>", "()V"⟩
abbrev cX9_thrown : ByteArray := prog_11_method_2_code
def yX9_thrown : MethodName := ⟨RX9, "thrown", "()I"⟩
abbrev cX9_isCrossing : ByteArray := prog_11_method_3_code
def yX9_isCrossing : MethodName := ⟨RX9, "isCrossing", "(I)Z"⟩
abbrev cX9_isPhase : ByteArray := prog_11_method_4_code
def yX9_isPhase : MethodName := ⟨RX9, "isPhase", "(II)Z"⟩
abbrev cX9_sideOf : ByteArray := prog_11_method_5_code
def yX9_sideOf : MethodName := ⟨RX9, "sideOf", "(I)I"⟩
abbrev cX9_entry : ByteArray := prog_11_method_6_code
def yX9_entry : MethodName := ⟨RX9, "entry", "(III)I"⟩
abbrev cX9_ringOf : ByteArray := prog_11_method_7_code
def yX9_ringOf : MethodName := ⟨RX9, "ringOf", "(II)I"⟩
abbrev cX9_isGreen : ByteArray := prog_11_method_8_code
def yX9_isGreen : MethodName := ⟨RX9, "isGreen", "(II)Z"⟩
abbrev cX9_failed : ByteArray := prog_11_method_9_code
def yX9_failed : MethodName := ⟨RX9, "failed", "(II)Z"⟩
abbrev cX9_runs : ByteArray := prog_11_method_10_code
def yX9_runs : MethodName := ⟨RX9, "runs", "(I)Z"⟩
abbrev cX9_put : ByteArray := prog_11_method_11_code
def yX9_put : MethodName := ⟨RX9, "put", "(IIII)Z"⟩
abbrev cX9_isWrong : ByteArray := prog_11_method_12_code
def yX9_isWrong : MethodName := ⟨RX9, "isWrong", "(II)Z"⟩
abbrev cX9_wrongPlace : ByteArray := prog_11_method_13_code
def yX9_wrongPlace : MethodName := ⟨RX9, "wrongPlace", "(I)I"⟩
abbrev cX9_enact : ByteArray := prog_11_method_14_code
def yX9_enact : MethodName := ⟨RX9, "enact", "(I)I"⟩
abbrev cX9_stopRing : ByteArray := prog_11_method_15_code
def yX9_stopRing : MethodName := ⟨RX9, "stopRing", "(I)V"⟩
abbrev cX9_start : ByteArray := prog_11_method_16_code
def yX9_start : MethodName := ⟨RX9, "start", "(I)V"⟩
abbrev cX9_called : ByteArray := prog_11_method_17_code
def yX9_called : MethodName := ⟨RX9, "called", "(II)Z"⟩
abbrev cX9_calledOn : ByteArray := prog_11_method_18_code
def yX9_calledOn : MethodName := ⟨RX9, "calledOn", "(II)Z"⟩
abbrev cX9_needed : ByteArray := prog_11_method_19_code
def yX9_needed : MethodName := ⟨RX9, "needed", "(I)Z"⟩
abbrev cX9_forward : ByteArray := prog_11_method_20_code
def yX9_forward : MethodName := ⟨RX9, "forward", "(II)I"⟩
abbrev cX9_wanted : ByteArray := prog_11_method_21_code
def yX9_wanted : MethodName := ⟨RX9, "wanted", "(II)Z"⟩
abbrev cX9_inputOf : ByteArray := prog_11_method_22_code
def yX9_inputOf : MethodName := ⟨RX9, "inputOf", "(I)I"⟩
abbrev cX9_sense : ByteArray := prog_11_method_23_code
def yX9_sense : MethodName := ⟨RX9, "sense", "(I)V"⟩
abbrev cX9_link : ByteArray := prog_11_method_24_code
def yX9_link : MethodName := ⟨RX9, "link", "(I)V"⟩
abbrev cX9_passes : ByteArray := prog_11_method_25_code
def yX9_passes : MethodName := ⟨RX9, "passes", "(II)Z"⟩
abbrev cX9_call : ByteArray := prog_11_method_26_code
def yX9_call : MethodName := ⟨RX9, "call", "(I)V"⟩
abbrev cX9_beginWalk : ByteArray := prog_11_method_27_code
def yX9_beginWalk : MethodName := ⟨RX9, "beginWalk", "(II)V"⟩
abbrev cX9_begin : ByteArray := prog_11_method_28_code
def yX9_begin : MethodName := ⟨RX9, "begin", "(II)V"⟩
abbrev cX9_pace : ByteArray := prog_11_method_29_code
def yX9_pace : MethodName := ⟨RX9, "pace", "(II)V"⟩
abbrev cX9_grow : ByteArray := prog_11_method_30_code
def yX9_grow : MethodName := ⟨RX9, "grow", "(IIZ)V"⟩
abbrev cX9_yellow : ByteArray := prog_11_method_31_code
def yX9_yellow : MethodName := ⟨RX9, "yellow", "(II)V"⟩
abbrev cX9_isEarly : ByteArray := prog_11_method_32_code
def yX9_isEarly : MethodName := ⟨RX9, "isEarly", "(I)Z"⟩
abbrev cX9_plainDone : ByteArray := prog_11_method_33_code
def yX9_plainDone : MethodName := ⟨RX9, "plainDone", "(II)Z"⟩
abbrev cX9_goal : ByteArray := prog_11_method_34_code
def yX9_goal : MethodName := ⟨RX9, "goal", "(III)I"⟩
abbrev cX9_greaterDone : ByteArray := prog_11_method_35_code
def yX9_greaterDone : MethodName := ⟨RX9, "greaterDone", "(III)Z"⟩
abbrev cX9_empty : ByteArray := prog_11_method_36_code
def yX9_empty : MethodName := ⟨RX9, "empty", "(II)V"⟩
abbrev cX9_bothWait : ByteArray := prog_11_method_37_code
def yX9_bothWait : MethodName := ⟨RX9, "bothWait", "(I)Z"⟩
abbrev cX9_cross : ByteArray := prog_11_method_38_code
def yX9_cross : MethodName := ⟨RX9, "cross", "(I)V"⟩
abbrev cX9_actPlain : ByteArray := prog_11_method_39_code
def yX9_actPlain : MethodName := ⟨RX9, "actPlain", "(I)V"⟩
abbrev cX9_actGreater : ByteArray := prog_11_method_40_code
def yX9_actGreater : MethodName := ⟨RX9, "actGreater", "(II)V"⟩
abbrev cX9_lampsOf : ByteArray := prog_11_method_41_code
def yX9_lampsOf : MethodName := ⟨RX9, "lampsOf", "(II)I"⟩
abbrev cX9_conflict : ByteArray := prog_11_method_42_code
def yX9_conflict : MethodName := ⟨RX9, "conflict", "(I)Z"⟩
abbrev cX9_dark : ByteArray := prog_11_method_43_code
def yX9_dark : MethodName := ⟨RX9, "dark", "(I)Z"⟩
abbrev cX9_tooShort : ByteArray := prog_11_method_44_code
def yX9_tooShort : MethodName := ⟨RX9, "tooShort", "(I)Z"⟩
abbrev cX9_watch : ByteArray := prog_11_method_45_code
def yX9_watch : MethodName := ⟨RX9, "watch", "(I)V"⟩
abbrev cX9_step : ByteArray := prog_11_method_46_code
def yX9_step : MethodName := ⟨RX9, "step", "(I)V"⟩
abbrev cX9_place : ByteArray := prog_11_method_47_code
def yX9_place : MethodName := ⟨RX9, "place", "(I)I"⟩
abbrev cX9_detect : ByteArray := prog_11_method_48_code
def yX9_detect : MethodName := ⟨RX9, "detect", "(IIZ)Z"⟩
abbrev cX9_press : ByteArray := prog_11_method_49_code
def yX9_press : MethodName := ⟨RX9, "press", "(II)Z"⟩
abbrev cX9_target : ByteArray := prog_11_method_50_code
def yX9_target : MethodName := ⟨RX9, "target", "(III)Z"⟩
abbrev cX9_preempt : ByteArray := prog_11_method_51_code
def yX9_preempt : MethodName := ⟨RX9, "preempt", "(IIZ)Z"⟩
abbrev cX9_plan : ByteArray := prog_11_method_52_code
def yX9_plan : MethodName := ⟨RX9, "plan", "(IIII)Z"⟩
abbrev cX9_message : ByteArray := prog_11_method_53_code
def yX9_message : MethodName := ⟨RX9, "message", "(III)Z"⟩
abbrev cX9_fault : ByteArray := prog_11_method_54_code
def yX9_fault : MethodName := ⟨RX9, "fault", "(III)Z"⟩
abbrev cX9_reset : ByteArray := prog_11_method_55_code
def yX9_reset : MethodName := ⟨RX9, "reset", "(I)Z"⟩
abbrev cX9_tick : ByteArray := prog_11_method_56_code
def yX9_tick : MethodName := ⟨RX9, "tick", "(I)I"⟩
abbrev cX9_lamp : ByteArray := prog_11_method_57_code
def yX9_lamp : MethodName := ⟨RX9, "lamp", "(II)I"⟩
abbrev cX9_signs : ByteArray := prog_11_method_58_code
def yX9_signs : MethodName := ⟨RX9, "signs", "(II)I"⟩
abbrev cX9_crossing : ByteArray := prog_11_method_59_code
def yX9_crossing : MethodName := ⟨RX9, "crossing", "(II)I"⟩
abbrev cX9_occupancy : ByteArray := prog_11_method_60_code
def yX9_occupancy : MethodName := ⟨RX9, "occupancy", "(II)F"⟩
def RJ6 : String := "java/lang/Integer"
def TJ6 : u_T := fun k => match k with
  | _ => ("", "", "", false)
def tyJ6 : Nat → FieldType := fun k => match k with
  | _ => .int
abbrev wsJ60 : List Cond := u_ws RJ6 TJ6 0
theorem nmJ6 : ∀ a, a < 0 → ∀ b, b < 0 → a ≠ b → (TJ6 a).2.1 ≠ (TJ6 b).2.1 := by decide +kernel
theorem tyJ6_ok : ∀ k, k < 0 → parseFieldDescriptor (TJ6 k).2.2.1 = some (tyJ6 k) := by decide +kernel
abbrev cJ6_bitCount_0f7a4 : ByteArray := prog_15_method_49_code
def yJ6_bitCount_0f7a4 : MethodName := ⟨RJ6, "bitCount", "(I)I"⟩
def RJ9 : String := "java/lang/Math"
def TJ9 : u_T := fun k => match k with
  | _ => ("", "", "", false)
def tyJ9 : Nat → FieldType := fun k => match k with
  | _ => .int
abbrev wsJ90 : List Cond := u_ws RJ9 TJ9 0
theorem nmJ9 : ∀ a, a < 0 → ∀ b, b < 0 → a ≠ b → (TJ9 a).2.1 ≠ (TJ9 b).2.1 := by decide +kernel
theorem tyJ9_ok : ∀ k, k < 0 → parseFieldDescriptor (TJ9 k).2.2.1 = some (tyJ9 k) := by decide +kernel
abbrev cJ9_floorMod_7cf53 : ByteArray := prog_16_method_50_code
def yJ9_floorMod_7cf53 : MethodName := ⟨RJ9, "floorMod", "(II)I"⟩
abbrev cJ9_min_7cf53 : ByteArray := prog_16_method_69_code
def yJ9_min_7cf53 : MethodName := ⟨RJ9, "min", "(II)I"⟩
def RJ0 : String := "java/lang/String"
def TJ0 : u_T := fun k => match k with
  | _ => ("", "", "", false)
def tyJ0 : Nat → FieldType := fun k => match k with
  | _ => .int
abbrev wsJ00 : List Cond := u_ws RJ0 TJ0 0
theorem nmJ0 : ∀ a, a < 0 → ∀ b, b < 0 → a ≠ b → (TJ0 a).2.1 ≠ (TJ0 b).2.1 := by decide +kernel
theorem tyJ0_ok : ∀ k, k < 0 → parseFieldDescriptor (TJ0 k).2.2.1 = some (tyJ0 k) := by decide +kernel
def RJ10 : String := "java/lang/System"
def TJ10 : u_T := fun k => match k with
  | _ => ("", "", "", false)
def tyJ10 : Nat → FieldType := fun k => match k with
  | _ => .int
abbrev wsJ100 : List Cond := u_ws RJ10 TJ10 0
theorem nmJ10 : ∀ a, a < 0 → ∀ b, b < 0 → a ≠ b → (TJ10 a).2.1 ≠ (TJ10 b).2.1 := by decide +kernel
theorem tyJ10_ok : ∀ k, k < 0 → parseFieldDescriptor (TJ10 k).2.2.1 = some (tyJ10 k) := by decide +kernel
def RL : String := "BarrierLightsLaw"
abbrev cL_enact : ByteArray := method_3_code
def yL_enact : MethodName := ⟨RL, "enact", "(LBarrierLights;I[J)I"⟩
abbrev cL_tick : ByteArray := method_4_code
def yL_tick : MethodName := ⟨RL, "tick", "(LBarrierLights;I[J)I"⟩
abbrev cL_law : ByteArray := code
def yL_law : MethodName := ⟨RL, "law", "([I)Z"⟩
def wsX7_init : List Cond := .code yX7_init cX7_init 1 none :: ([.methodLink RX7 3 objectInit, .instanceMethod objectInit, .code objectInit ⟨#[0xb1]⟩ 1 none, .arrayClass .int, .fieldLink RX7 9 "BarrierLights$Table" "entries" "[I"] ++ wsX70)
def wsX1_init : List Cond := .code yX1_init cX1_init 1 none :: ([.methodLink RX1 3 objectInit, .instanceMethod objectInit, .code objectInit ⟨#[0xb1]⟩ 1 none, .arrayClass .int, .fieldLink RX1 9 "BarrierLights$Detectors" "onTimes" "[I", .arrayClass .float, .fieldLink RX1 15 "BarrierLights$Detectors" "occupancies" "[F", .fieldLink RX1 19 "BarrierLights$Detectors" "on" "I", .fieldLink RX1 23 "BarrierLights$Detectors" "failed" "I"] ++ wsX10)
def wsX3_init : List Cond := .code yX3_init cX3_init 1 none :: ([.methodLink RX3 3 objectInit, .instanceMethod objectInit, .code objectInit ⟨#[0xb1]⟩ 1 none, .fieldLink RX3 9 "BarrierLights$Link" "plan" "I", .fieldLink RX3 15 "BarrierLights$Link" "localClock" "I", .fieldLink RX3 18 "BarrierLights$Link" "silence" "I", .fieldLink RX3 21 "BarrierLights$Link" "lastNumber" "I"] ++ wsX30)
def wsX2_init : List Cond := .code yX2_init cX2_init 1 none :: ([.methodLink RX2 3 objectInit, .instanceMethod objectInit, .code objectInit ⟨#[0xb1]⟩ 1 none, .arrayClass .boolean, .fieldLink RX2 9 "BarrierLights$Inputs" "on" "[Z", .arrayClass .int, .fieldLink RX2 15 "BarrierLights$Inputs" "targets" "[I"] ++ wsX20)
def wsX4_init : List Cond := .code yX4_init cX4_init 1 none :: ([.methodLink RX4 3 objectInit, .instanceMethod objectInit, .code objectInit ⟨#[0xb1]⟩ 1 none, .arrayClass .int, .fieldLink RX4 9 "BarrierLights$Monitor" "shown" "[I", .fieldLink RX4 15 "BarrierLights$Monitor" "shownBefore" "[I", .fieldLink RX4 18 "BarrierLights$Monitor" "yellowTicks" "[I", .fieldLink RX4 21 "BarrierLights$Monitor" "sawBefore" "Z"] ++ wsX40)
def wsX6_init : List Cond := .code yX6_init cX6_init 1 none :: ([.methodLink RX6 3 objectInit, .instanceMethod objectInit, .code objectInit ⟨#[0xb1]⟩ 1 none, .fieldLink RX6 9 "BarrierLights$Ring" "phase" "I", .fieldLink RX6 15 "BarrierLights$Ring" "next" "I", .fieldLink RX6 18 "BarrierLights$Ring" "forward" "I", .fieldLink RX6 21 "BarrierLights$Ring" "wanted" "Z", .fieldLink RX6 25 "BarrierLights$Ring" "lamps" "I", .fieldLink RX6 28 "BarrierLights$Ring" "age" "I", .fieldLink RX6 31 "BarrierLights$Ring" "against" "I", .fieldLink RX6 34 "BarrierLights$Ring" "gap" "I", .fieldLink RX6 37 "BarrierLights$Ring" "walkSign" "I", .fieldLink RX6 40 "BarrierLights$Ring" "walkAge" "I"] ++ wsX60)
def wsX0_init_r1 : List Cond := [Cond.methodLink RX0 3 objectInit, Cond.instanceMethod objectInit, Cond.code objectInit ⟨#[0xb1]⟩ 1 none, Cond.classLink RX0 9 RX7, Cond.instantiable RX7 1, Cond.initialized RX7, Cond.fieldLink RX0 12 "BarrierLights$Controller" "written" "LBarrierLights$Table;", Cond.fieldLink RX0 18 "BarrierLights$Controller" "table" "LBarrierLights$Table;", Cond.classLink RX0 21 RX1, Cond.instantiable RX1 4, Cond.initialized RX1, Cond.fieldLink RX0 24 "BarrierLights$Controller" "detectors" "LBarrierLights$Detectors;", Cond.classLink RX0 28 RX3, Cond.instantiable RX3 4, Cond.initialized RX3, Cond.fieldLink RX0 31 "BarrierLights$Controller" "link" "LBarrierLights$Link;", Cond.classLink RX0 35 RX2, Cond.instantiable RX2 2, Cond.initialized RX2, Cond.fieldLink RX0 38 "BarrierLights$Controller" "inputs" "LBarrierLights$Inputs;", Cond.classLink RX0 42 RX4, Cond.instantiable RX4 4, Cond.initialized RX4, Cond.fieldLink RX0 45 "BarrierLights$Controller" "monitor" "LBarrierLights$Monitor;"]
def wsX0_init_r2 : List Cond := [Cond.classLink RX0 49 RX6, Cond.instantiable RX6 10, Cond.initialized RX6, Cond.fieldLink RX0 52 "BarrierLights$Controller" "ring0" "LBarrierLights$Ring;", Cond.fieldLink RX0 56 "BarrierLights$Controller" "ring1" "LBarrierLights$Ring;", Cond.arrayClass .int, Cond.fieldLink RX0 59 "BarrierLights$Controller" "faults" "[I", Cond.fieldLink RX0 63 "BarrierLights$Controller" "wrongPlace" "I", Cond.fieldLink RX0 67 "BarrierLights$Controller" "used" "I", Cond.fieldLink RX0 70 "BarrierLights$Controller" "whyFlashing" "I", Cond.fieldLink RX0 73 "BarrierLights$Controller" "side" "I", Cond.fieldLink RX0 76 "BarrierLights$Controller" "calls" "I", Cond.fieldLink RX0 79 "BarrierLights$Controller" "walkCalls" "I", Cond.fieldLink RX0 82 "BarrierLights$Controller" "hadInput" "Z", Cond.instanceMethod yX7_init, Cond.code yX7_init cX7_init 1 none, Cond.methodLink RX7 3 objectInit, Cond.fieldLink RX7 9 "BarrierLights$Table" "entries" "[I", Cond.instanceMethod yX1_init, Cond.code yX1_init cX1_init 1 none, Cond.methodLink RX1 3 objectInit, Cond.fieldLink RX1 9 "BarrierLights$Detectors" "onTimes" "[I", Cond.arrayClass .float, Cond.fieldLink RX1 15 "BarrierLights$Detectors" "occupancies" "[F"]
def wsX0_init_r3 : List Cond := [Cond.fieldLink RX1 19 "BarrierLights$Detectors" "on" "I", Cond.fieldLink RX1 23 "BarrierLights$Detectors" "failed" "I", Cond.instanceMethod yX3_init, Cond.code yX3_init cX3_init 1 none, Cond.methodLink RX3 3 objectInit, Cond.fieldLink RX3 9 "BarrierLights$Link" "plan" "I", Cond.fieldLink RX3 15 "BarrierLights$Link" "localClock" "I", Cond.fieldLink RX3 18 "BarrierLights$Link" "silence" "I", Cond.fieldLink RX3 21 "BarrierLights$Link" "lastNumber" "I", Cond.instanceMethod yX2_init, Cond.code yX2_init cX2_init 1 none, Cond.methodLink RX2 3 objectInit, Cond.arrayClass .boolean, Cond.fieldLink RX2 9 "BarrierLights$Inputs" "on" "[Z", Cond.fieldLink RX2 15 "BarrierLights$Inputs" "targets" "[I", Cond.instanceMethod yX4_init, Cond.code yX4_init cX4_init 1 none, Cond.methodLink RX4 3 objectInit, Cond.fieldLink RX4 9 "BarrierLights$Monitor" "shown" "[I", Cond.fieldLink RX4 15 "BarrierLights$Monitor" "shownBefore" "[I", Cond.fieldLink RX4 18 "BarrierLights$Monitor" "yellowTicks" "[I", Cond.fieldLink RX4 21 "BarrierLights$Monitor" "sawBefore" "Z", Cond.instanceMethod yX6_init, Cond.code yX6_init cX6_init 1 none]
def wsX0_init_r4 : List Cond := [Cond.methodLink RX6 3 objectInit, Cond.fieldLink RX6 9 "BarrierLights$Ring" "phase" "I", Cond.fieldLink RX6 15 "BarrierLights$Ring" "next" "I", Cond.fieldLink RX6 18 "BarrierLights$Ring" "forward" "I", Cond.fieldLink RX6 21 "BarrierLights$Ring" "wanted" "Z", Cond.fieldLink RX6 25 "BarrierLights$Ring" "lamps" "I", Cond.fieldLink RX6 28 "BarrierLights$Ring" "age" "I", Cond.fieldLink RX6 31 "BarrierLights$Ring" "against" "I", Cond.fieldLink RX6 34 "BarrierLights$Ring" "gap" "I", Cond.fieldLink RX6 37 "BarrierLights$Ring" "walkSign" "I", Cond.fieldLink RX6 40 "BarrierLights$Ring" "walkAge" "I"]
def wsX0_init : List Cond := .code yX0_init cX0_init 1 none :: ((wsX0_init_r1 ++ (wsX0_init_r2 ++ (wsX0_init_r3 ++ wsX0_init_r4))) ++ wsX70 ++ wsX00 ++ wsX10 ++ wsX30 ++ wsX20 ++ wsX40 ++ wsX60)
def wsX7_at : List Cond := .code yX7_at cX7_at 4 (some .int) :: ([.fieldLink RX7 9 "BarrierLights$Table" "entries" "[I"] ++ wsX70)
def wsX7_isUsed : List Cond := .code yX7_isUsed cX7_isUsed 2 (some .boolean) :: ([.methodLink RX7 21 yX7_at, .instanceMethod yX7_at, .selects RX7 yX7_at yX7_at, .initialized RX7, .code yX7_at cX7_at 4 (some .int), .fieldLink RX7 9 "BarrierLights$Table" "entries" "[I"] ++ wsX70)
def wsX7_isRight : List Cond := .code yX7_isRight cX7_isRight 5 (some .boolean) :: ([.methodLink RX7 21 yX7_at, .instanceMethod yX7_at, .selects RX7 yX7_at yX7_at, .initialized RX7, .code yX7_at cX7_at 4 (some .int), .fieldLink RX7 9 "BarrierLights$Table" "entries" "[I"] ++ wsX70)
def wsX8_bit : List Cond := .code yX8_bit cX8_bit 1 (some .int) :: ([])
def wsX7_used : List Cond := .code yX7_used cX7_used 3 (some .int) :: ([.methodLink RX7 25 yX7_isUsed, .instanceMethod yX7_isUsed, .selects RX7 yX7_isUsed yX7_isUsed, .initialized RX7, .code yX7_isUsed cX7_isUsed 2 (some .boolean), .methodLink RX7 21 yX7_at, .instanceMethod yX7_at, .selects RX7 yX7_at yX7_at, .code yX7_at cX7_at 4 (some .int), .fieldLink RX7 9 "BarrierLights$Table" "entries" "[I", .static yX8_bit, .initialized RX8, .code yX8_bit cX8_bit 1 (some .int)] ++ wsX70)
def wsX7_wrongPlace : List Cond := .code yX7_wrongPlace cX7_wrongPlace 3 (some .int) :: ([.methodLink RX7 25 yX7_isUsed, .instanceMethod yX7_isUsed, .selects RX7 yX7_isUsed yX7_isUsed, .initialized RX7, .code yX7_isUsed cX7_isUsed 2 (some .boolean), .methodLink RX7 21 yX7_at, .instanceMethod yX7_at, .selects RX7 yX7_at yX7_at, .code yX7_at cX7_at 4 (some .int), .fieldLink RX7 9 "BarrierLights$Table" "entries" "[I", .methodLink RX7 33 yX7_isRight, .instanceMethod yX7_isRight, .selects RX7 yX7_isRight yX7_isRight, .code yX7_isRight cX7_isRight 5 (some .boolean), .methodLink RX7 37 yX7_used, .instanceMethod yX7_used, .selects RX7 yX7_used yX7_used, .code yX7_used cX7_used 3 (some .int), .static yX8_bit, .initialized RX8, .code yX8_bit cX8_bit 1 (some .int)] ++ wsX70)
def wsX7_copyFrom : List Cond := .code yX7_copyFrom cX7_copyFrom 2 none :: ([.fieldLink RX7 9 "BarrierLights$Table" "entries" "[I", .methodLink RX7 15 arraycopyName, .native arraycopyName, .static arraycopyName, .initialized "java/lang/System"] ++ wsX70)
def wsX6_rest : List Cond := .code yX6_rest cX6_rest 1 none :: ([.fieldLink RX6 9 "BarrierLights$Ring" "phase" "I", .fieldLink RX6 15 "BarrierLights$Ring" "next" "I", .fieldLink RX6 25 "BarrierLights$Ring" "lamps" "I", .fieldLink RX6 37 "BarrierLights$Ring" "walkSign" "I"] ++ wsX60)
def wsX4_beginAnew : List Cond := .code yX4_beginAnew cX4_beginAnew 2 none :: ([.fieldLink RX4 21 "BarrierLights$Monitor" "sawBefore" "Z", .fieldLink RX4 15 "BarrierLights$Monitor" "shownBefore" "[I", .fieldLink RX4 18 "BarrierLights$Monitor" "yellowTicks" "[I"] ++ wsX40)
def wsX0_start_r1 : List Cond := [Cond.fieldLink RX0 70 "BarrierLights$Controller" "whyFlashing" "I", Cond.fieldLink RX0 52 "BarrierLights$Controller" "ring0" "LBarrierLights$Ring;", Cond.fieldLink RX0 56 "BarrierLights$Controller" "ring1" "LBarrierLights$Ring;", Cond.fieldLink RX0 73 "BarrierLights$Controller" "side" "I", Cond.fieldLink RX0 67 "BarrierLights$Controller" "used" "I", Cond.fieldLink RX0 76 "BarrierLights$Controller" "calls" "I", Cond.fieldLink RX0 79 "BarrierLights$Controller" "walkCalls" "I", Cond.fieldLink RX0 45 "BarrierLights$Controller" "monitor" "LBarrierLights$Monitor;", Cond.methodLink RX0 98 yX6_rest, Cond.instanceMethod yX6_rest, Cond.selects RX6 yX6_rest yX6_rest, Cond.initialized RX6, Cond.code yX6_rest cX6_rest 1 none, Cond.fieldLink RX6 9 "BarrierLights$Ring" "phase" "I", Cond.fieldLink RX6 15 "BarrierLights$Ring" "next" "I", Cond.fieldLink RX6 25 "BarrierLights$Ring" "lamps" "I", Cond.fieldLink RX6 37 "BarrierLights$Ring" "walkSign" "I", Cond.methodLink RX0 101 yX4_beginAnew, Cond.instanceMethod yX4_beginAnew, Cond.selects RX4 yX4_beginAnew yX4_beginAnew, Cond.initialized RX4, Cond.code yX4_beginAnew cX4_beginAnew 2 none, Cond.fieldLink RX4 21 "BarrierLights$Monitor" "sawBefore" "Z", Cond.fieldLink RX4 15 "BarrierLights$Monitor" "shownBefore" "[I"]
def wsX0_start_r2 : List Cond := [Cond.fieldLink RX4 18 "BarrierLights$Monitor" "yellowTicks" "[I"]
def wsX0_start : List Cond := .code yX0_start cX0_start 1 none :: ((wsX0_start_r1 ++ wsX0_start_r2) ++ wsX00 ++ wsX60 ++ wsX40)
def wsX0_takeWrittenTable_r1 : List Cond := [Cond.fieldLink RX0 12 "BarrierLights$Controller" "written" "LBarrierLights$Table;", Cond.fieldLink RX0 63 "BarrierLights$Controller" "wrongPlace" "I", Cond.fieldLink RX0 18 "BarrierLights$Controller" "table" "LBarrierLights$Table;", Cond.fieldLink RX0 67 "BarrierLights$Controller" "used" "I", Cond.methodLink RX0 86 yX7_wrongPlace, Cond.instanceMethod yX7_wrongPlace, Cond.selects RX7 yX7_wrongPlace yX7_wrongPlace, Cond.initialized RX7, Cond.code yX7_wrongPlace cX7_wrongPlace 3 (some .int), Cond.methodLink RX7 25 yX7_isUsed, Cond.instanceMethod yX7_isUsed, Cond.selects RX7 yX7_isUsed yX7_isUsed, Cond.code yX7_isUsed cX7_isUsed 2 (some .boolean), Cond.methodLink RX7 21 yX7_at, Cond.instanceMethod yX7_at, Cond.selects RX7 yX7_at yX7_at, Cond.code yX7_at cX7_at 4 (some .int), Cond.fieldLink RX7 9 "BarrierLights$Table" "entries" "[I", Cond.methodLink RX7 33 yX7_isRight, Cond.instanceMethod yX7_isRight, Cond.selects RX7 yX7_isRight yX7_isRight, Cond.code yX7_isRight cX7_isRight 5 (some .boolean), Cond.methodLink RX7 37 yX7_used, Cond.instanceMethod yX7_used]
def wsX0_takeWrittenTable_r2 : List Cond := [Cond.selects RX7 yX7_used yX7_used, Cond.code yX7_used cX7_used 3 (some .int), Cond.static yX8_bit, Cond.initialized RX8, Cond.code yX8_bit cX8_bit 1 (some .int), Cond.methodLink RX0 89 yX7_copyFrom, Cond.instanceMethod yX7_copyFrom, Cond.selects RX7 yX7_copyFrom yX7_copyFrom, Cond.code yX7_copyFrom cX7_copyFrom 2 none, Cond.methodLink RX7 15 arraycopyName, Cond.native arraycopyName, Cond.static arraycopyName, Cond.initialized "java/lang/System", Cond.methodLink RX0 93 yX7_used, Cond.methodLink RX0 95 yX0_start, Cond.instanceMethod yX0_start, Cond.selects RX0 yX0_start yX0_start, Cond.initialized RX0, Cond.code yX0_start cX0_start 1 none, Cond.fieldLink RX0 70 "BarrierLights$Controller" "whyFlashing" "I", Cond.fieldLink RX0 52 "BarrierLights$Controller" "ring0" "LBarrierLights$Ring;", Cond.fieldLink RX0 56 "BarrierLights$Controller" "ring1" "LBarrierLights$Ring;", Cond.fieldLink RX0 73 "BarrierLights$Controller" "side" "I", Cond.fieldLink RX0 76 "BarrierLights$Controller" "calls" "I"]
def wsX0_takeWrittenTable_r3 : List Cond := [Cond.fieldLink RX0 79 "BarrierLights$Controller" "walkCalls" "I", Cond.fieldLink RX0 45 "BarrierLights$Controller" "monitor" "LBarrierLights$Monitor;", Cond.methodLink RX0 98 yX6_rest, Cond.instanceMethod yX6_rest, Cond.selects RX6 yX6_rest yX6_rest, Cond.initialized RX6, Cond.code yX6_rest cX6_rest 1 none, Cond.fieldLink RX6 9 "BarrierLights$Ring" "phase" "I", Cond.fieldLink RX6 15 "BarrierLights$Ring" "next" "I", Cond.fieldLink RX6 25 "BarrierLights$Ring" "lamps" "I", Cond.fieldLink RX6 37 "BarrierLights$Ring" "walkSign" "I", Cond.methodLink RX0 101 yX4_beginAnew, Cond.instanceMethod yX4_beginAnew, Cond.selects RX4 yX4_beginAnew yX4_beginAnew, Cond.initialized RX4, Cond.code yX4_beginAnew cX4_beginAnew 2 none, Cond.fieldLink RX4 21 "BarrierLights$Monitor" "sawBefore" "Z", Cond.fieldLink RX4 15 "BarrierLights$Monitor" "shownBefore" "[I", Cond.fieldLink RX4 18 "BarrierLights$Monitor" "yellowTicks" "[I"]
def wsX0_takeWrittenTable : List Cond := .code yX0_takeWrittenTable cX0_takeWrittenTable 1 (some .boolean) :: ((wsX0_takeWrittenTable_r1 ++ (wsX0_takeWrittenTable_r2 ++ wsX0_takeWrittenTable_r3)) ++ wsX00 ++ wsX70 ++ wsX60 ++ wsX40)
def wsX0_isOff : List Cond := .code yX0_isOff cX0_isOff 1 (some .boolean) :: ([.fieldLink RX0 67 "BarrierLights$Controller" "used" "I"] ++ wsX00)
def wsX0_takeButton : List Cond := .code yX0_takeButton cX0_takeButton 3 (some .boolean) :: ([.fieldLink RX0 67 "BarrierLights$Controller" "used" "I", .fieldLink RX0 18 "BarrierLights$Controller" "table" "LBarrierLights$Table;", .fieldLink RX0 70 "BarrierLights$Controller" "whyFlashing" "I", .fieldLink RX0 79 "BarrierLights$Controller" "walkCalls" "I", .static yX8_bit, .initialized RX8, .code yX8_bit cX8_bit 1 (some .int), .methodLink RX0 108 yX7_at, .instanceMethod yX7_at, .selects RX7 yX7_at yX7_at, .initialized RX7, .code yX7_at cX7_at 4 (some .int), .fieldLink RX7 9 "BarrierLights$Table" "entries" "[I"] ++ wsX00 ++ wsX70)
def wsX1_pass : List Cond := .code yX1_pass cX1_pass 4 none :: ([.fieldLink RX1 23 "BarrierLights$Detectors" "failed" "I", .fieldLink RX1 19 "BarrierLights$Detectors" "on" "I", .fieldLink RX1 9 "BarrierLights$Detectors" "onTimes" "[I", .methodLink RX1 30 Lib.Math.min.name, .static Lib.Math.min.name, .initialized "java/lang/Math", .code Lib.Math.min.name Lib.Math.min.code 2 (some .int), .fieldLink RX1 15 "BarrierLights$Detectors" "occupancies" "[F", .constantFloat RX1 36 (1063256064), .constantFloat RX1 37 (1040187392), .static yX8_bit, .initialized RX8, .code yX8_bit cX8_bit 1 (some .int)] ++ wsX10)
def wsX5_isMade : List Cond := .code yX5_isMade cX5_isMade 2 (some .boolean) :: ([.fieldLink RX5 9 "BarrierLights$Plans" "cycles" "[I"] ++ wsX50)
def wsX5_cycleOf : List Cond := .code yX5_cycleOf cX5_cycleOf 2 (some .int) :: ([.fieldLink RX5 9 "BarrierLights$Plans" "cycles" "[I", .methodLink RX5 21 yX5_isMade, .instanceMethod yX5_isMade, .selects RX5 yX5_isMade yX5_isMade, .initialized RX5, .code yX5_isMade cX5_isMade 2 (some .boolean)] ++ wsX50)
def wsJ9_floorMod_7cf53 : List Cond := .code yJ9_floorMod_7cf53 cJ9_floorMod_7cf53 3 (some .int) :: ([])
def wsX8_wrap : List Cond := .code yX8_wrap cX8_wrap 2 (some .int) :: ([.methodLink RX8 179 yJ9_floorMod_7cf53, .static yJ9_floorMod_7cf53, .initialized RJ9, .code yJ9_floorMod_7cf53 cJ9_floorMod_7cf53 3 (some .int)])
def wsX5_offsetOf : List Cond := .code yX5_offsetOf cX5_offsetOf 2 (some .int) :: ([.fieldLink RX5 15 "BarrierLights$Plans" "offsets" "[I", .methodLink RX5 21 yX5_isMade, .instanceMethod yX5_isMade, .selects RX5 yX5_isMade yX5_isMade, .initialized RX5, .code yX5_isMade cX5_isMade 2 (some .boolean), .fieldLink RX5 9 "BarrierLights$Plans" "cycles" "[I"] ++ wsX50)
def wsX3_shorterWay : List Cond := .code yX3_shorterWay cX3_shorterWay 2 (some .int) :: ([])
def wsX3_pass_r1 : List Cond := [Cond.fieldLink RX3 9 "BarrierLights$Link" "plan" "I", Cond.fieldLink RX3 18 "BarrierLights$Link" "silence" "I", Cond.fieldLink RX3 15 "BarrierLights$Link" "localClock" "I", Cond.methodLink RX3 28 yX5_cycleOf, Cond.instanceMethod yX5_cycleOf, Cond.selects RX5 yX5_cycleOf yX5_cycleOf, Cond.initialized RX5, Cond.code yX5_cycleOf cX5_cycleOf 2 (some .int), Cond.fieldLink RX5 9 "BarrierLights$Plans" "cycles" "[I", Cond.methodLink RX5 21 yX5_isMade, Cond.instanceMethod yX5_isMade, Cond.selects RX5 yX5_isMade yX5_isMade, Cond.code yX5_isMade cX5_isMade 2 (some .boolean), Cond.static yX8_wrap, Cond.initialized RX8, Cond.code yX8_wrap cX8_wrap 2 (some .int), Cond.methodLink RX8 179 yJ9_floorMod_7cf53, Cond.static yJ9_floorMod_7cf53, Cond.initialized RJ9, Cond.code yJ9_floorMod_7cf53 cJ9_floorMod_7cf53 3 (some .int), Cond.methodLink RX3 34 yX5_offsetOf, Cond.instanceMethod yX5_offsetOf, Cond.selects RX5 yX5_offsetOf yX5_offsetOf, Cond.code yX5_offsetOf cX5_offsetOf 2 (some .int)]
def wsX3_pass_r2 : List Cond := [Cond.fieldLink RX5 15 "BarrierLights$Plans" "offsets" "[I", Cond.methodLink RX3 37 yX3_shorterWay, Cond.static yX3_shorterWay, Cond.initialized RX3, Cond.code yX3_shorterWay cX3_shorterWay 2 (some .int)]
def wsX3_pass : List Cond := .code yX3_pass cX3_pass 5 none :: ((wsX3_pass_r1 ++ wsX3_pass_r2) ++ wsX30 ++ wsX50)
def wsX8_ringOf : List Cond := .code yX8_ringOf cX8_ringOf 1 (some .int) :: ([])
def wsX0_ring : List Cond := .code yX0_ring cX0_ring 2 (some (.object "BarrierLights$Ring")) :: ([.fieldLink RX0 52 "BarrierLights$Controller" "ring0" "LBarrierLights$Ring;", .fieldLink RX0 56 "BarrierLights$Controller" "ring1" "LBarrierLights$Ring;"] ++ wsX00)
def wsX6_isGreen : List Cond := .code yX6_isGreen cX6_isGreen 1 (some .boolean) :: ([.fieldLink RX6 25 "BarrierLights$Ring" "lamps" "I"] ++ wsX60)
def wsX1_extendsGreen : List Cond := .code yX1_extendsGreen cX1_extendsGreen 2 (some .boolean) :: ([.fieldLink RX1 19 "BarrierLights$Detectors" "on" "I", .fieldLink RX1 23 "BarrierLights$Detectors" "failed" "I", .static yX8_bit, .initialized RX8, .code yX8_bit cX8_bit 1 (some .int)] ++ wsX10)
def wsX0_passGap : List Cond := .code yX0_passGap cX0_passGap 3 none :: ([.fieldLink RX0 24 "BarrierLights$Controller" "detectors" "LBarrierLights$Detectors;", .fieldLink RX0 18 "BarrierLights$Controller" "table" "LBarrierLights$Table;", .methodLink RX0 166 yX1_extendsGreen, .instanceMethod yX1_extendsGreen, .selects RX1 yX1_extendsGreen yX1_extendsGreen, .initialized RX1, .code yX1_extendsGreen cX1_extendsGreen 2 (some .boolean), .fieldLink RX1 19 "BarrierLights$Detectors" "on" "I", .fieldLink RX1 23 "BarrierLights$Detectors" "failed" "I", .static yX8_bit, .initialized RX8, .code yX8_bit cX8_bit 1 (some .int), .methodLink RX0 108 yX7_at, .instanceMethod yX7_at, .selects RX7 yX7_at yX7_at, .initialized RX7, .code yX7_at cX7_at 4 (some .int), .fieldLink RX7 9 "BarrierLights$Table" "entries" "[I"] ++ wsX60 ++ wsX00 ++ wsX10 ++ wsX70)
def wsX1_calls : List Cond := .code yX1_calls cX1_calls 2 (some .boolean) :: ([.fieldLink RX1 19 "BarrierLights$Detectors" "on" "I", .fieldLink RX1 23 "BarrierLights$Detectors" "failed" "I", .static yX8_bit, .initialized RX8, .code yX8_bit cX8_bit 1 (some .int)] ++ wsX10)
def wsX0_noteCalls : List Cond := .code yX0_noteCalls cX0_noteCalls 3 none :: ([.fieldLink RX0 18 "BarrierLights$Controller" "table" "LBarrierLights$Table;", .fieldLink RX0 24 "BarrierLights$Controller" "detectors" "LBarrierLights$Detectors;", .fieldLink RX0 76 "BarrierLights$Controller" "calls" "I", .fieldLink RX0 79 "BarrierLights$Controller" "walkCalls" "I", .methodLink RX0 108 yX7_at, .instanceMethod yX7_at, .selects RX7 yX7_at yX7_at, .initialized RX7, .code yX7_at cX7_at 4 (some .int), .fieldLink RX7 9 "BarrierLights$Table" "entries" "[I", .methodLink RX0 173 yX1_calls, .instanceMethod yX1_calls, .selects RX1 yX1_calls yX1_calls, .initialized RX1, .code yX1_calls cX1_calls 2 (some .boolean), .fieldLink RX1 19 "BarrierLights$Detectors" "on" "I", .fieldLink RX1 23 "BarrierLights$Detectors" "failed" "I", .static yX8_bit, .initialized RX8, .code yX8_bit cX8_bit 1 (some .int)] ++ wsX00 ++ wsX70 ++ wsX10)
def wsX0_passCalls_r1 : List Cond := [Cond.fieldLink RX0 67 "BarrierLights$Controller" "used" "I", Cond.static yX8_ringOf, Cond.initialized RX8, Cond.code yX8_ringOf cX8_ringOf 1 (some .int), Cond.methodLink RX0 150 yX0_ring, Cond.instanceMethod yX0_ring, Cond.selects RX0 yX0_ring yX0_ring, Cond.initialized RX0, Cond.code yX0_ring cX0_ring 2 (some (.object "BarrierLights$Ring")), Cond.fieldLink RX0 52 "BarrierLights$Controller" "ring0" "LBarrierLights$Ring;", Cond.fieldLink RX0 56 "BarrierLights$Controller" "ring1" "LBarrierLights$Ring;", Cond.methodLink RX0 154 yX6_isGreen, Cond.instanceMethod yX6_isGreen, Cond.selects RX6 yX6_isGreen yX6_isGreen, Cond.initialized RX6, Cond.code yX6_isGreen cX6_isGreen 1 (some .boolean), Cond.fieldLink RX6 25 "BarrierLights$Ring" "lamps" "I", Cond.methodLink RX0 160 yX0_passGap, Cond.instanceMethod yX0_passGap, Cond.selects RX0 yX0_passGap yX0_passGap, Cond.code yX0_passGap cX0_passGap 3 none, Cond.fieldLink RX0 24 "BarrierLights$Controller" "detectors" "LBarrierLights$Detectors;", Cond.fieldLink RX0 18 "BarrierLights$Controller" "table" "LBarrierLights$Table;", Cond.methodLink RX0 166 yX1_extendsGreen]
def wsX0_passCalls_r2 : List Cond := [Cond.instanceMethod yX1_extendsGreen, Cond.selects RX1 yX1_extendsGreen yX1_extendsGreen, Cond.initialized RX1, Cond.code yX1_extendsGreen cX1_extendsGreen 2 (some .boolean), Cond.fieldLink RX1 19 "BarrierLights$Detectors" "on" "I", Cond.fieldLink RX1 23 "BarrierLights$Detectors" "failed" "I", Cond.static yX8_bit, Cond.code yX8_bit cX8_bit 1 (some .int), Cond.methodLink RX0 108 yX7_at, Cond.instanceMethod yX7_at, Cond.selects RX7 yX7_at yX7_at, Cond.initialized RX7, Cond.code yX7_at cX7_at 4 (some .int), Cond.fieldLink RX7 9 "BarrierLights$Table" "entries" "[I", Cond.methodLink RX0 163 yX0_noteCalls, Cond.instanceMethod yX0_noteCalls, Cond.selects RX0 yX0_noteCalls yX0_noteCalls, Cond.code yX0_noteCalls cX0_noteCalls 3 none, Cond.fieldLink RX0 76 "BarrierLights$Controller" "calls" "I", Cond.fieldLink RX0 79 "BarrierLights$Controller" "walkCalls" "I", Cond.methodLink RX0 173 yX1_calls, Cond.instanceMethod yX1_calls, Cond.selects RX1 yX1_calls yX1_calls, Cond.code yX1_calls cX1_calls 2 (some .boolean)]
def wsX0_passCalls : List Cond := .code yX0_passCalls cX0_passCalls 3 none :: ((wsX0_passCalls_r1 ++ wsX0_passCalls_r2) ++ wsX60 ++ wsX00 ++ wsX10 ++ wsX70)
def wsX6_waits : List Cond := .code yX6_waits cX6_waits 1 (some .boolean) :: ([.fieldLink RX6 9 "BarrierLights$Ring" "phase" "I"] ++ wsX60)
def wsX6_beginClear : List Cond := .code yX6_beginClear cX6_beginClear 1 none :: ([.fieldLink RX6 37 "BarrierLights$Ring" "walkSign" "I", .fieldLink RX6 40 "BarrierLights$Ring" "walkAge" "I"] ++ wsX60)
def wsX6_passWalk : List Cond := .code yX6_passWalk cX6_passWalk 3 none :: ([.fieldLink RX6 40 "BarrierLights$Ring" "walkAge" "I", .fieldLink RX6 37 "BarrierLights$Ring" "walkSign" "I", .methodLink RX6 55 yX6_beginClear, .instanceMethod yX6_beginClear, .selects RX6 yX6_beginClear yX6_beginClear, .initialized RX6, .code yX6_beginClear cX6_beginClear 1 none] ++ wsX60)
def wsX6_greenPhase : List Cond := .code yX6_greenPhase cX6_greenPhase 1 (some .int) :: ([.fieldLink RX6 25 "BarrierLights$Ring" "lamps" "I", .fieldLink RX6 9 "BarrierLights$Ring" "phase" "I", .static yX8_bit, .initialized RX8, .code yX8_bit cX8_bit 1 (some .int)] ++ wsX60)
def wsX0_greenPhases : List Cond := .code yX0_greenPhases cX0_greenPhases 1 (some .int) :: ([.fieldLink RX0 52 "BarrierLights$Controller" "ring0" "LBarrierLights$Ring;", .fieldLink RX0 56 "BarrierLights$Controller" "ring1" "LBarrierLights$Ring;", .methodLink RX0 299 yX6_greenPhase, .instanceMethod yX6_greenPhase, .selects RX6 yX6_greenPhase yX6_greenPhase, .initialized RX6, .code yX6_greenPhase cX6_greenPhase 1 (some .int), .fieldLink RX6 25 "BarrierLights$Ring" "lamps" "I", .fieldLink RX6 9 "BarrierLights$Ring" "phase" "I", .static yX8_bit, .initialized RX8, .code yX8_bit cX8_bit 1 (some .int)] ++ wsX00 ++ wsX60)
def wsX0_countingCalls : List Cond := .code yX0_countingCalls cX0_countingCalls 1 (some .int) :: ([.fieldLink RX0 76 "BarrierLights$Controller" "calls" "I", .fieldLink RX0 79 "BarrierLights$Controller" "walkCalls" "I", .methodLink RX0 232 yX0_greenPhases, .instanceMethod yX0_greenPhases, .selects RX0 yX0_greenPhases yX0_greenPhases, .initialized RX0, .code yX0_greenPhases cX0_greenPhases 1 (some .int), .fieldLink RX0 52 "BarrierLights$Controller" "ring0" "LBarrierLights$Ring;", .fieldLink RX0 56 "BarrierLights$Controller" "ring1" "LBarrierLights$Ring;", .methodLink RX0 299 yX6_greenPhase, .instanceMethod yX6_greenPhase, .selects RX6 yX6_greenPhase yX6_greenPhase, .initialized RX6, .code yX6_greenPhase cX6_greenPhase 1 (some .int), .fieldLink RX6 25 "BarrierLights$Ring" "lamps" "I", .fieldLink RX6 9 "BarrierLights$Ring" "phase" "I", .static yX8_bit, .initialized RX8, .code yX8_bit cX8_bit 1 (some .int)] ++ wsX00 ++ wsX60)
def wsX6_phaseBefore : List Cond := .code yX6_phaseBefore cX6_phaseBefore 1 (some .int) :: ([.fieldLink RX6 9 "BarrierLights$Ring" "phase" "I", .methodLink RX6 47 yX6_waits, .instanceMethod yX6_waits, .selects RX6 yX6_waits yX6_waits, .initialized RX6, .code yX6_waits cX6_waits 1 (some .boolean), .static yX8_bit, .initialized RX8, .code yX8_bit cX8_bit 1 (some .int)] ++ wsX60)
def wsX8_phasesOfSide : List Cond := .code yX8_phasesOfSide cX8_phasesOfSide 1 (some .int) :: ([])
def wsX6_phaseBehind : List Cond := .code yX6_phaseBehind cX6_phaseBehind 1 (some .int) :: ([.fieldLink RX6 9 "BarrierLights$Ring" "phase" "I", .methodLink RX6 47 yX6_waits, .instanceMethod yX6_waits, .selects RX6 yX6_waits yX6_waits, .initialized RX6, .code yX6_waits cX6_waits 1 (some .boolean), .static yX8_bit, .initialized RX8, .code yX8_bit cX8_bit 1 (some .int)] ++ wsX60)
def wsX0_weigh : List Cond := .code yX0_weigh cX0_weigh 5 none :: ([.fieldLink RX0 52 "BarrierLights$Controller" "ring0" "LBarrierLights$Ring;", .fieldLink RX0 56 "BarrierLights$Controller" "ring1" "LBarrierLights$Ring;", .fieldLink RX0 73 "BarrierLights$Controller" "side" "I", .methodLink RX0 207 yX6_phaseBefore, .instanceMethod yX6_phaseBefore, .selects RX6 yX6_phaseBefore yX6_phaseBefore, .initialized RX6, .code yX6_phaseBefore cX6_phaseBefore 1 (some .int), .fieldLink RX6 9 "BarrierLights$Ring" "phase" "I", .methodLink RX6 47 yX6_waits, .instanceMethod yX6_waits, .selects RX6 yX6_waits yX6_waits, .code yX6_waits cX6_waits 1 (some .boolean), .static yX8_bit, .initialized RX8, .code yX8_bit cX8_bit 1 (some .int), .static yX8_phasesOfSide, .code yX8_phasesOfSide cX8_phasesOfSide 1 (some .int), .methodLink RX0 213 yX6_phaseBehind, .instanceMethod yX6_phaseBehind, .selects RX6 yX6_phaseBehind yX6_phaseBehind, .code yX6_phaseBehind cX6_phaseBehind 1 (some .int)] ++ wsX00 ++ wsX60)
def wsX2_targetInForce : List Cond := .code yX2_targetInForce cX2_targetInForce 3 (some .int) :: ([.fieldLink RX2 9 "BarrierLights$Inputs" "on" "[Z", .fieldLink RX2 15 "BarrierLights$Inputs" "targets" "[I", .static yX8_bit, .initialized RX8, .code yX8_bit cX8_bit 1 (some .int)] ++ wsX20)
def wsX6_show : List Cond := .code yX6_show cX6_show 2 none :: ([.fieldLink RX6 25 "BarrierLights$Ring" "lamps" "I", .fieldLink RX6 28 "BarrierLights$Ring" "age" "I"] ++ wsX60)
def wsX6_begin : List Cond := .code yX6_begin cX6_begin 3 none :: ([.fieldLink RX6 9 "BarrierLights$Ring" "phase" "I", .fieldLink RX6 15 "BarrierLights$Ring" "next" "I", .fieldLink RX6 31 "BarrierLights$Ring" "against" "I", .fieldLink RX6 34 "BarrierLights$Ring" "gap" "I", .fieldLink RX6 37 "BarrierLights$Ring" "walkSign" "I", .methodLink RX6 51 yX6_show, .instanceMethod yX6_show, .selects RX6 yX6_show yX6_show, .initialized RX6, .code yX6_show cX6_show 2 none, .fieldLink RX6 25 "BarrierLights$Ring" "lamps" "I", .fieldLink RX6 28 "BarrierLights$Ring" "age" "I"] ++ wsX60)
def wsX6_beginWalk : List Cond := .code yX6_beginWalk cX6_beginWalk 1 none :: ([.fieldLink RX6 37 "BarrierLights$Ring" "walkSign" "I", .fieldLink RX6 40 "BarrierLights$Ring" "walkAge" "I"] ++ wsX60)
def wsX0_beginWalk : List Cond := .code yX0_beginWalk cX0_beginWalk 2 none :: ([.fieldLink RX0 79 "BarrierLights$Controller" "walkCalls" "I", .methodLink RX0 230 yX6_beginWalk, .instanceMethod yX6_beginWalk, .selects RX6 yX6_beginWalk yX6_beginWalk, .initialized RX6, .code yX6_beginWalk cX6_beginWalk 1 none, .fieldLink RX6 37 "BarrierLights$Ring" "walkSign" "I", .fieldLink RX6 40 "BarrierLights$Ring" "walkAge" "I", .static yX8_bit, .initialized RX8, .code yX8_bit cX8_bit 1 (some .int)] ++ wsX00 ++ wsX60)
def wsX0_begin_r1 : List Cond := [Cond.fieldLink RX0 24 "BarrierLights$Controller" "detectors" "LBarrierLights$Detectors;", Cond.fieldLink RX0 18 "BarrierLights$Controller" "table" "LBarrierLights$Table;", Cond.fieldLink RX0 76 "BarrierLights$Controller" "calls" "I", Cond.fieldLink RX0 79 "BarrierLights$Controller" "walkCalls" "I", Cond.methodLink RX0 166 yX1_extendsGreen, Cond.instanceMethod yX1_extendsGreen, Cond.selects RX1 yX1_extendsGreen yX1_extendsGreen, Cond.initialized RX1, Cond.code yX1_extendsGreen cX1_extendsGreen 2 (some .boolean), Cond.fieldLink RX1 19 "BarrierLights$Detectors" "on" "I", Cond.fieldLink RX1 23 "BarrierLights$Detectors" "failed" "I", Cond.static yX8_bit, Cond.initialized RX8, Cond.code yX8_bit cX8_bit 1 (some .int), Cond.methodLink RX0 108 yX7_at, Cond.instanceMethod yX7_at, Cond.selects RX7 yX7_at yX7_at, Cond.initialized RX7, Cond.code yX7_at cX7_at 4 (some .int), Cond.fieldLink RX7 9 "BarrierLights$Table" "entries" "[I", Cond.methodLink RX0 225 yX6_begin, Cond.instanceMethod yX6_begin, Cond.selects RX6 yX6_begin yX6_begin, Cond.initialized RX6]
def wsX0_begin_r2 : List Cond := [Cond.code yX6_begin cX6_begin 3 none, Cond.fieldLink RX6 9 "BarrierLights$Ring" "phase" "I", Cond.fieldLink RX6 15 "BarrierLights$Ring" "next" "I", Cond.fieldLink RX6 31 "BarrierLights$Ring" "against" "I", Cond.fieldLink RX6 34 "BarrierLights$Ring" "gap" "I", Cond.fieldLink RX6 37 "BarrierLights$Ring" "walkSign" "I", Cond.methodLink RX6 51 yX6_show, Cond.instanceMethod yX6_show, Cond.selects RX6 yX6_show yX6_show, Cond.code yX6_show cX6_show 2 none, Cond.fieldLink RX6 25 "BarrierLights$Ring" "lamps" "I", Cond.fieldLink RX6 28 "BarrierLights$Ring" "age" "I", Cond.methodLink RX0 227 yX0_beginWalk, Cond.instanceMethod yX0_beginWalk, Cond.selects RX0 yX0_beginWalk yX0_beginWalk, Cond.initialized RX0, Cond.code yX0_beginWalk cX0_beginWalk 2 none, Cond.methodLink RX0 230 yX6_beginWalk, Cond.instanceMethod yX6_beginWalk, Cond.selects RX6 yX6_beginWalk yX6_beginWalk, Cond.code yX6_beginWalk cX6_beginWalk 1 none, Cond.fieldLink RX6 40 "BarrierLights$Ring" "walkAge" "I"]
def wsX0_begin : List Cond := .code yX0_begin cX0_begin 5 none :: ((wsX0_begin_r1 ++ wsX0_begin_r2) ++ wsX00 ++ wsX10 ++ wsX70 ++ wsX60)
def wsX0_end_r1 : List Cond := [Cond.methodLink RX0 98 yX6_rest, Cond.instanceMethod yX6_rest, Cond.selects RX6 yX6_rest yX6_rest, Cond.initialized RX6, Cond.code yX6_rest cX6_rest 1 none, Cond.fieldLink RX6 9 "BarrierLights$Ring" "phase" "I", Cond.fieldLink RX6 15 "BarrierLights$Ring" "next" "I", Cond.fieldLink RX6 25 "BarrierLights$Ring" "lamps" "I", Cond.fieldLink RX6 37 "BarrierLights$Ring" "walkSign" "I", Cond.methodLink RX0 222 yX0_begin, Cond.instanceMethod yX0_begin, Cond.selects RX0 yX0_begin yX0_begin, Cond.initialized RX0, Cond.code yX0_begin cX0_begin 5 none, Cond.fieldLink RX0 24 "BarrierLights$Controller" "detectors" "LBarrierLights$Detectors;", Cond.fieldLink RX0 18 "BarrierLights$Controller" "table" "LBarrierLights$Table;", Cond.fieldLink RX0 76 "BarrierLights$Controller" "calls" "I", Cond.fieldLink RX0 79 "BarrierLights$Controller" "walkCalls" "I", Cond.methodLink RX0 166 yX1_extendsGreen, Cond.instanceMethod yX1_extendsGreen, Cond.selects RX1 yX1_extendsGreen yX1_extendsGreen, Cond.initialized RX1, Cond.code yX1_extendsGreen cX1_extendsGreen 2 (some .boolean), Cond.fieldLink RX1 19 "BarrierLights$Detectors" "on" "I"]
def wsX0_end_r2 : List Cond := [Cond.fieldLink RX1 23 "BarrierLights$Detectors" "failed" "I", Cond.static yX8_bit, Cond.initialized RX8, Cond.code yX8_bit cX8_bit 1 (some .int), Cond.methodLink RX0 108 yX7_at, Cond.instanceMethod yX7_at, Cond.selects RX7 yX7_at yX7_at, Cond.initialized RX7, Cond.code yX7_at cX7_at 4 (some .int), Cond.fieldLink RX7 9 "BarrierLights$Table" "entries" "[I", Cond.methodLink RX0 225 yX6_begin, Cond.instanceMethod yX6_begin, Cond.selects RX6 yX6_begin yX6_begin, Cond.code yX6_begin cX6_begin 3 none, Cond.fieldLink RX6 31 "BarrierLights$Ring" "against" "I", Cond.fieldLink RX6 34 "BarrierLights$Ring" "gap" "I", Cond.methodLink RX6 51 yX6_show, Cond.instanceMethod yX6_show, Cond.selects RX6 yX6_show yX6_show, Cond.code yX6_show cX6_show 2 none, Cond.fieldLink RX6 28 "BarrierLights$Ring" "age" "I", Cond.methodLink RX0 227 yX0_beginWalk, Cond.instanceMethod yX0_beginWalk, Cond.selects RX0 yX0_beginWalk yX0_beginWalk]
def wsX0_end_r3 : List Cond := [Cond.code yX0_beginWalk cX0_beginWalk 2 none, Cond.methodLink RX0 230 yX6_beginWalk, Cond.instanceMethod yX6_beginWalk, Cond.selects RX6 yX6_beginWalk yX6_beginWalk, Cond.code yX6_beginWalk cX6_beginWalk 1 none, Cond.fieldLink RX6 40 "BarrierLights$Ring" "walkAge" "I"]
def wsX0_end : List Cond := .code yX0_end cX0_end 2 none :: ((wsX0_end_r1 ++ (wsX0_end_r2 ++ wsX0_end_r3)) ++ wsX60 ++ wsX00 ++ wsX10 ++ wsX70)
def wsX0_passTimes_r1 : List Cond := [Cond.fieldLink RX0 18 "BarrierLights$Controller" "table" "LBarrierLights$Table;", Cond.fieldLink RX0 38 "BarrierLights$Controller" "inputs" "LBarrierLights$Inputs;", Cond.fieldLink RX0 67 "BarrierLights$Controller" "used" "I", Cond.methodLink RX0 175 yX6_waits, Cond.instanceMethod yX6_waits, Cond.selects RX6 yX6_waits yX6_waits, Cond.initialized RX6, Cond.code yX6_waits cX6_waits 1 (some .boolean), Cond.fieldLink RX6 9 "BarrierLights$Ring" "phase" "I", Cond.methodLink RX0 154 yX6_isGreen, Cond.instanceMethod yX6_isGreen, Cond.selects RX6 yX6_isGreen yX6_isGreen, Cond.code yX6_isGreen cX6_isGreen 1 (some .boolean), Cond.fieldLink RX6 25 "BarrierLights$Ring" "lamps" "I", Cond.methodLink RX0 108 yX7_at, Cond.instanceMethod yX7_at, Cond.selects RX7 yX7_at yX7_at, Cond.initialized RX7, Cond.code yX7_at cX7_at 4 (some .int), Cond.fieldLink RX7 9 "BarrierLights$Table" "entries" "[I", Cond.methodLink RX0 181 yX6_passWalk, Cond.instanceMethod yX6_passWalk, Cond.selects RX6 yX6_passWalk yX6_passWalk, Cond.code yX6_passWalk cX6_passWalk 3 none]
def wsX0_passTimes_r2 : List Cond := [Cond.fieldLink RX6 40 "BarrierLights$Ring" "walkAge" "I", Cond.fieldLink RX6 37 "BarrierLights$Ring" "walkSign" "I", Cond.methodLink RX6 55 yX6_beginClear, Cond.instanceMethod yX6_beginClear, Cond.selects RX6 yX6_beginClear yX6_beginClear, Cond.code yX6_beginClear cX6_beginClear 1 none, Cond.methodLink RX0 185 yX0_countingCalls, Cond.instanceMethod yX0_countingCalls, Cond.selects RX0 yX0_countingCalls yX0_countingCalls, Cond.initialized RX0, Cond.code yX0_countingCalls cX0_countingCalls 1 (some .int), Cond.fieldLink RX0 76 "BarrierLights$Controller" "calls" "I", Cond.fieldLink RX0 79 "BarrierLights$Controller" "walkCalls" "I", Cond.methodLink RX0 232 yX0_greenPhases, Cond.instanceMethod yX0_greenPhases, Cond.selects RX0 yX0_greenPhases yX0_greenPhases, Cond.code yX0_greenPhases cX0_greenPhases 1 (some .int), Cond.fieldLink RX0 52 "BarrierLights$Controller" "ring0" "LBarrierLights$Ring;", Cond.fieldLink RX0 56 "BarrierLights$Controller" "ring1" "LBarrierLights$Ring;", Cond.methodLink RX0 299 yX6_greenPhase, Cond.instanceMethod yX6_greenPhase, Cond.selects RX6 yX6_greenPhase yX6_greenPhase, Cond.code yX6_greenPhase cX6_greenPhase 1 (some .int), Cond.static yX8_bit]
def wsX0_passTimes_r3 : List Cond := [Cond.initialized RX8, Cond.code yX8_bit cX8_bit 1 (some .int), Cond.methodLink RX0 188 yX0_weigh, Cond.instanceMethod yX0_weigh, Cond.selects RX0 yX0_weigh yX0_weigh, Cond.code yX0_weigh cX0_weigh 5 none, Cond.fieldLink RX0 73 "BarrierLights$Controller" "side" "I", Cond.methodLink RX0 207 yX6_phaseBefore, Cond.instanceMethod yX6_phaseBefore, Cond.selects RX6 yX6_phaseBefore yX6_phaseBefore, Cond.code yX6_phaseBefore cX6_phaseBefore 1 (some .int), Cond.methodLink RX6 47 yX6_waits, Cond.static yX8_phasesOfSide, Cond.code yX8_phasesOfSide cX8_phasesOfSide 1 (some .int), Cond.methodLink RX0 213 yX6_phaseBehind, Cond.instanceMethod yX6_phaseBehind, Cond.selects RX6 yX6_phaseBehind yX6_phaseBehind, Cond.code yX6_phaseBehind cX6_phaseBehind 1 (some .int), Cond.methodLink RX0 129 yX2_targetInForce, Cond.instanceMethod yX2_targetInForce, Cond.selects RX2 yX2_targetInForce yX2_targetInForce, Cond.initialized RX2, Cond.code yX2_targetInForce cX2_targetInForce 3 (some .int), Cond.fieldLink RX2 9 "BarrierLights$Inputs" "on" "[Z"]
def wsX0_passTimes_r4 : List Cond := [Cond.fieldLink RX2 15 "BarrierLights$Inputs" "targets" "[I", Cond.methodLink RX0 201 yX6_show, Cond.instanceMethod yX6_show, Cond.selects RX6 yX6_show yX6_show, Cond.code yX6_show cX6_show 2 none, Cond.fieldLink RX6 28 "BarrierLights$Ring" "age" "I", Cond.methodLink RX0 204 yX0_end, Cond.instanceMethod yX0_end, Cond.selects RX0 yX0_end yX0_end, Cond.code yX0_end cX0_end 2 none, Cond.methodLink RX0 98 yX6_rest, Cond.instanceMethod yX6_rest, Cond.selects RX6 yX6_rest yX6_rest, Cond.code yX6_rest cX6_rest 1 none, Cond.fieldLink RX6 15 "BarrierLights$Ring" "next" "I", Cond.methodLink RX0 222 yX0_begin, Cond.instanceMethod yX0_begin, Cond.selects RX0 yX0_begin yX0_begin, Cond.code yX0_begin cX0_begin 5 none, Cond.fieldLink RX0 24 "BarrierLights$Controller" "detectors" "LBarrierLights$Detectors;", Cond.methodLink RX0 166 yX1_extendsGreen, Cond.instanceMethod yX1_extendsGreen, Cond.selects RX1 yX1_extendsGreen yX1_extendsGreen, Cond.initialized RX1]
def wsX0_passTimes_r5 : List Cond := [Cond.code yX1_extendsGreen cX1_extendsGreen 2 (some .boolean), Cond.fieldLink RX1 19 "BarrierLights$Detectors" "on" "I", Cond.fieldLink RX1 23 "BarrierLights$Detectors" "failed" "I", Cond.methodLink RX0 225 yX6_begin, Cond.instanceMethod yX6_begin, Cond.selects RX6 yX6_begin yX6_begin, Cond.code yX6_begin cX6_begin 3 none, Cond.fieldLink RX6 31 "BarrierLights$Ring" "against" "I", Cond.fieldLink RX6 34 "BarrierLights$Ring" "gap" "I", Cond.methodLink RX6 51 yX6_show, Cond.methodLink RX0 227 yX0_beginWalk, Cond.instanceMethod yX0_beginWalk, Cond.selects RX0 yX0_beginWalk yX0_beginWalk, Cond.code yX0_beginWalk cX0_beginWalk 2 none, Cond.methodLink RX0 230 yX6_beginWalk, Cond.instanceMethod yX6_beginWalk, Cond.selects RX6 yX6_beginWalk yX6_beginWalk, Cond.code yX6_beginWalk cX6_beginWalk 1 none]
def wsX0_passTimes : List Cond := .code yX0_passTimes cX0_passTimes 2 none :: ((wsX0_passTimes_r1 ++ (wsX0_passTimes_r2 ++ (wsX0_passTimes_r3 ++ (wsX0_passTimes_r4 ++ wsX0_passTimes_r5)))) ++ wsX60 ++ wsX00 ++ wsX70 ++ wsX20 ++ wsX10)
def wsX8_sideOf : List Cond := .code yX8_sideOf cX8_sideOf 1 (some .int) :: ([])
def wsX0_goalOf : List Cond := .code yX0_goalOf cX0_goalOf 4 (some .int) :: ([.fieldLink RX0 67 "BarrierLights$Controller" "used" "I", .static yX8_ringOf, .initialized RX8, .code yX8_ringOf cX8_ringOf 1 (some .int), .static yX8_bit, .code yX8_bit cX8_bit 1 (some .int)] ++ wsX00)
def wsX6_mayEnd : List Cond := .code yX6_mayEnd cX6_mayEnd 2 (some .boolean) :: ([.fieldLink RX6 25 "BarrierLights$Ring" "lamps" "I", .fieldLink RX6 37 "BarrierLights$Ring" "walkSign" "I", .fieldLink RX6 28 "BarrierLights$Ring" "age" "I"] ++ wsX60)
def wsX6_turnYellow : List Cond := .code yX6_turnYellow cX6_turnYellow 2 none :: ([.fieldLink RX6 15 "BarrierLights$Ring" "next" "I", .methodLink RX6 51 yX6_show, .instanceMethod yX6_show, .selects RX6 yX6_show yX6_show, .initialized RX6, .code yX6_show cX6_show 2 none, .fieldLink RX6 25 "BarrierLights$Ring" "lamps" "I", .fieldLink RX6 28 "BarrierLights$Ring" "age" "I"] ++ wsX60)
def wsX0_giveWay_r1 : List Cond := [Cond.fieldLink RX0 18 "BarrierLights$Controller" "table" "LBarrierLights$Table;", Cond.methodLink RX0 278 yX6_beginClear, Cond.instanceMethod yX6_beginClear, Cond.selects RX6 yX6_beginClear yX6_beginClear, Cond.initialized RX6, Cond.code yX6_beginClear cX6_beginClear 1 none, Cond.fieldLink RX6 37 "BarrierLights$Ring" "walkSign" "I", Cond.fieldLink RX6 40 "BarrierLights$Ring" "walkAge" "I", Cond.methodLink RX0 108 yX7_at, Cond.instanceMethod yX7_at, Cond.selects RX7 yX7_at yX7_at, Cond.initialized RX7, Cond.code yX7_at cX7_at 4 (some .int), Cond.fieldLink RX7 9 "BarrierLights$Table" "entries" "[I", Cond.methodLink RX0 258 yX6_mayEnd, Cond.instanceMethod yX6_mayEnd, Cond.selects RX6 yX6_mayEnd yX6_mayEnd, Cond.code yX6_mayEnd cX6_mayEnd 2 (some .boolean), Cond.fieldLink RX6 25 "BarrierLights$Ring" "lamps" "I", Cond.fieldLink RX6 28 "BarrierLights$Ring" "age" "I", Cond.methodLink RX0 255 yX6_turnYellow, Cond.instanceMethod yX6_turnYellow, Cond.selects RX6 yX6_turnYellow yX6_turnYellow, Cond.code yX6_turnYellow cX6_turnYellow 2 none]
def wsX0_giveWay_r2 : List Cond := [Cond.fieldLink RX6 15 "BarrierLights$Ring" "next" "I", Cond.methodLink RX6 51 yX6_show, Cond.instanceMethod yX6_show, Cond.selects RX6 yX6_show yX6_show, Cond.code yX6_show cX6_show 2 none]
def wsX0_giveWay : List Cond := .code yX0_giveWay cX0_giveWay 4 none :: ((wsX0_giveWay_r1 ++ wsX0_giveWay_r2) ++ wsX60 ++ wsX00 ++ wsX70)
def wsX0_mayLeaveByInput : List Cond := .code yX0_mayLeaveByInput cX0_mayLeaveByInput 2 (some .boolean) :: ([.fieldLink RX0 18 "BarrierLights$Controller" "table" "LBarrierLights$Table;", .methodLink RX0 175 yX6_waits, .instanceMethod yX6_waits, .selects RX6 yX6_waits yX6_waits, .initialized RX6, .code yX6_waits cX6_waits 1 (some .boolean), .fieldLink RX6 9 "BarrierLights$Ring" "phase" "I", .methodLink RX0 108 yX7_at, .instanceMethod yX7_at, .selects RX7 yX7_at yX7_at, .initialized RX7, .code yX7_at cX7_at 4 (some .int), .fieldLink RX7 9 "BarrierLights$Table" "entries" "[I", .methodLink RX0 258 yX6_mayEnd, .instanceMethod yX6_mayEnd, .selects RX6 yX6_mayEnd yX6_mayEnd, .code yX6_mayEnd cX6_mayEnd 2 (some .boolean), .fieldLink RX6 25 "BarrierLights$Ring" "lamps" "I", .fieldLink RX6 37 "BarrierLights$Ring" "walkSign" "I", .fieldLink RX6 28 "BarrierLights$Ring" "age" "I"] ++ wsX00 ++ wsX60 ++ wsX70)
def wsX0_leaveSide : List Cond := .code yX0_leaveSide cX0_leaveSide 3 none :: ([.methodLink RX0 150 yX0_ring, .instanceMethod yX0_ring, .selects RX0 yX0_ring yX0_ring, .initialized RX0, .code yX0_ring cX0_ring 2 (some (.object "BarrierLights$Ring")), .fieldLink RX0 52 "BarrierLights$Controller" "ring0" "LBarrierLights$Ring;", .fieldLink RX0 56 "BarrierLights$Controller" "ring1" "LBarrierLights$Ring;", .methodLink RX0 154 yX6_isGreen, .instanceMethod yX6_isGreen, .selects RX6 yX6_isGreen yX6_isGreen, .initialized RX6, .code yX6_isGreen cX6_isGreen 1 (some .boolean), .fieldLink RX6 25 "BarrierLights$Ring" "lamps" "I", .methodLink RX0 255 yX6_turnYellow, .instanceMethod yX6_turnYellow, .selects RX6 yX6_turnYellow yX6_turnYellow, .code yX6_turnYellow cX6_turnYellow 2 none, .fieldLink RX6 15 "BarrierLights$Ring" "next" "I", .methodLink RX6 51 yX6_show, .instanceMethod yX6_show, .selects RX6 yX6_show yX6_show, .code yX6_show cX6_show 2 none, .fieldLink RX6 28 "BarrierLights$Ring" "age" "I"] ++ wsX00 ++ wsX60)
def wsX0_goByInput_r1 : List Cond := [Cond.fieldLink RX0 82 "BarrierLights$Controller" "hadInput" "Z", Cond.fieldLink RX0 73 "BarrierLights$Controller" "side" "I", Cond.fieldLink RX0 52 "BarrierLights$Controller" "ring0" "LBarrierLights$Ring;", Cond.fieldLink RX0 56 "BarrierLights$Controller" "ring1" "LBarrierLights$Ring;", Cond.static yX8_sideOf, Cond.initialized RX8, Cond.code yX8_sideOf cX8_sideOf 1 (some .int), Cond.methodLink RX0 150 yX0_ring, Cond.instanceMethod yX0_ring, Cond.selects RX0 yX0_ring yX0_ring, Cond.initialized RX0, Cond.code yX0_ring cX0_ring 2 (some (.object "BarrierLights$Ring")), Cond.methodLink RX0 267 yX0_goalOf, Cond.instanceMethod yX0_goalOf, Cond.selects RX0 yX0_goalOf yX0_goalOf, Cond.code yX0_goalOf cX0_goalOf 4 (some .int), Cond.fieldLink RX0 67 "BarrierLights$Controller" "used" "I", Cond.static yX8_ringOf, Cond.code yX8_ringOf cX8_ringOf 1 (some .int), Cond.static yX8_bit, Cond.code yX8_bit cX8_bit 1 (some .int), Cond.methodLink RX0 270 yX0_giveWay, Cond.instanceMethod yX0_giveWay, Cond.selects RX0 yX0_giveWay yX0_giveWay]
def wsX0_goByInput_r2 : List Cond := [Cond.code yX0_giveWay cX0_giveWay 4 none, Cond.fieldLink RX0 18 "BarrierLights$Controller" "table" "LBarrierLights$Table;", Cond.methodLink RX0 278 yX6_beginClear, Cond.instanceMethod yX6_beginClear, Cond.selects RX6 yX6_beginClear yX6_beginClear, Cond.initialized RX6, Cond.code yX6_beginClear cX6_beginClear 1 none, Cond.fieldLink RX6 37 "BarrierLights$Ring" "walkSign" "I", Cond.fieldLink RX6 40 "BarrierLights$Ring" "walkAge" "I", Cond.methodLink RX0 108 yX7_at, Cond.instanceMethod yX7_at, Cond.selects RX7 yX7_at yX7_at, Cond.initialized RX7, Cond.code yX7_at cX7_at 4 (some .int), Cond.fieldLink RX7 9 "BarrierLights$Table" "entries" "[I", Cond.methodLink RX0 258 yX6_mayEnd, Cond.instanceMethod yX6_mayEnd, Cond.selects RX6 yX6_mayEnd yX6_mayEnd, Cond.code yX6_mayEnd cX6_mayEnd 2 (some .boolean), Cond.fieldLink RX6 25 "BarrierLights$Ring" "lamps" "I", Cond.fieldLink RX6 28 "BarrierLights$Ring" "age" "I", Cond.methodLink RX0 255 yX6_turnYellow, Cond.instanceMethod yX6_turnYellow, Cond.selects RX6 yX6_turnYellow yX6_turnYellow]
def wsX0_goByInput_r3 : List Cond := [Cond.code yX6_turnYellow cX6_turnYellow 2 none, Cond.fieldLink RX6 15 "BarrierLights$Ring" "next" "I", Cond.methodLink RX6 51 yX6_show, Cond.instanceMethod yX6_show, Cond.selects RX6 yX6_show yX6_show, Cond.code yX6_show cX6_show 2 none, Cond.methodLink RX0 274 yX0_mayLeaveByInput, Cond.instanceMethod yX0_mayLeaveByInput, Cond.selects RX0 yX0_mayLeaveByInput yX0_mayLeaveByInput, Cond.code yX0_mayLeaveByInput cX0_mayLeaveByInput 2 (some .boolean), Cond.methodLink RX0 175 yX6_waits, Cond.instanceMethod yX6_waits, Cond.selects RX6 yX6_waits yX6_waits, Cond.code yX6_waits cX6_waits 1 (some .boolean), Cond.fieldLink RX6 9 "BarrierLights$Ring" "phase" "I", Cond.methodLink RX0 243 yX0_leaveSide, Cond.instanceMethod yX0_leaveSide, Cond.selects RX0 yX0_leaveSide yX0_leaveSide, Cond.code yX0_leaveSide cX0_leaveSide 3 none, Cond.methodLink RX0 154 yX6_isGreen, Cond.instanceMethod yX6_isGreen, Cond.selects RX6 yX6_isGreen yX6_isGreen, Cond.code yX6_isGreen cX6_isGreen 1 (some .boolean), Cond.methodLink RX0 222 yX0_begin]
def wsX0_goByInput_r4 : List Cond := [Cond.instanceMethod yX0_begin, Cond.selects RX0 yX0_begin yX0_begin, Cond.code yX0_begin cX0_begin 5 none, Cond.fieldLink RX0 24 "BarrierLights$Controller" "detectors" "LBarrierLights$Detectors;", Cond.fieldLink RX0 76 "BarrierLights$Controller" "calls" "I", Cond.fieldLink RX0 79 "BarrierLights$Controller" "walkCalls" "I", Cond.methodLink RX0 166 yX1_extendsGreen, Cond.instanceMethod yX1_extendsGreen, Cond.selects RX1 yX1_extendsGreen yX1_extendsGreen, Cond.initialized RX1, Cond.code yX1_extendsGreen cX1_extendsGreen 2 (some .boolean), Cond.fieldLink RX1 19 "BarrierLights$Detectors" "on" "I", Cond.fieldLink RX1 23 "BarrierLights$Detectors" "failed" "I", Cond.methodLink RX0 225 yX6_begin, Cond.instanceMethod yX6_begin, Cond.selects RX6 yX6_begin yX6_begin, Cond.code yX6_begin cX6_begin 3 none, Cond.fieldLink RX6 31 "BarrierLights$Ring" "against" "I", Cond.fieldLink RX6 34 "BarrierLights$Ring" "gap" "I", Cond.methodLink RX0 227 yX0_beginWalk, Cond.instanceMethod yX0_beginWalk, Cond.selects RX0 yX0_beginWalk yX0_beginWalk, Cond.code yX0_beginWalk cX0_beginWalk 2 none, Cond.methodLink RX0 230 yX6_beginWalk]
def wsX0_goByInput_r5 : List Cond := [Cond.instanceMethod yX6_beginWalk, Cond.selects RX6 yX6_beginWalk yX6_beginWalk, Cond.code yX6_beginWalk cX6_beginWalk 1 none]
def wsX0_goByInput : List Cond := .code yX0_goByInput cX0_goByInput 5 none :: ((wsX0_goByInput_r1 ++ (wsX0_goByInput_r2 ++ (wsX0_goByInput_r3 ++ (wsX0_goByInput_r4 ++ wsX0_goByInput_r5)))) ++ wsX00 ++ wsX60 ++ wsX70 ++ wsX10)
def wsX5_splitOf : List Cond := .code yX5_splitOf cX5_splitOf 2 (some .int) :: ([.fieldLink RX5 18 "BarrierLights$Plans" "splits" "[I", .methodLink RX5 21 yX5_isMade, .instanceMethod yX5_isMade, .selects RX5 yX5_isMade yX5_isMade, .initialized RX5, .code yX5_isMade cX5_isMade 2 (some .boolean), .fieldLink RX5 9 "BarrierLights$Plans" "cycles" "[I"] ++ wsX50)
def wsX3_isBeforeSplit : List Cond := .code yX3_isBeforeSplit cX3_isBeforeSplit 2 (some .boolean) :: ([.fieldLink RX3 9 "BarrierLights$Link" "plan" "I", .fieldLink RX3 15 "BarrierLights$Link" "localClock" "I", .methodLink RX3 40 yX5_splitOf, .instanceMethod yX5_splitOf, .selects RX5 yX5_splitOf yX5_splitOf, .initialized RX5, .code yX5_splitOf cX5_splitOf 2 (some .int), .fieldLink RX5 18 "BarrierLights$Plans" "splits" "[I", .methodLink RX5 21 yX5_isMade, .instanceMethod yX5_isMade, .selects RX5 yX5_isMade yX5_isMade, .code yX5_isMade cX5_isMade 2 (some .boolean), .fieldLink RX5 9 "BarrierLights$Plans" "cycles" "[I"] ++ wsX30 ++ wsX50)
def wsX0_isDone : List Cond := .code yX0_isDone cX0_isDone 3 (some .boolean) :: ([.fieldLink RX0 18 "BarrierLights$Controller" "table" "LBarrierLights$Table;", .methodLink RX0 108 yX7_at, .instanceMethod yX7_at, .selects RX7 yX7_at yX7_at, .initialized RX7, .code yX7_at cX7_at 4 (some .int), .fieldLink RX7 9 "BarrierLights$Table" "entries" "[I", .methodLink RX0 258 yX6_mayEnd, .instanceMethod yX6_mayEnd, .selects RX6 yX6_mayEnd yX6_mayEnd, .initialized RX6, .code yX6_mayEnd cX6_mayEnd 2 (some .boolean), .fieldLink RX6 25 "BarrierLights$Ring" "lamps" "I", .fieldLink RX6 37 "BarrierLights$Ring" "walkSign" "I", .fieldLink RX6 28 "BarrierLights$Ring" "age" "I"] ++ wsX60 ++ wsX00 ++ wsX70)
def wsX0_goOn_r1 : List Cond := [Cond.fieldLink RX0 79 "BarrierLights$Controller" "walkCalls" "I", Cond.methodLink RX0 154 yX6_isGreen, Cond.instanceMethod yX6_isGreen, Cond.selects RX6 yX6_isGreen yX6_isGreen, Cond.initialized RX6, Cond.code yX6_isGreen cX6_isGreen 1 (some .boolean), Cond.fieldLink RX6 25 "BarrierLights$Ring" "lamps" "I", Cond.static yX8_bit, Cond.initialized RX8, Cond.code yX8_bit cX8_bit 1 (some .int), Cond.methodLink RX0 227 yX0_beginWalk, Cond.instanceMethod yX0_beginWalk, Cond.selects RX0 yX0_beginWalk yX0_beginWalk, Cond.initialized RX0, Cond.code yX0_beginWalk cX0_beginWalk 2 none, Cond.methodLink RX0 230 yX6_beginWalk, Cond.instanceMethod yX6_beginWalk, Cond.selects RX6 yX6_beginWalk yX6_beginWalk, Cond.code yX6_beginWalk cX6_beginWalk 1 none, Cond.fieldLink RX6 37 "BarrierLights$Ring" "walkSign" "I", Cond.fieldLink RX6 40 "BarrierLights$Ring" "walkAge" "I", Cond.methodLink RX0 252 yX0_isDone, Cond.instanceMethod yX0_isDone, Cond.selects RX0 yX0_isDone yX0_isDone]
def wsX0_goOn_r2 : List Cond := [Cond.code yX0_isDone cX0_isDone 3 (some .boolean), Cond.fieldLink RX0 18 "BarrierLights$Controller" "table" "LBarrierLights$Table;", Cond.methodLink RX0 108 yX7_at, Cond.instanceMethod yX7_at, Cond.selects RX7 yX7_at yX7_at, Cond.initialized RX7, Cond.code yX7_at cX7_at 4 (some .int), Cond.fieldLink RX7 9 "BarrierLights$Table" "entries" "[I", Cond.methodLink RX0 258 yX6_mayEnd, Cond.instanceMethod yX6_mayEnd, Cond.selects RX6 yX6_mayEnd yX6_mayEnd, Cond.code yX6_mayEnd cX6_mayEnd 2 (some .boolean), Cond.fieldLink RX6 28 "BarrierLights$Ring" "age" "I", Cond.methodLink RX0 255 yX6_turnYellow, Cond.instanceMethod yX6_turnYellow, Cond.selects RX6 yX6_turnYellow yX6_turnYellow, Cond.code yX6_turnYellow cX6_turnYellow 2 none, Cond.fieldLink RX6 15 "BarrierLights$Ring" "next" "I", Cond.methodLink RX6 51 yX6_show, Cond.instanceMethod yX6_show, Cond.selects RX6 yX6_show yX6_show, Cond.code yX6_show cX6_show 2 none]
def wsX0_goOn : List Cond := .code yX0_goOn cX0_goOn 4 none :: ((wsX0_goOn_r1 ++ wsX0_goOn_r2) ++ wsX60 ++ wsX00 ++ wsX70)
def wsX0_mayLeave_r1 : List Cond := [Cond.methodLink RX0 175 yX6_waits, Cond.instanceMethod yX6_waits, Cond.selects RX6 yX6_waits yX6_waits, Cond.initialized RX6, Cond.code yX6_waits cX6_waits 1 (some .boolean), Cond.fieldLink RX6 9 "BarrierLights$Ring" "phase" "I", Cond.methodLink RX0 252 yX0_isDone, Cond.instanceMethod yX0_isDone, Cond.selects RX0 yX0_isDone yX0_isDone, Cond.initialized RX0, Cond.code yX0_isDone cX0_isDone 3 (some .boolean), Cond.fieldLink RX0 18 "BarrierLights$Controller" "table" "LBarrierLights$Table;", Cond.methodLink RX0 108 yX7_at, Cond.instanceMethod yX7_at, Cond.selects RX7 yX7_at yX7_at, Cond.initialized RX7, Cond.code yX7_at cX7_at 4 (some .int), Cond.fieldLink RX7 9 "BarrierLights$Table" "entries" "[I", Cond.methodLink RX0 258 yX6_mayEnd, Cond.instanceMethod yX6_mayEnd, Cond.selects RX6 yX6_mayEnd yX6_mayEnd, Cond.code yX6_mayEnd cX6_mayEnd 2 (some .boolean), Cond.fieldLink RX6 25 "BarrierLights$Ring" "lamps" "I", Cond.fieldLink RX6 37 "BarrierLights$Ring" "walkSign" "I"]
def wsX0_mayLeave_r2 : List Cond := [Cond.fieldLink RX6 28 "BarrierLights$Ring" "age" "I"]
def wsX0_mayLeave : List Cond := .code yX0_mayLeave cX0_mayLeave 3 (some .boolean) :: ((wsX0_mayLeave_r1 ++ wsX0_mayLeave_r2) ++ wsX60 ++ wsX00 ++ wsX70)
def wsX0_firstOfSide : List Cond := .code yX0_firstOfSide cX0_firstOfSide 4 (some .int) :: ([.fieldLink RX0 73 "BarrierLights$Controller" "side" "I", .static yX8_bit, .initialized RX8, .code yX8_bit cX8_bit 1 (some .int)] ++ wsX00)
def wsX0_cross_r1 : List Cond := [Cond.fieldLink RX0 73 "BarrierLights$Controller" "side" "I", Cond.fieldLink RX0 67 "BarrierLights$Controller" "used" "I", Cond.static yX8_phasesOfSide, Cond.initialized RX8, Cond.code yX8_phasesOfSide cX8_phasesOfSide 1 (some .int), Cond.methodLink RX0 261 yX0_firstOfSide, Cond.instanceMethod yX0_firstOfSide, Cond.selects RX0 yX0_firstOfSide yX0_firstOfSide, Cond.initialized RX0, Cond.code yX0_firstOfSide cX0_firstOfSide 4 (some .int), Cond.static yX8_bit, Cond.code yX8_bit cX8_bit 1 (some .int), Cond.methodLink RX0 150 yX0_ring, Cond.instanceMethod yX0_ring, Cond.selects RX0 yX0_ring yX0_ring, Cond.code yX0_ring cX0_ring 2 (some (.object "BarrierLights$Ring")), Cond.fieldLink RX0 52 "BarrierLights$Controller" "ring0" "LBarrierLights$Ring;", Cond.fieldLink RX0 56 "BarrierLights$Controller" "ring1" "LBarrierLights$Ring;", Cond.methodLink RX0 222 yX0_begin, Cond.instanceMethod yX0_begin, Cond.selects RX0 yX0_begin yX0_begin, Cond.code yX0_begin cX0_begin 5 none, Cond.fieldLink RX0 24 "BarrierLights$Controller" "detectors" "LBarrierLights$Detectors;", Cond.fieldLink RX0 18 "BarrierLights$Controller" "table" "LBarrierLights$Table;"]
def wsX0_cross_r2 : List Cond := [Cond.fieldLink RX0 76 "BarrierLights$Controller" "calls" "I", Cond.fieldLink RX0 79 "BarrierLights$Controller" "walkCalls" "I", Cond.methodLink RX0 166 yX1_extendsGreen, Cond.instanceMethod yX1_extendsGreen, Cond.selects RX1 yX1_extendsGreen yX1_extendsGreen, Cond.initialized RX1, Cond.code yX1_extendsGreen cX1_extendsGreen 2 (some .boolean), Cond.fieldLink RX1 19 "BarrierLights$Detectors" "on" "I", Cond.fieldLink RX1 23 "BarrierLights$Detectors" "failed" "I", Cond.methodLink RX0 108 yX7_at, Cond.instanceMethod yX7_at, Cond.selects RX7 yX7_at yX7_at, Cond.initialized RX7, Cond.code yX7_at cX7_at 4 (some .int), Cond.fieldLink RX7 9 "BarrierLights$Table" "entries" "[I", Cond.methodLink RX0 225 yX6_begin, Cond.instanceMethod yX6_begin, Cond.selects RX6 yX6_begin yX6_begin, Cond.initialized RX6, Cond.code yX6_begin cX6_begin 3 none, Cond.fieldLink RX6 9 "BarrierLights$Ring" "phase" "I", Cond.fieldLink RX6 15 "BarrierLights$Ring" "next" "I", Cond.fieldLink RX6 31 "BarrierLights$Ring" "against" "I", Cond.fieldLink RX6 34 "BarrierLights$Ring" "gap" "I"]
def wsX0_cross_r3 : List Cond := [Cond.fieldLink RX6 37 "BarrierLights$Ring" "walkSign" "I", Cond.methodLink RX6 51 yX6_show, Cond.instanceMethod yX6_show, Cond.selects RX6 yX6_show yX6_show, Cond.code yX6_show cX6_show 2 none, Cond.fieldLink RX6 25 "BarrierLights$Ring" "lamps" "I", Cond.fieldLink RX6 28 "BarrierLights$Ring" "age" "I", Cond.methodLink RX0 227 yX0_beginWalk, Cond.instanceMethod yX0_beginWalk, Cond.selects RX0 yX0_beginWalk yX0_beginWalk, Cond.code yX0_beginWalk cX0_beginWalk 2 none, Cond.methodLink RX0 230 yX6_beginWalk, Cond.instanceMethod yX6_beginWalk, Cond.selects RX6 yX6_beginWalk yX6_beginWalk, Cond.code yX6_beginWalk cX6_beginWalk 1 none, Cond.fieldLink RX6 40 "BarrierLights$Ring" "walkAge" "I"]
def wsX0_cross : List Cond := .code yX0_cross cX0_cross 5 none :: ((wsX0_cross_r1 ++ (wsX0_cross_r2 ++ wsX0_cross_r3)) ++ wsX00 ++ wsX10 ++ wsX70 ++ wsX60)
def wsX0_goByCalls_r1 : List Cond := [Cond.fieldLink RX0 73 "BarrierLights$Controller" "side" "I", Cond.fieldLink RX0 82 "BarrierLights$Controller" "hadInput" "Z", Cond.fieldLink RX0 76 "BarrierLights$Controller" "calls" "I", Cond.fieldLink RX0 67 "BarrierLights$Controller" "used" "I", Cond.fieldLink RX0 52 "BarrierLights$Controller" "ring0" "LBarrierLights$Ring;", Cond.fieldLink RX0 56 "BarrierLights$Controller" "ring1" "LBarrierLights$Ring;", Cond.methodLink RX0 232 yX0_greenPhases, Cond.instanceMethod yX0_greenPhases, Cond.selects RX0 yX0_greenPhases yX0_greenPhases, Cond.initialized RX0, Cond.code yX0_greenPhases cX0_greenPhases 1 (some .int), Cond.methodLink RX0 299 yX6_greenPhase, Cond.instanceMethod yX6_greenPhase, Cond.selects RX6 yX6_greenPhase yX6_greenPhase, Cond.initialized RX6, Cond.code yX6_greenPhase cX6_greenPhase 1 (some .int), Cond.fieldLink RX6 25 "BarrierLights$Ring" "lamps" "I", Cond.fieldLink RX6 9 "BarrierLights$Ring" "phase" "I", Cond.static yX8_bit, Cond.initialized RX8, Cond.code yX8_bit cX8_bit 1 (some .int), Cond.methodLink RX0 185 yX0_countingCalls, Cond.instanceMethod yX0_countingCalls, Cond.selects RX0 yX0_countingCalls yX0_countingCalls]
def wsX0_goByCalls_r2 : List Cond := [Cond.code yX0_countingCalls cX0_countingCalls 1 (some .int), Cond.fieldLink RX0 79 "BarrierLights$Controller" "walkCalls" "I", Cond.methodLink RX0 188 yX0_weigh, Cond.instanceMethod yX0_weigh, Cond.selects RX0 yX0_weigh yX0_weigh, Cond.code yX0_weigh cX0_weigh 5 none, Cond.methodLink RX0 207 yX6_phaseBefore, Cond.instanceMethod yX6_phaseBefore, Cond.selects RX6 yX6_phaseBefore yX6_phaseBefore, Cond.code yX6_phaseBefore cX6_phaseBefore 1 (some .int), Cond.methodLink RX6 47 yX6_waits, Cond.instanceMethod yX6_waits, Cond.selects RX6 yX6_waits yX6_waits, Cond.code yX6_waits cX6_waits 1 (some .boolean), Cond.static yX8_phasesOfSide, Cond.code yX8_phasesOfSide cX8_phasesOfSide 1 (some .int), Cond.methodLink RX0 213 yX6_phaseBehind, Cond.instanceMethod yX6_phaseBehind, Cond.selects RX6 yX6_phaseBehind yX6_phaseBehind, Cond.code yX6_phaseBehind cX6_phaseBehind 1 (some .int), Cond.methodLink RX0 235 yX0_goOn, Cond.instanceMethod yX0_goOn, Cond.selects RX0 yX0_goOn yX0_goOn, Cond.code yX0_goOn cX0_goOn 4 none]
def wsX0_goByCalls_r3 : List Cond := [Cond.methodLink RX0 154 yX6_isGreen, Cond.instanceMethod yX6_isGreen, Cond.selects RX6 yX6_isGreen yX6_isGreen, Cond.code yX6_isGreen cX6_isGreen 1 (some .boolean), Cond.methodLink RX0 227 yX0_beginWalk, Cond.instanceMethod yX0_beginWalk, Cond.selects RX0 yX0_beginWalk yX0_beginWalk, Cond.code yX0_beginWalk cX0_beginWalk 2 none, Cond.methodLink RX0 230 yX6_beginWalk, Cond.instanceMethod yX6_beginWalk, Cond.selects RX6 yX6_beginWalk yX6_beginWalk, Cond.code yX6_beginWalk cX6_beginWalk 1 none, Cond.fieldLink RX6 37 "BarrierLights$Ring" "walkSign" "I", Cond.fieldLink RX6 40 "BarrierLights$Ring" "walkAge" "I", Cond.methodLink RX0 252 yX0_isDone, Cond.instanceMethod yX0_isDone, Cond.selects RX0 yX0_isDone yX0_isDone, Cond.code yX0_isDone cX0_isDone 3 (some .boolean), Cond.fieldLink RX0 18 "BarrierLights$Controller" "table" "LBarrierLights$Table;", Cond.methodLink RX0 108 yX7_at, Cond.instanceMethod yX7_at, Cond.selects RX7 yX7_at yX7_at, Cond.initialized RX7, Cond.code yX7_at cX7_at 4 (some .int)]
def wsX0_goByCalls_r4 : List Cond := [Cond.fieldLink RX7 9 "BarrierLights$Table" "entries" "[I", Cond.methodLink RX0 258 yX6_mayEnd, Cond.instanceMethod yX6_mayEnd, Cond.selects RX6 yX6_mayEnd yX6_mayEnd, Cond.code yX6_mayEnd cX6_mayEnd 2 (some .boolean), Cond.fieldLink RX6 28 "BarrierLights$Ring" "age" "I", Cond.methodLink RX0 255 yX6_turnYellow, Cond.instanceMethod yX6_turnYellow, Cond.selects RX6 yX6_turnYellow yX6_turnYellow, Cond.code yX6_turnYellow cX6_turnYellow 2 none, Cond.fieldLink RX6 15 "BarrierLights$Ring" "next" "I", Cond.methodLink RX6 51 yX6_show, Cond.instanceMethod yX6_show, Cond.selects RX6 yX6_show yX6_show, Cond.code yX6_show cX6_show 2 none, Cond.methodLink RX0 239 yX0_mayLeave, Cond.instanceMethod yX0_mayLeave, Cond.selects RX0 yX0_mayLeave yX0_mayLeave, Cond.code yX0_mayLeave cX0_mayLeave 3 (some .boolean), Cond.methodLink RX0 175 yX6_waits, Cond.methodLink RX0 243 yX0_leaveSide, Cond.instanceMethod yX0_leaveSide, Cond.selects RX0 yX0_leaveSide yX0_leaveSide, Cond.code yX0_leaveSide cX0_leaveSide 3 none]
def wsX0_goByCalls_r5 : List Cond := [Cond.methodLink RX0 150 yX0_ring, Cond.instanceMethod yX0_ring, Cond.selects RX0 yX0_ring yX0_ring, Cond.code yX0_ring cX0_ring 2 (some (.object "BarrierLights$Ring")), Cond.methodLink RX0 246 yX0_cross, Cond.instanceMethod yX0_cross, Cond.selects RX0 yX0_cross yX0_cross, Cond.code yX0_cross cX0_cross 5 none, Cond.methodLink RX0 261 yX0_firstOfSide, Cond.instanceMethod yX0_firstOfSide, Cond.selects RX0 yX0_firstOfSide yX0_firstOfSide, Cond.code yX0_firstOfSide cX0_firstOfSide 4 (some .int), Cond.methodLink RX0 222 yX0_begin, Cond.instanceMethod yX0_begin, Cond.selects RX0 yX0_begin yX0_begin, Cond.code yX0_begin cX0_begin 5 none, Cond.fieldLink RX0 24 "BarrierLights$Controller" "detectors" "LBarrierLights$Detectors;", Cond.methodLink RX0 166 yX1_extendsGreen, Cond.instanceMethod yX1_extendsGreen, Cond.selects RX1 yX1_extendsGreen yX1_extendsGreen, Cond.initialized RX1, Cond.code yX1_extendsGreen cX1_extendsGreen 2 (some .boolean), Cond.fieldLink RX1 19 "BarrierLights$Detectors" "on" "I", Cond.fieldLink RX1 23 "BarrierLights$Detectors" "failed" "I"]
def wsX0_goByCalls_r6 : List Cond := [Cond.methodLink RX0 225 yX6_begin, Cond.instanceMethod yX6_begin, Cond.selects RX6 yX6_begin yX6_begin, Cond.code yX6_begin cX6_begin 3 none, Cond.fieldLink RX6 31 "BarrierLights$Ring" "against" "I", Cond.fieldLink RX6 34 "BarrierLights$Ring" "gap" "I"]
def wsX0_goByCalls : List Cond := .code yX0_goByCalls cX0_goByCalls 5 none :: ((wsX0_goByCalls_r1 ++ (wsX0_goByCalls_r2 ++ (wsX0_goByCalls_r3 ++ (wsX0_goByCalls_r4 ++ (wsX0_goByCalls_r5 ++ wsX0_goByCalls_r6))))) ++ wsX00 ++ wsX60 ++ wsX70 ++ wsX10)
def wsX8_isPhase : List Cond := .code yX8_isPhase cX8_isPhase 1 (some .boolean) :: ([])
def wsX0_lampsOf : List Cond := .code yX0_lampsOf cX0_lampsOf 4 (some .int) :: ([.fieldLink RX0 67 "BarrierLights$Controller" "used" "I", .fieldLink RX0 70 "BarrierLights$Controller" "whyFlashing" "I", .fieldLink RX0 59 "BarrierLights$Controller" "faults" "[I", .static yX8_isPhase, .initialized RX8, .code yX8_isPhase cX8_isPhase 1 (some .boolean), .static yX8_bit, .code yX8_bit cX8_bit 1 (some .int), .static yX8_ringOf, .code yX8_ringOf cX8_ringOf 1 (some .int), .methodLink RX0 150 yX0_ring, .instanceMethod yX0_ring, .selects RX0 yX0_ring yX0_ring, .initialized RX0, .code yX0_ring cX0_ring 2 (some (.object "BarrierLights$Ring")), .fieldLink RX0 52 "BarrierLights$Controller" "ring0" "LBarrierLights$Ring;", .fieldLink RX0 56 "BarrierLights$Controller" "ring1" "LBarrierLights$Ring;"] ++ wsX00 ++ wsX60)
def wsX4_see : List Cond := .code yX4_see cX4_see 3 none :: ([.fieldLink RX4 9 "BarrierLights$Monitor" "shown" "[I", .static yX8_isPhase, .initialized RX8, .code yX8_isPhase cX8_isPhase 1 (some .boolean)] ++ wsX40)
def wsX4_goes : List Cond := .code yX4_goes cX4_goes 1 (some .boolean) :: ([])
def wsX4_goTogether : List Cond := .code yX4_goTogether cX4_goTogether 2 (some .boolean) :: ([.static yX8_ringOf, .initialized RX8, .code yX8_ringOf cX8_ringOf 1 (some .int), .static yX8_sideOf, .code yX8_sideOf cX8_sideOf 1 (some .int)])
def wsX4_seesConflict : List Cond := .code yX4_seesConflict cX4_seesConflict 5 (some .boolean) :: ([.fieldLink RX4 9 "BarrierLights$Monitor" "shown" "[I", .static yX8_bit, .initialized RX8, .code yX8_bit cX8_bit 1 (some .int), .methodLink RX4 45 yX4_goes, .static yX4_goes, .initialized RX4, .code yX4_goes cX4_goes 1 (some .boolean), .methodLink RX4 48 yX4_goTogether, .static yX4_goTogether, .code yX4_goTogether cX4_goTogether 2 (some .boolean), .static yX8_ringOf, .code yX8_ringOf cX8_ringOf 1 (some .int), .static yX8_sideOf, .code yX8_sideOf cX8_sideOf 1 (some .int)] ++ wsX40)
def wsX4_seesDark : List Cond := .code yX4_seesDark cX4_seesDark 4 (some .boolean) :: ([.fieldLink RX4 21 "BarrierLights$Monitor" "sawBefore" "Z", .fieldLink RX4 9 "BarrierLights$Monitor" "shown" "[I", .fieldLink RX4 15 "BarrierLights$Monitor" "shownBefore" "[I", .static yX8_bit, .initialized RX8, .code yX8_bit cX8_bit 1 (some .int)] ++ wsX40)
def wsX4_seesShort : List Cond := .code yX4_seesShort cX4_seesShort 4 (some .boolean) :: ([.fieldLink RX4 15 "BarrierLights$Monitor" "shownBefore" "[I", .fieldLink RX4 9 "BarrierLights$Monitor" "shown" "[I", .fieldLink RX4 18 "BarrierLights$Monitor" "yellowTicks" "[I", .methodLink RX4 45 yX4_goes, .static yX4_goes, .initialized RX4, .code yX4_goes cX4_goes 1 (some .boolean), .static yX8_bit, .initialized RX8, .code yX8_bit cX8_bit 1 (some .int)] ++ wsX40)
def wsX4_remember : List Cond := .code yX4_remember cX4_remember 2 none :: ([.fieldLink RX4 21 "BarrierLights$Monitor" "sawBefore" "Z", .fieldLink RX4 15 "BarrierLights$Monitor" "shownBefore" "[I", .fieldLink RX4 9 "BarrierLights$Monitor" "shown" "[I", .fieldLink RX4 18 "BarrierLights$Monitor" "yellowTicks" "[I"] ++ wsX40)
def wsX4_look_r1 : List Cond := [Cond.methodLink RX4 29 yX4_seesConflict, Cond.instanceMethod yX4_seesConflict, Cond.selects RX4 yX4_seesConflict yX4_seesConflict, Cond.initialized RX4, Cond.code yX4_seesConflict cX4_seesConflict 5 (some .boolean), Cond.fieldLink RX4 9 "BarrierLights$Monitor" "shown" "[I", Cond.static yX8_bit, Cond.initialized RX8, Cond.code yX8_bit cX8_bit 1 (some .int), Cond.methodLink RX4 45 yX4_goes, Cond.static yX4_goes, Cond.code yX4_goes cX4_goes 1 (some .boolean), Cond.methodLink RX4 48 yX4_goTogether, Cond.static yX4_goTogether, Cond.code yX4_goTogether cX4_goTogether 2 (some .boolean), Cond.static yX8_ringOf, Cond.code yX8_ringOf cX8_ringOf 1 (some .int), Cond.static yX8_sideOf, Cond.code yX8_sideOf cX8_sideOf 1 (some .int), Cond.methodLink RX4 32 yX4_seesDark, Cond.instanceMethod yX4_seesDark, Cond.selects RX4 yX4_seesDark yX4_seesDark, Cond.code yX4_seesDark cX4_seesDark 4 (some .boolean), Cond.fieldLink RX4 21 "BarrierLights$Monitor" "sawBefore" "Z"]
def wsX4_look_r2 : List Cond := [Cond.fieldLink RX4 15 "BarrierLights$Monitor" "shownBefore" "[I", Cond.methodLink RX4 35 yX4_seesShort, Cond.instanceMethod yX4_seesShort, Cond.selects RX4 yX4_seesShort yX4_seesShort, Cond.code yX4_seesShort cX4_seesShort 4 (some .boolean), Cond.fieldLink RX4 18 "BarrierLights$Monitor" "yellowTicks" "[I", Cond.methodLink RX4 38 yX4_remember, Cond.instanceMethod yX4_remember, Cond.selects RX4 yX4_remember yX4_remember, Cond.code yX4_remember cX4_remember 2 none]
def wsX4_look : List Cond := .code yX4_look cX4_look 3 (some .int) :: ((wsX4_look_r1 ++ wsX4_look_r2) ++ wsX40)
def wsX0_watch_r1 : List Cond := [Cond.fieldLink RX0 45 "BarrierLights$Controller" "monitor" "LBarrierLights$Monitor;", Cond.fieldLink RX0 67 "BarrierLights$Controller" "used" "I", Cond.fieldLink RX0 70 "BarrierLights$Controller" "whyFlashing" "I", Cond.fieldLink RX0 52 "BarrierLights$Controller" "ring0" "LBarrierLights$Ring;", Cond.fieldLink RX0 56 "BarrierLights$Controller" "ring1" "LBarrierLights$Ring;", Cond.fieldLink RX0 76 "BarrierLights$Controller" "calls" "I", Cond.fieldLink RX0 79 "BarrierLights$Controller" "walkCalls" "I", Cond.methodLink RX0 281 yX0_lampsOf, Cond.instanceMethod yX0_lampsOf, Cond.selects RX0 yX0_lampsOf yX0_lampsOf, Cond.initialized RX0, Cond.code yX0_lampsOf cX0_lampsOf 4 (some .int), Cond.fieldLink RX0 59 "BarrierLights$Controller" "faults" "[I", Cond.static yX8_isPhase, Cond.initialized RX8, Cond.code yX8_isPhase cX8_isPhase 1 (some .boolean), Cond.static yX8_bit, Cond.code yX8_bit cX8_bit 1 (some .int), Cond.static yX8_ringOf, Cond.code yX8_ringOf cX8_ringOf 1 (some .int), Cond.methodLink RX0 150 yX0_ring, Cond.instanceMethod yX0_ring, Cond.selects RX0 yX0_ring yX0_ring, Cond.code yX0_ring cX0_ring 2 (some (.object "BarrierLights$Ring"))]
def wsX0_watch_r2 : List Cond := [Cond.methodLink RX0 284 yX4_see, Cond.instanceMethod yX4_see, Cond.selects RX4 yX4_see yX4_see, Cond.initialized RX4, Cond.code yX4_see cX4_see 3 none, Cond.fieldLink RX4 9 "BarrierLights$Monitor" "shown" "[I", Cond.methodLink RX0 287 yX4_look, Cond.instanceMethod yX4_look, Cond.selects RX4 yX4_look yX4_look, Cond.code yX4_look cX4_look 3 (some .int), Cond.methodLink RX4 29 yX4_seesConflict, Cond.instanceMethod yX4_seesConflict, Cond.selects RX4 yX4_seesConflict yX4_seesConflict, Cond.code yX4_seesConflict cX4_seesConflict 5 (some .boolean), Cond.methodLink RX4 45 yX4_goes, Cond.static yX4_goes, Cond.code yX4_goes cX4_goes 1 (some .boolean), Cond.methodLink RX4 48 yX4_goTogether, Cond.static yX4_goTogether, Cond.code yX4_goTogether cX4_goTogether 2 (some .boolean), Cond.static yX8_sideOf, Cond.code yX8_sideOf cX8_sideOf 1 (some .int), Cond.methodLink RX4 32 yX4_seesDark, Cond.instanceMethod yX4_seesDark]
def wsX0_watch_r3 : List Cond := [Cond.selects RX4 yX4_seesDark yX4_seesDark, Cond.code yX4_seesDark cX4_seesDark 4 (some .boolean), Cond.fieldLink RX4 21 "BarrierLights$Monitor" "sawBefore" "Z", Cond.fieldLink RX4 15 "BarrierLights$Monitor" "shownBefore" "[I", Cond.methodLink RX4 35 yX4_seesShort, Cond.instanceMethod yX4_seesShort, Cond.selects RX4 yX4_seesShort yX4_seesShort, Cond.code yX4_seesShort cX4_seesShort 4 (some .boolean), Cond.fieldLink RX4 18 "BarrierLights$Monitor" "yellowTicks" "[I", Cond.methodLink RX4 38 yX4_remember, Cond.instanceMethod yX4_remember, Cond.selects RX4 yX4_remember yX4_remember, Cond.code yX4_remember cX4_remember 2 none, Cond.methodLink RX0 98 yX6_rest, Cond.instanceMethod yX6_rest, Cond.selects RX6 yX6_rest yX6_rest, Cond.initialized RX6, Cond.code yX6_rest cX6_rest 1 none, Cond.fieldLink RX6 9 "BarrierLights$Ring" "phase" "I", Cond.fieldLink RX6 15 "BarrierLights$Ring" "next" "I", Cond.fieldLink RX6 25 "BarrierLights$Ring" "lamps" "I", Cond.fieldLink RX6 37 "BarrierLights$Ring" "walkSign" "I"]
def wsX0_watch : List Cond := .code yX0_watch cX0_watch 2 none :: ((wsX0_watch_r1 ++ (wsX0_watch_r2 ++ wsX0_watch_r3)) ++ wsX00 ++ wsX60 ++ wsX40)
def wsX0_pass_r1 : List Cond := [Cond.fieldLink RX0 24 "BarrierLights$Controller" "detectors" "LBarrierLights$Detectors;", Cond.fieldLink RX0 31 "BarrierLights$Controller" "link" "LBarrierLights$Link;", Cond.fieldLink RX0 70 "BarrierLights$Controller" "whyFlashing" "I", Cond.fieldLink RX0 52 "BarrierLights$Controller" "ring0" "LBarrierLights$Ring;", Cond.fieldLink RX0 56 "BarrierLights$Controller" "ring1" "LBarrierLights$Ring;", Cond.fieldLink RX0 38 "BarrierLights$Controller" "inputs" "LBarrierLights$Inputs;", Cond.fieldLink RX0 67 "BarrierLights$Controller" "used" "I", Cond.methodLink RX0 112 yX1_pass, Cond.instanceMethod yX1_pass, Cond.selects RX1 yX1_pass yX1_pass, Cond.initialized RX1, Cond.code yX1_pass cX1_pass 4 none, Cond.fieldLink RX1 23 "BarrierLights$Detectors" "failed" "I", Cond.fieldLink RX1 19 "BarrierLights$Detectors" "on" "I", Cond.fieldLink RX1 9 "BarrierLights$Detectors" "onTimes" "[I", Cond.methodLink RX1 30 Lib.Math.min.name, Cond.static Lib.Math.min.name, Cond.initialized "java/lang/Math", Cond.code Lib.Math.min.name Lib.Math.min.code 2 (some .int), Cond.fieldLink RX1 15 "BarrierLights$Detectors" "occupancies" "[F", Cond.constantFloat RX1 36 (1063256064), Cond.constantFloat RX1 37 (1040187392), Cond.static yX8_bit, Cond.initialized RX8]
def wsX0_pass_r2 : List Cond := [Cond.code yX8_bit cX8_bit 1 (some .int), Cond.methodLink RX0 115 yX3_pass, Cond.instanceMethod yX3_pass, Cond.selects RX3 yX3_pass yX3_pass, Cond.initialized RX3, Cond.code yX3_pass cX3_pass 5 none, Cond.fieldLink RX3 9 "BarrierLights$Link" "plan" "I", Cond.fieldLink RX3 18 "BarrierLights$Link" "silence" "I", Cond.fieldLink RX3 15 "BarrierLights$Link" "localClock" "I", Cond.methodLink RX3 28 yX5_cycleOf, Cond.instanceMethod yX5_cycleOf, Cond.selects RX5 yX5_cycleOf yX5_cycleOf, Cond.initialized RX5, Cond.code yX5_cycleOf cX5_cycleOf 2 (some .int), Cond.fieldLink RX5 9 "BarrierLights$Plans" "cycles" "[I", Cond.methodLink RX5 21 yX5_isMade, Cond.instanceMethod yX5_isMade, Cond.selects RX5 yX5_isMade yX5_isMade, Cond.code yX5_isMade cX5_isMade 2 (some .boolean), Cond.static yX8_wrap, Cond.code yX8_wrap cX8_wrap 2 (some .int), Cond.methodLink RX8 179 yJ9_floorMod_7cf53, Cond.static yJ9_floorMod_7cf53, Cond.initialized RJ9]
def wsX0_pass_r3 : List Cond := [Cond.code yJ9_floorMod_7cf53 cJ9_floorMod_7cf53 3 (some .int), Cond.methodLink RX3 34 yX5_offsetOf, Cond.instanceMethod yX5_offsetOf, Cond.selects RX5 yX5_offsetOf yX5_offsetOf, Cond.code yX5_offsetOf cX5_offsetOf 2 (some .int), Cond.fieldLink RX5 15 "BarrierLights$Plans" "offsets" "[I", Cond.methodLink RX3 37 yX3_shorterWay, Cond.static yX3_shorterWay, Cond.code yX3_shorterWay cX3_shorterWay 2 (some .int), Cond.methodLink RX0 118 yX0_isOff, Cond.instanceMethod yX0_isOff, Cond.selects RX0 yX0_isOff yX0_isOff, Cond.initialized RX0, Cond.code yX0_isOff cX0_isOff 1 (some .boolean), Cond.methodLink RX0 122 yX0_passCalls, Cond.instanceMethod yX0_passCalls, Cond.selects RX0 yX0_passCalls yX0_passCalls, Cond.code yX0_passCalls cX0_passCalls 3 none, Cond.static yX8_ringOf, Cond.code yX8_ringOf cX8_ringOf 1 (some .int), Cond.methodLink RX0 150 yX0_ring, Cond.instanceMethod yX0_ring, Cond.selects RX0 yX0_ring yX0_ring, Cond.code yX0_ring cX0_ring 2 (some (.object "BarrierLights$Ring"))]
def wsX0_pass_r4 : List Cond := [Cond.methodLink RX0 154 yX6_isGreen, Cond.instanceMethod yX6_isGreen, Cond.selects RX6 yX6_isGreen yX6_isGreen, Cond.initialized RX6, Cond.code yX6_isGreen cX6_isGreen 1 (some .boolean), Cond.fieldLink RX6 25 "BarrierLights$Ring" "lamps" "I", Cond.methodLink RX0 160 yX0_passGap, Cond.instanceMethod yX0_passGap, Cond.selects RX0 yX0_passGap yX0_passGap, Cond.code yX0_passGap cX0_passGap 3 none, Cond.fieldLink RX0 18 "BarrierLights$Controller" "table" "LBarrierLights$Table;", Cond.methodLink RX0 166 yX1_extendsGreen, Cond.instanceMethod yX1_extendsGreen, Cond.selects RX1 yX1_extendsGreen yX1_extendsGreen, Cond.code yX1_extendsGreen cX1_extendsGreen 2 (some .boolean), Cond.methodLink RX0 108 yX7_at, Cond.instanceMethod yX7_at, Cond.selects RX7 yX7_at yX7_at, Cond.initialized RX7, Cond.code yX7_at cX7_at 4 (some .int), Cond.fieldLink RX7 9 "BarrierLights$Table" "entries" "[I", Cond.methodLink RX0 163 yX0_noteCalls, Cond.instanceMethod yX0_noteCalls, Cond.selects RX0 yX0_noteCalls yX0_noteCalls]
def wsX0_pass_r5 : List Cond := [Cond.code yX0_noteCalls cX0_noteCalls 3 none, Cond.fieldLink RX0 76 "BarrierLights$Controller" "calls" "I", Cond.fieldLink RX0 79 "BarrierLights$Controller" "walkCalls" "I", Cond.methodLink RX0 173 yX1_calls, Cond.instanceMethod yX1_calls, Cond.selects RX1 yX1_calls yX1_calls, Cond.code yX1_calls cX1_calls 2 (some .boolean), Cond.methodLink RX0 125 yX0_passTimes, Cond.instanceMethod yX0_passTimes, Cond.selects RX0 yX0_passTimes yX0_passTimes, Cond.code yX0_passTimes cX0_passTimes 2 none, Cond.methodLink RX0 175 yX6_waits, Cond.instanceMethod yX6_waits, Cond.selects RX6 yX6_waits yX6_waits, Cond.code yX6_waits cX6_waits 1 (some .boolean), Cond.fieldLink RX6 9 "BarrierLights$Ring" "phase" "I", Cond.methodLink RX0 181 yX6_passWalk, Cond.instanceMethod yX6_passWalk, Cond.selects RX6 yX6_passWalk yX6_passWalk, Cond.code yX6_passWalk cX6_passWalk 3 none, Cond.fieldLink RX6 40 "BarrierLights$Ring" "walkAge" "I", Cond.fieldLink RX6 37 "BarrierLights$Ring" "walkSign" "I", Cond.methodLink RX6 55 yX6_beginClear, Cond.instanceMethod yX6_beginClear]
def wsX0_pass_r6 : List Cond := [Cond.selects RX6 yX6_beginClear yX6_beginClear, Cond.code yX6_beginClear cX6_beginClear 1 none, Cond.methodLink RX0 185 yX0_countingCalls, Cond.instanceMethod yX0_countingCalls, Cond.selects RX0 yX0_countingCalls yX0_countingCalls, Cond.code yX0_countingCalls cX0_countingCalls 1 (some .int), Cond.methodLink RX0 232 yX0_greenPhases, Cond.instanceMethod yX0_greenPhases, Cond.selects RX0 yX0_greenPhases yX0_greenPhases, Cond.code yX0_greenPhases cX0_greenPhases 1 (some .int), Cond.methodLink RX0 299 yX6_greenPhase, Cond.instanceMethod yX6_greenPhase, Cond.selects RX6 yX6_greenPhase yX6_greenPhase, Cond.code yX6_greenPhase cX6_greenPhase 1 (some .int), Cond.methodLink RX0 188 yX0_weigh, Cond.instanceMethod yX0_weigh, Cond.selects RX0 yX0_weigh yX0_weigh, Cond.code yX0_weigh cX0_weigh 5 none, Cond.fieldLink RX0 73 "BarrierLights$Controller" "side" "I", Cond.methodLink RX0 207 yX6_phaseBefore, Cond.instanceMethod yX6_phaseBefore, Cond.selects RX6 yX6_phaseBefore yX6_phaseBefore, Cond.code yX6_phaseBefore cX6_phaseBefore 1 (some .int), Cond.methodLink RX6 47 yX6_waits]
def wsX0_pass_r7 : List Cond := [Cond.static yX8_phasesOfSide, Cond.code yX8_phasesOfSide cX8_phasesOfSide 1 (some .int), Cond.methodLink RX0 213 yX6_phaseBehind, Cond.instanceMethod yX6_phaseBehind, Cond.selects RX6 yX6_phaseBehind yX6_phaseBehind, Cond.code yX6_phaseBehind cX6_phaseBehind 1 (some .int), Cond.methodLink RX0 129 yX2_targetInForce, Cond.instanceMethod yX2_targetInForce, Cond.selects RX2 yX2_targetInForce yX2_targetInForce, Cond.initialized RX2, Cond.code yX2_targetInForce cX2_targetInForce 3 (some .int), Cond.fieldLink RX2 9 "BarrierLights$Inputs" "on" "[Z", Cond.fieldLink RX2 15 "BarrierLights$Inputs" "targets" "[I", Cond.methodLink RX0 201 yX6_show, Cond.instanceMethod yX6_show, Cond.selects RX6 yX6_show yX6_show, Cond.code yX6_show cX6_show 2 none, Cond.fieldLink RX6 28 "BarrierLights$Ring" "age" "I", Cond.methodLink RX0 204 yX0_end, Cond.instanceMethod yX0_end, Cond.selects RX0 yX0_end yX0_end, Cond.code yX0_end cX0_end 2 none, Cond.methodLink RX0 98 yX6_rest, Cond.instanceMethod yX6_rest]
def wsX0_pass_r8 : List Cond := [Cond.selects RX6 yX6_rest yX6_rest, Cond.code yX6_rest cX6_rest 1 none, Cond.fieldLink RX6 15 "BarrierLights$Ring" "next" "I", Cond.methodLink RX0 222 yX0_begin, Cond.instanceMethod yX0_begin, Cond.selects RX0 yX0_begin yX0_begin, Cond.code yX0_begin cX0_begin 5 none, Cond.methodLink RX0 225 yX6_begin, Cond.instanceMethod yX6_begin, Cond.selects RX6 yX6_begin yX6_begin, Cond.code yX6_begin cX6_begin 3 none, Cond.fieldLink RX6 31 "BarrierLights$Ring" "against" "I", Cond.fieldLink RX6 34 "BarrierLights$Ring" "gap" "I", Cond.methodLink RX6 51 yX6_show, Cond.methodLink RX0 227 yX0_beginWalk, Cond.instanceMethod yX0_beginWalk, Cond.selects RX0 yX0_beginWalk yX0_beginWalk, Cond.code yX0_beginWalk cX0_beginWalk 2 none, Cond.methodLink RX0 230 yX6_beginWalk, Cond.instanceMethod yX6_beginWalk, Cond.selects RX6 yX6_beginWalk yX6_beginWalk, Cond.code yX6_beginWalk cX6_beginWalk 1 none, Cond.methodLink RX0 132 yX0_goByInput, Cond.instanceMethod yX0_goByInput]
def wsX0_pass_r9 : List Cond := [Cond.selects RX0 yX0_goByInput yX0_goByInput, Cond.code yX0_goByInput cX0_goByInput 5 none, Cond.fieldLink RX0 82 "BarrierLights$Controller" "hadInput" "Z", Cond.static yX8_sideOf, Cond.code yX8_sideOf cX8_sideOf 1 (some .int), Cond.methodLink RX0 267 yX0_goalOf, Cond.instanceMethod yX0_goalOf, Cond.selects RX0 yX0_goalOf yX0_goalOf, Cond.code yX0_goalOf cX0_goalOf 4 (some .int), Cond.methodLink RX0 270 yX0_giveWay, Cond.instanceMethod yX0_giveWay, Cond.selects RX0 yX0_giveWay yX0_giveWay, Cond.code yX0_giveWay cX0_giveWay 4 none, Cond.methodLink RX0 278 yX6_beginClear, Cond.methodLink RX0 258 yX6_mayEnd, Cond.instanceMethod yX6_mayEnd, Cond.selects RX6 yX6_mayEnd yX6_mayEnd, Cond.code yX6_mayEnd cX6_mayEnd 2 (some .boolean), Cond.methodLink RX0 255 yX6_turnYellow, Cond.instanceMethod yX6_turnYellow, Cond.selects RX6 yX6_turnYellow yX6_turnYellow, Cond.code yX6_turnYellow cX6_turnYellow 2 none, Cond.methodLink RX0 274 yX0_mayLeaveByInput, Cond.instanceMethod yX0_mayLeaveByInput]
def wsX0_pass_r10 : List Cond := [Cond.selects RX0 yX0_mayLeaveByInput yX0_mayLeaveByInput, Cond.code yX0_mayLeaveByInput cX0_mayLeaveByInput 2 (some .boolean), Cond.methodLink RX0 243 yX0_leaveSide, Cond.instanceMethod yX0_leaveSide, Cond.selects RX0 yX0_leaveSide yX0_leaveSide, Cond.code yX0_leaveSide cX0_leaveSide 3 none, Cond.methodLink RX0 136 yX3_isBeforeSplit, Cond.instanceMethod yX3_isBeforeSplit, Cond.selects RX3 yX3_isBeforeSplit yX3_isBeforeSplit, Cond.code yX3_isBeforeSplit cX3_isBeforeSplit 2 (some .boolean), Cond.methodLink RX3 40 yX5_splitOf, Cond.instanceMethod yX5_splitOf, Cond.selects RX5 yX5_splitOf yX5_splitOf, Cond.code yX5_splitOf cX5_splitOf 2 (some .int), Cond.fieldLink RX5 18 "BarrierLights$Plans" "splits" "[I", Cond.methodLink RX0 140 yX0_goByCalls, Cond.instanceMethod yX0_goByCalls, Cond.selects RX0 yX0_goByCalls yX0_goByCalls, Cond.code yX0_goByCalls cX0_goByCalls 5 none, Cond.methodLink RX0 235 yX0_goOn, Cond.instanceMethod yX0_goOn, Cond.selects RX0 yX0_goOn yX0_goOn, Cond.code yX0_goOn cX0_goOn 4 none, Cond.methodLink RX0 252 yX0_isDone]
def wsX0_pass_r11 : List Cond := [Cond.instanceMethod yX0_isDone, Cond.selects RX0 yX0_isDone yX0_isDone, Cond.code yX0_isDone cX0_isDone 3 (some .boolean), Cond.methodLink RX0 239 yX0_mayLeave, Cond.instanceMethod yX0_mayLeave, Cond.selects RX0 yX0_mayLeave yX0_mayLeave, Cond.code yX0_mayLeave cX0_mayLeave 3 (some .boolean), Cond.methodLink RX0 246 yX0_cross, Cond.instanceMethod yX0_cross, Cond.selects RX0 yX0_cross yX0_cross, Cond.code yX0_cross cX0_cross 5 none, Cond.methodLink RX0 261 yX0_firstOfSide, Cond.instanceMethod yX0_firstOfSide, Cond.selects RX0 yX0_firstOfSide yX0_firstOfSide, Cond.code yX0_firstOfSide cX0_firstOfSide 4 (some .int), Cond.methodLink RX0 144 yX0_watch, Cond.instanceMethod yX0_watch, Cond.selects RX0 yX0_watch yX0_watch, Cond.code yX0_watch cX0_watch 2 none, Cond.fieldLink RX0 45 "BarrierLights$Controller" "monitor" "LBarrierLights$Monitor;", Cond.methodLink RX0 281 yX0_lampsOf, Cond.instanceMethod yX0_lampsOf, Cond.selects RX0 yX0_lampsOf yX0_lampsOf, Cond.code yX0_lampsOf cX0_lampsOf 4 (some .int)]
def wsX0_pass_r12 : List Cond := [Cond.fieldLink RX0 59 "BarrierLights$Controller" "faults" "[I", Cond.static yX8_isPhase, Cond.code yX8_isPhase cX8_isPhase 1 (some .boolean), Cond.methodLink RX0 284 yX4_see, Cond.instanceMethod yX4_see, Cond.selects RX4 yX4_see yX4_see, Cond.initialized RX4, Cond.code yX4_see cX4_see 3 none, Cond.fieldLink RX4 9 "BarrierLights$Monitor" "shown" "[I", Cond.methodLink RX0 287 yX4_look, Cond.instanceMethod yX4_look, Cond.selects RX4 yX4_look yX4_look, Cond.code yX4_look cX4_look 3 (some .int), Cond.methodLink RX4 29 yX4_seesConflict, Cond.instanceMethod yX4_seesConflict, Cond.selects RX4 yX4_seesConflict yX4_seesConflict, Cond.code yX4_seesConflict cX4_seesConflict 5 (some .boolean), Cond.methodLink RX4 45 yX4_goes, Cond.static yX4_goes, Cond.code yX4_goes cX4_goes 1 (some .boolean), Cond.methodLink RX4 48 yX4_goTogether, Cond.static yX4_goTogether, Cond.code yX4_goTogether cX4_goTogether 2 (some .boolean), Cond.methodLink RX4 32 yX4_seesDark]
def wsX0_pass_r13 : List Cond := [Cond.instanceMethod yX4_seesDark, Cond.selects RX4 yX4_seesDark yX4_seesDark, Cond.code yX4_seesDark cX4_seesDark 4 (some .boolean), Cond.fieldLink RX4 21 "BarrierLights$Monitor" "sawBefore" "Z", Cond.fieldLink RX4 15 "BarrierLights$Monitor" "shownBefore" "[I", Cond.methodLink RX4 35 yX4_seesShort, Cond.instanceMethod yX4_seesShort, Cond.selects RX4 yX4_seesShort yX4_seesShort, Cond.code yX4_seesShort cX4_seesShort 4 (some .boolean), Cond.fieldLink RX4 18 "BarrierLights$Monitor" "yellowTicks" "[I", Cond.methodLink RX4 38 yX4_remember, Cond.instanceMethod yX4_remember, Cond.selects RX4 yX4_remember yX4_remember, Cond.code yX4_remember cX4_remember 2 none]
def wsX0_pass : List Cond := .code yX0_pass cX0_pass 4 none :: ((wsX0_pass_r1 ++ (wsX0_pass_r2 ++ (wsX0_pass_r3 ++ (wsX0_pass_r4 ++ (wsX0_pass_r5 ++ (wsX0_pass_r6 ++ (wsX0_pass_r7 ++ (wsX0_pass_r8 ++ (wsX0_pass_r9 ++ (wsX0_pass_r10 ++ (wsX0_pass_r11 ++ (wsX0_pass_r12 ++ wsX0_pass_r13)))))))))))) ++ wsX00 ++ wsX10 ++ wsX30 ++ wsX50 ++ wsX60 ++ wsX70 ++ wsX20 ++ wsX40)
def wsX0_signsOf : List Cond := .code yX0_signsOf cX0_signsOf 4 (some .int) :: ([.fieldLink RX0 76 "BarrierLights$Controller" "calls" "I", .fieldLink RX0 79 "BarrierLights$Controller" "walkCalls" "I", .fieldLink RX0 24 "BarrierLights$Controller" "detectors" "LBarrierLights$Detectors;", .static yX8_ringOf, .initialized RX8, .code yX8_ringOf cX8_ringOf 1 (some .int), .methodLink RX0 150 yX0_ring, .instanceMethod yX0_ring, .selects RX0 yX0_ring yX0_ring, .initialized RX0, .code yX0_ring cX0_ring 2 (some (.object "BarrierLights$Ring")), .fieldLink RX0 52 "BarrierLights$Controller" "ring0" "LBarrierLights$Ring;", .fieldLink RX0 56 "BarrierLights$Controller" "ring1" "LBarrierLights$Ring;", .static yX8_bit, .code yX8_bit cX8_bit 1 (some .int)] ++ wsX60 ++ wsX00 ++ wsX10)
def wsX0_way : List Cond := .code yX0_way cX0_way 1 (some .int) :: ([.fieldLink RX0 70 "BarrierLights$Controller" "whyFlashing" "I", .fieldLink RX0 38 "BarrierLights$Controller" "inputs" "LBarrierLights$Inputs;", .fieldLink RX0 67 "BarrierLights$Controller" "used" "I", .fieldLink RX0 31 "BarrierLights$Controller" "link" "LBarrierLights$Link;", .methodLink RX0 118 yX0_isOff, .instanceMethod yX0_isOff, .selects RX0 yX0_isOff yX0_isOff, .initialized RX0, .code yX0_isOff cX0_isOff 1 (some .boolean), .methodLink RX0 129 yX2_targetInForce, .instanceMethod yX2_targetInForce, .selects RX2 yX2_targetInForce yX2_targetInForce, .initialized RX2, .code yX2_targetInForce cX2_targetInForce 3 (some .int), .fieldLink RX2 9 "BarrierLights$Inputs" "on" "[Z", .fieldLink RX2 15 "BarrierLights$Inputs" "targets" "[I", .static yX8_bit, .initialized RX8, .code yX8_bit cX8_bit 1 (some .int)] ++ wsX00 ++ wsX30 ++ wsX20)
def wsX1_turn : List Cond := .code yX1_turn cX1_turn 3 none :: ([.fieldLink RX1 19 "BarrierLights$Detectors" "on" "I", .static yX8_bit, .initialized RX8, .code yX8_bit cX8_bit 1 (some .int)] ++ wsX10)
def wsX8_isInput : List Cond := .code yX8_isInput cX8_isInput 1 (some .boolean) :: ([])
def wsX2_turn : List Cond := .code yX2_turn cX2_turn 3 none :: ([.fieldLink RX2 9 "BarrierLights$Inputs" "on" "[Z", .static yX8_isInput, .initialized RX8, .code yX8_isInput cX8_isInput 1 (some .boolean)] ++ wsX20)
def wsX2_aim : List Cond := .code yX2_aim cX2_aim 3 none :: ([.fieldLink RX2 15 "BarrierLights$Inputs" "targets" "[I", .static yX8_isInput, .initialized RX8, .code yX8_isInput cX8_isInput 1 (some .boolean)] ++ wsX20)
def wsX3_expects : List Cond := .code yX3_expects cX3_expects 2 (some .boolean) :: ([.fieldLink RX3 21 "BarrierLights$Link" "lastNumber" "I"] ++ wsX30)
def wsX3_take : List Cond := .code yX3_take cX3_take 4 none :: ([.fieldLink RX3 9 "BarrierLights$Link" "plan" "I", .fieldLink RX3 15 "BarrierLights$Link" "localClock" "I", .fieldLink RX3 21 "BarrierLights$Link" "lastNumber" "I", .fieldLink RX3 18 "BarrierLights$Link" "silence" "I", .static yX8_wrap, .initialized RX8, .code yX8_wrap cX8_wrap 2 (some .int), .methodLink RX8 179 yJ9_floorMod_7cf53, .static yJ9_floorMod_7cf53, .initialized RJ9, .code yJ9_floorMod_7cf53 cJ9_floorMod_7cf53 3 (some .int)] ++ wsX30)
def wsX3_fitTo : List Cond := .code yX3_fitTo cX3_fitTo 3 none :: ([.fieldLink RX3 9 "BarrierLights$Link" "plan" "I", .fieldLink RX3 15 "BarrierLights$Link" "localClock" "I", .static yX8_wrap, .initialized RX8, .code yX8_wrap cX8_wrap 2 (some .int), .methodLink RX8 179 yJ9_floorMod_7cf53, .static yJ9_floorMod_7cf53, .initialized RJ9, .code yJ9_floorMod_7cf53 cJ9_floorMod_7cf53 3 (some .int)] ++ wsX30)
def wsX3_shownClock : List Cond := .code yX3_shownClock cX3_shownClock 1 (some .int) :: ([.fieldLink RX3 9 "BarrierLights$Link" "plan" "I", .fieldLink RX3 15 "BarrierLights$Link" "localClock" "I"] ++ wsX30)
def wsX5_init : List Cond := .code yX5_init cX5_init 1 none :: ([.methodLink RX5 3 objectInit, .instanceMethod objectInit, .code objectInit ⟨#[0xb1]⟩ 1 none, .arrayClass .int, .fieldLink RX5 9 "BarrierLights$Plans" "cycles" "[I", .fieldLink RX5 15 "BarrierLights$Plans" "offsets" "[I", .fieldLink RX5 18 "BarrierLights$Plans" "splits" "[I"] ++ wsX50)
def wsX5_make : List Cond := .code yX5_make cX5_make 6 (some .boolean) :: ([.fieldLink RX5 9 "BarrierLights$Plans" "cycles" "[I", .fieldLink RX5 15 "BarrierLights$Plans" "offsets" "[I", .fieldLink RX5 18 "BarrierLights$Plans" "splits" "[I"] ++ wsX50)
def wsX7_write : List Cond := .code yX7_write cX7_write 5 none :: ([.fieldLink RX7 9 "BarrierLights$Table" "entries" "[I"] ++ wsX70)
def wsX8_init_r1 : List Cond := [Cond.methodLink RX8 1 objectInit, Cond.instanceMethod objectInit, Cond.code objectInit ⟨#[0xb1]⟩ 1 none, Cond.classLink RX8 7 RX5, Cond.instantiable RX5 3, Cond.initialized RX5, Cond.fieldLink RX8 10 "BarrierLights" "plans" "LBarrierLights$Plans;", Cond.classLink RX8 16 RX0, Cond.instantiable RX0 16, Cond.initialized RX0, Cond.fieldLink RX8 19 "BarrierLights" "controller0" "LBarrierLights$Controller;", Cond.fieldLink RX8 23 "BarrierLights" "controller1" "LBarrierLights$Controller;", Cond.fieldLink RX8 26 "BarrierLights" "clock" "I", Cond.instanceMethod yX5_init, Cond.code yX5_init cX5_init 1 none, Cond.methodLink RX5 3 objectInit, Cond.arrayClass .int, Cond.fieldLink RX5 9 "BarrierLights$Plans" "cycles" "[I", Cond.fieldLink RX5 15 "BarrierLights$Plans" "offsets" "[I", Cond.fieldLink RX5 18 "BarrierLights$Plans" "splits" "[I", Cond.instanceMethod yX0_init, Cond.code yX0_init cX0_init 1 none, Cond.methodLink RX0 3 objectInit, Cond.classLink RX0 9 RX7]
def wsX8_init_r2 : List Cond := [Cond.instantiable RX7 1, Cond.initialized RX7, Cond.fieldLink RX0 12 "BarrierLights$Controller" "written" "LBarrierLights$Table;", Cond.fieldLink RX0 18 "BarrierLights$Controller" "table" "LBarrierLights$Table;", Cond.classLink RX0 21 RX1, Cond.instantiable RX1 4, Cond.initialized RX1, Cond.fieldLink RX0 24 "BarrierLights$Controller" "detectors" "LBarrierLights$Detectors;", Cond.classLink RX0 28 RX3, Cond.instantiable RX3 4, Cond.initialized RX3, Cond.fieldLink RX0 31 "BarrierLights$Controller" "link" "LBarrierLights$Link;", Cond.classLink RX0 35 RX2, Cond.instantiable RX2 2, Cond.initialized RX2, Cond.fieldLink RX0 38 "BarrierLights$Controller" "inputs" "LBarrierLights$Inputs;", Cond.classLink RX0 42 RX4, Cond.instantiable RX4 4, Cond.initialized RX4, Cond.fieldLink RX0 45 "BarrierLights$Controller" "monitor" "LBarrierLights$Monitor;", Cond.classLink RX0 49 RX6, Cond.instantiable RX6 10, Cond.initialized RX6, Cond.fieldLink RX0 52 "BarrierLights$Controller" "ring0" "LBarrierLights$Ring;"]
def wsX8_init_r3 : List Cond := [Cond.fieldLink RX0 56 "BarrierLights$Controller" "ring1" "LBarrierLights$Ring;", Cond.fieldLink RX0 59 "BarrierLights$Controller" "faults" "[I", Cond.fieldLink RX0 63 "BarrierLights$Controller" "wrongPlace" "I", Cond.fieldLink RX0 67 "BarrierLights$Controller" "used" "I", Cond.fieldLink RX0 70 "BarrierLights$Controller" "whyFlashing" "I", Cond.fieldLink RX0 73 "BarrierLights$Controller" "side" "I", Cond.fieldLink RX0 76 "BarrierLights$Controller" "calls" "I", Cond.fieldLink RX0 79 "BarrierLights$Controller" "walkCalls" "I", Cond.fieldLink RX0 82 "BarrierLights$Controller" "hadInput" "Z", Cond.instanceMethod yX7_init, Cond.code yX7_init cX7_init 1 none, Cond.methodLink RX7 3 objectInit, Cond.fieldLink RX7 9 "BarrierLights$Table" "entries" "[I", Cond.instanceMethod yX1_init, Cond.code yX1_init cX1_init 1 none, Cond.methodLink RX1 3 objectInit, Cond.fieldLink RX1 9 "BarrierLights$Detectors" "onTimes" "[I", Cond.arrayClass .float, Cond.fieldLink RX1 15 "BarrierLights$Detectors" "occupancies" "[F", Cond.fieldLink RX1 19 "BarrierLights$Detectors" "on" "I", Cond.fieldLink RX1 23 "BarrierLights$Detectors" "failed" "I", Cond.instanceMethod yX3_init, Cond.code yX3_init cX3_init 1 none, Cond.methodLink RX3 3 objectInit]
def wsX8_init_r4 : List Cond := [Cond.fieldLink RX3 9 "BarrierLights$Link" "plan" "I", Cond.fieldLink RX3 15 "BarrierLights$Link" "localClock" "I", Cond.fieldLink RX3 18 "BarrierLights$Link" "silence" "I", Cond.fieldLink RX3 21 "BarrierLights$Link" "lastNumber" "I", Cond.instanceMethod yX2_init, Cond.code yX2_init cX2_init 1 none, Cond.methodLink RX2 3 objectInit, Cond.arrayClass .boolean, Cond.fieldLink RX2 9 "BarrierLights$Inputs" "on" "[Z", Cond.fieldLink RX2 15 "BarrierLights$Inputs" "targets" "[I", Cond.instanceMethod yX4_init, Cond.code yX4_init cX4_init 1 none, Cond.methodLink RX4 3 objectInit, Cond.fieldLink RX4 9 "BarrierLights$Monitor" "shown" "[I", Cond.fieldLink RX4 15 "BarrierLights$Monitor" "shownBefore" "[I", Cond.fieldLink RX4 18 "BarrierLights$Monitor" "yellowTicks" "[I", Cond.fieldLink RX4 21 "BarrierLights$Monitor" "sawBefore" "Z", Cond.instanceMethod yX6_init, Cond.code yX6_init cX6_init 1 none, Cond.methodLink RX6 3 objectInit, Cond.fieldLink RX6 9 "BarrierLights$Ring" "phase" "I", Cond.fieldLink RX6 15 "BarrierLights$Ring" "next" "I", Cond.fieldLink RX6 18 "BarrierLights$Ring" "forward" "I", Cond.fieldLink RX6 21 "BarrierLights$Ring" "wanted" "Z"]
def wsX8_init_r5 : List Cond := [Cond.fieldLink RX6 25 "BarrierLights$Ring" "lamps" "I", Cond.fieldLink RX6 28 "BarrierLights$Ring" "age" "I", Cond.fieldLink RX6 31 "BarrierLights$Ring" "against" "I", Cond.fieldLink RX6 34 "BarrierLights$Ring" "gap" "I", Cond.fieldLink RX6 37 "BarrierLights$Ring" "walkSign" "I", Cond.fieldLink RX6 40 "BarrierLights$Ring" "walkAge" "I"]
def wsX8_init : List Cond := .code yX8_init cX8_init 1 none :: ((wsX8_init_r1 ++ (wsX8_init_r2 ++ (wsX8_init_r3 ++ (wsX8_init_r4 ++ wsX8_init_r5)))) ++ wsX50 ++ wsX80 ++ wsX00 ++ wsX70 ++ wsX10 ++ wsX30 ++ wsX20 ++ wsX40 ++ wsX60)
def wsX8_controllerOf : List Cond := .code yX8_controllerOf cX8_controllerOf 2 (some (.object "BarrierLights$Controller")) :: ([.fieldLink RX8 19 "BarrierLights" "controller0" "LBarrierLights$Controller;", .fieldLink RX8 23 "BarrierLights" "controller1" "LBarrierLights$Controller;"] ++ wsX80)
def wsX8_put : List Cond := .code yX8_put cX8_put 6 (some .boolean) :: ([.methodLink RX8 30 yX8_controllerOf, .instanceMethod yX8_controllerOf, .selects RX8 yX8_controllerOf yX8_controllerOf, .initialized RX8, .code yX8_controllerOf cX8_controllerOf 2 (some (.object "BarrierLights$Controller")), .fieldLink RX8 19 "BarrierLights" "controller0" "LBarrierLights$Controller;", .fieldLink RX8 23 "BarrierLights" "controller1" "LBarrierLights$Controller;", .methodLink RX8 34 yX8_isPhase, .static yX8_isPhase, .code yX8_isPhase cX8_isPhase 1 (some .boolean), .methodLink RX8 42 yX7_write, .instanceMethod yX7_write, .selects RX7 yX7_write yX7_write, .initialized RX7, .code yX7_write cX7_write 5 none, .fieldLink RX7 9 "BarrierLights$Table" "entries" "[I"] ++ wsX00 ++ wsX80 ++ wsX70)
def wsJ6_bitCount_0f7a4 : List Cond := .code yJ6_bitCount_0f7a4 cJ6_bitCount_0f7a4 1 (some .int) :: ([.constant RJ6 265 (1431655765), .constant RJ6 266 (858993459), .constant RJ6 267 (252645135)])
def wsX8_enact_r1 : List Cond := [Cond.classLink RX8 48 "java/lang/IllegalArgumentException", Cond.initialized "java/lang/IllegalArgumentException", Cond.classLink RX8 59 "java/lang/IllegalStateException", Cond.initialized "java/lang/IllegalStateException", Cond.methodLink RX8 30 yX8_controllerOf, Cond.instanceMethod yX8_controllerOf, Cond.selects RX8 yX8_controllerOf yX8_controllerOf, Cond.initialized RX8, Cond.code yX8_controllerOf cX8_controllerOf 2 (some (.object "BarrierLights$Controller")), Cond.fieldLink RX8 19 "BarrierLights" "controller0" "LBarrierLights$Controller;", Cond.fieldLink RX8 23 "BarrierLights" "controller1" "LBarrierLights$Controller;", Cond.methodLink RX8 55 yX0_takeWrittenTable, Cond.instanceMethod yX0_takeWrittenTable, Cond.selects RX0 yX0_takeWrittenTable yX0_takeWrittenTable, Cond.initialized RX0, Cond.code yX0_takeWrittenTable cX0_takeWrittenTable 1 (some .boolean), Cond.fieldLink RX0 12 "BarrierLights$Controller" "written" "LBarrierLights$Table;", Cond.fieldLink RX0 63 "BarrierLights$Controller" "wrongPlace" "I", Cond.fieldLink RX0 18 "BarrierLights$Controller" "table" "LBarrierLights$Table;", Cond.fieldLink RX0 67 "BarrierLights$Controller" "used" "I", Cond.methodLink RX0 86 yX7_wrongPlace, Cond.instanceMethod yX7_wrongPlace, Cond.selects RX7 yX7_wrongPlace yX7_wrongPlace, Cond.initialized RX7]
def wsX8_enact_r2 : List Cond := [Cond.code yX7_wrongPlace cX7_wrongPlace 3 (some .int), Cond.methodLink RX7 25 yX7_isUsed, Cond.instanceMethod yX7_isUsed, Cond.selects RX7 yX7_isUsed yX7_isUsed, Cond.code yX7_isUsed cX7_isUsed 2 (some .boolean), Cond.methodLink RX7 21 yX7_at, Cond.instanceMethod yX7_at, Cond.selects RX7 yX7_at yX7_at, Cond.code yX7_at cX7_at 4 (some .int), Cond.fieldLink RX7 9 "BarrierLights$Table" "entries" "[I", Cond.methodLink RX7 33 yX7_isRight, Cond.instanceMethod yX7_isRight, Cond.selects RX7 yX7_isRight yX7_isRight, Cond.code yX7_isRight cX7_isRight 5 (some .boolean), Cond.methodLink RX7 37 yX7_used, Cond.instanceMethod yX7_used, Cond.selects RX7 yX7_used yX7_used, Cond.code yX7_used cX7_used 3 (some .int), Cond.static yX8_bit, Cond.code yX8_bit cX8_bit 1 (some .int), Cond.methodLink RX0 89 yX7_copyFrom, Cond.instanceMethod yX7_copyFrom, Cond.selects RX7 yX7_copyFrom yX7_copyFrom, Cond.code yX7_copyFrom cX7_copyFrom 2 none]
def wsX8_enact_r3 : List Cond := [Cond.methodLink RX7 15 arraycopyName, Cond.native arraycopyName, Cond.static arraycopyName, Cond.initialized "java/lang/System", Cond.methodLink RX0 93 yX7_used, Cond.methodLink RX0 95 yX0_start, Cond.instanceMethod yX0_start, Cond.selects RX0 yX0_start yX0_start, Cond.code yX0_start cX0_start 1 none, Cond.fieldLink RX0 70 "BarrierLights$Controller" "whyFlashing" "I", Cond.fieldLink RX0 52 "BarrierLights$Controller" "ring0" "LBarrierLights$Ring;", Cond.fieldLink RX0 56 "BarrierLights$Controller" "ring1" "LBarrierLights$Ring;", Cond.fieldLink RX0 73 "BarrierLights$Controller" "side" "I", Cond.fieldLink RX0 76 "BarrierLights$Controller" "calls" "I", Cond.fieldLink RX0 79 "BarrierLights$Controller" "walkCalls" "I", Cond.fieldLink RX0 45 "BarrierLights$Controller" "monitor" "LBarrierLights$Monitor;", Cond.methodLink RX0 98 yX6_rest, Cond.instanceMethod yX6_rest, Cond.selects RX6 yX6_rest yX6_rest, Cond.initialized RX6, Cond.code yX6_rest cX6_rest 1 none, Cond.fieldLink RX6 9 "BarrierLights$Ring" "phase" "I", Cond.fieldLink RX6 15 "BarrierLights$Ring" "next" "I", Cond.fieldLink RX6 25 "BarrierLights$Ring" "lamps" "I"]
def wsX8_enact_r4 : List Cond := [Cond.fieldLink RX6 37 "BarrierLights$Ring" "walkSign" "I", Cond.methodLink RX0 101 yX4_beginAnew, Cond.instanceMethod yX4_beginAnew, Cond.selects RX4 yX4_beginAnew yX4_beginAnew, Cond.initialized RX4, Cond.code yX4_beginAnew cX4_beginAnew 2 none, Cond.fieldLink RX4 21 "BarrierLights$Monitor" "sawBefore" "Z", Cond.fieldLink RX4 15 "BarrierLights$Monitor" "shownBefore" "[I", Cond.fieldLink RX4 18 "BarrierLights$Monitor" "yellowTicks" "[I", Cond.methodLink RX8 67 yJ6_bitCount_0f7a4, Cond.static yJ6_bitCount_0f7a4, Cond.initialized RJ6, Cond.code yJ6_bitCount_0f7a4 cJ6_bitCount_0f7a4 1 (some .int), Cond.constant RJ6 265 (1431655765), Cond.constant RJ6 266 (858993459), Cond.constant RJ6 267 (252645135)]
def wsX8_enact : List Cond := .code yX8_enact cX8_enact 3 (some .int) :: ((wsX8_enact_r1 ++ (wsX8_enact_r2 ++ (wsX8_enact_r3 ++ wsX8_enact_r4))) ++ wsX00 ++ wsX80 ++ wsX70 ++ wsX60 ++ wsX40 ++ (vx_atS RX8 52 "java/lang/IllegalArgumentException" ["java/lang/RuntimeException", "java/lang/Exception"]).filter goodWord ++ (vx_atS RX8 63 "java/lang/IllegalStateException" ["java/lang/RuntimeException", "java/lang/Exception"]).filter goodWord)
def wsX8_place : List Cond := .code yX8_place cX8_place 3 (some .int) :: ([.methodLink RX8 30 yX8_controllerOf, .instanceMethod yX8_controllerOf, .selects RX8 yX8_controllerOf yX8_controllerOf, .initialized RX8, .code yX8_controllerOf cX8_controllerOf 2 (some (.object "BarrierLights$Controller")), .fieldLink RX8 19 "BarrierLights" "controller0" "LBarrierLights$Controller;", .fieldLink RX8 23 "BarrierLights" "controller1" "LBarrierLights$Controller;"] ++ wsX00 ++ wsX80)
def wsX8_detect : List Cond := .code yX8_detect cX8_detect 5 (some .boolean) :: ([.methodLink RX8 30 yX8_controllerOf, .instanceMethod yX8_controllerOf, .selects RX8 yX8_controllerOf yX8_controllerOf, .initialized RX8, .code yX8_controllerOf cX8_controllerOf 2 (some (.object "BarrierLights$Controller")), .fieldLink RX8 19 "BarrierLights" "controller0" "LBarrierLights$Controller;", .fieldLink RX8 23 "BarrierLights" "controller1" "LBarrierLights$Controller;", .methodLink RX8 34 yX8_isPhase, .static yX8_isPhase, .code yX8_isPhase cX8_isPhase 1 (some .boolean), .methodLink RX8 80 yX1_turn, .instanceMethod yX1_turn, .selects RX1 yX1_turn yX1_turn, .initialized RX1, .code yX1_turn cX1_turn 3 none, .fieldLink RX1 19 "BarrierLights$Detectors" "on" "I", .static yX8_bit, .code yX8_bit cX8_bit 1 (some .int)] ++ wsX00 ++ wsX80 ++ wsX10)
def wsX8_press_r1 : List Cond := [Cond.methodLink RX8 30 yX8_controllerOf, Cond.instanceMethod yX8_controllerOf, Cond.selects RX8 yX8_controllerOf yX8_controllerOf, Cond.initialized RX8, Cond.code yX8_controllerOf cX8_controllerOf 2 (some (.object "BarrierLights$Controller")), Cond.fieldLink RX8 19 "BarrierLights" "controller0" "LBarrierLights$Controller;", Cond.fieldLink RX8 23 "BarrierLights" "controller1" "LBarrierLights$Controller;", Cond.methodLink RX8 34 yX8_isPhase, Cond.static yX8_isPhase, Cond.code yX8_isPhase cX8_isPhase 1 (some .boolean), Cond.methodLink RX8 86 yX0_takeButton, Cond.instanceMethod yX0_takeButton, Cond.selects RX0 yX0_takeButton yX0_takeButton, Cond.initialized RX0, Cond.code yX0_takeButton cX0_takeButton 3 (some .boolean), Cond.fieldLink RX0 67 "BarrierLights$Controller" "used" "I", Cond.fieldLink RX0 18 "BarrierLights$Controller" "table" "LBarrierLights$Table;", Cond.fieldLink RX0 70 "BarrierLights$Controller" "whyFlashing" "I", Cond.fieldLink RX0 79 "BarrierLights$Controller" "walkCalls" "I", Cond.static yX8_bit, Cond.code yX8_bit cX8_bit 1 (some .int), Cond.methodLink RX0 108 yX7_at, Cond.instanceMethod yX7_at, Cond.selects RX7 yX7_at yX7_at]
def wsX8_press_r2 : List Cond := [Cond.initialized RX7, Cond.code yX7_at cX7_at 4 (some .int), Cond.fieldLink RX7 9 "BarrierLights$Table" "entries" "[I"]
def wsX8_press : List Cond := .code yX8_press cX8_press 4 (some .boolean) :: ((wsX8_press_r1 ++ wsX8_press_r2) ++ wsX80 ++ wsX00 ++ wsX70)
def wsX8_target : List Cond := .code yX8_target cX8_target 5 (some .boolean) :: ([.methodLink RX8 30 yX8_controllerOf, .instanceMethod yX8_controllerOf, .selects RX8 yX8_controllerOf yX8_controllerOf, .initialized RX8, .code yX8_controllerOf cX8_controllerOf 2 (some (.object "BarrierLights$Controller")), .fieldLink RX8 19 "BarrierLights" "controller0" "LBarrierLights$Controller;", .fieldLink RX8 23 "BarrierLights" "controller1" "LBarrierLights$Controller;", .methodLink RX8 89 yX8_isInput, .static yX8_isInput, .code yX8_isInput cX8_isInput 1 (some .boolean), .methodLink RX8 34 yX8_isPhase, .static yX8_isPhase, .code yX8_isPhase cX8_isPhase 1 (some .boolean), .methodLink RX8 96 yX2_aim, .instanceMethod yX2_aim, .selects RX2 yX2_aim yX2_aim, .initialized RX2, .code yX2_aim cX2_aim 3 none, .fieldLink RX2 15 "BarrierLights$Inputs" "targets" "[I"] ++ wsX00 ++ wsX80 ++ wsX20)
def wsX8_preempt : List Cond := .code yX8_preempt cX8_preempt 5 (some .boolean) :: ([.methodLink RX8 30 yX8_controllerOf, .instanceMethod yX8_controllerOf, .selects RX8 yX8_controllerOf yX8_controllerOf, .initialized RX8, .code yX8_controllerOf cX8_controllerOf 2 (some (.object "BarrierLights$Controller")), .fieldLink RX8 19 "BarrierLights" "controller0" "LBarrierLights$Controller;", .fieldLink RX8 23 "BarrierLights" "controller1" "LBarrierLights$Controller;", .methodLink RX8 89 yX8_isInput, .static yX8_isInput, .code yX8_isInput cX8_isInput 1 (some .boolean), .methodLink RX8 102 yX2_turn, .instanceMethod yX2_turn, .selects RX2 yX2_turn yX2_turn, .initialized RX2, .code yX2_turn cX2_turn 3 none, .fieldLink RX2 9 "BarrierLights$Inputs" "on" "[Z"] ++ wsX00 ++ wsX80 ++ wsX20)
def wsX8_plan_r1 : List Cond := [Cond.fieldLink RX8 10 "BarrierLights" "plans" "LBarrierLights$Plans;", Cond.fieldLink RX8 19 "BarrierLights" "controller0" "LBarrierLights$Controller;", Cond.fieldLink RX8 23 "BarrierLights" "controller1" "LBarrierLights$Controller;", Cond.methodLink RX8 103 yX5_make, Cond.instanceMethod yX5_make, Cond.selects RX5 yX5_make yX5_make, Cond.initialized RX5, Cond.code yX5_make cX5_make 6 (some .boolean), Cond.fieldLink RX5 9 "BarrierLights$Plans" "cycles" "[I", Cond.fieldLink RX5 15 "BarrierLights$Plans" "offsets" "[I", Cond.fieldLink RX5 18 "BarrierLights$Plans" "splits" "[I", Cond.methodLink RX8 111 yX3_fitTo, Cond.instanceMethod yX3_fitTo, Cond.selects RX3 yX3_fitTo yX3_fitTo, Cond.initialized RX3, Cond.code yX3_fitTo cX3_fitTo 3 none, Cond.fieldLink RX3 9 "BarrierLights$Link" "plan" "I", Cond.fieldLink RX3 15 "BarrierLights$Link" "localClock" "I", Cond.static yX8_wrap, Cond.initialized RX8, Cond.code yX8_wrap cX8_wrap 2 (some .int), Cond.methodLink RX8 179 yJ9_floorMod_7cf53, Cond.static yJ9_floorMod_7cf53, Cond.initialized RJ9]
def wsX8_plan_r2 : List Cond := [Cond.code yJ9_floorMod_7cf53 cJ9_floorMod_7cf53 3 (some .int)]
def wsX8_plan : List Cond := .code yX8_plan cX8_plan 5 (some .boolean) :: ((wsX8_plan_r1 ++ wsX8_plan_r2) ++ wsX80 ++ wsX00 ++ wsX50 ++ wsX30)
def wsX8_message_r1 : List Cond := [Cond.fieldLink RX8 10 "BarrierLights" "plans" "LBarrierLights$Plans;", Cond.methodLink RX8 30 yX8_controllerOf, Cond.instanceMethod yX8_controllerOf, Cond.selects RX8 yX8_controllerOf yX8_controllerOf, Cond.initialized RX8, Cond.code yX8_controllerOf cX8_controllerOf 2 (some (.object "BarrierLights$Controller")), Cond.fieldLink RX8 19 "BarrierLights" "controller0" "LBarrierLights$Controller;", Cond.fieldLink RX8 23 "BarrierLights" "controller1" "LBarrierLights$Controller;", Cond.methodLink RX8 116 yX5_isMade, Cond.instanceMethod yX5_isMade, Cond.selects RX5 yX5_isMade yX5_isMade, Cond.initialized RX5, Cond.code yX5_isMade cX5_isMade 2 (some .boolean), Cond.fieldLink RX5 9 "BarrierLights$Plans" "cycles" "[I", Cond.methodLink RX8 119 yX3_expects, Cond.instanceMethod yX3_expects, Cond.selects RX3 yX3_expects yX3_expects, Cond.initialized RX3, Cond.code yX3_expects cX3_expects 2 (some .boolean), Cond.fieldLink RX3 21 "BarrierLights$Link" "lastNumber" "I", Cond.methodLink RX8 122 yX5_cycleOf, Cond.instanceMethod yX5_cycleOf, Cond.selects RX5 yX5_cycleOf yX5_cycleOf, Cond.code yX5_cycleOf cX5_cycleOf 2 (some .int)]
def wsX8_message_r2 : List Cond := [Cond.methodLink RX5 21 yX5_isMade, Cond.methodLink RX8 125 yX3_take, Cond.instanceMethod yX3_take, Cond.selects RX3 yX3_take yX3_take, Cond.code yX3_take cX3_take 4 none, Cond.fieldLink RX3 9 "BarrierLights$Link" "plan" "I", Cond.fieldLink RX3 15 "BarrierLights$Link" "localClock" "I", Cond.fieldLink RX3 18 "BarrierLights$Link" "silence" "I", Cond.static yX8_wrap, Cond.code yX8_wrap cX8_wrap 2 (some .int), Cond.methodLink RX8 179 yJ9_floorMod_7cf53, Cond.static yJ9_floorMod_7cf53, Cond.initialized RJ9, Cond.code yJ9_floorMod_7cf53 cJ9_floorMod_7cf53 3 (some .int)]
def wsX8_message : List Cond := .code yX8_message cX8_message 5 (some .boolean) :: ((wsX8_message_r1 ++ wsX8_message_r2) ++ wsX80 ++ wsX00 ++ wsX50 ++ wsX30)
def wsX8_fault : List Cond := .code yX8_fault cX8_fault 5 (some .boolean) :: ([.methodLink RX8 30 yX8_controllerOf, .instanceMethod yX8_controllerOf, .selects RX8 yX8_controllerOf yX8_controllerOf, .initialized RX8, .code yX8_controllerOf cX8_controllerOf 2 (some (.object "BarrierLights$Controller")), .fieldLink RX8 19 "BarrierLights" "controller0" "LBarrierLights$Controller;", .fieldLink RX8 23 "BarrierLights" "controller1" "LBarrierLights$Controller;", .methodLink RX8 34 yX8_isPhase, .static yX8_isPhase, .code yX8_isPhase cX8_isPhase 1 (some .boolean)] ++ wsX00 ++ wsX80)
def wsX8_reset_r1 : List Cond := [Cond.methodLink RX8 30 yX8_controllerOf, Cond.instanceMethod yX8_controllerOf, Cond.selects RX8 yX8_controllerOf yX8_controllerOf, Cond.initialized RX8, Cond.code yX8_controllerOf cX8_controllerOf 2 (some (.object "BarrierLights$Controller")), Cond.fieldLink RX8 19 "BarrierLights" "controller0" "LBarrierLights$Controller;", Cond.fieldLink RX8 23 "BarrierLights" "controller1" "LBarrierLights$Controller;", Cond.methodLink RX8 135 yX0_start, Cond.instanceMethod yX0_start, Cond.selects RX0 yX0_start yX0_start, Cond.initialized RX0, Cond.code yX0_start cX0_start 1 none, Cond.fieldLink RX0 70 "BarrierLights$Controller" "whyFlashing" "I", Cond.fieldLink RX0 52 "BarrierLights$Controller" "ring0" "LBarrierLights$Ring;", Cond.fieldLink RX0 56 "BarrierLights$Controller" "ring1" "LBarrierLights$Ring;", Cond.fieldLink RX0 73 "BarrierLights$Controller" "side" "I", Cond.fieldLink RX0 67 "BarrierLights$Controller" "used" "I", Cond.fieldLink RX0 76 "BarrierLights$Controller" "calls" "I", Cond.fieldLink RX0 79 "BarrierLights$Controller" "walkCalls" "I", Cond.fieldLink RX0 45 "BarrierLights$Controller" "monitor" "LBarrierLights$Monitor;", Cond.methodLink RX0 98 yX6_rest, Cond.instanceMethod yX6_rest, Cond.selects RX6 yX6_rest yX6_rest, Cond.initialized RX6]
def wsX8_reset_r2 : List Cond := [Cond.code yX6_rest cX6_rest 1 none, Cond.fieldLink RX6 9 "BarrierLights$Ring" "phase" "I", Cond.fieldLink RX6 15 "BarrierLights$Ring" "next" "I", Cond.fieldLink RX6 25 "BarrierLights$Ring" "lamps" "I", Cond.fieldLink RX6 37 "BarrierLights$Ring" "walkSign" "I", Cond.methodLink RX0 101 yX4_beginAnew, Cond.instanceMethod yX4_beginAnew, Cond.selects RX4 yX4_beginAnew yX4_beginAnew, Cond.initialized RX4, Cond.code yX4_beginAnew cX4_beginAnew 2 none, Cond.fieldLink RX4 21 "BarrierLights$Monitor" "sawBefore" "Z", Cond.fieldLink RX4 15 "BarrierLights$Monitor" "shownBefore" "[I", Cond.fieldLink RX4 18 "BarrierLights$Monitor" "yellowTicks" "[I"]
def wsX8_reset : List Cond := .code yX8_reset cX8_reset 3 (some .boolean) :: ((wsX8_reset_r1 ++ wsX8_reset_r2) ++ wsX00 ++ wsX80 ++ wsX60 ++ wsX40)
def wsX8_tick_r1 : List Cond := [Cond.classLink RX8 48 "java/lang/IllegalArgumentException", Cond.initialized "java/lang/IllegalArgumentException", Cond.fieldLink RX8 19 "BarrierLights" "controller0" "LBarrierLights$Controller;", Cond.fieldLink RX8 10 "BarrierLights" "plans" "LBarrierLights$Plans;", Cond.fieldLink RX8 26 "BarrierLights" "clock" "I", Cond.fieldLink RX8 23 "BarrierLights" "controller1" "LBarrierLights$Controller;", Cond.methodLink RX8 140 yX0_pass, Cond.instanceMethod yX0_pass, Cond.selects RX0 yX0_pass yX0_pass, Cond.initialized RX0, Cond.code yX0_pass cX0_pass 4 none, Cond.fieldLink RX0 24 "BarrierLights$Controller" "detectors" "LBarrierLights$Detectors;", Cond.fieldLink RX0 31 "BarrierLights$Controller" "link" "LBarrierLights$Link;", Cond.fieldLink RX0 70 "BarrierLights$Controller" "whyFlashing" "I", Cond.fieldLink RX0 52 "BarrierLights$Controller" "ring0" "LBarrierLights$Ring;", Cond.fieldLink RX0 56 "BarrierLights$Controller" "ring1" "LBarrierLights$Ring;", Cond.fieldLink RX0 38 "BarrierLights$Controller" "inputs" "LBarrierLights$Inputs;", Cond.fieldLink RX0 67 "BarrierLights$Controller" "used" "I", Cond.methodLink RX0 112 yX1_pass, Cond.instanceMethod yX1_pass, Cond.selects RX1 yX1_pass yX1_pass, Cond.initialized RX1, Cond.code yX1_pass cX1_pass 4 none, Cond.fieldLink RX1 23 "BarrierLights$Detectors" "failed" "I"]
def wsX8_tick_r2 : List Cond := [Cond.fieldLink RX1 19 "BarrierLights$Detectors" "on" "I", Cond.fieldLink RX1 9 "BarrierLights$Detectors" "onTimes" "[I", Cond.methodLink RX1 30 Lib.Math.min.name, Cond.static Lib.Math.min.name, Cond.initialized "java/lang/Math", Cond.code Lib.Math.min.name Lib.Math.min.code 2 (some .int), Cond.fieldLink RX1 15 "BarrierLights$Detectors" "occupancies" "[F", Cond.constantFloat RX1 36 (1063256064), Cond.constantFloat RX1 37 (1040187392), Cond.static yX8_bit, Cond.initialized RX8, Cond.code yX8_bit cX8_bit 1 (some .int), Cond.methodLink RX0 115 yX3_pass, Cond.instanceMethod yX3_pass, Cond.selects RX3 yX3_pass yX3_pass, Cond.initialized RX3, Cond.code yX3_pass cX3_pass 5 none, Cond.fieldLink RX3 9 "BarrierLights$Link" "plan" "I", Cond.fieldLink RX3 18 "BarrierLights$Link" "silence" "I", Cond.fieldLink RX3 15 "BarrierLights$Link" "localClock" "I", Cond.methodLink RX3 28 yX5_cycleOf, Cond.instanceMethod yX5_cycleOf, Cond.selects RX5 yX5_cycleOf yX5_cycleOf, Cond.initialized RX5]
def wsX8_tick_r3 : List Cond := [Cond.code yX5_cycleOf cX5_cycleOf 2 (some .int), Cond.fieldLink RX5 9 "BarrierLights$Plans" "cycles" "[I", Cond.methodLink RX5 21 yX5_isMade, Cond.instanceMethod yX5_isMade, Cond.selects RX5 yX5_isMade yX5_isMade, Cond.code yX5_isMade cX5_isMade 2 (some .boolean), Cond.static yX8_wrap, Cond.code yX8_wrap cX8_wrap 2 (some .int), Cond.methodLink RX8 179 yJ9_floorMod_7cf53, Cond.static yJ9_floorMod_7cf53, Cond.initialized RJ9, Cond.code yJ9_floorMod_7cf53 cJ9_floorMod_7cf53 3 (some .int), Cond.methodLink RX3 34 yX5_offsetOf, Cond.instanceMethod yX5_offsetOf, Cond.selects RX5 yX5_offsetOf yX5_offsetOf, Cond.code yX5_offsetOf cX5_offsetOf 2 (some .int), Cond.fieldLink RX5 15 "BarrierLights$Plans" "offsets" "[I", Cond.methodLink RX3 37 yX3_shorterWay, Cond.static yX3_shorterWay, Cond.code yX3_shorterWay cX3_shorterWay 2 (some .int), Cond.methodLink RX0 118 yX0_isOff, Cond.instanceMethod yX0_isOff, Cond.selects RX0 yX0_isOff yX0_isOff, Cond.code yX0_isOff cX0_isOff 1 (some .boolean)]
def wsX8_tick_r4 : List Cond := [Cond.methodLink RX0 122 yX0_passCalls, Cond.instanceMethod yX0_passCalls, Cond.selects RX0 yX0_passCalls yX0_passCalls, Cond.code yX0_passCalls cX0_passCalls 3 none, Cond.static yX8_ringOf, Cond.code yX8_ringOf cX8_ringOf 1 (some .int), Cond.methodLink RX0 150 yX0_ring, Cond.instanceMethod yX0_ring, Cond.selects RX0 yX0_ring yX0_ring, Cond.code yX0_ring cX0_ring 2 (some (.object "BarrierLights$Ring")), Cond.methodLink RX0 154 yX6_isGreen, Cond.instanceMethod yX6_isGreen, Cond.selects RX6 yX6_isGreen yX6_isGreen, Cond.initialized RX6, Cond.code yX6_isGreen cX6_isGreen 1 (some .boolean), Cond.fieldLink RX6 25 "BarrierLights$Ring" "lamps" "I", Cond.methodLink RX0 160 yX0_passGap, Cond.instanceMethod yX0_passGap, Cond.selects RX0 yX0_passGap yX0_passGap, Cond.code yX0_passGap cX0_passGap 3 none, Cond.fieldLink RX0 18 "BarrierLights$Controller" "table" "LBarrierLights$Table;", Cond.methodLink RX0 166 yX1_extendsGreen, Cond.instanceMethod yX1_extendsGreen, Cond.selects RX1 yX1_extendsGreen yX1_extendsGreen]
def wsX8_tick_r5 : List Cond := [Cond.code yX1_extendsGreen cX1_extendsGreen 2 (some .boolean), Cond.methodLink RX0 108 yX7_at, Cond.instanceMethod yX7_at, Cond.selects RX7 yX7_at yX7_at, Cond.initialized RX7, Cond.code yX7_at cX7_at 4 (some .int), Cond.fieldLink RX7 9 "BarrierLights$Table" "entries" "[I", Cond.methodLink RX0 163 yX0_noteCalls, Cond.instanceMethod yX0_noteCalls, Cond.selects RX0 yX0_noteCalls yX0_noteCalls, Cond.code yX0_noteCalls cX0_noteCalls 3 none, Cond.fieldLink RX0 76 "BarrierLights$Controller" "calls" "I", Cond.fieldLink RX0 79 "BarrierLights$Controller" "walkCalls" "I", Cond.methodLink RX0 173 yX1_calls, Cond.instanceMethod yX1_calls, Cond.selects RX1 yX1_calls yX1_calls, Cond.code yX1_calls cX1_calls 2 (some .boolean), Cond.methodLink RX0 125 yX0_passTimes, Cond.instanceMethod yX0_passTimes, Cond.selects RX0 yX0_passTimes yX0_passTimes, Cond.code yX0_passTimes cX0_passTimes 2 none, Cond.methodLink RX0 175 yX6_waits, Cond.instanceMethod yX6_waits, Cond.selects RX6 yX6_waits yX6_waits]
def wsX8_tick_r6 : List Cond := [Cond.code yX6_waits cX6_waits 1 (some .boolean), Cond.fieldLink RX6 9 "BarrierLights$Ring" "phase" "I", Cond.methodLink RX0 181 yX6_passWalk, Cond.instanceMethod yX6_passWalk, Cond.selects RX6 yX6_passWalk yX6_passWalk, Cond.code yX6_passWalk cX6_passWalk 3 none, Cond.fieldLink RX6 40 "BarrierLights$Ring" "walkAge" "I", Cond.fieldLink RX6 37 "BarrierLights$Ring" "walkSign" "I", Cond.methodLink RX6 55 yX6_beginClear, Cond.instanceMethod yX6_beginClear, Cond.selects RX6 yX6_beginClear yX6_beginClear, Cond.code yX6_beginClear cX6_beginClear 1 none, Cond.methodLink RX0 185 yX0_countingCalls, Cond.instanceMethod yX0_countingCalls, Cond.selects RX0 yX0_countingCalls yX0_countingCalls, Cond.code yX0_countingCalls cX0_countingCalls 1 (some .int), Cond.methodLink RX0 232 yX0_greenPhases, Cond.instanceMethod yX0_greenPhases, Cond.selects RX0 yX0_greenPhases yX0_greenPhases, Cond.code yX0_greenPhases cX0_greenPhases 1 (some .int), Cond.methodLink RX0 299 yX6_greenPhase, Cond.instanceMethod yX6_greenPhase, Cond.selects RX6 yX6_greenPhase yX6_greenPhase, Cond.code yX6_greenPhase cX6_greenPhase 1 (some .int)]
def wsX8_tick_r7 : List Cond := [Cond.methodLink RX0 188 yX0_weigh, Cond.instanceMethod yX0_weigh, Cond.selects RX0 yX0_weigh yX0_weigh, Cond.code yX0_weigh cX0_weigh 5 none, Cond.fieldLink RX0 73 "BarrierLights$Controller" "side" "I", Cond.methodLink RX0 207 yX6_phaseBefore, Cond.instanceMethod yX6_phaseBefore, Cond.selects RX6 yX6_phaseBefore yX6_phaseBefore, Cond.code yX6_phaseBefore cX6_phaseBefore 1 (some .int), Cond.methodLink RX6 47 yX6_waits, Cond.static yX8_phasesOfSide, Cond.code yX8_phasesOfSide cX8_phasesOfSide 1 (some .int), Cond.methodLink RX0 213 yX6_phaseBehind, Cond.instanceMethod yX6_phaseBehind, Cond.selects RX6 yX6_phaseBehind yX6_phaseBehind, Cond.code yX6_phaseBehind cX6_phaseBehind 1 (some .int), Cond.methodLink RX0 129 yX2_targetInForce, Cond.instanceMethod yX2_targetInForce, Cond.selects RX2 yX2_targetInForce yX2_targetInForce, Cond.initialized RX2, Cond.code yX2_targetInForce cX2_targetInForce 3 (some .int), Cond.fieldLink RX2 9 "BarrierLights$Inputs" "on" "[Z", Cond.fieldLink RX2 15 "BarrierLights$Inputs" "targets" "[I", Cond.methodLink RX0 201 yX6_show]
def wsX8_tick_r8 : List Cond := [Cond.instanceMethod yX6_show, Cond.selects RX6 yX6_show yX6_show, Cond.code yX6_show cX6_show 2 none, Cond.fieldLink RX6 28 "BarrierLights$Ring" "age" "I", Cond.methodLink RX0 204 yX0_end, Cond.instanceMethod yX0_end, Cond.selects RX0 yX0_end yX0_end, Cond.code yX0_end cX0_end 2 none, Cond.methodLink RX0 98 yX6_rest, Cond.instanceMethod yX6_rest, Cond.selects RX6 yX6_rest yX6_rest, Cond.code yX6_rest cX6_rest 1 none, Cond.fieldLink RX6 15 "BarrierLights$Ring" "next" "I", Cond.methodLink RX0 222 yX0_begin, Cond.instanceMethod yX0_begin, Cond.selects RX0 yX0_begin yX0_begin, Cond.code yX0_begin cX0_begin 5 none, Cond.methodLink RX0 225 yX6_begin, Cond.instanceMethod yX6_begin, Cond.selects RX6 yX6_begin yX6_begin, Cond.code yX6_begin cX6_begin 3 none, Cond.fieldLink RX6 31 "BarrierLights$Ring" "against" "I", Cond.fieldLink RX6 34 "BarrierLights$Ring" "gap" "I", Cond.methodLink RX6 51 yX6_show]
def wsX8_tick_r9 : List Cond := [Cond.methodLink RX0 227 yX0_beginWalk, Cond.instanceMethod yX0_beginWalk, Cond.selects RX0 yX0_beginWalk yX0_beginWalk, Cond.code yX0_beginWalk cX0_beginWalk 2 none, Cond.methodLink RX0 230 yX6_beginWalk, Cond.instanceMethod yX6_beginWalk, Cond.selects RX6 yX6_beginWalk yX6_beginWalk, Cond.code yX6_beginWalk cX6_beginWalk 1 none, Cond.methodLink RX0 132 yX0_goByInput, Cond.instanceMethod yX0_goByInput, Cond.selects RX0 yX0_goByInput yX0_goByInput, Cond.code yX0_goByInput cX0_goByInput 5 none, Cond.fieldLink RX0 82 "BarrierLights$Controller" "hadInput" "Z", Cond.static yX8_sideOf, Cond.code yX8_sideOf cX8_sideOf 1 (some .int), Cond.methodLink RX0 267 yX0_goalOf, Cond.instanceMethod yX0_goalOf, Cond.selects RX0 yX0_goalOf yX0_goalOf, Cond.code yX0_goalOf cX0_goalOf 4 (some .int), Cond.methodLink RX0 270 yX0_giveWay, Cond.instanceMethod yX0_giveWay, Cond.selects RX0 yX0_giveWay yX0_giveWay, Cond.code yX0_giveWay cX0_giveWay 4 none, Cond.methodLink RX0 278 yX6_beginClear]
def wsX8_tick_r10 : List Cond := [Cond.methodLink RX0 258 yX6_mayEnd, Cond.instanceMethod yX6_mayEnd, Cond.selects RX6 yX6_mayEnd yX6_mayEnd, Cond.code yX6_mayEnd cX6_mayEnd 2 (some .boolean), Cond.methodLink RX0 255 yX6_turnYellow, Cond.instanceMethod yX6_turnYellow, Cond.selects RX6 yX6_turnYellow yX6_turnYellow, Cond.code yX6_turnYellow cX6_turnYellow 2 none, Cond.methodLink RX0 274 yX0_mayLeaveByInput, Cond.instanceMethod yX0_mayLeaveByInput, Cond.selects RX0 yX0_mayLeaveByInput yX0_mayLeaveByInput, Cond.code yX0_mayLeaveByInput cX0_mayLeaveByInput 2 (some .boolean), Cond.methodLink RX0 243 yX0_leaveSide, Cond.instanceMethod yX0_leaveSide, Cond.selects RX0 yX0_leaveSide yX0_leaveSide, Cond.code yX0_leaveSide cX0_leaveSide 3 none, Cond.methodLink RX0 136 yX3_isBeforeSplit, Cond.instanceMethod yX3_isBeforeSplit, Cond.selects RX3 yX3_isBeforeSplit yX3_isBeforeSplit, Cond.code yX3_isBeforeSplit cX3_isBeforeSplit 2 (some .boolean), Cond.methodLink RX3 40 yX5_splitOf, Cond.instanceMethod yX5_splitOf, Cond.selects RX5 yX5_splitOf yX5_splitOf, Cond.code yX5_splitOf cX5_splitOf 2 (some .int)]
def wsX8_tick_r11 : List Cond := [Cond.fieldLink RX5 18 "BarrierLights$Plans" "splits" "[I", Cond.methodLink RX0 140 yX0_goByCalls, Cond.instanceMethod yX0_goByCalls, Cond.selects RX0 yX0_goByCalls yX0_goByCalls, Cond.code yX0_goByCalls cX0_goByCalls 5 none, Cond.methodLink RX0 235 yX0_goOn, Cond.instanceMethod yX0_goOn, Cond.selects RX0 yX0_goOn yX0_goOn, Cond.code yX0_goOn cX0_goOn 4 none, Cond.methodLink RX0 252 yX0_isDone, Cond.instanceMethod yX0_isDone, Cond.selects RX0 yX0_isDone yX0_isDone, Cond.code yX0_isDone cX0_isDone 3 (some .boolean), Cond.methodLink RX0 239 yX0_mayLeave, Cond.instanceMethod yX0_mayLeave, Cond.selects RX0 yX0_mayLeave yX0_mayLeave, Cond.code yX0_mayLeave cX0_mayLeave 3 (some .boolean), Cond.methodLink RX0 246 yX0_cross, Cond.instanceMethod yX0_cross, Cond.selects RX0 yX0_cross yX0_cross, Cond.code yX0_cross cX0_cross 5 none, Cond.methodLink RX0 261 yX0_firstOfSide, Cond.instanceMethod yX0_firstOfSide, Cond.selects RX0 yX0_firstOfSide yX0_firstOfSide]
def wsX8_tick_r12 : List Cond := [Cond.code yX0_firstOfSide cX0_firstOfSide 4 (some .int), Cond.methodLink RX0 144 yX0_watch, Cond.instanceMethod yX0_watch, Cond.selects RX0 yX0_watch yX0_watch, Cond.code yX0_watch cX0_watch 2 none, Cond.fieldLink RX0 45 "BarrierLights$Controller" "monitor" "LBarrierLights$Monitor;", Cond.methodLink RX0 281 yX0_lampsOf, Cond.instanceMethod yX0_lampsOf, Cond.selects RX0 yX0_lampsOf yX0_lampsOf, Cond.code yX0_lampsOf cX0_lampsOf 4 (some .int), Cond.fieldLink RX0 59 "BarrierLights$Controller" "faults" "[I", Cond.static yX8_isPhase, Cond.code yX8_isPhase cX8_isPhase 1 (some .boolean), Cond.methodLink RX0 284 yX4_see, Cond.instanceMethod yX4_see, Cond.selects RX4 yX4_see yX4_see, Cond.initialized RX4, Cond.code yX4_see cX4_see 3 none, Cond.fieldLink RX4 9 "BarrierLights$Monitor" "shown" "[I", Cond.methodLink RX0 287 yX4_look, Cond.instanceMethod yX4_look, Cond.selects RX4 yX4_look yX4_look, Cond.code yX4_look cX4_look 3 (some .int), Cond.methodLink RX4 29 yX4_seesConflict]
def wsX8_tick_r13 : List Cond := [Cond.instanceMethod yX4_seesConflict, Cond.selects RX4 yX4_seesConflict yX4_seesConflict, Cond.code yX4_seesConflict cX4_seesConflict 5 (some .boolean), Cond.methodLink RX4 45 yX4_goes, Cond.static yX4_goes, Cond.code yX4_goes cX4_goes 1 (some .boolean), Cond.methodLink RX4 48 yX4_goTogether, Cond.static yX4_goTogether, Cond.code yX4_goTogether cX4_goTogether 2 (some .boolean), Cond.methodLink RX4 32 yX4_seesDark, Cond.instanceMethod yX4_seesDark, Cond.selects RX4 yX4_seesDark yX4_seesDark, Cond.code yX4_seesDark cX4_seesDark 4 (some .boolean), Cond.fieldLink RX4 21 "BarrierLights$Monitor" "sawBefore" "Z", Cond.fieldLink RX4 15 "BarrierLights$Monitor" "shownBefore" "[I", Cond.methodLink RX4 35 yX4_seesShort, Cond.instanceMethod yX4_seesShort, Cond.selects RX4 yX4_seesShort yX4_seesShort, Cond.code yX4_seesShort cX4_seesShort 4 (some .boolean), Cond.fieldLink RX4 18 "BarrierLights$Monitor" "yellowTicks" "[I", Cond.methodLink RX4 38 yX4_remember, Cond.instanceMethod yX4_remember, Cond.selects RX4 yX4_remember yX4_remember, Cond.code yX4_remember cX4_remember 2 none]
def wsX8_tick : List Cond := .code yX8_tick cX8_tick 3 (some .int) :: ((wsX8_tick_r1 ++ (wsX8_tick_r2 ++ (wsX8_tick_r3 ++ (wsX8_tick_r4 ++ (wsX8_tick_r5 ++ (wsX8_tick_r6 ++ (wsX8_tick_r7 ++ (wsX8_tick_r8 ++ (wsX8_tick_r9 ++ (wsX8_tick_r10 ++ (wsX8_tick_r11 ++ (wsX8_tick_r12 ++ wsX8_tick_r13)))))))))))) ++ wsX80 ++ wsX00 ++ wsX10 ++ wsX30 ++ wsX50 ++ wsX60 ++ wsX70 ++ wsX20 ++ wsX40 ++ (vx_atS RX8 52 "java/lang/IllegalArgumentException" ["java/lang/RuntimeException", "java/lang/Exception"]).filter goodWord)
def wsX8_lamp_r1 : List Cond := [Cond.methodLink RX8 30 yX8_controllerOf, Cond.instanceMethod yX8_controllerOf, Cond.selects RX8 yX8_controllerOf yX8_controllerOf, Cond.initialized RX8, Cond.code yX8_controllerOf cX8_controllerOf 2 (some (.object "BarrierLights$Controller")), Cond.fieldLink RX8 19 "BarrierLights" "controller0" "LBarrierLights$Controller;", Cond.fieldLink RX8 23 "BarrierLights" "controller1" "LBarrierLights$Controller;", Cond.methodLink RX8 34 yX8_isPhase, Cond.static yX8_isPhase, Cond.code yX8_isPhase cX8_isPhase 1 (some .boolean), Cond.methodLink RX8 144 yX0_lampsOf, Cond.instanceMethod yX0_lampsOf, Cond.selects RX0 yX0_lampsOf yX0_lampsOf, Cond.initialized RX0, Cond.code yX0_lampsOf cX0_lampsOf 4 (some .int), Cond.fieldLink RX0 67 "BarrierLights$Controller" "used" "I", Cond.fieldLink RX0 70 "BarrierLights$Controller" "whyFlashing" "I", Cond.fieldLink RX0 59 "BarrierLights$Controller" "faults" "[I", Cond.static yX8_bit, Cond.code yX8_bit cX8_bit 1 (some .int), Cond.static yX8_ringOf, Cond.code yX8_ringOf cX8_ringOf 1 (some .int), Cond.methodLink RX0 150 yX0_ring, Cond.instanceMethod yX0_ring]
def wsX8_lamp_r2 : List Cond := [Cond.selects RX0 yX0_ring yX0_ring, Cond.code yX0_ring cX0_ring 2 (some (.object "BarrierLights$Ring")), Cond.fieldLink RX0 52 "BarrierLights$Controller" "ring0" "LBarrierLights$Ring;", Cond.fieldLink RX0 56 "BarrierLights$Controller" "ring1" "LBarrierLights$Ring;"]
def wsX8_lamp : List Cond := .code yX8_lamp cX8_lamp 4 (some .int) :: ((wsX8_lamp_r1 ++ wsX8_lamp_r2) ++ wsX80 ++ wsX00 ++ wsX60)
def wsX8_signs_r1 : List Cond := [Cond.methodLink RX8 30 yX8_controllerOf, Cond.instanceMethod yX8_controllerOf, Cond.selects RX8 yX8_controllerOf yX8_controllerOf, Cond.initialized RX8, Cond.code yX8_controllerOf cX8_controllerOf 2 (some (.object "BarrierLights$Controller")), Cond.fieldLink RX8 19 "BarrierLights" "controller0" "LBarrierLights$Controller;", Cond.fieldLink RX8 23 "BarrierLights" "controller1" "LBarrierLights$Controller;", Cond.methodLink RX8 34 yX8_isPhase, Cond.static yX8_isPhase, Cond.code yX8_isPhase cX8_isPhase 1 (some .boolean), Cond.methodLink RX8 147 yX0_signsOf, Cond.instanceMethod yX0_signsOf, Cond.selects RX0 yX0_signsOf yX0_signsOf, Cond.initialized RX0, Cond.code yX0_signsOf cX0_signsOf 4 (some .int), Cond.fieldLink RX0 76 "BarrierLights$Controller" "calls" "I", Cond.fieldLink RX0 79 "BarrierLights$Controller" "walkCalls" "I", Cond.fieldLink RX0 24 "BarrierLights$Controller" "detectors" "LBarrierLights$Detectors;", Cond.static yX8_ringOf, Cond.code yX8_ringOf cX8_ringOf 1 (some .int), Cond.methodLink RX0 150 yX0_ring, Cond.instanceMethod yX0_ring, Cond.selects RX0 yX0_ring yX0_ring, Cond.code yX0_ring cX0_ring 2 (some (.object "BarrierLights$Ring"))]
def wsX8_signs_r2 : List Cond := [Cond.fieldLink RX0 52 "BarrierLights$Controller" "ring0" "LBarrierLights$Ring;", Cond.fieldLink RX0 56 "BarrierLights$Controller" "ring1" "LBarrierLights$Ring;", Cond.static yX8_bit, Cond.code yX8_bit cX8_bit 1 (some .int)]
def wsX8_signs : List Cond := .code yX8_signs cX8_signs 4 (some .int) :: ((wsX8_signs_r1 ++ wsX8_signs_r2) ++ wsX80 ++ wsX60 ++ wsX00 ++ wsX10)
def wsX8_crossing_r1 : List Cond := [Cond.methodLink RX8 30 yX8_controllerOf, Cond.instanceMethod yX8_controllerOf, Cond.selects RX8 yX8_controllerOf yX8_controllerOf, Cond.initialized RX8, Cond.code yX8_controllerOf cX8_controllerOf 2 (some (.object "BarrierLights$Controller")), Cond.fieldLink RX8 19 "BarrierLights" "controller0" "LBarrierLights$Controller;", Cond.fieldLink RX8 23 "BarrierLights" "controller1" "LBarrierLights$Controller;", Cond.methodLink RX8 153 yX0_way, Cond.instanceMethod yX0_way, Cond.selects RX0 yX0_way yX0_way, Cond.initialized RX0, Cond.code yX0_way cX0_way 1 (some .int), Cond.fieldLink RX0 70 "BarrierLights$Controller" "whyFlashing" "I", Cond.fieldLink RX0 38 "BarrierLights$Controller" "inputs" "LBarrierLights$Inputs;", Cond.fieldLink RX0 67 "BarrierLights$Controller" "used" "I", Cond.fieldLink RX0 31 "BarrierLights$Controller" "link" "LBarrierLights$Link;", Cond.methodLink RX0 118 yX0_isOff, Cond.instanceMethod yX0_isOff, Cond.selects RX0 yX0_isOff yX0_isOff, Cond.code yX0_isOff cX0_isOff 1 (some .boolean), Cond.methodLink RX0 129 yX2_targetInForce, Cond.instanceMethod yX2_targetInForce, Cond.selects RX2 yX2_targetInForce yX2_targetInForce, Cond.initialized RX2]
def wsX8_crossing_r2 : List Cond := [Cond.code yX2_targetInForce cX2_targetInForce 3 (some .int), Cond.fieldLink RX2 9 "BarrierLights$Inputs" "on" "[Z", Cond.fieldLink RX2 15 "BarrierLights$Inputs" "targets" "[I", Cond.static yX8_bit, Cond.code yX8_bit cX8_bit 1 (some .int), Cond.methodLink RX8 160 yX3_shownClock, Cond.instanceMethod yX3_shownClock, Cond.selects RX3 yX3_shownClock yX3_shownClock, Cond.initialized RX3, Cond.code yX3_shownClock cX3_shownClock 1 (some .int), Cond.fieldLink RX3 9 "BarrierLights$Link" "plan" "I", Cond.fieldLink RX3 15 "BarrierLights$Link" "localClock" "I"]
def wsX8_crossing : List Cond := .code yX8_crossing cX8_crossing 4 (some .int) :: ((wsX8_crossing_r1 ++ wsX8_crossing_r2) ++ wsX00 ++ wsX30 ++ wsX60 ++ wsX80 ++ wsX20)
def wsX8_occupancy : List Cond := .code yX8_occupancy cX8_occupancy 4 (some .float) :: ([.methodLink RX8 30 yX8_controllerOf, .instanceMethod yX8_controllerOf, .selects RX8 yX8_controllerOf yX8_controllerOf, .initialized RX8, .code yX8_controllerOf cX8_controllerOf 2 (some (.object "BarrierLights$Controller")), .fieldLink RX8 19 "BarrierLights" "controller0" "LBarrierLights$Controller;", .fieldLink RX8 23 "BarrierLights" "controller1" "LBarrierLights$Controller;", .methodLink RX8 34 yX8_isPhase, .static yX8_isPhase, .code yX8_isPhase cX8_isPhase 1 (some .boolean)] ++ wsX00 ++ wsX10 ++ wsX80)
def wsX9_init_r1 : List Cond := [Cond.methodLink RX9 1 objectInit, Cond.instanceMethod objectInit, Cond.code objectInit ⟨#[0xb1]⟩ 1 none, Cond.arrayClass .short, Cond.fieldLink RX9 7 "BarrierLightsModel" "draft" "[S", Cond.fieldLink RX9 13 "BarrierLightsModel" "table" "[S", Cond.arrayClass .int, Cond.fieldLink RX9 16 "BarrierLightsModel" "wrong" "[I", Cond.arrayClass .boolean, Cond.fieldLink RX9 20 "BarrierLightsModel" "off" "[Z", Cond.fieldLink RX9 24 "BarrierLightsModel" "why" "[I", Cond.fieldLink RX9 27 "BarrierLightsModel" "side" "[I", Cond.fieldLink RX9 30 "BarrierLightsModel" "greater" "[Z", Cond.fieldLink RX9 33 "BarrierLightsModel" "used" "[Z", Cond.fieldLink RX9 36 "BarrierLightsModel" "calls" "[Z", Cond.fieldLink RX9 39 "BarrierLightsModel" "walkCalls" "[Z", Cond.fieldLink RX9 42 "BarrierLightsModel" "on" "[Z", Cond.fieldLink RX9 45 "BarrierLightsModel" "onTime" "[S", Cond.arrayClass .float, Cond.fieldLink RX9 48 "BarrierLightsModel" "occupied" "[F", Cond.fieldLink RX9 52 "BarrierLightsModel" "faults" "[I", Cond.fieldLink RX9 55 "BarrierLightsModel" "shown" "[I", Cond.fieldLink RX9 58 "BarrierLightsModel" "darks" "[I", Cond.fieldLink RX9 61 "BarrierLightsModel" "went" "[Z"]
def wsX9_init_r2 : List Cond := [Cond.fieldLink RX9 64 "BarrierLightsModel" "yellows" "[I", Cond.fieldLink RX9 67 "BarrierLightsModel" "state" "[I", Cond.fieldLink RX9 70 "BarrierLightsModel" "phase" "[I", Cond.fieldLink RX9 73 "BarrierLightsModel" "follows" "[I", Cond.fieldLink RX9 76 "BarrierLightsModel" "age" "[I", Cond.fieldLink RX9 79 "BarrierLightsModel" "against" "[I", Cond.fieldLink RX9 82 "BarrierLightsModel" "gap" "[I", Cond.fieldLink RX9 85 "BarrierLightsModel" "walker" "[I", Cond.fieldLink RX9 88 "BarrierLightsModel" "walked" "[I", Cond.fieldLink RX9 91 "BarrierLightsModel" "targets" "[I", Cond.fieldLink RX9 94 "BarrierLightsModel" "inputs" "[Z", Cond.fieldLink RX9 97 "BarrierLightsModel" "cycle" "[I", Cond.fieldLink RX9 100 "BarrierLightsModel" "offset" "[I", Cond.fieldLink RX9 103 "BarrierLightsModel" "split" "[I", Cond.fieldLink RX9 106 "BarrierLightsModel" "plan" "[I", Cond.fieldLink RX9 109 "BarrierLightsModel" "last" "[I", Cond.fieldLink RX9 112 "BarrierLightsModel" "silence" "[I", Cond.fieldLink RX9 115 "BarrierLightsModel" "local" "[I"]
def wsX9_init : List Cond := .code yX9_init cX9_init 2 none :: ((wsX9_init_r1 ++ wsX9_init_r2) ++ wsX90)
def wsX9_thrown : List Cond := .code yX9_thrown cX9_thrown 1 (some .int) :: ([.fieldLink RX9 118 "BarrierLightsModel" "code" "I"] ++ wsX90)
def wsX9_isCrossing : List Cond := .code yX9_isCrossing cX9_isCrossing 1 (some .boolean) :: ([])
def wsX9_isPhase : List Cond := .code yX9_isPhase cX9_isPhase 2 (some .boolean) :: ([.methodLink RX9 122 yX9_isCrossing, .static yX9_isCrossing, .initialized RX9, .code yX9_isCrossing cX9_isCrossing 1 (some .boolean)])
def wsX9_sideOf : List Cond := .code yX9_sideOf cX9_sideOf 1 (some .int) :: ([])
def wsX9_entry : List Cond := .code yX9_entry cX9_entry 4 (some .int) :: ([.fieldLink RX9 13 "BarrierLightsModel" "table" "[S"] ++ wsX90)
def wsX9_ringOf : List Cond := .code yX9_ringOf cX9_ringOf 2 (some .int) :: ([])
def wsX9_isGreen : List Cond := .code yX9_isGreen cX9_isGreen 3 (some .boolean) :: ([.fieldLink RX9 67 "BarrierLightsModel" "state" "[I", .fieldLink RX9 70 "BarrierLightsModel" "phase" "[I", .methodLink RX9 126 yX9_ringOf, .static yX9_ringOf, .initialized RX9, .code yX9_ringOf cX9_ringOf 2 (some .int)] ++ wsX90)
def wsX9_failed : List Cond := .code yX9_failed cX9_failed 3 (some .boolean) :: ([.fieldLink RX9 45 "BarrierLightsModel" "onTime" "[S"] ++ wsX90)
def wsX9_runs : List Cond := .code yX9_runs cX9_runs 2 (some .boolean) :: ([.fieldLink RX9 20 "BarrierLightsModel" "off" "[Z", .fieldLink RX9 24 "BarrierLightsModel" "why" "[I"] ++ wsX90)
def wsX9_put : List Cond := .code yX9_put cX9_put 5 (some .boolean) :: ([.fieldLink RX9 118 "BarrierLightsModel" "code" "I", .fieldLink RX9 7 "BarrierLightsModel" "draft" "[S", .methodLink RX9 130 yX9_isPhase, .static yX9_isPhase, .initialized RX9, .code yX9_isPhase cX9_isPhase 2 (some .boolean), .methodLink RX9 122 yX9_isCrossing, .static yX9_isCrossing, .code yX9_isCrossing cX9_isCrossing 1 (some .boolean)] ++ wsX90)
def wsX9_isWrong : List Cond := .code yX9_isWrong cX9_isWrong 5 (some .boolean) :: ([.fieldLink RX9 7 "BarrierLightsModel" "draft" "[S"] ++ wsX90)
def wsX9_wrongPlace : List Cond := .code yX9_wrongPlace cX9_wrongPlace 7 (some .int) :: ([.fieldLink RX9 7 "BarrierLightsModel" "draft" "[S", .methodLink RX9 134 yX9_isWrong, .instanceMethod yX9_isWrong, .selects RX9 yX9_isWrong yX9_isWrong, .initialized RX9, .code yX9_isWrong cX9_isWrong 5 (some .boolean), .methodLink RX9 137 yX9_sideOf, .static yX9_sideOf, .code yX9_sideOf cX9_sideOf 1 (some .int)] ++ wsX90)
def wsX9_stopRing : List Cond := .code yX9_stopRing cX9_stopRing 2 none :: ([.fieldLink RX9 67 "BarrierLightsModel" "state" "[I", .fieldLink RX9 70 "BarrierLightsModel" "phase" "[I", .fieldLink RX9 73 "BarrierLightsModel" "follows" "[I", .fieldLink RX9 85 "BarrierLightsModel" "walker" "[I"] ++ wsX90)
def wsX9_start : List Cond := .code yX9_start cX9_start 3 none :: ([.fieldLink RX9 20 "BarrierLightsModel" "off" "[Z", .fieldLink RX9 24 "BarrierLightsModel" "why" "[I", .fieldLink RX9 27 "BarrierLightsModel" "side" "[I", .fieldLink RX9 30 "BarrierLightsModel" "greater" "[Z", .fieldLink RX9 36 "BarrierLightsModel" "calls" "[Z", .fieldLink RX9 33 "BarrierLightsModel" "used" "[Z", .fieldLink RX9 39 "BarrierLightsModel" "walkCalls" "[Z", .fieldLink RX9 58 "BarrierLightsModel" "darks" "[I", .fieldLink RX9 61 "BarrierLightsModel" "went" "[Z", .fieldLink RX9 64 "BarrierLightsModel" "yellows" "[I", .methodLink RX9 152 yX9_stopRing, .instanceMethod yX9_stopRing, .selects RX9 yX9_stopRing yX9_stopRing, .initialized RX9, .code yX9_stopRing cX9_stopRing 2 none, .fieldLink RX9 67 "BarrierLightsModel" "state" "[I", .fieldLink RX9 70 "BarrierLightsModel" "phase" "[I", .fieldLink RX9 73 "BarrierLightsModel" "follows" "[I", .fieldLink RX9 85 "BarrierLightsModel" "walker" "[I"] ++ wsX90)
def wsX9_enact_r1 : List Cond := [Cond.fieldLink RX9 118 "BarrierLightsModel" "code" "I", Cond.fieldLink RX9 16 "BarrierLightsModel" "wrong" "[I", Cond.fieldLink RX9 13 "BarrierLightsModel" "table" "[S", Cond.fieldLink RX9 7 "BarrierLightsModel" "draft" "[S", Cond.fieldLink RX9 33 "BarrierLightsModel" "used" "[Z", Cond.methodLink RX9 122 yX9_isCrossing, Cond.static yX9_isCrossing, Cond.initialized RX9, Cond.code yX9_isCrossing cX9_isCrossing 1 (some .boolean), Cond.methodLink RX9 141 yX9_wrongPlace, Cond.instanceMethod yX9_wrongPlace, Cond.selects RX9 yX9_wrongPlace yX9_wrongPlace, Cond.code yX9_wrongPlace cX9_wrongPlace 7 (some .int), Cond.methodLink RX9 134 yX9_isWrong, Cond.instanceMethod yX9_isWrong, Cond.selects RX9 yX9_isWrong yX9_isWrong, Cond.code yX9_isWrong cX9_isWrong 5 (some .boolean), Cond.methodLink RX9 137 yX9_sideOf, Cond.static yX9_sideOf, Cond.code yX9_sideOf cX9_sideOf 1 (some .int), Cond.methodLink RX9 144 yX9_entry, Cond.instanceMethod yX9_entry, Cond.selects RX9 yX9_entry yX9_entry, Cond.code yX9_entry cX9_entry 4 (some .int)]
def wsX9_enact_r2 : List Cond := [Cond.methodLink RX9 148 yX9_start, Cond.instanceMethod yX9_start, Cond.selects RX9 yX9_start yX9_start, Cond.code yX9_start cX9_start 3 none, Cond.fieldLink RX9 20 "BarrierLightsModel" "off" "[Z", Cond.fieldLink RX9 24 "BarrierLightsModel" "why" "[I", Cond.fieldLink RX9 27 "BarrierLightsModel" "side" "[I", Cond.fieldLink RX9 30 "BarrierLightsModel" "greater" "[Z", Cond.fieldLink RX9 36 "BarrierLightsModel" "calls" "[Z", Cond.fieldLink RX9 39 "BarrierLightsModel" "walkCalls" "[Z", Cond.fieldLink RX9 58 "BarrierLightsModel" "darks" "[I", Cond.fieldLink RX9 61 "BarrierLightsModel" "went" "[Z", Cond.fieldLink RX9 64 "BarrierLightsModel" "yellows" "[I", Cond.methodLink RX9 152 yX9_stopRing, Cond.instanceMethod yX9_stopRing, Cond.selects RX9 yX9_stopRing yX9_stopRing, Cond.code yX9_stopRing cX9_stopRing 2 none, Cond.fieldLink RX9 67 "BarrierLightsModel" "state" "[I", Cond.fieldLink RX9 70 "BarrierLightsModel" "phase" "[I", Cond.fieldLink RX9 73 "BarrierLightsModel" "follows" "[I", Cond.fieldLink RX9 85 "BarrierLightsModel" "walker" "[I"]
def wsX9_enact : List Cond := .code yX9_enact cX9_enact 5 (some .int) :: ((wsX9_enact_r1 ++ wsX9_enact_r2) ++ wsX90)
def wsX9_called : List Cond := .code yX9_called cX9_called 3 (some .boolean) :: ([.fieldLink RX9 36 "BarrierLightsModel" "calls" "[Z", .fieldLink RX9 39 "BarrierLightsModel" "walkCalls" "[Z", .methodLink RX9 155 yX9_isGreen, .instanceMethod yX9_isGreen, .selects RX9 yX9_isGreen yX9_isGreen, .initialized RX9, .code yX9_isGreen cX9_isGreen 3 (some .boolean), .fieldLink RX9 67 "BarrierLightsModel" "state" "[I", .fieldLink RX9 70 "BarrierLightsModel" "phase" "[I", .methodLink RX9 126 yX9_ringOf, .static yX9_ringOf, .code yX9_ringOf cX9_ringOf 2 (some .int)] ++ wsX90)
def wsX9_calledOn : List Cond := .code yX9_calledOn cX9_calledOn 5 (some .boolean) :: ([.methodLink RX9 137 yX9_sideOf, .static yX9_sideOf, .initialized RX9, .code yX9_sideOf cX9_sideOf 1 (some .int), .methodLink RX9 158 yX9_called, .instanceMethod yX9_called, .selects RX9 yX9_called yX9_called, .code yX9_called cX9_called 3 (some .boolean), .fieldLink RX9 36 "BarrierLightsModel" "calls" "[Z", .fieldLink RX9 39 "BarrierLightsModel" "walkCalls" "[Z", .methodLink RX9 155 yX9_isGreen, .instanceMethod yX9_isGreen, .selects RX9 yX9_isGreen yX9_isGreen, .code yX9_isGreen cX9_isGreen 3 (some .boolean), .fieldLink RX9 67 "BarrierLightsModel" "state" "[I", .fieldLink RX9 70 "BarrierLightsModel" "phase" "[I", .methodLink RX9 126 yX9_ringOf, .static yX9_ringOf, .code yX9_ringOf cX9_ringOf 2 (some .int)] ++ wsX90)
def wsX9_needed : List Cond := .code yX9_needed cX9_needed 5 (some .boolean) :: ([.fieldLink RX9 27 "BarrierLightsModel" "side" "[I", .fieldLink RX9 67 "BarrierLightsModel" "state" "[I", .fieldLink RX9 70 "BarrierLightsModel" "phase" "[I", .methodLink RX9 161 yX9_calledOn, .instanceMethod yX9_calledOn, .selects RX9 yX9_calledOn yX9_calledOn, .initialized RX9, .code yX9_calledOn cX9_calledOn 5 (some .boolean), .methodLink RX9 137 yX9_sideOf, .static yX9_sideOf, .code yX9_sideOf cX9_sideOf 1 (some .int), .methodLink RX9 158 yX9_called, .instanceMethod yX9_called, .selects RX9 yX9_called yX9_called, .code yX9_called cX9_called 3 (some .boolean), .fieldLink RX9 36 "BarrierLightsModel" "calls" "[Z", .fieldLink RX9 39 "BarrierLightsModel" "walkCalls" "[Z", .methodLink RX9 155 yX9_isGreen, .instanceMethod yX9_isGreen, .selects RX9 yX9_isGreen yX9_isGreen, .code yX9_isGreen cX9_isGreen 3 (some .boolean), .methodLink RX9 126 yX9_ringOf, .static yX9_ringOf, .code yX9_ringOf cX9_ringOf 2 (some .int)] ++ wsX90)
def wsX9_forward : List Cond := .code yX9_forward cX9_forward 3 (some .int) :: ([.fieldLink RX9 67 "BarrierLightsModel" "state" "[I", .fieldLink RX9 70 "BarrierLightsModel" "phase" "[I", .methodLink RX9 158 yX9_called, .instanceMethod yX9_called, .selects RX9 yX9_called yX9_called, .initialized RX9, .code yX9_called cX9_called 3 (some .boolean), .fieldLink RX9 36 "BarrierLightsModel" "calls" "[Z", .fieldLink RX9 39 "BarrierLightsModel" "walkCalls" "[Z", .methodLink RX9 155 yX9_isGreen, .instanceMethod yX9_isGreen, .selects RX9 yX9_isGreen yX9_isGreen, .code yX9_isGreen cX9_isGreen 3 (some .boolean), .methodLink RX9 126 yX9_ringOf, .static yX9_ringOf, .code yX9_ringOf cX9_ringOf 2 (some .int)] ++ wsX90)
def wsX9_wanted_r1 : List Cond := [Cond.methodLink RX9 164 yX9_forward, Cond.instanceMethod yX9_forward, Cond.selects RX9 yX9_forward yX9_forward, Cond.initialized RX9, Cond.code yX9_forward cX9_forward 3 (some .int), Cond.fieldLink RX9 67 "BarrierLightsModel" "state" "[I", Cond.fieldLink RX9 70 "BarrierLightsModel" "phase" "[I", Cond.methodLink RX9 158 yX9_called, Cond.instanceMethod yX9_called, Cond.selects RX9 yX9_called yX9_called, Cond.code yX9_called cX9_called 3 (some .boolean), Cond.fieldLink RX9 36 "BarrierLightsModel" "calls" "[Z", Cond.fieldLink RX9 39 "BarrierLightsModel" "walkCalls" "[Z", Cond.methodLink RX9 155 yX9_isGreen, Cond.instanceMethod yX9_isGreen, Cond.selects RX9 yX9_isGreen yX9_isGreen, Cond.code yX9_isGreen cX9_isGreen 3 (some .boolean), Cond.methodLink RX9 126 yX9_ringOf, Cond.static yX9_ringOf, Cond.code yX9_ringOf cX9_ringOf 2 (some .int), Cond.methodLink RX9 167 yX9_needed, Cond.instanceMethod yX9_needed, Cond.selects RX9 yX9_needed yX9_needed, Cond.code yX9_needed cX9_needed 5 (some .boolean)]
def wsX9_wanted_r2 : List Cond := [Cond.fieldLink RX9 27 "BarrierLightsModel" "side" "[I", Cond.methodLink RX9 161 yX9_calledOn, Cond.instanceMethod yX9_calledOn, Cond.selects RX9 yX9_calledOn yX9_calledOn, Cond.code yX9_calledOn cX9_calledOn 5 (some .boolean), Cond.methodLink RX9 137 yX9_sideOf, Cond.static yX9_sideOf, Cond.code yX9_sideOf cX9_sideOf 1 (some .int)]
def wsX9_wanted : List Cond := .code yX9_wanted cX9_wanted 3 (some .boolean) :: ((wsX9_wanted_r1 ++ wsX9_wanted_r2) ++ wsX90)
def wsX9_inputOf : List Cond := .code yX9_inputOf cX9_inputOf 3 (some .int) :: ([.fieldLink RX9 94 "BarrierLightsModel" "inputs" "[Z", .fieldLink RX9 91 "BarrierLightsModel" "targets" "[I", .fieldLink RX9 33 "BarrierLightsModel" "used" "[Z"] ++ wsX90)
def wsX9_sense : List Cond := .code yX9_sense cX9_sense 3 none :: ([.fieldLink RX9 45 "BarrierLightsModel" "onTime" "[S", .fieldLink RX9 42 "BarrierLightsModel" "on" "[Z", .fieldLink RX9 48 "BarrierLightsModel" "occupied" "[F", .constantFloat RX9 170 (1063256064), .constantFloat RX9 171 (1040187392)] ++ wsX90)
def wsX9_link : List Cond := .code yX9_link cX9_link 5 none :: ([.fieldLink RX9 106 "BarrierLightsModel" "plan" "[I", .fieldLink RX9 112 "BarrierLightsModel" "silence" "[I", .fieldLink RX9 115 "BarrierLightsModel" "local" "[I", .fieldLink RX9 97 "BarrierLightsModel" "cycle" "[I", .fieldLink RX9 172 "BarrierLightsModel" "clock" "I", .fieldLink RX9 100 "BarrierLightsModel" "offset" "[I"] ++ wsX90)
def wsX9_passes : List Cond := .code yX9_passes cX9_passes 3 (some .boolean) :: ([.fieldLink RX9 42 "BarrierLightsModel" "on" "[Z", .methodLink RX9 175 yX9_failed, .instanceMethod yX9_failed, .selects RX9 yX9_failed yX9_failed, .initialized RX9, .code yX9_failed cX9_failed 3 (some .boolean), .fieldLink RX9 45 "BarrierLightsModel" "onTime" "[S"] ++ wsX90)
def wsX9_call_r1 : List Cond := [Cond.fieldLink RX9 33 "BarrierLightsModel" "used" "[Z", Cond.fieldLink RX9 82 "BarrierLightsModel" "gap" "[I", Cond.fieldLink RX9 42 "BarrierLightsModel" "on" "[Z", Cond.fieldLink RX9 36 "BarrierLightsModel" "calls" "[Z", Cond.fieldLink RX9 39 "BarrierLightsModel" "walkCalls" "[Z", Cond.methodLink RX9 144 yX9_entry, Cond.instanceMethod yX9_entry, Cond.selects RX9 yX9_entry yX9_entry, Cond.initialized RX9, Cond.code yX9_entry cX9_entry 4 (some .int), Cond.fieldLink RX9 13 "BarrierLightsModel" "table" "[S", Cond.methodLink RX9 155 yX9_isGreen, Cond.instanceMethod yX9_isGreen, Cond.selects RX9 yX9_isGreen yX9_isGreen, Cond.code yX9_isGreen cX9_isGreen 3 (some .boolean), Cond.fieldLink RX9 67 "BarrierLightsModel" "state" "[I", Cond.fieldLink RX9 70 "BarrierLightsModel" "phase" "[I", Cond.methodLink RX9 126 yX9_ringOf, Cond.static yX9_ringOf, Cond.code yX9_ringOf cX9_ringOf 2 (some .int), Cond.methodLink RX9 178 yX9_passes, Cond.instanceMethod yX9_passes, Cond.selects RX9 yX9_passes yX9_passes, Cond.code yX9_passes cX9_passes 3 (some .boolean)]
def wsX9_call_r2 : List Cond := [Cond.methodLink RX9 175 yX9_failed, Cond.instanceMethod yX9_failed, Cond.selects RX9 yX9_failed yX9_failed, Cond.code yX9_failed cX9_failed 3 (some .boolean), Cond.fieldLink RX9 45 "BarrierLightsModel" "onTime" "[S"]
def wsX9_call : List Cond := .code yX9_call cX9_call 6 none :: ((wsX9_call_r1 ++ wsX9_call_r2) ++ wsX90)
def wsX9_beginWalk : List Cond := .code yX9_beginWalk cX9_beginWalk 3 none :: ([.fieldLink RX9 85 "BarrierLightsModel" "walker" "[I", .fieldLink RX9 88 "BarrierLightsModel" "walked" "[I", .fieldLink RX9 39 "BarrierLightsModel" "walkCalls" "[Z", .fieldLink RX9 70 "BarrierLightsModel" "phase" "[I"] ++ wsX90)
def wsX9_begin_r1 : List Cond := [Cond.fieldLink RX9 67 "BarrierLightsModel" "state" "[I", Cond.fieldLink RX9 70 "BarrierLightsModel" "phase" "[I", Cond.fieldLink RX9 73 "BarrierLightsModel" "follows" "[I", Cond.fieldLink RX9 76 "BarrierLightsModel" "age" "[I", Cond.fieldLink RX9 36 "BarrierLightsModel" "calls" "[Z", Cond.fieldLink RX9 79 "BarrierLightsModel" "against" "[I", Cond.fieldLink RX9 82 "BarrierLightsModel" "gap" "[I", Cond.fieldLink RX9 85 "BarrierLightsModel" "walker" "[I", Cond.fieldLink RX9 39 "BarrierLightsModel" "walkCalls" "[Z", Cond.methodLink RX9 126 yX9_ringOf, Cond.static yX9_ringOf, Cond.initialized RX9, Cond.code yX9_ringOf cX9_ringOf 2 (some .int), Cond.methodLink RX9 178 yX9_passes, Cond.instanceMethod yX9_passes, Cond.selects RX9 yX9_passes yX9_passes, Cond.code yX9_passes cX9_passes 3 (some .boolean), Cond.fieldLink RX9 42 "BarrierLightsModel" "on" "[Z", Cond.methodLink RX9 175 yX9_failed, Cond.instanceMethod yX9_failed, Cond.selects RX9 yX9_failed yX9_failed, Cond.code yX9_failed cX9_failed 3 (some .boolean), Cond.fieldLink RX9 45 "BarrierLightsModel" "onTime" "[S", Cond.methodLink RX9 144 yX9_entry]
def wsX9_begin_r2 : List Cond := [Cond.instanceMethod yX9_entry, Cond.selects RX9 yX9_entry yX9_entry, Cond.code yX9_entry cX9_entry 4 (some .int), Cond.fieldLink RX9 13 "BarrierLightsModel" "table" "[S", Cond.methodLink RX9 181 yX9_beginWalk, Cond.instanceMethod yX9_beginWalk, Cond.selects RX9 yX9_beginWalk yX9_beginWalk, Cond.code yX9_beginWalk cX9_beginWalk 3 none, Cond.fieldLink RX9 88 "BarrierLightsModel" "walked" "[I"]
def wsX9_begin : List Cond := .code yX9_begin cX9_begin 4 none :: ((wsX9_begin_r1 ++ wsX9_begin_r2) ++ wsX90)
def wsX9_pace : List Cond := .code yX9_pace cX9_pace 4 none :: ([.fieldLink RX9 85 "BarrierLightsModel" "walker" "[I", .fieldLink RX9 88 "BarrierLightsModel" "walked" "[I", .fieldLink RX9 70 "BarrierLightsModel" "phase" "[I", .methodLink RX9 144 yX9_entry, .instanceMethod yX9_entry, .selects RX9 yX9_entry yX9_entry, .initialized RX9, .code yX9_entry cX9_entry 4 (some .int), .fieldLink RX9 13 "BarrierLightsModel" "table" "[S"] ++ wsX90)
def wsX9_grow_r1 : List Cond := [Cond.fieldLink RX9 67 "BarrierLightsModel" "state" "[I", Cond.fieldLink RX9 76 "BarrierLightsModel" "age" "[I", Cond.fieldLink RX9 79 "BarrierLightsModel" "against" "[I", Cond.fieldLink RX9 70 "BarrierLightsModel" "phase" "[I", Cond.fieldLink RX9 73 "BarrierLightsModel" "follows" "[I", Cond.methodLink RX9 185 yX9_pace, Cond.instanceMethod yX9_pace, Cond.selects RX9 yX9_pace yX9_pace, Cond.initialized RX9, Cond.code yX9_pace cX9_pace 4 none, Cond.fieldLink RX9 85 "BarrierLightsModel" "walker" "[I", Cond.fieldLink RX9 88 "BarrierLightsModel" "walked" "[I", Cond.methodLink RX9 144 yX9_entry, Cond.instanceMethod yX9_entry, Cond.selects RX9 yX9_entry yX9_entry, Cond.code yX9_entry cX9_entry 4 (some .int), Cond.fieldLink RX9 13 "BarrierLightsModel" "table" "[S", Cond.methodLink RX9 188 yX9_wanted, Cond.instanceMethod yX9_wanted, Cond.selects RX9 yX9_wanted yX9_wanted, Cond.code yX9_wanted cX9_wanted 3 (some .boolean), Cond.methodLink RX9 164 yX9_forward, Cond.instanceMethod yX9_forward, Cond.selects RX9 yX9_forward yX9_forward]
def wsX9_grow_r2 : List Cond := [Cond.code yX9_forward cX9_forward 3 (some .int), Cond.methodLink RX9 158 yX9_called, Cond.instanceMethod yX9_called, Cond.selects RX9 yX9_called yX9_called, Cond.code yX9_called cX9_called 3 (some .boolean), Cond.fieldLink RX9 36 "BarrierLightsModel" "calls" "[Z", Cond.fieldLink RX9 39 "BarrierLightsModel" "walkCalls" "[Z", Cond.methodLink RX9 155 yX9_isGreen, Cond.instanceMethod yX9_isGreen, Cond.selects RX9 yX9_isGreen yX9_isGreen, Cond.code yX9_isGreen cX9_isGreen 3 (some .boolean), Cond.methodLink RX9 126 yX9_ringOf, Cond.static yX9_ringOf, Cond.code yX9_ringOf cX9_ringOf 2 (some .int), Cond.methodLink RX9 167 yX9_needed, Cond.instanceMethod yX9_needed, Cond.selects RX9 yX9_needed yX9_needed, Cond.code yX9_needed cX9_needed 5 (some .boolean), Cond.fieldLink RX9 27 "BarrierLightsModel" "side" "[I", Cond.methodLink RX9 161 yX9_calledOn, Cond.instanceMethod yX9_calledOn, Cond.selects RX9 yX9_calledOn yX9_calledOn, Cond.code yX9_calledOn cX9_calledOn 5 (some .boolean), Cond.methodLink RX9 137 yX9_sideOf]
def wsX9_grow_r3 : List Cond := [Cond.static yX9_sideOf, Cond.code yX9_sideOf cX9_sideOf 1 (some .int), Cond.methodLink RX9 191 yX9_begin, Cond.instanceMethod yX9_begin, Cond.selects RX9 yX9_begin yX9_begin, Cond.code yX9_begin cX9_begin 4 none, Cond.fieldLink RX9 82 "BarrierLightsModel" "gap" "[I", Cond.methodLink RX9 178 yX9_passes, Cond.instanceMethod yX9_passes, Cond.selects RX9 yX9_passes yX9_passes, Cond.code yX9_passes cX9_passes 3 (some .boolean), Cond.fieldLink RX9 42 "BarrierLightsModel" "on" "[Z", Cond.methodLink RX9 175 yX9_failed, Cond.instanceMethod yX9_failed, Cond.selects RX9 yX9_failed yX9_failed, Cond.code yX9_failed cX9_failed 3 (some .boolean), Cond.fieldLink RX9 45 "BarrierLightsModel" "onTime" "[S", Cond.methodLink RX9 181 yX9_beginWalk, Cond.instanceMethod yX9_beginWalk, Cond.selects RX9 yX9_beginWalk yX9_beginWalk, Cond.code yX9_beginWalk cX9_beginWalk 3 none, Cond.methodLink RX9 152 yX9_stopRing, Cond.instanceMethod yX9_stopRing, Cond.selects RX9 yX9_stopRing yX9_stopRing]
def wsX9_grow_r4 : List Cond := [Cond.code yX9_stopRing cX9_stopRing 2 none]
def wsX9_grow : List Cond := .code yX9_grow cX9_grow 4 none :: ((wsX9_grow_r1 ++ (wsX9_grow_r2 ++ (wsX9_grow_r3 ++ wsX9_grow_r4))) ++ wsX90)
def wsX9_yellow : List Cond := .code yX9_yellow cX9_yellow 3 none :: ([.fieldLink RX9 67 "BarrierLightsModel" "state" "[I", .fieldLink RX9 76 "BarrierLightsModel" "age" "[I", .fieldLink RX9 73 "BarrierLightsModel" "follows" "[I"] ++ wsX90)
def wsX9_isEarly : List Cond := .code yX9_isEarly cX9_isEarly 2 (some .boolean) :: ([.fieldLink RX9 106 "BarrierLightsModel" "plan" "[I", .fieldLink RX9 115 "BarrierLightsModel" "local" "[I", .fieldLink RX9 103 "BarrierLightsModel" "split" "[I"] ++ wsX90)
def wsX9_plainDone_r1 : List Cond := [Cond.fieldLink RX9 67 "BarrierLightsModel" "state" "[I", Cond.fieldLink RX9 76 "BarrierLightsModel" "age" "[I", Cond.fieldLink RX9 70 "BarrierLightsModel" "phase" "[I", Cond.fieldLink RX9 85 "BarrierLightsModel" "walker" "[I", Cond.fieldLink RX9 82 "BarrierLightsModel" "gap" "[I", Cond.fieldLink RX9 79 "BarrierLightsModel" "against" "[I", Cond.fieldLink RX9 27 "BarrierLightsModel" "side" "[I", Cond.methodLink RX9 144 yX9_entry, Cond.instanceMethod yX9_entry, Cond.selects RX9 yX9_entry yX9_entry, Cond.initialized RX9, Cond.code yX9_entry cX9_entry 4 (some .int), Cond.fieldLink RX9 13 "BarrierLightsModel" "table" "[S", Cond.methodLink RX9 188 yX9_wanted, Cond.instanceMethod yX9_wanted, Cond.selects RX9 yX9_wanted yX9_wanted, Cond.code yX9_wanted cX9_wanted 3 (some .boolean), Cond.methodLink RX9 164 yX9_forward, Cond.instanceMethod yX9_forward, Cond.selects RX9 yX9_forward yX9_forward, Cond.code yX9_forward cX9_forward 3 (some .int), Cond.methodLink RX9 158 yX9_called, Cond.instanceMethod yX9_called, Cond.selects RX9 yX9_called yX9_called]
def wsX9_plainDone_r2 : List Cond := [Cond.code yX9_called cX9_called 3 (some .boolean), Cond.fieldLink RX9 36 "BarrierLightsModel" "calls" "[Z", Cond.fieldLink RX9 39 "BarrierLightsModel" "walkCalls" "[Z", Cond.methodLink RX9 155 yX9_isGreen, Cond.instanceMethod yX9_isGreen, Cond.selects RX9 yX9_isGreen yX9_isGreen, Cond.code yX9_isGreen cX9_isGreen 3 (some .boolean), Cond.methodLink RX9 126 yX9_ringOf, Cond.static yX9_ringOf, Cond.code yX9_ringOf cX9_ringOf 2 (some .int), Cond.methodLink RX9 167 yX9_needed, Cond.instanceMethod yX9_needed, Cond.selects RX9 yX9_needed yX9_needed, Cond.code yX9_needed cX9_needed 5 (some .boolean), Cond.methodLink RX9 161 yX9_calledOn, Cond.instanceMethod yX9_calledOn, Cond.selects RX9 yX9_calledOn yX9_calledOn, Cond.code yX9_calledOn cX9_calledOn 5 (some .boolean), Cond.methodLink RX9 137 yX9_sideOf, Cond.static yX9_sideOf, Cond.code yX9_sideOf cX9_sideOf 1 (some .int), Cond.methodLink RX9 194 yX9_isEarly, Cond.instanceMethod yX9_isEarly, Cond.selects RX9 yX9_isEarly yX9_isEarly]
def wsX9_plainDone_r3 : List Cond := [Cond.code yX9_isEarly cX9_isEarly 2 (some .boolean), Cond.fieldLink RX9 106 "BarrierLightsModel" "plan" "[I", Cond.fieldLink RX9 115 "BarrierLightsModel" "local" "[I", Cond.fieldLink RX9 103 "BarrierLightsModel" "split" "[I"]
def wsX9_plainDone : List Cond := .code yX9_plainDone cX9_plainDone 3 (some .boolean) :: ((wsX9_plainDone_r1 ++ (wsX9_plainDone_r2 ++ wsX9_plainDone_r3)) ++ wsX90)
def wsX9_goal : List Cond := .code yX9_goal cX9_goal 5 (some .int) :: ([.fieldLink RX9 33 "BarrierLightsModel" "used" "[Z"] ++ wsX90)
def wsX9_greaterDone : List Cond := .code yX9_greaterDone cX9_greaterDone 4 (some .boolean) :: ([.fieldLink RX9 67 "BarrierLightsModel" "state" "[I", .fieldLink RX9 70 "BarrierLightsModel" "phase" "[I", .fieldLink RX9 76 "BarrierLightsModel" "age" "[I", .fieldLink RX9 85 "BarrierLightsModel" "walker" "[I", .methodLink RX9 197 yX9_goal, .instanceMethod yX9_goal, .selects RX9 yX9_goal yX9_goal, .initialized RX9, .code yX9_goal cX9_goal 5 (some .int), .fieldLink RX9 33 "BarrierLightsModel" "used" "[Z", .methodLink RX9 144 yX9_entry, .instanceMethod yX9_entry, .selects RX9 yX9_entry yX9_entry, .code yX9_entry cX9_entry 4 (some .int), .fieldLink RX9 13 "BarrierLightsModel" "table" "[S"] ++ wsX90)
def wsX9_empty_r1 : List Cond := [Cond.fieldLink RX9 67 "BarrierLightsModel" "state" "[I", Cond.methodLink RX9 200 yX9_plainDone, Cond.instanceMethod yX9_plainDone, Cond.selects RX9 yX9_plainDone yX9_plainDone, Cond.initialized RX9, Cond.code yX9_plainDone cX9_plainDone 3 (some .boolean), Cond.fieldLink RX9 76 "BarrierLightsModel" "age" "[I", Cond.fieldLink RX9 70 "BarrierLightsModel" "phase" "[I", Cond.fieldLink RX9 85 "BarrierLightsModel" "walker" "[I", Cond.fieldLink RX9 82 "BarrierLightsModel" "gap" "[I", Cond.fieldLink RX9 79 "BarrierLightsModel" "against" "[I", Cond.fieldLink RX9 27 "BarrierLightsModel" "side" "[I", Cond.methodLink RX9 144 yX9_entry, Cond.instanceMethod yX9_entry, Cond.selects RX9 yX9_entry yX9_entry, Cond.code yX9_entry cX9_entry 4 (some .int), Cond.fieldLink RX9 13 "BarrierLightsModel" "table" "[S", Cond.methodLink RX9 188 yX9_wanted, Cond.instanceMethod yX9_wanted, Cond.selects RX9 yX9_wanted yX9_wanted, Cond.code yX9_wanted cX9_wanted 3 (some .boolean), Cond.methodLink RX9 164 yX9_forward, Cond.instanceMethod yX9_forward, Cond.selects RX9 yX9_forward yX9_forward]
def wsX9_empty_r2 : List Cond := [Cond.code yX9_forward cX9_forward 3 (some .int), Cond.methodLink RX9 158 yX9_called, Cond.instanceMethod yX9_called, Cond.selects RX9 yX9_called yX9_called, Cond.code yX9_called cX9_called 3 (some .boolean), Cond.fieldLink RX9 36 "BarrierLightsModel" "calls" "[Z", Cond.fieldLink RX9 39 "BarrierLightsModel" "walkCalls" "[Z", Cond.methodLink RX9 155 yX9_isGreen, Cond.instanceMethod yX9_isGreen, Cond.selects RX9 yX9_isGreen yX9_isGreen, Cond.code yX9_isGreen cX9_isGreen 3 (some .boolean), Cond.methodLink RX9 126 yX9_ringOf, Cond.static yX9_ringOf, Cond.code yX9_ringOf cX9_ringOf 2 (some .int), Cond.methodLink RX9 167 yX9_needed, Cond.instanceMethod yX9_needed, Cond.selects RX9 yX9_needed yX9_needed, Cond.code yX9_needed cX9_needed 5 (some .boolean), Cond.methodLink RX9 161 yX9_calledOn, Cond.instanceMethod yX9_calledOn, Cond.selects RX9 yX9_calledOn yX9_calledOn, Cond.code yX9_calledOn cX9_calledOn 5 (some .boolean), Cond.methodLink RX9 137 yX9_sideOf, Cond.static yX9_sideOf]
def wsX9_empty_r3 : List Cond := [Cond.code yX9_sideOf cX9_sideOf 1 (some .int), Cond.methodLink RX9 194 yX9_isEarly, Cond.instanceMethod yX9_isEarly, Cond.selects RX9 yX9_isEarly yX9_isEarly, Cond.code yX9_isEarly cX9_isEarly 2 (some .boolean), Cond.fieldLink RX9 106 "BarrierLightsModel" "plan" "[I", Cond.fieldLink RX9 115 "BarrierLightsModel" "local" "[I", Cond.fieldLink RX9 103 "BarrierLightsModel" "split" "[I", Cond.methodLink RX9 203 yX9_greaterDone, Cond.instanceMethod yX9_greaterDone, Cond.selects RX9 yX9_greaterDone yX9_greaterDone, Cond.code yX9_greaterDone cX9_greaterDone 4 (some .boolean), Cond.methodLink RX9 197 yX9_goal, Cond.instanceMethod yX9_goal, Cond.selects RX9 yX9_goal yX9_goal, Cond.code yX9_goal cX9_goal 5 (some .int), Cond.fieldLink RX9 33 "BarrierLightsModel" "used" "[Z", Cond.methodLink RX9 207 yX9_yellow, Cond.instanceMethod yX9_yellow, Cond.selects RX9 yX9_yellow yX9_yellow, Cond.code yX9_yellow cX9_yellow 3 none, Cond.fieldLink RX9 73 "BarrierLightsModel" "follows" "[I"]
def wsX9_empty : List Cond := .code yX9_empty cX9_empty 6 none :: ((wsX9_empty_r1 ++ (wsX9_empty_r2 ++ wsX9_empty_r3)) ++ wsX90)
def wsX9_bothWait : List Cond := .code yX9_bothWait cX9_bothWait 2 (some .boolean) :: ([.fieldLink RX9 67 "BarrierLightsModel" "state" "[I"] ++ wsX90)
def wsX9_cross_r1 : List Cond := [Cond.fieldLink RX9 27 "BarrierLightsModel" "side" "[I", Cond.fieldLink RX9 33 "BarrierLightsModel" "used" "[Z", Cond.methodLink RX9 161 yX9_calledOn, Cond.instanceMethod yX9_calledOn, Cond.selects RX9 yX9_calledOn yX9_calledOn, Cond.initialized RX9, Cond.code yX9_calledOn cX9_calledOn 5 (some .boolean), Cond.methodLink RX9 137 yX9_sideOf, Cond.static yX9_sideOf, Cond.code yX9_sideOf cX9_sideOf 1 (some .int), Cond.methodLink RX9 158 yX9_called, Cond.instanceMethod yX9_called, Cond.selects RX9 yX9_called yX9_called, Cond.code yX9_called cX9_called 3 (some .boolean), Cond.fieldLink RX9 36 "BarrierLightsModel" "calls" "[Z", Cond.fieldLink RX9 39 "BarrierLightsModel" "walkCalls" "[Z", Cond.methodLink RX9 155 yX9_isGreen, Cond.instanceMethod yX9_isGreen, Cond.selects RX9 yX9_isGreen yX9_isGreen, Cond.code yX9_isGreen cX9_isGreen 3 (some .boolean), Cond.fieldLink RX9 67 "BarrierLightsModel" "state" "[I", Cond.fieldLink RX9 70 "BarrierLightsModel" "phase" "[I", Cond.methodLink RX9 126 yX9_ringOf, Cond.static yX9_ringOf]
def wsX9_cross_r2 : List Cond := [Cond.code yX9_ringOf cX9_ringOf 2 (some .int), Cond.methodLink RX9 191 yX9_begin, Cond.instanceMethod yX9_begin, Cond.selects RX9 yX9_begin yX9_begin, Cond.code yX9_begin cX9_begin 4 none, Cond.fieldLink RX9 73 "BarrierLightsModel" "follows" "[I", Cond.fieldLink RX9 76 "BarrierLightsModel" "age" "[I", Cond.fieldLink RX9 79 "BarrierLightsModel" "against" "[I", Cond.fieldLink RX9 82 "BarrierLightsModel" "gap" "[I", Cond.fieldLink RX9 85 "BarrierLightsModel" "walker" "[I", Cond.methodLink RX9 178 yX9_passes, Cond.instanceMethod yX9_passes, Cond.selects RX9 yX9_passes yX9_passes, Cond.code yX9_passes cX9_passes 3 (some .boolean), Cond.fieldLink RX9 42 "BarrierLightsModel" "on" "[Z", Cond.methodLink RX9 175 yX9_failed, Cond.instanceMethod yX9_failed, Cond.selects RX9 yX9_failed yX9_failed, Cond.code yX9_failed cX9_failed 3 (some .boolean), Cond.fieldLink RX9 45 "BarrierLightsModel" "onTime" "[S", Cond.methodLink RX9 144 yX9_entry, Cond.instanceMethod yX9_entry, Cond.selects RX9 yX9_entry yX9_entry, Cond.code yX9_entry cX9_entry 4 (some .int)]
def wsX9_cross_r3 : List Cond := [Cond.fieldLink RX9 13 "BarrierLightsModel" "table" "[S", Cond.methodLink RX9 181 yX9_beginWalk, Cond.instanceMethod yX9_beginWalk, Cond.selects RX9 yX9_beginWalk yX9_beginWalk, Cond.code yX9_beginWalk cX9_beginWalk 3 none, Cond.fieldLink RX9 88 "BarrierLightsModel" "walked" "[I"]
def wsX9_cross : List Cond := .code yX9_cross cX9_cross 5 none :: ((wsX9_cross_r1 ++ (wsX9_cross_r2 ++ wsX9_cross_r3)) ++ wsX90)
def wsX9_actPlain_r1 : List Cond := [Cond.fieldLink RX9 67 "BarrierLightsModel" "state" "[I", Cond.fieldLink RX9 39 "BarrierLightsModel" "walkCalls" "[Z", Cond.fieldLink RX9 70 "BarrierLightsModel" "phase" "[I", Cond.fieldLink RX9 85 "BarrierLightsModel" "walker" "[I", Cond.fieldLink RX9 27 "BarrierLightsModel" "side" "[I", Cond.methodLink RX9 188 yX9_wanted, Cond.instanceMethod yX9_wanted, Cond.selects RX9 yX9_wanted yX9_wanted, Cond.initialized RX9, Cond.code yX9_wanted cX9_wanted 3 (some .boolean), Cond.methodLink RX9 164 yX9_forward, Cond.instanceMethod yX9_forward, Cond.selects RX9 yX9_forward yX9_forward, Cond.code yX9_forward cX9_forward 3 (some .int), Cond.methodLink RX9 158 yX9_called, Cond.instanceMethod yX9_called, Cond.selects RX9 yX9_called yX9_called, Cond.code yX9_called cX9_called 3 (some .boolean), Cond.fieldLink RX9 36 "BarrierLightsModel" "calls" "[Z", Cond.methodLink RX9 155 yX9_isGreen, Cond.instanceMethod yX9_isGreen, Cond.selects RX9 yX9_isGreen yX9_isGreen, Cond.code yX9_isGreen cX9_isGreen 3 (some .boolean), Cond.methodLink RX9 126 yX9_ringOf]
def wsX9_actPlain_r2 : List Cond := [Cond.static yX9_ringOf, Cond.code yX9_ringOf cX9_ringOf 2 (some .int), Cond.methodLink RX9 167 yX9_needed, Cond.instanceMethod yX9_needed, Cond.selects RX9 yX9_needed yX9_needed, Cond.code yX9_needed cX9_needed 5 (some .boolean), Cond.methodLink RX9 161 yX9_calledOn, Cond.instanceMethod yX9_calledOn, Cond.selects RX9 yX9_calledOn yX9_calledOn, Cond.code yX9_calledOn cX9_calledOn 5 (some .boolean), Cond.methodLink RX9 137 yX9_sideOf, Cond.static yX9_sideOf, Cond.code yX9_sideOf cX9_sideOf 1 (some .int), Cond.methodLink RX9 181 yX9_beginWalk, Cond.instanceMethod yX9_beginWalk, Cond.selects RX9 yX9_beginWalk yX9_beginWalk, Cond.code yX9_beginWalk cX9_beginWalk 3 none, Cond.fieldLink RX9 88 "BarrierLightsModel" "walked" "[I", Cond.methodLink RX9 200 yX9_plainDone, Cond.instanceMethod yX9_plainDone, Cond.selects RX9 yX9_plainDone yX9_plainDone, Cond.code yX9_plainDone cX9_plainDone 3 (some .boolean), Cond.fieldLink RX9 76 "BarrierLightsModel" "age" "[I", Cond.fieldLink RX9 82 "BarrierLightsModel" "gap" "[I"]
def wsX9_actPlain_r3 : List Cond := [Cond.fieldLink RX9 79 "BarrierLightsModel" "against" "[I", Cond.methodLink RX9 144 yX9_entry, Cond.instanceMethod yX9_entry, Cond.selects RX9 yX9_entry yX9_entry, Cond.code yX9_entry cX9_entry 4 (some .int), Cond.fieldLink RX9 13 "BarrierLightsModel" "table" "[S", Cond.methodLink RX9 194 yX9_isEarly, Cond.instanceMethod yX9_isEarly, Cond.selects RX9 yX9_isEarly yX9_isEarly, Cond.code yX9_isEarly cX9_isEarly 2 (some .boolean), Cond.fieldLink RX9 106 "BarrierLightsModel" "plan" "[I", Cond.fieldLink RX9 115 "BarrierLightsModel" "local" "[I", Cond.fieldLink RX9 103 "BarrierLightsModel" "split" "[I", Cond.methodLink RX9 207 yX9_yellow, Cond.instanceMethod yX9_yellow, Cond.selects RX9 yX9_yellow yX9_yellow, Cond.code yX9_yellow cX9_yellow 3 none, Cond.fieldLink RX9 73 "BarrierLightsModel" "follows" "[I", Cond.methodLink RX9 210 yX9_empty, Cond.instanceMethod yX9_empty, Cond.selects RX9 yX9_empty yX9_empty, Cond.code yX9_empty cX9_empty 6 none, Cond.methodLink RX9 203 yX9_greaterDone, Cond.instanceMethod yX9_greaterDone]
def wsX9_actPlain_r4 : List Cond := [Cond.selects RX9 yX9_greaterDone yX9_greaterDone, Cond.code yX9_greaterDone cX9_greaterDone 4 (some .boolean), Cond.methodLink RX9 197 yX9_goal, Cond.instanceMethod yX9_goal, Cond.selects RX9 yX9_goal yX9_goal, Cond.code yX9_goal cX9_goal 5 (some .int), Cond.fieldLink RX9 33 "BarrierLightsModel" "used" "[Z", Cond.methodLink RX9 213 yX9_bothWait, Cond.instanceMethod yX9_bothWait, Cond.selects RX9 yX9_bothWait yX9_bothWait, Cond.code yX9_bothWait cX9_bothWait 2 (some .boolean), Cond.methodLink RX9 216 yX9_cross, Cond.instanceMethod yX9_cross, Cond.selects RX9 yX9_cross yX9_cross, Cond.code yX9_cross cX9_cross 5 none, Cond.methodLink RX9 191 yX9_begin, Cond.instanceMethod yX9_begin, Cond.selects RX9 yX9_begin yX9_begin, Cond.code yX9_begin cX9_begin 4 none, Cond.methodLink RX9 178 yX9_passes, Cond.instanceMethod yX9_passes, Cond.selects RX9 yX9_passes yX9_passes, Cond.code yX9_passes cX9_passes 3 (some .boolean), Cond.fieldLink RX9 42 "BarrierLightsModel" "on" "[Z"]
def wsX9_actPlain_r5 : List Cond := [Cond.methodLink RX9 175 yX9_failed, Cond.instanceMethod yX9_failed, Cond.selects RX9 yX9_failed yX9_failed, Cond.code yX9_failed cX9_failed 3 (some .boolean), Cond.fieldLink RX9 45 "BarrierLightsModel" "onTime" "[S"]
def wsX9_actPlain : List Cond := .code yX9_actPlain cX9_actPlain 3 none :: ((wsX9_actPlain_r1 ++ (wsX9_actPlain_r2 ++ (wsX9_actPlain_r3 ++ (wsX9_actPlain_r4 ++ wsX9_actPlain_r5)))) ++ wsX90)
def wsX9_actGreater_r1 : List Cond := [Cond.fieldLink RX9 85 "BarrierLightsModel" "walker" "[I", Cond.fieldLink RX9 88 "BarrierLightsModel" "walked" "[I", Cond.fieldLink RX9 27 "BarrierLightsModel" "side" "[I", Cond.fieldLink RX9 67 "BarrierLightsModel" "state" "[I", Cond.methodLink RX9 137 yX9_sideOf, Cond.static yX9_sideOf, Cond.initialized RX9, Cond.code yX9_sideOf cX9_sideOf 1 (some .int), Cond.methodLink RX9 203 yX9_greaterDone, Cond.instanceMethod yX9_greaterDone, Cond.selects RX9 yX9_greaterDone yX9_greaterDone, Cond.code yX9_greaterDone cX9_greaterDone 4 (some .boolean), Cond.fieldLink RX9 70 "BarrierLightsModel" "phase" "[I", Cond.fieldLink RX9 76 "BarrierLightsModel" "age" "[I", Cond.methodLink RX9 197 yX9_goal, Cond.instanceMethod yX9_goal, Cond.selects RX9 yX9_goal yX9_goal, Cond.code yX9_goal cX9_goal 5 (some .int), Cond.fieldLink RX9 33 "BarrierLightsModel" "used" "[Z", Cond.methodLink RX9 144 yX9_entry, Cond.instanceMethod yX9_entry, Cond.selects RX9 yX9_entry yX9_entry, Cond.code yX9_entry cX9_entry 4 (some .int), Cond.fieldLink RX9 13 "BarrierLightsModel" "table" "[S"]
def wsX9_actGreater_r2 : List Cond := [Cond.methodLink RX9 207 yX9_yellow, Cond.instanceMethod yX9_yellow, Cond.selects RX9 yX9_yellow yX9_yellow, Cond.code yX9_yellow cX9_yellow 3 none, Cond.fieldLink RX9 73 "BarrierLightsModel" "follows" "[I", Cond.methodLink RX9 210 yX9_empty, Cond.instanceMethod yX9_empty, Cond.selects RX9 yX9_empty yX9_empty, Cond.code yX9_empty cX9_empty 6 none, Cond.methodLink RX9 200 yX9_plainDone, Cond.instanceMethod yX9_plainDone, Cond.selects RX9 yX9_plainDone yX9_plainDone, Cond.code yX9_plainDone cX9_plainDone 3 (some .boolean), Cond.fieldLink RX9 82 "BarrierLightsModel" "gap" "[I", Cond.fieldLink RX9 79 "BarrierLightsModel" "against" "[I", Cond.methodLink RX9 188 yX9_wanted, Cond.instanceMethod yX9_wanted, Cond.selects RX9 yX9_wanted yX9_wanted, Cond.code yX9_wanted cX9_wanted 3 (some .boolean), Cond.methodLink RX9 164 yX9_forward, Cond.instanceMethod yX9_forward, Cond.selects RX9 yX9_forward yX9_forward, Cond.code yX9_forward cX9_forward 3 (some .int), Cond.methodLink RX9 158 yX9_called]
def wsX9_actGreater_r3 : List Cond := [Cond.instanceMethod yX9_called, Cond.selects RX9 yX9_called yX9_called, Cond.code yX9_called cX9_called 3 (some .boolean), Cond.fieldLink RX9 36 "BarrierLightsModel" "calls" "[Z", Cond.fieldLink RX9 39 "BarrierLightsModel" "walkCalls" "[Z", Cond.methodLink RX9 155 yX9_isGreen, Cond.instanceMethod yX9_isGreen, Cond.selects RX9 yX9_isGreen yX9_isGreen, Cond.code yX9_isGreen cX9_isGreen 3 (some .boolean), Cond.methodLink RX9 126 yX9_ringOf, Cond.static yX9_ringOf, Cond.code yX9_ringOf cX9_ringOf 2 (some .int), Cond.methodLink RX9 167 yX9_needed, Cond.instanceMethod yX9_needed, Cond.selects RX9 yX9_needed yX9_needed, Cond.code yX9_needed cX9_needed 5 (some .boolean), Cond.methodLink RX9 161 yX9_calledOn, Cond.instanceMethod yX9_calledOn, Cond.selects RX9 yX9_calledOn yX9_calledOn, Cond.code yX9_calledOn cX9_calledOn 5 (some .boolean), Cond.methodLink RX9 194 yX9_isEarly, Cond.instanceMethod yX9_isEarly, Cond.selects RX9 yX9_isEarly yX9_isEarly, Cond.code yX9_isEarly cX9_isEarly 2 (some .boolean)]
def wsX9_actGreater_r4 : List Cond := [Cond.fieldLink RX9 106 "BarrierLightsModel" "plan" "[I", Cond.fieldLink RX9 115 "BarrierLightsModel" "local" "[I", Cond.fieldLink RX9 103 "BarrierLightsModel" "split" "[I", Cond.methodLink RX9 213 yX9_bothWait, Cond.instanceMethod yX9_bothWait, Cond.selects RX9 yX9_bothWait yX9_bothWait, Cond.code yX9_bothWait cX9_bothWait 2 (some .boolean), Cond.methodLink RX9 191 yX9_begin, Cond.instanceMethod yX9_begin, Cond.selects RX9 yX9_begin yX9_begin, Cond.code yX9_begin cX9_begin 4 none, Cond.methodLink RX9 178 yX9_passes, Cond.instanceMethod yX9_passes, Cond.selects RX9 yX9_passes yX9_passes, Cond.code yX9_passes cX9_passes 3 (some .boolean), Cond.fieldLink RX9 42 "BarrierLightsModel" "on" "[Z", Cond.methodLink RX9 175 yX9_failed, Cond.instanceMethod yX9_failed, Cond.selects RX9 yX9_failed yX9_failed, Cond.code yX9_failed cX9_failed 3 (some .boolean), Cond.fieldLink RX9 45 "BarrierLightsModel" "onTime" "[S", Cond.methodLink RX9 181 yX9_beginWalk, Cond.instanceMethod yX9_beginWalk, Cond.selects RX9 yX9_beginWalk yX9_beginWalk]
def wsX9_actGreater_r5 : List Cond := [Cond.code yX9_beginWalk cX9_beginWalk 3 none]
def wsX9_actGreater : List Cond := .code yX9_actGreater cX9_actGreater 5 none :: ((wsX9_actGreater_r1 ++ (wsX9_actGreater_r2 ++ (wsX9_actGreater_r3 ++ (wsX9_actGreater_r4 ++ wsX9_actGreater_r5)))) ++ wsX90)
def wsX9_lampsOf : List Cond := .code yX9_lampsOf cX9_lampsOf 6 (some .int) :: ([.fieldLink RX9 33 "BarrierLightsModel" "used" "[Z", .fieldLink RX9 67 "BarrierLightsModel" "state" "[I", .fieldLink RX9 70 "BarrierLightsModel" "phase" "[I", .fieldLink RX9 52 "BarrierLightsModel" "faults" "[I", .methodLink RX9 126 yX9_ringOf, .static yX9_ringOf, .initialized RX9, .code yX9_ringOf cX9_ringOf 2 (some .int)] ++ wsX90)
def wsX9_conflict : List Cond := .code yX9_conflict cX9_conflict 5 (some .boolean) :: ([.fieldLink RX9 55 "BarrierLightsModel" "shown" "[I", .methodLink RX9 137 yX9_sideOf, .static yX9_sideOf, .initialized RX9, .code yX9_sideOf cX9_sideOf 1 (some .int)] ++ wsX90)
def wsX9_dark : List Cond := .code yX9_dark cX9_dark 4 (some .boolean) :: ([.fieldLink RX9 58 "BarrierLightsModel" "darks" "[I", .fieldLink RX9 33 "BarrierLightsModel" "used" "[Z", .fieldLink RX9 55 "BarrierLightsModel" "shown" "[I"] ++ wsX90)
def wsX9_tooShort : List Cond := .code yX9_tooShort cX9_tooShort 5 (some .boolean) :: ([.fieldLink RX9 55 "BarrierLightsModel" "shown" "[I", .fieldLink RX9 64 "BarrierLightsModel" "yellows" "[I", .fieldLink RX9 61 "BarrierLightsModel" "went" "[Z"] ++ wsX90)
def wsX9_watch_r1 : List Cond := [Cond.fieldLink RX9 55 "BarrierLightsModel" "shown" "[I", Cond.fieldLink RX9 24 "BarrierLightsModel" "why" "[I", Cond.fieldLink RX9 36 "BarrierLightsModel" "calls" "[Z", Cond.fieldLink RX9 39 "BarrierLightsModel" "walkCalls" "[Z", Cond.methodLink RX9 219 yX9_lampsOf, Cond.instanceMethod yX9_lampsOf, Cond.selects RX9 yX9_lampsOf yX9_lampsOf, Cond.initialized RX9, Cond.code yX9_lampsOf cX9_lampsOf 6 (some .int), Cond.fieldLink RX9 33 "BarrierLightsModel" "used" "[Z", Cond.fieldLink RX9 67 "BarrierLightsModel" "state" "[I", Cond.fieldLink RX9 70 "BarrierLightsModel" "phase" "[I", Cond.fieldLink RX9 52 "BarrierLightsModel" "faults" "[I", Cond.methodLink RX9 126 yX9_ringOf, Cond.static yX9_ringOf, Cond.code yX9_ringOf cX9_ringOf 2 (some .int), Cond.methodLink RX9 222 yX9_dark, Cond.instanceMethod yX9_dark, Cond.selects RX9 yX9_dark yX9_dark, Cond.code yX9_dark cX9_dark 4 (some .boolean), Cond.fieldLink RX9 58 "BarrierLightsModel" "darks" "[I", Cond.methodLink RX9 225 yX9_tooShort, Cond.instanceMethod yX9_tooShort, Cond.selects RX9 yX9_tooShort yX9_tooShort]
def wsX9_watch_r2 : List Cond := [Cond.code yX9_tooShort cX9_tooShort 5 (some .boolean), Cond.fieldLink RX9 64 "BarrierLightsModel" "yellows" "[I", Cond.fieldLink RX9 61 "BarrierLightsModel" "went" "[Z", Cond.methodLink RX9 228 yX9_conflict, Cond.instanceMethod yX9_conflict, Cond.selects RX9 yX9_conflict yX9_conflict, Cond.code yX9_conflict cX9_conflict 5 (some .boolean), Cond.methodLink RX9 137 yX9_sideOf, Cond.static yX9_sideOf, Cond.code yX9_sideOf cX9_sideOf 1 (some .int), Cond.methodLink RX9 152 yX9_stopRing, Cond.instanceMethod yX9_stopRing, Cond.selects RX9 yX9_stopRing yX9_stopRing, Cond.code yX9_stopRing cX9_stopRing 2 none, Cond.fieldLink RX9 73 "BarrierLightsModel" "follows" "[I", Cond.fieldLink RX9 85 "BarrierLightsModel" "walker" "[I"]
def wsX9_watch : List Cond := .code yX9_watch cX9_watch 5 none :: ((wsX9_watch_r1 ++ wsX9_watch_r2) ++ wsX90)
def wsX9_step_r1 : List Cond := [Cond.fieldLink RX9 30 "BarrierLightsModel" "greater" "[Z", Cond.fieldLink RX9 33 "BarrierLightsModel" "used" "[Z", Cond.fieldLink RX9 36 "BarrierLightsModel" "calls" "[Z", Cond.fieldLink RX9 91 "BarrierLightsModel" "targets" "[I", Cond.methodLink RX9 231 yX9_sense, Cond.instanceMethod yX9_sense, Cond.selects RX9 yX9_sense yX9_sense, Cond.initialized RX9, Cond.code yX9_sense cX9_sense 3 none, Cond.fieldLink RX9 45 "BarrierLightsModel" "onTime" "[S", Cond.fieldLink RX9 42 "BarrierLightsModel" "on" "[Z", Cond.fieldLink RX9 48 "BarrierLightsModel" "occupied" "[F", Cond.constantFloat RX9 170 (1063256064), Cond.constantFloat RX9 171 (1040187392), Cond.methodLink RX9 234 yX9_link, Cond.instanceMethod yX9_link, Cond.selects RX9 yX9_link yX9_link, Cond.code yX9_link cX9_link 5 none, Cond.fieldLink RX9 106 "BarrierLightsModel" "plan" "[I", Cond.fieldLink RX9 112 "BarrierLightsModel" "silence" "[I", Cond.fieldLink RX9 115 "BarrierLightsModel" "local" "[I", Cond.fieldLink RX9 97 "BarrierLightsModel" "cycle" "[I", Cond.fieldLink RX9 172 "BarrierLightsModel" "clock" "I", Cond.fieldLink RX9 100 "BarrierLightsModel" "offset" "[I"]
def wsX9_step_r2 : List Cond := [Cond.methodLink RX9 237 yX9_runs, Cond.instanceMethod yX9_runs, Cond.selects RX9 yX9_runs yX9_runs, Cond.code yX9_runs cX9_runs 2 (some .boolean), Cond.fieldLink RX9 20 "BarrierLightsModel" "off" "[Z", Cond.fieldLink RX9 24 "BarrierLightsModel" "why" "[I", Cond.methodLink RX9 240 yX9_inputOf, Cond.instanceMethod yX9_inputOf, Cond.selects RX9 yX9_inputOf yX9_inputOf, Cond.code yX9_inputOf cX9_inputOf 3 (some .int), Cond.fieldLink RX9 94 "BarrierLightsModel" "inputs" "[Z", Cond.methodLink RX9 243 yX9_call, Cond.instanceMethod yX9_call, Cond.selects RX9 yX9_call yX9_call, Cond.code yX9_call cX9_call 6 none, Cond.fieldLink RX9 82 "BarrierLightsModel" "gap" "[I", Cond.fieldLink RX9 39 "BarrierLightsModel" "walkCalls" "[Z", Cond.methodLink RX9 144 yX9_entry, Cond.instanceMethod yX9_entry, Cond.selects RX9 yX9_entry yX9_entry, Cond.code yX9_entry cX9_entry 4 (some .int), Cond.fieldLink RX9 13 "BarrierLightsModel" "table" "[S", Cond.methodLink RX9 155 yX9_isGreen, Cond.instanceMethod yX9_isGreen]
def wsX9_step_r3 : List Cond := [Cond.selects RX9 yX9_isGreen yX9_isGreen, Cond.code yX9_isGreen cX9_isGreen 3 (some .boolean), Cond.fieldLink RX9 67 "BarrierLightsModel" "state" "[I", Cond.fieldLink RX9 70 "BarrierLightsModel" "phase" "[I", Cond.methodLink RX9 126 yX9_ringOf, Cond.static yX9_ringOf, Cond.code yX9_ringOf cX9_ringOf 2 (some .int), Cond.methodLink RX9 178 yX9_passes, Cond.instanceMethod yX9_passes, Cond.selects RX9 yX9_passes yX9_passes, Cond.code yX9_passes cX9_passes 3 (some .boolean), Cond.methodLink RX9 175 yX9_failed, Cond.instanceMethod yX9_failed, Cond.selects RX9 yX9_failed yX9_failed, Cond.code yX9_failed cX9_failed 3 (some .boolean), Cond.methodLink RX9 246 yX9_grow, Cond.instanceMethod yX9_grow, Cond.selects RX9 yX9_grow yX9_grow, Cond.code yX9_grow cX9_grow 4 none, Cond.fieldLink RX9 76 "BarrierLightsModel" "age" "[I", Cond.fieldLink RX9 79 "BarrierLightsModel" "against" "[I", Cond.fieldLink RX9 73 "BarrierLightsModel" "follows" "[I", Cond.methodLink RX9 185 yX9_pace, Cond.instanceMethod yX9_pace]
def wsX9_step_r4 : List Cond := [Cond.selects RX9 yX9_pace yX9_pace, Cond.code yX9_pace cX9_pace 4 none, Cond.fieldLink RX9 85 "BarrierLightsModel" "walker" "[I", Cond.fieldLink RX9 88 "BarrierLightsModel" "walked" "[I", Cond.methodLink RX9 188 yX9_wanted, Cond.instanceMethod yX9_wanted, Cond.selects RX9 yX9_wanted yX9_wanted, Cond.code yX9_wanted cX9_wanted 3 (some .boolean), Cond.methodLink RX9 164 yX9_forward, Cond.instanceMethod yX9_forward, Cond.selects RX9 yX9_forward yX9_forward, Cond.code yX9_forward cX9_forward 3 (some .int), Cond.methodLink RX9 158 yX9_called, Cond.instanceMethod yX9_called, Cond.selects RX9 yX9_called yX9_called, Cond.code yX9_called cX9_called 3 (some .boolean), Cond.methodLink RX9 167 yX9_needed, Cond.instanceMethod yX9_needed, Cond.selects RX9 yX9_needed yX9_needed, Cond.code yX9_needed cX9_needed 5 (some .boolean), Cond.fieldLink RX9 27 "BarrierLightsModel" "side" "[I", Cond.methodLink RX9 161 yX9_calledOn, Cond.instanceMethod yX9_calledOn, Cond.selects RX9 yX9_calledOn yX9_calledOn]
def wsX9_step_r5 : List Cond := [Cond.code yX9_calledOn cX9_calledOn 5 (some .boolean), Cond.methodLink RX9 137 yX9_sideOf, Cond.static yX9_sideOf, Cond.code yX9_sideOf cX9_sideOf 1 (some .int), Cond.methodLink RX9 191 yX9_begin, Cond.instanceMethod yX9_begin, Cond.selects RX9 yX9_begin yX9_begin, Cond.code yX9_begin cX9_begin 4 none, Cond.methodLink RX9 181 yX9_beginWalk, Cond.instanceMethod yX9_beginWalk, Cond.selects RX9 yX9_beginWalk yX9_beginWalk, Cond.code yX9_beginWalk cX9_beginWalk 3 none, Cond.methodLink RX9 152 yX9_stopRing, Cond.instanceMethod yX9_stopRing, Cond.selects RX9 yX9_stopRing yX9_stopRing, Cond.code yX9_stopRing cX9_stopRing 2 none, Cond.methodLink RX9 250 yX9_actGreater, Cond.instanceMethod yX9_actGreater, Cond.selects RX9 yX9_actGreater yX9_actGreater, Cond.code yX9_actGreater cX9_actGreater 5 none, Cond.methodLink RX9 203 yX9_greaterDone, Cond.instanceMethod yX9_greaterDone, Cond.selects RX9 yX9_greaterDone yX9_greaterDone, Cond.code yX9_greaterDone cX9_greaterDone 4 (some .boolean)]
def wsX9_step_r6 : List Cond := [Cond.methodLink RX9 197 yX9_goal, Cond.instanceMethod yX9_goal, Cond.selects RX9 yX9_goal yX9_goal, Cond.code yX9_goal cX9_goal 5 (some .int), Cond.methodLink RX9 207 yX9_yellow, Cond.instanceMethod yX9_yellow, Cond.selects RX9 yX9_yellow yX9_yellow, Cond.code yX9_yellow cX9_yellow 3 none, Cond.methodLink RX9 210 yX9_empty, Cond.instanceMethod yX9_empty, Cond.selects RX9 yX9_empty yX9_empty, Cond.code yX9_empty cX9_empty 6 none, Cond.methodLink RX9 200 yX9_plainDone, Cond.instanceMethod yX9_plainDone, Cond.selects RX9 yX9_plainDone yX9_plainDone, Cond.code yX9_plainDone cX9_plainDone 3 (some .boolean), Cond.methodLink RX9 194 yX9_isEarly, Cond.instanceMethod yX9_isEarly, Cond.selects RX9 yX9_isEarly yX9_isEarly, Cond.code yX9_isEarly cX9_isEarly 2 (some .boolean), Cond.fieldLink RX9 103 "BarrierLightsModel" "split" "[I", Cond.methodLink RX9 213 yX9_bothWait, Cond.instanceMethod yX9_bothWait, Cond.selects RX9 yX9_bothWait yX9_bothWait]
def wsX9_step_r7 : List Cond := [Cond.code yX9_bothWait cX9_bothWait 2 (some .boolean), Cond.methodLink RX9 253 yX9_actPlain, Cond.instanceMethod yX9_actPlain, Cond.selects RX9 yX9_actPlain yX9_actPlain, Cond.code yX9_actPlain cX9_actPlain 3 none, Cond.methodLink RX9 216 yX9_cross, Cond.instanceMethod yX9_cross, Cond.selects RX9 yX9_cross yX9_cross, Cond.code yX9_cross cX9_cross 5 none, Cond.methodLink RX9 256 yX9_watch, Cond.instanceMethod yX9_watch, Cond.selects RX9 yX9_watch yX9_watch, Cond.code yX9_watch cX9_watch 5 none, Cond.fieldLink RX9 55 "BarrierLightsModel" "shown" "[I", Cond.methodLink RX9 219 yX9_lampsOf, Cond.instanceMethod yX9_lampsOf, Cond.selects RX9 yX9_lampsOf yX9_lampsOf, Cond.code yX9_lampsOf cX9_lampsOf 6 (some .int), Cond.fieldLink RX9 52 "BarrierLightsModel" "faults" "[I", Cond.methodLink RX9 222 yX9_dark, Cond.instanceMethod yX9_dark, Cond.selects RX9 yX9_dark yX9_dark, Cond.code yX9_dark cX9_dark 4 (some .boolean), Cond.fieldLink RX9 58 "BarrierLightsModel" "darks" "[I"]
def wsX9_step_r8 : List Cond := [Cond.methodLink RX9 225 yX9_tooShort, Cond.instanceMethod yX9_tooShort, Cond.selects RX9 yX9_tooShort yX9_tooShort, Cond.code yX9_tooShort cX9_tooShort 5 (some .boolean), Cond.fieldLink RX9 64 "BarrierLightsModel" "yellows" "[I", Cond.fieldLink RX9 61 "BarrierLightsModel" "went" "[Z", Cond.methodLink RX9 228 yX9_conflict, Cond.instanceMethod yX9_conflict, Cond.selects RX9 yX9_conflict yX9_conflict, Cond.code yX9_conflict cX9_conflict 5 (some .boolean)]
def wsX9_step : List Cond := .code yX9_step cX9_step 4 none :: ((wsX9_step_r1 ++ (wsX9_step_r2 ++ (wsX9_step_r3 ++ (wsX9_step_r4 ++ (wsX9_step_r5 ++ (wsX9_step_r6 ++ (wsX9_step_r7 ++ wsX9_step_r8))))))) ++ wsX90)
def wsX9_place : List Cond := .code yX9_place cX9_place 2 (some .int) :: ([.fieldLink RX9 118 "BarrierLightsModel" "code" "I", .fieldLink RX9 16 "BarrierLightsModel" "wrong" "[I", .methodLink RX9 122 yX9_isCrossing, .static yX9_isCrossing, .initialized RX9, .code yX9_isCrossing cX9_isCrossing 1 (some .boolean)] ++ wsX90)
def wsX9_detect : List Cond := .code yX9_detect cX9_detect 4 (some .boolean) :: ([.fieldLink RX9 118 "BarrierLightsModel" "code" "I", .fieldLink RX9 42 "BarrierLightsModel" "on" "[Z", .methodLink RX9 130 yX9_isPhase, .static yX9_isPhase, .initialized RX9, .code yX9_isPhase cX9_isPhase 2 (some .boolean), .methodLink RX9 122 yX9_isCrossing, .static yX9_isCrossing, .code yX9_isCrossing cX9_isCrossing 1 (some .boolean)] ++ wsX90)
def wsX9_press : List Cond := .code yX9_press cX9_press 3 (some .boolean) :: ([.fieldLink RX9 118 "BarrierLightsModel" "code" "I", .fieldLink RX9 33 "BarrierLightsModel" "used" "[Z", .fieldLink RX9 39 "BarrierLightsModel" "walkCalls" "[Z", .methodLink RX9 130 yX9_isPhase, .static yX9_isPhase, .initialized RX9, .code yX9_isPhase cX9_isPhase 2 (some .boolean), .methodLink RX9 122 yX9_isCrossing, .static yX9_isCrossing, .code yX9_isCrossing cX9_isCrossing 1 (some .boolean), .methodLink RX9 237 yX9_runs, .instanceMethod yX9_runs, .selects RX9 yX9_runs yX9_runs, .code yX9_runs cX9_runs 2 (some .boolean), .fieldLink RX9 20 "BarrierLightsModel" "off" "[Z", .fieldLink RX9 24 "BarrierLightsModel" "why" "[I", .methodLink RX9 144 yX9_entry, .instanceMethod yX9_entry, .selects RX9 yX9_entry yX9_entry, .code yX9_entry cX9_entry 4 (some .int), .fieldLink RX9 13 "BarrierLightsModel" "table" "[S"] ++ wsX90)
def wsX9_target : List Cond := .code yX9_target cX9_target 4 (some .boolean) :: ([.fieldLink RX9 118 "BarrierLightsModel" "code" "I", .fieldLink RX9 91 "BarrierLightsModel" "targets" "[I", .methodLink RX9 130 yX9_isPhase, .static yX9_isPhase, .initialized RX9, .code yX9_isPhase cX9_isPhase 2 (some .boolean), .methodLink RX9 122 yX9_isCrossing, .static yX9_isCrossing, .code yX9_isCrossing cX9_isCrossing 1 (some .boolean)] ++ wsX90)
def wsX9_preempt : List Cond := .code yX9_preempt cX9_preempt 4 (some .boolean) :: ([.fieldLink RX9 118 "BarrierLightsModel" "code" "I", .fieldLink RX9 94 "BarrierLightsModel" "inputs" "[Z", .methodLink RX9 122 yX9_isCrossing, .static yX9_isCrossing, .initialized RX9, .code yX9_isCrossing cX9_isCrossing 1 (some .boolean)] ++ wsX90)
def wsX9_plan : List Cond := .code yX9_plan cX9_plan 6 (some .boolean) :: ([.fieldLink RX9 118 "BarrierLightsModel" "code" "I", .fieldLink RX9 97 "BarrierLightsModel" "cycle" "[I", .fieldLink RX9 100 "BarrierLightsModel" "offset" "[I", .fieldLink RX9 103 "BarrierLightsModel" "split" "[I", .fieldLink RX9 106 "BarrierLightsModel" "plan" "[I", .fieldLink RX9 115 "BarrierLightsModel" "local" "[I"] ++ wsX90)
def wsX9_message : List Cond := .code yX9_message cX9_message 4 (some .boolean) :: ([.fieldLink RX9 118 "BarrierLightsModel" "code" "I", .fieldLink RX9 97 "BarrierLightsModel" "cycle" "[I", .fieldLink RX9 109 "BarrierLightsModel" "last" "[I", .fieldLink RX9 115 "BarrierLightsModel" "local" "[I", .fieldLink RX9 106 "BarrierLightsModel" "plan" "[I", .fieldLink RX9 112 "BarrierLightsModel" "silence" "[I", .methodLink RX9 122 yX9_isCrossing, .static yX9_isCrossing, .initialized RX9, .code yX9_isCrossing cX9_isCrossing 1 (some .boolean)] ++ wsX90)
def wsX9_fault : List Cond := .code yX9_fault cX9_fault 4 (some .boolean) :: ([.fieldLink RX9 118 "BarrierLightsModel" "code" "I", .fieldLink RX9 52 "BarrierLightsModel" "faults" "[I", .methodLink RX9 130 yX9_isPhase, .static yX9_isPhase, .initialized RX9, .code yX9_isPhase cX9_isPhase 2 (some .boolean), .methodLink RX9 122 yX9_isCrossing, .static yX9_isCrossing, .code yX9_isCrossing cX9_isCrossing 1 (some .boolean)] ++ wsX90)
def wsX9_reset_r1 : List Cond := [Cond.fieldLink RX9 118 "BarrierLightsModel" "code" "I", Cond.fieldLink RX9 24 "BarrierLightsModel" "why" "[I", Cond.methodLink RX9 122 yX9_isCrossing, Cond.static yX9_isCrossing, Cond.initialized RX9, Cond.code yX9_isCrossing cX9_isCrossing 1 (some .boolean), Cond.methodLink RX9 148 yX9_start, Cond.instanceMethod yX9_start, Cond.selects RX9 yX9_start yX9_start, Cond.code yX9_start cX9_start 3 none, Cond.fieldLink RX9 20 "BarrierLightsModel" "off" "[Z", Cond.fieldLink RX9 27 "BarrierLightsModel" "side" "[I", Cond.fieldLink RX9 30 "BarrierLightsModel" "greater" "[Z", Cond.fieldLink RX9 36 "BarrierLightsModel" "calls" "[Z", Cond.fieldLink RX9 33 "BarrierLightsModel" "used" "[Z", Cond.fieldLink RX9 39 "BarrierLightsModel" "walkCalls" "[Z", Cond.fieldLink RX9 58 "BarrierLightsModel" "darks" "[I", Cond.fieldLink RX9 61 "BarrierLightsModel" "went" "[Z", Cond.fieldLink RX9 64 "BarrierLightsModel" "yellows" "[I", Cond.methodLink RX9 152 yX9_stopRing, Cond.instanceMethod yX9_stopRing, Cond.selects RX9 yX9_stopRing yX9_stopRing, Cond.code yX9_stopRing cX9_stopRing 2 none, Cond.fieldLink RX9 67 "BarrierLightsModel" "state" "[I"]
def wsX9_reset_r2 : List Cond := [Cond.fieldLink RX9 70 "BarrierLightsModel" "phase" "[I", Cond.fieldLink RX9 73 "BarrierLightsModel" "follows" "[I", Cond.fieldLink RX9 85 "BarrierLightsModel" "walker" "[I"]
def wsX9_reset : List Cond := .code yX9_reset cX9_reset 2 (some .boolean) :: ((wsX9_reset_r1 ++ wsX9_reset_r2) ++ wsX90)
def wsX9_tick_r1 : List Cond := [Cond.fieldLink RX9 118 "BarrierLightsModel" "code" "I", Cond.fieldLink RX9 172 "BarrierLightsModel" "clock" "I", Cond.methodLink RX9 259 yX9_step, Cond.instanceMethod yX9_step, Cond.selects RX9 yX9_step yX9_step, Cond.initialized RX9, Cond.code yX9_step cX9_step 4 none, Cond.fieldLink RX9 30 "BarrierLightsModel" "greater" "[Z", Cond.fieldLink RX9 33 "BarrierLightsModel" "used" "[Z", Cond.fieldLink RX9 36 "BarrierLightsModel" "calls" "[Z", Cond.fieldLink RX9 91 "BarrierLightsModel" "targets" "[I", Cond.methodLink RX9 231 yX9_sense, Cond.instanceMethod yX9_sense, Cond.selects RX9 yX9_sense yX9_sense, Cond.code yX9_sense cX9_sense 3 none, Cond.fieldLink RX9 45 "BarrierLightsModel" "onTime" "[S", Cond.fieldLink RX9 42 "BarrierLightsModel" "on" "[Z", Cond.fieldLink RX9 48 "BarrierLightsModel" "occupied" "[F", Cond.constantFloat RX9 170 (1063256064), Cond.constantFloat RX9 171 (1040187392), Cond.methodLink RX9 234 yX9_link, Cond.instanceMethod yX9_link, Cond.selects RX9 yX9_link yX9_link, Cond.code yX9_link cX9_link 5 none]
def wsX9_tick_r2 : List Cond := [Cond.fieldLink RX9 106 "BarrierLightsModel" "plan" "[I", Cond.fieldLink RX9 112 "BarrierLightsModel" "silence" "[I", Cond.fieldLink RX9 115 "BarrierLightsModel" "local" "[I", Cond.fieldLink RX9 97 "BarrierLightsModel" "cycle" "[I", Cond.fieldLink RX9 100 "BarrierLightsModel" "offset" "[I", Cond.methodLink RX9 237 yX9_runs, Cond.instanceMethod yX9_runs, Cond.selects RX9 yX9_runs yX9_runs, Cond.code yX9_runs cX9_runs 2 (some .boolean), Cond.fieldLink RX9 20 "BarrierLightsModel" "off" "[Z", Cond.fieldLink RX9 24 "BarrierLightsModel" "why" "[I", Cond.methodLink RX9 240 yX9_inputOf, Cond.instanceMethod yX9_inputOf, Cond.selects RX9 yX9_inputOf yX9_inputOf, Cond.code yX9_inputOf cX9_inputOf 3 (some .int), Cond.fieldLink RX9 94 "BarrierLightsModel" "inputs" "[Z", Cond.methodLink RX9 243 yX9_call, Cond.instanceMethod yX9_call, Cond.selects RX9 yX9_call yX9_call, Cond.code yX9_call cX9_call 6 none, Cond.fieldLink RX9 82 "BarrierLightsModel" "gap" "[I", Cond.fieldLink RX9 39 "BarrierLightsModel" "walkCalls" "[Z", Cond.methodLink RX9 144 yX9_entry, Cond.instanceMethod yX9_entry]
def wsX9_tick_r3 : List Cond := [Cond.selects RX9 yX9_entry yX9_entry, Cond.code yX9_entry cX9_entry 4 (some .int), Cond.fieldLink RX9 13 "BarrierLightsModel" "table" "[S", Cond.methodLink RX9 155 yX9_isGreen, Cond.instanceMethod yX9_isGreen, Cond.selects RX9 yX9_isGreen yX9_isGreen, Cond.code yX9_isGreen cX9_isGreen 3 (some .boolean), Cond.fieldLink RX9 67 "BarrierLightsModel" "state" "[I", Cond.fieldLink RX9 70 "BarrierLightsModel" "phase" "[I", Cond.methodLink RX9 126 yX9_ringOf, Cond.static yX9_ringOf, Cond.code yX9_ringOf cX9_ringOf 2 (some .int), Cond.methodLink RX9 178 yX9_passes, Cond.instanceMethod yX9_passes, Cond.selects RX9 yX9_passes yX9_passes, Cond.code yX9_passes cX9_passes 3 (some .boolean), Cond.methodLink RX9 175 yX9_failed, Cond.instanceMethod yX9_failed, Cond.selects RX9 yX9_failed yX9_failed, Cond.code yX9_failed cX9_failed 3 (some .boolean), Cond.methodLink RX9 246 yX9_grow, Cond.instanceMethod yX9_grow, Cond.selects RX9 yX9_grow yX9_grow, Cond.code yX9_grow cX9_grow 4 none]
def wsX9_tick_r4 : List Cond := [Cond.fieldLink RX9 76 "BarrierLightsModel" "age" "[I", Cond.fieldLink RX9 79 "BarrierLightsModel" "against" "[I", Cond.fieldLink RX9 73 "BarrierLightsModel" "follows" "[I", Cond.methodLink RX9 185 yX9_pace, Cond.instanceMethod yX9_pace, Cond.selects RX9 yX9_pace yX9_pace, Cond.code yX9_pace cX9_pace 4 none, Cond.fieldLink RX9 85 "BarrierLightsModel" "walker" "[I", Cond.fieldLink RX9 88 "BarrierLightsModel" "walked" "[I", Cond.methodLink RX9 188 yX9_wanted, Cond.instanceMethod yX9_wanted, Cond.selects RX9 yX9_wanted yX9_wanted, Cond.code yX9_wanted cX9_wanted 3 (some .boolean), Cond.methodLink RX9 164 yX9_forward, Cond.instanceMethod yX9_forward, Cond.selects RX9 yX9_forward yX9_forward, Cond.code yX9_forward cX9_forward 3 (some .int), Cond.methodLink RX9 158 yX9_called, Cond.instanceMethod yX9_called, Cond.selects RX9 yX9_called yX9_called, Cond.code yX9_called cX9_called 3 (some .boolean), Cond.methodLink RX9 167 yX9_needed, Cond.instanceMethod yX9_needed, Cond.selects RX9 yX9_needed yX9_needed]
def wsX9_tick_r5 : List Cond := [Cond.code yX9_needed cX9_needed 5 (some .boolean), Cond.fieldLink RX9 27 "BarrierLightsModel" "side" "[I", Cond.methodLink RX9 161 yX9_calledOn, Cond.instanceMethod yX9_calledOn, Cond.selects RX9 yX9_calledOn yX9_calledOn, Cond.code yX9_calledOn cX9_calledOn 5 (some .boolean), Cond.methodLink RX9 137 yX9_sideOf, Cond.static yX9_sideOf, Cond.code yX9_sideOf cX9_sideOf 1 (some .int), Cond.methodLink RX9 191 yX9_begin, Cond.instanceMethod yX9_begin, Cond.selects RX9 yX9_begin yX9_begin, Cond.code yX9_begin cX9_begin 4 none, Cond.methodLink RX9 181 yX9_beginWalk, Cond.instanceMethod yX9_beginWalk, Cond.selects RX9 yX9_beginWalk yX9_beginWalk, Cond.code yX9_beginWalk cX9_beginWalk 3 none, Cond.methodLink RX9 152 yX9_stopRing, Cond.instanceMethod yX9_stopRing, Cond.selects RX9 yX9_stopRing yX9_stopRing, Cond.code yX9_stopRing cX9_stopRing 2 none, Cond.methodLink RX9 250 yX9_actGreater, Cond.instanceMethod yX9_actGreater, Cond.selects RX9 yX9_actGreater yX9_actGreater]
def wsX9_tick_r6 : List Cond := [Cond.code yX9_actGreater cX9_actGreater 5 none, Cond.methodLink RX9 203 yX9_greaterDone, Cond.instanceMethod yX9_greaterDone, Cond.selects RX9 yX9_greaterDone yX9_greaterDone, Cond.code yX9_greaterDone cX9_greaterDone 4 (some .boolean), Cond.methodLink RX9 197 yX9_goal, Cond.instanceMethod yX9_goal, Cond.selects RX9 yX9_goal yX9_goal, Cond.code yX9_goal cX9_goal 5 (some .int), Cond.methodLink RX9 207 yX9_yellow, Cond.instanceMethod yX9_yellow, Cond.selects RX9 yX9_yellow yX9_yellow, Cond.code yX9_yellow cX9_yellow 3 none, Cond.methodLink RX9 210 yX9_empty, Cond.instanceMethod yX9_empty, Cond.selects RX9 yX9_empty yX9_empty, Cond.code yX9_empty cX9_empty 6 none, Cond.methodLink RX9 200 yX9_plainDone, Cond.instanceMethod yX9_plainDone, Cond.selects RX9 yX9_plainDone yX9_plainDone, Cond.code yX9_plainDone cX9_plainDone 3 (some .boolean), Cond.methodLink RX9 194 yX9_isEarly, Cond.instanceMethod yX9_isEarly, Cond.selects RX9 yX9_isEarly yX9_isEarly]
def wsX9_tick_r7 : List Cond := [Cond.code yX9_isEarly cX9_isEarly 2 (some .boolean), Cond.fieldLink RX9 103 "BarrierLightsModel" "split" "[I", Cond.methodLink RX9 213 yX9_bothWait, Cond.instanceMethod yX9_bothWait, Cond.selects RX9 yX9_bothWait yX9_bothWait, Cond.code yX9_bothWait cX9_bothWait 2 (some .boolean), Cond.methodLink RX9 253 yX9_actPlain, Cond.instanceMethod yX9_actPlain, Cond.selects RX9 yX9_actPlain yX9_actPlain, Cond.code yX9_actPlain cX9_actPlain 3 none, Cond.methodLink RX9 216 yX9_cross, Cond.instanceMethod yX9_cross, Cond.selects RX9 yX9_cross yX9_cross, Cond.code yX9_cross cX9_cross 5 none, Cond.methodLink RX9 256 yX9_watch, Cond.instanceMethod yX9_watch, Cond.selects RX9 yX9_watch yX9_watch, Cond.code yX9_watch cX9_watch 5 none, Cond.fieldLink RX9 55 "BarrierLightsModel" "shown" "[I", Cond.methodLink RX9 219 yX9_lampsOf, Cond.instanceMethod yX9_lampsOf, Cond.selects RX9 yX9_lampsOf yX9_lampsOf, Cond.code yX9_lampsOf cX9_lampsOf 6 (some .int), Cond.fieldLink RX9 52 "BarrierLightsModel" "faults" "[I"]
def wsX9_tick_r8 : List Cond := [Cond.methodLink RX9 222 yX9_dark, Cond.instanceMethod yX9_dark, Cond.selects RX9 yX9_dark yX9_dark, Cond.code yX9_dark cX9_dark 4 (some .boolean), Cond.fieldLink RX9 58 "BarrierLightsModel" "darks" "[I", Cond.methodLink RX9 225 yX9_tooShort, Cond.instanceMethod yX9_tooShort, Cond.selects RX9 yX9_tooShort yX9_tooShort, Cond.code yX9_tooShort cX9_tooShort 5 (some .boolean), Cond.fieldLink RX9 64 "BarrierLightsModel" "yellows" "[I", Cond.fieldLink RX9 61 "BarrierLightsModel" "went" "[Z", Cond.methodLink RX9 228 yX9_conflict, Cond.instanceMethod yX9_conflict, Cond.selects RX9 yX9_conflict yX9_conflict, Cond.code yX9_conflict cX9_conflict 5 (some .boolean)]
def wsX9_tick : List Cond := .code yX9_tick cX9_tick 3 (some .int) :: ((wsX9_tick_r1 ++ (wsX9_tick_r2 ++ (wsX9_tick_r3 ++ (wsX9_tick_r4 ++ (wsX9_tick_r5 ++ (wsX9_tick_r6 ++ (wsX9_tick_r7 ++ wsX9_tick_r8))))))) ++ wsX90)
def wsX9_lamp : List Cond := .code yX9_lamp cX9_lamp 3 (some .int) :: ([.fieldLink RX9 118 "BarrierLightsModel" "code" "I", .fieldLink RX9 20 "BarrierLightsModel" "off" "[Z", .fieldLink RX9 33 "BarrierLightsModel" "used" "[Z", .fieldLink RX9 24 "BarrierLightsModel" "why" "[I", .methodLink RX9 130 yX9_isPhase, .static yX9_isPhase, .initialized RX9, .code yX9_isPhase cX9_isPhase 2 (some .boolean), .methodLink RX9 122 yX9_isCrossing, .static yX9_isCrossing, .code yX9_isCrossing cX9_isCrossing 1 (some .boolean), .methodLink RX9 219 yX9_lampsOf, .instanceMethod yX9_lampsOf, .selects RX9 yX9_lampsOf yX9_lampsOf, .code yX9_lampsOf cX9_lampsOf 6 (some .int), .fieldLink RX9 67 "BarrierLightsModel" "state" "[I", .fieldLink RX9 70 "BarrierLightsModel" "phase" "[I", .fieldLink RX9 52 "BarrierLightsModel" "faults" "[I", .methodLink RX9 126 yX9_ringOf, .static yX9_ringOf, .code yX9_ringOf cX9_ringOf 2 (some .int)] ++ wsX90)
def wsX9_signs_r1 : List Cond := [Cond.fieldLink RX9 118 "BarrierLightsModel" "code" "I", Cond.fieldLink RX9 36 "BarrierLightsModel" "calls" "[Z", Cond.fieldLink RX9 39 "BarrierLightsModel" "walkCalls" "[Z", Cond.fieldLink RX9 85 "BarrierLightsModel" "walker" "[I", Cond.methodLink RX9 130 yX9_isPhase, Cond.static yX9_isPhase, Cond.initialized RX9, Cond.code yX9_isPhase cX9_isPhase 2 (some .boolean), Cond.methodLink RX9 122 yX9_isCrossing, Cond.static yX9_isCrossing, Cond.code yX9_isCrossing cX9_isCrossing 1 (some .boolean), Cond.methodLink RX9 175 yX9_failed, Cond.instanceMethod yX9_failed, Cond.selects RX9 yX9_failed yX9_failed, Cond.code yX9_failed cX9_failed 3 (some .boolean), Cond.fieldLink RX9 45 "BarrierLightsModel" "onTime" "[S", Cond.methodLink RX9 155 yX9_isGreen, Cond.instanceMethod yX9_isGreen, Cond.selects RX9 yX9_isGreen yX9_isGreen, Cond.code yX9_isGreen cX9_isGreen 3 (some .boolean), Cond.fieldLink RX9 67 "BarrierLightsModel" "state" "[I", Cond.fieldLink RX9 70 "BarrierLightsModel" "phase" "[I", Cond.methodLink RX9 126 yX9_ringOf, Cond.static yX9_ringOf]
def wsX9_signs_r2 : List Cond := [Cond.code yX9_ringOf cX9_ringOf 2 (some .int)]
def wsX9_signs : List Cond := .code yX9_signs cX9_signs 6 (some .int) :: ((wsX9_signs_r1 ++ wsX9_signs_r2) ++ wsX90)
def wsX9_crossing : List Cond := .code yX9_crossing cX9_crossing 3 (some .int) :: ([.fieldLink RX9 118 "BarrierLightsModel" "code" "I", .fieldLink RX9 27 "BarrierLightsModel" "side" "[I", .fieldLink RX9 20 "BarrierLightsModel" "off" "[Z", .fieldLink RX9 24 "BarrierLightsModel" "why" "[I", .fieldLink RX9 106 "BarrierLightsModel" "plan" "[I", .fieldLink RX9 115 "BarrierLightsModel" "local" "[I", .fieldLink RX9 70 "BarrierLightsModel" "phase" "[I", .methodLink RX9 122 yX9_isCrossing, .static yX9_isCrossing, .initialized RX9, .code yX9_isCrossing cX9_isCrossing 1 (some .boolean), .methodLink RX9 240 yX9_inputOf, .instanceMethod yX9_inputOf, .selects RX9 yX9_inputOf yX9_inputOf, .code yX9_inputOf cX9_inputOf 3 (some .int), .fieldLink RX9 94 "BarrierLightsModel" "inputs" "[Z", .fieldLink RX9 91 "BarrierLightsModel" "targets" "[I", .fieldLink RX9 33 "BarrierLightsModel" "used" "[Z"] ++ wsX90)
def wsX9_occupancy : List Cond := .code yX9_occupancy cX9_occupancy 3 (some .float) :: ([.fieldLink RX9 118 "BarrierLightsModel" "code" "I", .fieldLink RX9 48 "BarrierLightsModel" "occupied" "[F", .methodLink RX9 130 yX9_isPhase, .static yX9_isPhase, .initialized RX9, .code yX9_isPhase cX9_isPhase 2 (some .boolean), .methodLink RX9 122 yX9_isCrossing, .static yX9_isCrossing, .code yX9_isCrossing cX9_isCrossing 1 (some .boolean)] ++ wsX90)
def wsJ9_min_7cf53 : List Cond := .code yJ9_min_7cf53 cJ9_min_7cf53 2 (some .int) :: ([])
set_option maxRecDepth 20000 in
abbrev vwCl : List vw_C := [(RX0, TX0, 16), (RX1, TX1, 4), (RX2, TX2, 2), (RX3, TX3, 4), (RX4, TX4, 4), (RX5, TX5, 3), (RX6, TX6, 10), (RX7, TX7, 1), (RX8, TX8, 4), (RX9, TX9, 37)]
end
section
theorem dX0_init_0 : decode cX0_init 0 = .ok (.aload_n 0, 1) := by decide +kernel
theorem dX0_init_1 : decode cX0_init 1 = .ok (.invokespecial 3, 3) := by decide +kernel
theorem dX0_init_4 : decode cX0_init 4 = .ok (.aload_n 0, 1) := by decide +kernel
theorem dX0_init_5 : decode cX0_init 5 = .ok (.new 9, 3) := by decide +kernel
theorem dX0_init_8 : decode cX0_init 8 = .ok (.dup, 1) := by decide +kernel
theorem dX0_init_9 : decode cX0_init 9 = .ok (.invokespecial 11, 3) := by decide +kernel
theorem dX0_init_12 : decode cX0_init 12 = .ok (.putfield 12, 3) := by decide +kernel
theorem dX0_init_15 : decode cX0_init 15 = .ok (.aload_n 0, 1) := by decide +kernel
theorem dX0_init_16 : decode cX0_init 16 = .ok (.new 9, 3) := by decide +kernel
theorem dX0_init_19 : decode cX0_init 19 = .ok (.dup, 1) := by decide +kernel
theorem dX0_init_20 : decode cX0_init 20 = .ok (.invokespecial 11, 3) := by decide +kernel
theorem dX0_init_23 : decode cX0_init 23 = .ok (.putfield 18, 3) := by decide +kernel
theorem dX0_init_26 : decode cX0_init 26 = .ok (.aload_n 0, 1) := by decide +kernel
theorem dX0_init_27 : decode cX0_init 27 = .ok (.new 21, 3) := by decide +kernel
theorem dX0_init_30 : decode cX0_init 30 = .ok (.dup, 1) := by decide +kernel
theorem dX0_init_31 : decode cX0_init 31 = .ok (.invokespecial 23, 3) := by decide +kernel
theorem dX0_init_34 : decode cX0_init 34 = .ok (.putfield 24, 3) := by decide +kernel
theorem dX0_init_37 : decode cX0_init 37 = .ok (.aload_n 0, 1) := by decide +kernel
theorem dX0_init_38 : decode cX0_init 38 = .ok (.new 28, 3) := by decide +kernel
theorem dX0_init_41 : decode cX0_init 41 = .ok (.dup, 1) := by decide +kernel
theorem dX0_init_42 : decode cX0_init 42 = .ok (.invokespecial 30, 3) := by decide +kernel
theorem dX0_init_45 : decode cX0_init 45 = .ok (.putfield 31, 3) := by decide +kernel
theorem dX0_init_48 : decode cX0_init 48 = .ok (.aload_n 0, 1) := by decide +kernel
theorem dX0_init_49 : decode cX0_init 49 = .ok (.new 35, 3) := by decide +kernel
theorem dX0_init_52 : decode cX0_init 52 = .ok (.dup, 1) := by decide +kernel
theorem dX0_init_53 : decode cX0_init 53 = .ok (.invokespecial 37, 3) := by decide +kernel
theorem dX0_init_56 : decode cX0_init 56 = .ok (.putfield 38, 3) := by decide +kernel
theorem dX0_init_59 : decode cX0_init 59 = .ok (.aload_n 0, 1) := by decide +kernel
theorem dX0_init_60 : decode cX0_init 60 = .ok (.new 42, 3) := by decide +kernel
theorem dX0_init_63 : decode cX0_init 63 = .ok (.dup, 1) := by decide +kernel
theorem dX0_init_64 : decode cX0_init 64 = .ok (.invokespecial 44, 3) := by decide +kernel
theorem dX0_init_67 : decode cX0_init 67 = .ok (.putfield 45, 3) := by decide +kernel
theorem dX0_init_70 : decode cX0_init 70 = .ok (.aload_n 0, 1) := by decide +kernel
theorem dX0_init_71 : decode cX0_init 71 = .ok (.new 49, 3) := by decide +kernel
theorem dX0_init_74 : decode cX0_init 74 = .ok (.dup, 1) := by decide +kernel
theorem dX0_init_75 : decode cX0_init 75 = .ok (.invokespecial 51, 3) := by decide +kernel
theorem dX0_init_78 : decode cX0_init 78 = .ok (.putfield 52, 3) := by decide +kernel
theorem dX0_init_81 : decode cX0_init 81 = .ok (.aload_n 0, 1) := by decide +kernel
theorem dX0_init_82 : decode cX0_init 82 = .ok (.new 49, 3) := by decide +kernel
theorem dX0_init_85 : decode cX0_init 85 = .ok (.dup, 1) := by decide +kernel
theorem dX0_init_86 : decode cX0_init 86 = .ok (.invokespecial 51, 3) := by decide +kernel
theorem dX0_init_89 : decode cX0_init 89 = .ok (.putfield 56, 3) := by decide +kernel
theorem dX0_init_92 : decode cX0_init 92 = .ok (.aload_n 0, 1) := by decide +kernel
theorem dX0_init_93 : decode cX0_init 93 = .ok (.bipush 8, 2) := by decide +kernel
theorem dX0_init_95 : decode cX0_init 95 = .ok (.newarray .int, 2) := by decide +kernel
theorem dX0_init_97 : decode cX0_init 97 = .ok (.putfield 59, 3) := by decide +kernel
theorem dX0_init_100 : decode cX0_init 100 = .ok (.aload_n 0, 1) := by decide +kernel
theorem dX0_init_101 : decode cX0_init 101 = .ok (.iconst (-1), 1) := by decide +kernel
theorem dX0_init_102 : decode cX0_init 102 = .ok (.putfield 63, 3) := by decide +kernel
theorem dX0_init_105 : decode cX0_init 105 = .ok (.aload_n 0, 1) := by decide +kernel
theorem dX0_init_106 : decode cX0_init 106 = .ok (.iconst 0, 1) := by decide +kernel
theorem dX0_init_107 : decode cX0_init 107 = .ok (.putfield 67, 3) := by decide +kernel
theorem dX0_init_110 : decode cX0_init 110 = .ok (.aload_n 0, 1) := by decide +kernel
theorem dX0_init_111 : decode cX0_init 111 = .ok (.iconst 0, 1) := by decide +kernel
theorem dX0_init_112 : decode cX0_init 112 = .ok (.putfield 70, 3) := by decide +kernel
theorem dX0_init_115 : decode cX0_init 115 = .ok (.aload_n 0, 1) := by decide +kernel
theorem dX0_init_116 : decode cX0_init 116 = .ok (.iconst 0, 1) := by decide +kernel
theorem dX0_init_117 : decode cX0_init 117 = .ok (.putfield 73, 3) := by decide +kernel
theorem dX0_init_120 : decode cX0_init 120 = .ok (.aload_n 0, 1) := by decide +kernel
theorem dX0_init_121 : decode cX0_init 121 = .ok (.iconst 0, 1) := by decide +kernel
theorem dX0_init_122 : decode cX0_init 122 = .ok (.putfield 76, 3) := by decide +kernel
theorem dX0_init_125 : decode cX0_init 125 = .ok (.aload_n 0, 1) := by decide +kernel
theorem dX0_init_126 : decode cX0_init 126 = .ok (.iconst 0, 1) := by decide +kernel
theorem dX0_init_127 : decode cX0_init 127 = .ok (.putfield 79, 3) := by decide +kernel
theorem dX0_init_130 : decode cX0_init 130 = .ok (.aload_n 0, 1) := by decide +kernel
theorem dX0_init_131 : decode cX0_init 131 = .ok (.iconst 0, 1) := by decide +kernel
theorem dX0_init_132 : decode cX0_init 132 = .ok (.putfield 82, 3) := by decide +kernel
theorem dX0_init_135 : decode cX0_init 135 = .ok (.return_, 1) := by decide +kernel
theorem dX0_takeWrittenTable_0 : decode cX0_takeWrittenTable 0 = .ok (.aload_n 0, 1) := by decide +kernel
theorem dX0_takeWrittenTable_1 : decode cX0_takeWrittenTable 1 = .ok (.aload_n 0, 1) := by decide +kernel
theorem dX0_takeWrittenTable_2 : decode cX0_takeWrittenTable 2 = .ok (.getfield 12, 3) := by decide +kernel
theorem dX0_takeWrittenTable_5 : decode cX0_takeWrittenTable 5 = .ok (.invokevirtual 86, 3) := by decide +kernel
theorem dX0_takeWrittenTable_8 : decode cX0_takeWrittenTable 8 = .ok (.putfield 63, 3) := by decide +kernel
theorem dX0_takeWrittenTable_11 : decode cX0_takeWrittenTable 11 = .ok (.aload_n 0, 1) := by decide +kernel
theorem dX0_takeWrittenTable_12 : decode cX0_takeWrittenTable 12 = .ok (.getfield 63, 3) := by decide +kernel
theorem dX0_takeWrittenTable_15 : decode cX0_takeWrittenTable 15 = .ok (.iconst (-1), 1) := by decide +kernel
theorem dX0_takeWrittenTable_16 : decode cX0_takeWrittenTable 16 = .ok (.if_icmp .eq 5, 3) := by decide +kernel
theorem dX0_takeWrittenTable_19 : decode cX0_takeWrittenTable 19 = .ok (.iconst 0, 1) := by decide +kernel
theorem dX0_takeWrittenTable_20 : decode cX0_takeWrittenTable 20 = .ok (.ireturn, 1) := by decide +kernel
theorem dX0_takeWrittenTable_21 : decode cX0_takeWrittenTable 21 = .ok (.aload_n 0, 1) := by decide +kernel
theorem dX0_takeWrittenTable_22 : decode cX0_takeWrittenTable 22 = .ok (.getfield 18, 3) := by decide +kernel
theorem dX0_takeWrittenTable_25 : decode cX0_takeWrittenTable 25 = .ok (.aload_n 0, 1) := by decide +kernel
theorem dX0_takeWrittenTable_26 : decode cX0_takeWrittenTable 26 = .ok (.getfield 12, 3) := by decide +kernel
theorem dX0_takeWrittenTable_29 : decode cX0_takeWrittenTable 29 = .ok (.invokevirtual 89, 3) := by decide +kernel
theorem dX0_takeWrittenTable_32 : decode cX0_takeWrittenTable 32 = .ok (.aload_n 0, 1) := by decide +kernel
theorem dX0_takeWrittenTable_33 : decode cX0_takeWrittenTable 33 = .ok (.aload_n 0, 1) := by decide +kernel
theorem dX0_takeWrittenTable_34 : decode cX0_takeWrittenTable 34 = .ok (.getfield 18, 3) := by decide +kernel
theorem dX0_takeWrittenTable_37 : decode cX0_takeWrittenTable 37 = .ok (.invokevirtual 93, 3) := by decide +kernel
theorem dX0_takeWrittenTable_40 : decode cX0_takeWrittenTable 40 = .ok (.putfield 67, 3) := by decide +kernel
theorem dX0_takeWrittenTable_43 : decode cX0_takeWrittenTable 43 = .ok (.aload_n 0, 1) := by decide +kernel
theorem dX0_takeWrittenTable_44 : decode cX0_takeWrittenTable 44 = .ok (.invokevirtual 95, 3) := by decide +kernel
theorem dX0_takeWrittenTable_47 : decode cX0_takeWrittenTable 47 = .ok (.iconst 1, 1) := by decide +kernel
theorem dX0_takeWrittenTable_48 : decode cX0_takeWrittenTable 48 = .ok (.ireturn, 1) := by decide +kernel
theorem dX0_isOff_0 : decode cX0_isOff 0 = .ok (.aload_n 0, 1) := by decide +kernel
theorem dX0_isOff_1 : decode cX0_isOff 1 = .ok (.getfield 67, 3) := by decide +kernel
theorem dX0_isOff_4 : decode cX0_isOff 4 = .ok (.ifCond .ne 7, 3) := by decide +kernel
theorem dX0_isOff_7 : decode cX0_isOff 7 = .ok (.iconst 1, 1) := by decide +kernel
theorem dX0_isOff_8 : decode cX0_isOff 8 = .ok (.goto 4, 3) := by decide +kernel
theorem dX0_isOff_11 : decode cX0_isOff 11 = .ok (.iconst 0, 1) := by decide +kernel
theorem dX0_isOff_12 : decode cX0_isOff 12 = .ok (.ireturn, 1) := by decide +kernel
theorem dX0_start_0 : decode cX0_start 0 = .ok (.aload_n 0, 1) := by decide +kernel
theorem dX0_start_1 : decode cX0_start 1 = .ok (.iconst 0, 1) := by decide +kernel
theorem dX0_start_2 : decode cX0_start 2 = .ok (.putfield 70, 3) := by decide +kernel
theorem dX0_start_5 : decode cX0_start 5 = .ok (.aload_n 0, 1) := by decide +kernel
theorem dX0_start_6 : decode cX0_start 6 = .ok (.getfield 52, 3) := by decide +kernel
theorem dX0_start_9 : decode cX0_start 9 = .ok (.invokevirtual 98, 3) := by decide +kernel
theorem dX0_start_12 : decode cX0_start 12 = .ok (.aload_n 0, 1) := by decide +kernel
theorem dX0_start_13 : decode cX0_start 13 = .ok (.getfield 56, 3) := by decide +kernel
theorem dX0_start_16 : decode cX0_start 16 = .ok (.invokevirtual 98, 3) := by decide +kernel
theorem dX0_start_19 : decode cX0_start 19 = .ok (.aload_n 0, 1) := by decide +kernel
theorem dX0_start_20 : decode cX0_start 20 = .ok (.iconst 1, 1) := by decide +kernel
theorem dX0_start_21 : decode cX0_start 21 = .ok (.putfield 73, 3) := by decide +kernel
theorem dX0_start_24 : decode cX0_start 24 = .ok (.aload_n 0, 1) := by decide +kernel
theorem dX0_start_25 : decode cX0_start 25 = .ok (.aload_n 0, 1) := by decide +kernel
theorem dX0_start_26 : decode cX0_start 26 = .ok (.getfield 67, 3) := by decide +kernel
theorem dX0_start_29 : decode cX0_start 29 = .ok (.putfield 76, 3) := by decide +kernel
theorem dX0_start_32 : decode cX0_start 32 = .ok (.aload_n 0, 1) := by decide +kernel
theorem dX0_start_33 : decode cX0_start 33 = .ok (.iconst 0, 1) := by decide +kernel
theorem dX0_start_34 : decode cX0_start 34 = .ok (.putfield 79, 3) := by decide +kernel
theorem dX0_start_37 : decode cX0_start 37 = .ok (.aload_n 0, 1) := by decide +kernel
theorem dX0_start_38 : decode cX0_start 38 = .ok (.getfield 45, 3) := by decide +kernel
theorem dX0_start_41 : decode cX0_start 41 = .ok (.invokevirtual 101, 3) := by decide +kernel
theorem dX0_start_44 : decode cX0_start 44 = .ok (.return_, 1) := by decide +kernel
theorem dX0_takeButton_0 : decode cX0_takeButton 0 = .ok (.aload_n 0, 1) := by decide +kernel
theorem dX0_takeButton_1 : decode cX0_takeButton 1 = .ok (.getfield 67, 3) := by decide +kernel
theorem dX0_takeButton_4 : decode cX0_takeButton 4 = .ok (.iload_n 1, 1) := by decide +kernel
theorem dX0_takeButton_5 : decode cX0_takeButton 5 = .ok (.invokestatic 104, 3) := by decide +kernel
theorem dX0_takeButton_8 : decode cX0_takeButton 8 = .ok (.iand, 1) := by decide +kernel
theorem dX0_takeButton_9 : decode cX0_takeButton 9 = .ok (.ifCond .eq 19, 3) := by decide +kernel
theorem dX0_takeButton_12 : decode cX0_takeButton 12 = .ok (.aload_n 0, 1) := by decide +kernel
theorem dX0_takeButton_13 : decode cX0_takeButton 13 = .ok (.getfield 18, 3) := by decide +kernel
theorem dX0_takeButton_16 : decode cX0_takeButton 16 = .ok (.iload_n 1, 1) := by decide +kernel
theorem dX0_takeButton_17 : decode cX0_takeButton 17 = .ok (.iconst 5, 1) := by decide +kernel
theorem dX0_takeButton_18 : decode cX0_takeButton 18 = .ok (.invokevirtual 108, 3) := by decide +kernel
theorem dX0_takeButton_21 : decode cX0_takeButton 21 = .ok (.ifCond .eq 7, 3) := by decide +kernel
theorem dX0_takeButton_24 : decode cX0_takeButton 24 = .ok (.iconst 1, 1) := by decide +kernel
theorem dX0_takeButton_25 : decode cX0_takeButton 25 = .ok (.goto 4, 3) := by decide +kernel
theorem dX0_takeButton_28 : decode cX0_takeButton 28 = .ok (.iconst 0, 1) := by decide +kernel
theorem dX0_takeButton_29 : decode cX0_takeButton 29 = .ok (.istore_n 2, 1) := by decide +kernel
theorem dX0_takeButton_30 : decode cX0_takeButton 30 = .ok (.aload_n 0, 1) := by decide +kernel
theorem dX0_takeButton_31 : decode cX0_takeButton 31 = .ok (.getfield 70, 3) := by decide +kernel
theorem dX0_takeButton_34 : decode cX0_takeButton 34 = .ok (.ifCond .ne 7, 3) := by decide +kernel
theorem dX0_takeButton_37 : decode cX0_takeButton 37 = .ok (.iload_n 2, 1) := by decide +kernel
theorem dX0_takeButton_38 : decode cX0_takeButton 38 = .ok (.ifCond .ne 5, 3) := by decide +kernel
theorem dX0_takeButton_41 : decode cX0_takeButton 41 = .ok (.iconst 0, 1) := by decide +kernel
theorem dX0_takeButton_42 : decode cX0_takeButton 42 = .ok (.ireturn, 1) := by decide +kernel
theorem dX0_takeButton_43 : decode cX0_takeButton 43 = .ok (.aload_n 0, 1) := by decide +kernel
theorem dX0_takeButton_44 : decode cX0_takeButton 44 = .ok (.dup, 1) := by decide +kernel
theorem dX0_takeButton_45 : decode cX0_takeButton 45 = .ok (.getfield 79, 3) := by decide +kernel
theorem dX0_takeButton_48 : decode cX0_takeButton 48 = .ok (.iload_n 1, 1) := by decide +kernel
theorem dX0_takeButton_49 : decode cX0_takeButton 49 = .ok (.invokestatic 104, 3) := by decide +kernel
theorem dX0_takeButton_52 : decode cX0_takeButton 52 = .ok (.ior, 1) := by decide +kernel
theorem dX0_takeButton_53 : decode cX0_takeButton 53 = .ok (.putfield 79, 3) := by decide +kernel
theorem dX0_takeButton_56 : decode cX0_takeButton 56 = .ok (.iconst 1, 1) := by decide +kernel
theorem dX0_takeButton_57 : decode cX0_takeButton 57 = .ok (.ireturn, 1) := by decide +kernel
theorem dX0_pass_0 : decode cX0_pass 0 = .ok (.aload_n 0, 1) := by decide +kernel
theorem dX0_pass_1 : decode cX0_pass 1 = .ok (.getfield 24, 3) := by decide +kernel
theorem dX0_pass_4 : decode cX0_pass 4 = .ok (.invokevirtual 112, 3) := by decide +kernel
theorem dX0_pass_7 : decode cX0_pass 7 = .ok (.aload_n 0, 1) := by decide +kernel
theorem dX0_pass_8 : decode cX0_pass 8 = .ok (.getfield 31, 3) := by decide +kernel
theorem dX0_pass_11 : decode cX0_pass 11 = .ok (.aload_n 1, 1) := by decide +kernel
theorem dX0_pass_12 : decode cX0_pass 12 = .ok (.iload_n 2, 1) := by decide +kernel
theorem dX0_pass_13 : decode cX0_pass 13 = .ok (.invokevirtual 115, 3) := by decide +kernel
theorem dX0_pass_16 : decode cX0_pass 16 = .ok (.aload_n 0, 1) := by decide +kernel
theorem dX0_pass_17 : decode cX0_pass 17 = .ok (.invokevirtual 118, 3) := by decide +kernel
theorem dX0_pass_20 : decode cX0_pass 20 = .ok (.ifCond .ne 10, 3) := by decide +kernel
theorem dX0_pass_23 : decode cX0_pass 23 = .ok (.aload_n 0, 1) := by decide +kernel
theorem dX0_pass_24 : decode cX0_pass 24 = .ok (.getfield 70, 3) := by decide +kernel
theorem dX0_pass_27 : decode cX0_pass 27 = .ok (.ifCond .eq 4, 3) := by decide +kernel
theorem dX0_pass_30 : decode cX0_pass 30 = .ok (.return_, 1) := by decide +kernel
theorem dX0_pass_31 : decode cX0_pass 31 = .ok (.aload_n 0, 1) := by decide +kernel
theorem dX0_pass_32 : decode cX0_pass 32 = .ok (.invokevirtual 122, 3) := by decide +kernel
theorem dX0_pass_35 : decode cX0_pass 35 = .ok (.aload_n 0, 1) := by decide +kernel
theorem dX0_pass_36 : decode cX0_pass 36 = .ok (.aload_n 0, 1) := by decide +kernel
theorem dX0_pass_37 : decode cX0_pass 37 = .ok (.getfield 52, 3) := by decide +kernel
theorem dX0_pass_40 : decode cX0_pass 40 = .ok (.invokevirtual 125, 3) := by decide +kernel
theorem dX0_pass_43 : decode cX0_pass 43 = .ok (.aload_n 0, 1) := by decide +kernel
theorem dX0_pass_44 : decode cX0_pass 44 = .ok (.aload_n 0, 1) := by decide +kernel
theorem dX0_pass_45 : decode cX0_pass 45 = .ok (.getfield 56, 3) := by decide +kernel
theorem dX0_pass_48 : decode cX0_pass 48 = .ok (.invokevirtual 125, 3) := by decide +kernel
theorem dX0_pass_51 : decode cX0_pass 51 = .ok (.aload_n 0, 1) := by decide +kernel
theorem dX0_pass_52 : decode cX0_pass 52 = .ok (.getfield 38, 3) := by decide +kernel
theorem dX0_pass_55 : decode cX0_pass 55 = .ok (.aload_n 0, 1) := by decide +kernel
theorem dX0_pass_56 : decode cX0_pass 56 = .ok (.getfield 67, 3) := by decide +kernel
theorem dX0_pass_59 : decode cX0_pass 59 = .ok (.invokevirtual 129, 3) := by decide +kernel
theorem dX0_pass_62 : decode cX0_pass 62 = .ok (.istore_n 3, 1) := by decide +kernel
theorem dX0_pass_63 : decode cX0_pass 63 = .ok (.iload_n 3, 1) := by decide +kernel
theorem dX0_pass_64 : decode cX0_pass 64 = .ok (.iconst (-1), 1) := by decide +kernel
theorem dX0_pass_65 : decode cX0_pass 65 = .ok (.if_icmp .eq 11, 3) := by decide +kernel
theorem dX0_pass_68 : decode cX0_pass 68 = .ok (.aload_n 0, 1) := by decide +kernel
theorem dX0_pass_69 : decode cX0_pass 69 = .ok (.iload_n 3, 1) := by decide +kernel
theorem dX0_pass_70 : decode cX0_pass 70 = .ok (.invokevirtual 132, 3) := by decide +kernel
theorem dX0_pass_73 : decode cX0_pass 73 = .ok (.goto 15, 3) := by decide +kernel
theorem dX0_pass_76 : decode cX0_pass 76 = .ok (.aload_n 0, 1) := by decide +kernel
theorem dX0_pass_77 : decode cX0_pass 77 = .ok (.aload_n 0, 1) := by decide +kernel
theorem dX0_pass_78 : decode cX0_pass 78 = .ok (.getfield 31, 3) := by decide +kernel
theorem dX0_pass_81 : decode cX0_pass 81 = .ok (.aload_n 1, 1) := by decide +kernel
theorem dX0_pass_82 : decode cX0_pass 82 = .ok (.invokevirtual 136, 3) := by decide +kernel
theorem dX0_pass_85 : decode cX0_pass 85 = .ok (.invokevirtual 140, 3) := by decide +kernel
theorem dX0_pass_88 : decode cX0_pass 88 = .ok (.aload_n 0, 1) := by decide +kernel
theorem dX0_pass_89 : decode cX0_pass 89 = .ok (.invokevirtual 144, 3) := by decide +kernel
theorem dX0_pass_92 : decode cX0_pass 92 = .ok (.return_, 1) := by decide +kernel
theorem dX0_passCalls_0 : decode cX0_passCalls 0 = .ok (.iconst 0, 1) := by decide +kernel
theorem dX0_passCalls_1 : decode cX0_passCalls 1 = .ok (.istore_n 1, 1) := by decide +kernel
theorem dX0_passCalls_2 : decode cX0_passCalls 2 = .ok (.iload_n 1, 1) := by decide +kernel
theorem dX0_passCalls_3 : decode cX0_passCalls 3 = .ok (.bipush 8, 2) := by decide +kernel
theorem dX0_passCalls_5 : decode cX0_passCalls 5 = .ok (.if_icmp .ge 58, 3) := by decide +kernel
theorem dX0_passCalls_8 : decode cX0_passCalls 8 = .ok (.aload_n 0, 1) := by decide +kernel
theorem dX0_passCalls_9 : decode cX0_passCalls 9 = .ok (.iload_n 1, 1) := by decide +kernel
theorem dX0_passCalls_10 : decode cX0_passCalls 10 = .ok (.invokestatic 147, 3) := by decide +kernel
theorem dX0_passCalls_13 : decode cX0_passCalls 13 = .ok (.invokevirtual 150, 3) := by decide +kernel
theorem dX0_passCalls_16 : decode cX0_passCalls 16 = .ok (.astore_n 2, 1) := by decide +kernel
theorem dX0_passCalls_17 : decode cX0_passCalls 17 = .ok (.aload_n 2, 1) := by decide +kernel
theorem dX0_passCalls_18 : decode cX0_passCalls 18 = .ok (.invokevirtual 154, 3) := by decide +kernel
theorem dX0_passCalls_21 : decode cX0_passCalls 21 = .ok (.ifCond .eq 19, 3) := by decide +kernel
theorem dX0_passCalls_24 : decode cX0_passCalls 24 = .ok (.aload_n 2, 1) := by decide +kernel
theorem dX0_passCalls_25 : decode cX0_passCalls 25 = .ok (.getfield 157, 3) := by decide +kernel
theorem dX0_passCalls_28 : decode cX0_passCalls 28 = .ok (.iload_n 1, 1) := by decide +kernel
theorem dX0_passCalls_29 : decode cX0_passCalls 29 = .ok (.if_icmp .ne 11, 3) := by decide +kernel
theorem dX0_passCalls_32 : decode cX0_passCalls 32 = .ok (.aload_n 0, 1) := by decide +kernel
theorem dX0_passCalls_33 : decode cX0_passCalls 33 = .ok (.aload_n 2, 1) := by decide +kernel
theorem dX0_passCalls_34 : decode cX0_passCalls 34 = .ok (.invokevirtual 160, 3) := by decide +kernel
theorem dX0_passCalls_37 : decode cX0_passCalls 37 = .ok (.goto 20, 3) := by decide +kernel
theorem dX0_passCalls_40 : decode cX0_passCalls 40 = .ok (.aload_n 0, 1) := by decide +kernel
theorem dX0_passCalls_41 : decode cX0_passCalls 41 = .ok (.getfield 67, 3) := by decide +kernel
theorem dX0_passCalls_44 : decode cX0_passCalls 44 = .ok (.iload_n 1, 1) := by decide +kernel
theorem dX0_passCalls_45 : decode cX0_passCalls 45 = .ok (.invokestatic 104, 3) := by decide +kernel
theorem dX0_passCalls_48 : decode cX0_passCalls 48 = .ok (.iand, 1) := by decide +kernel
theorem dX0_passCalls_49 : decode cX0_passCalls 49 = .ok (.ifCond .eq 8, 3) := by decide +kernel
theorem dX0_passCalls_52 : decode cX0_passCalls 52 = .ok (.aload_n 0, 1) := by decide +kernel
theorem dX0_passCalls_53 : decode cX0_passCalls 53 = .ok (.iload_n 1, 1) := by decide +kernel
theorem dX0_passCalls_54 : decode cX0_passCalls 54 = .ok (.invokevirtual 163, 3) := by decide +kernel
theorem dX0_passCalls_57 : decode cX0_passCalls 57 = .ok (.iinc 1 1, 3) := by decide +kernel
theorem dX0_passCalls_60 : decode cX0_passCalls 60 = .ok (.goto (-58), 3) := by decide +kernel
theorem dX0_passCalls_63 : decode cX0_passCalls 63 = .ok (.return_, 1) := by decide +kernel
theorem dX0_passGap_0 : decode cX0_passGap 0 = .ok (.aload_n 1, 1) := by decide +kernel
theorem dX0_passGap_1 : decode cX0_passGap 1 = .ok (.getfield 157, 3) := by decide +kernel
theorem dX0_passGap_4 : decode cX0_passGap 4 = .ok (.istore_n 2, 1) := by decide +kernel
theorem dX0_passGap_5 : decode cX0_passGap 5 = .ok (.aload_n 0, 1) := by decide +kernel
theorem dX0_passGap_6 : decode cX0_passGap 6 = .ok (.getfield 24, 3) := by decide +kernel
theorem dX0_passGap_9 : decode cX0_passGap 9 = .ok (.iload_n 2, 1) := by decide +kernel
theorem dX0_passGap_10 : decode cX0_passGap 10 = .ok (.invokevirtual 166, 3) := by decide +kernel
theorem dX0_passGap_13 : decode cX0_passGap 13 = .ok (.ifCond .ne 17, 3) := by decide +kernel
theorem dX0_passGap_16 : decode cX0_passGap 16 = .ok (.aload_n 0, 1) := by decide +kernel
theorem dX0_passGap_17 : decode cX0_passGap 17 = .ok (.getfield 18, 3) := by decide +kernel
theorem dX0_passGap_20 : decode cX0_passGap 20 = .ok (.iload_n 2, 1) := by decide +kernel
theorem dX0_passGap_21 : decode cX0_passGap 21 = .ok (.bipush 7, 2) := by decide +kernel
theorem dX0_passGap_23 : decode cX0_passGap 23 = .ok (.invokevirtual 108, 3) := by decide +kernel
theorem dX0_passGap_26 : decode cX0_passGap 26 = .ok (.iconst 2, 1) := by decide +kernel
theorem dX0_passGap_27 : decode cX0_passGap 27 = .ok (.if_icmp .ne 19, 3) := by decide +kernel
theorem dX0_passGap_30 : decode cX0_passGap 30 = .ok (.aload_n 1, 1) := by decide +kernel
theorem dX0_passGap_31 : decode cX0_passGap 31 = .ok (.aload_n 0, 1) := by decide +kernel
theorem dX0_passGap_32 : decode cX0_passGap 32 = .ok (.getfield 18, 3) := by decide +kernel
theorem dX0_passGap_35 : decode cX0_passGap 35 = .ok (.iload_n 2, 1) := by decide +kernel
theorem dX0_passGap_36 : decode cX0_passGap 36 = .ok (.iconst 1, 1) := by decide +kernel
theorem dX0_passGap_37 : decode cX0_passGap 37 = .ok (.invokevirtual 108, 3) := by decide +kernel
theorem dX0_passGap_40 : decode cX0_passGap 40 = .ok (.putfield 170, 3) := by decide +kernel
theorem dX0_passGap_43 : decode cX0_passGap 43 = .ok (.goto 20, 3) := by decide +kernel
theorem dX0_passGap_46 : decode cX0_passGap 46 = .ok (.aload_n 1, 1) := by decide +kernel
theorem dX0_passGap_47 : decode cX0_passGap 47 = .ok (.getfield 170, 3) := by decide +kernel
theorem dX0_passGap_50 : decode cX0_passGap 50 = .ok (.ifCond .eq 13, 3) := by decide +kernel
theorem dX0_passGap_53 : decode cX0_passGap 53 = .ok (.aload_n 1, 1) := by decide +kernel
theorem dX0_passGap_54 : decode cX0_passGap 54 = .ok (.dup, 1) := by decide +kernel
theorem dX0_passGap_55 : decode cX0_passGap 55 = .ok (.getfield 170, 3) := by decide +kernel
theorem dX0_passGap_58 : decode cX0_passGap 58 = .ok (.iconst 1, 1) := by decide +kernel
theorem dX0_passGap_59 : decode cX0_passGap 59 = .ok (.isub, 1) := by decide +kernel
theorem dX0_passGap_60 : decode cX0_passGap 60 = .ok (.putfield 170, 3) := by decide +kernel
theorem dX0_passGap_63 : decode cX0_passGap 63 = .ok (.return_, 1) := by decide +kernel
theorem dX0_noteCalls_0 : decode cX0_noteCalls 0 = .ok (.aload_n 0, 1) := by decide +kernel
theorem dX0_noteCalls_1 : decode cX0_noteCalls 1 = .ok (.getfield 18, 3) := by decide +kernel
theorem dX0_noteCalls_4 : decode cX0_noteCalls 4 = .ok (.iload_n 1, 1) := by decide +kernel
theorem dX0_noteCalls_5 : decode cX0_noteCalls 5 = .ok (.bipush 7, 2) := by decide +kernel
theorem dX0_noteCalls_7 : decode cX0_noteCalls 7 = .ok (.invokevirtual 108, 3) := by decide +kernel
theorem dX0_noteCalls_10 : decode cX0_noteCalls 10 = .ok (.istore_n 2, 1) := by decide +kernel
theorem dX0_noteCalls_11 : decode cX0_noteCalls 11 = .ok (.aload_n 0, 1) := by decide +kernel
theorem dX0_noteCalls_12 : decode cX0_noteCalls 12 = .ok (.getfield 24, 3) := by decide +kernel
theorem dX0_noteCalls_15 : decode cX0_noteCalls 15 = .ok (.iload_n 1, 1) := by decide +kernel
theorem dX0_noteCalls_16 : decode cX0_noteCalls 16 = .ok (.invokevirtual 173, 3) := by decide +kernel
theorem dX0_noteCalls_19 : decode cX0_noteCalls 19 = .ok (.ifCond .ne 13, 3) := by decide +kernel
theorem dX0_noteCalls_22 : decode cX0_noteCalls 22 = .ok (.iload_n 2, 1) := by decide +kernel
theorem dX0_noteCalls_23 : decode cX0_noteCalls 23 = .ok (.iconst 1, 1) := by decide +kernel
theorem dX0_noteCalls_24 : decode cX0_noteCalls 24 = .ok (.if_icmp .eq 8, 3) := by decide +kernel
theorem dX0_noteCalls_27 : decode cX0_noteCalls 27 = .ok (.iload_n 2, 1) := by decide +kernel
theorem dX0_noteCalls_28 : decode cX0_noteCalls 28 = .ok (.iconst 2, 1) := by decide +kernel
theorem dX0_noteCalls_29 : decode cX0_noteCalls 29 = .ok (.if_icmp .ne 16, 3) := by decide +kernel
theorem dX0_noteCalls_32 : decode cX0_noteCalls 32 = .ok (.aload_n 0, 1) := by decide +kernel
theorem dX0_noteCalls_33 : decode cX0_noteCalls 33 = .ok (.dup, 1) := by decide +kernel
theorem dX0_noteCalls_34 : decode cX0_noteCalls 34 = .ok (.getfield 76, 3) := by decide +kernel
theorem dX0_noteCalls_37 : decode cX0_noteCalls 37 = .ok (.iload_n 1, 1) := by decide +kernel
theorem dX0_noteCalls_38 : decode cX0_noteCalls 38 = .ok (.invokestatic 104, 3) := by decide +kernel
theorem dX0_noteCalls_41 : decode cX0_noteCalls 41 = .ok (.ior, 1) := by decide +kernel
theorem dX0_noteCalls_42 : decode cX0_noteCalls 42 = .ok (.putfield 76, 3) := by decide +kernel
theorem dX0_noteCalls_45 : decode cX0_noteCalls 45 = .ok (.iload_n 2, 1) := by decide +kernel
theorem dX0_noteCalls_46 : decode cX0_noteCalls 46 = .ok (.iconst 3, 1) := by decide +kernel
theorem dX0_noteCalls_47 : decode cX0_noteCalls 47 = .ok (.if_icmp .ne 16, 3) := by decide +kernel
theorem dX0_noteCalls_50 : decode cX0_noteCalls 50 = .ok (.aload_n 0, 1) := by decide +kernel
theorem dX0_noteCalls_51 : decode cX0_noteCalls 51 = .ok (.dup, 1) := by decide +kernel
theorem dX0_noteCalls_52 : decode cX0_noteCalls 52 = .ok (.getfield 79, 3) := by decide +kernel
theorem dX0_noteCalls_55 : decode cX0_noteCalls 55 = .ok (.iload_n 1, 1) := by decide +kernel
theorem dX0_noteCalls_56 : decode cX0_noteCalls 56 = .ok (.invokestatic 104, 3) := by decide +kernel
theorem dX0_noteCalls_59 : decode cX0_noteCalls 59 = .ok (.ior, 1) := by decide +kernel
theorem dX0_noteCalls_60 : decode cX0_noteCalls 60 = .ok (.putfield 79, 3) := by decide +kernel
theorem dX0_noteCalls_63 : decode cX0_noteCalls 63 = .ok (.return_, 1) := by decide +kernel
theorem dX0_passTimes_0 : decode cX0_passTimes 0 = .ok (.aload_n 1, 1) := by decide +kernel
theorem dX0_passTimes_1 : decode cX0_passTimes 1 = .ok (.invokevirtual 175, 3) := by decide +kernel
theorem dX0_passTimes_4 : decode cX0_passTimes 4 = .ok (.ifCond .eq 4, 3) := by decide +kernel
theorem dX0_passTimes_7 : decode cX0_passTimes 7 = .ok (.return_, 1) := by decide +kernel
theorem dX0_passTimes_8 : decode cX0_passTimes 8 = .ok (.aload_n 1, 1) := by decide +kernel
theorem dX0_passTimes_9 : decode cX0_passTimes 9 = .ok (.dup, 1) := by decide +kernel
theorem dX0_passTimes_10 : decode cX0_passTimes 10 = .ok (.getfield 178, 3) := by decide +kernel
theorem dX0_passTimes_13 : decode cX0_passTimes 13 = .ok (.iconst 1, 1) := by decide +kernel
theorem dX0_passTimes_14 : decode cX0_passTimes 14 = .ok (.iadd, 1) := by decide +kernel
theorem dX0_passTimes_15 : decode cX0_passTimes 15 = .ok (.putfield 178, 3) := by decide +kernel
theorem dX0_passTimes_18 : decode cX0_passTimes 18 = .ok (.aload_n 1, 1) := by decide +kernel
theorem dX0_passTimes_19 : decode cX0_passTimes 19 = .ok (.invokevirtual 154, 3) := by decide +kernel
theorem dX0_passTimes_22 : decode cX0_passTimes 22 = .ok (.ifCond .eq 74, 3) := by decide +kernel
theorem dX0_passTimes_25 : decode cX0_passTimes 25 = .ok (.aload_n 1, 1) := by decide +kernel
theorem dX0_passTimes_26 : decode cX0_passTimes 26 = .ok (.aload_n 0, 1) := by decide +kernel
theorem dX0_passTimes_27 : decode cX0_passTimes 27 = .ok (.getfield 18, 3) := by decide +kernel
theorem dX0_passTimes_30 : decode cX0_passTimes 30 = .ok (.aload_n 1, 1) := by decide +kernel
theorem dX0_passTimes_31 : decode cX0_passTimes 31 = .ok (.getfield 157, 3) := by decide +kernel
theorem dX0_passTimes_34 : decode cX0_passTimes 34 = .ok (.iconst 5, 1) := by decide +kernel
theorem dX0_passTimes_35 : decode cX0_passTimes 35 = .ok (.invokevirtual 108, 3) := by decide +kernel
theorem dX0_passTimes_38 : decode cX0_passTimes 38 = .ok (.aload_n 0, 1) := by decide +kernel
theorem dX0_passTimes_39 : decode cX0_passTimes 39 = .ok (.getfield 18, 3) := by decide +kernel
theorem dX0_passTimes_42 : decode cX0_passTimes 42 = .ok (.aload_n 1, 1) := by decide +kernel
theorem dX0_passTimes_43 : decode cX0_passTimes 43 = .ok (.getfield 157, 3) := by decide +kernel
theorem dX0_passTimes_46 : decode cX0_passTimes 46 = .ok (.bipush 6, 2) := by decide +kernel
theorem dX0_passTimes_48 : decode cX0_passTimes 48 = .ok (.invokevirtual 108, 3) := by decide +kernel
theorem dX0_passTimes_51 : decode cX0_passTimes 51 = .ok (.invokevirtual 181, 3) := by decide +kernel
theorem dX0_passTimes_54 : decode cX0_passTimes 54 = .ok (.aload_n 0, 1) := by decide +kernel
theorem dX0_passTimes_55 : decode cX0_passTimes 55 = .ok (.aload_n 1, 1) := by decide +kernel
theorem dX0_passTimes_56 : decode cX0_passTimes 56 = .ok (.aload_n 0, 1) := by decide +kernel
theorem dX0_passTimes_57 : decode cX0_passTimes 57 = .ok (.invokevirtual 185, 3) := by decide +kernel
theorem dX0_passTimes_60 : decode cX0_passTimes 60 = .ok (.invokevirtual 188, 3) := by decide +kernel
theorem dX0_passTimes_63 : decode cX0_passTimes 63 = .ok (.aload_n 1, 1) := by decide +kernel
theorem dX0_passTimes_64 : decode cX0_passTimes 64 = .ok (.getfield 192, 3) := by decide +kernel
theorem dX0_passTimes_67 : decode cX0_passTimes 67 = .ok (.ifCond .eq 28, 3) := by decide +kernel
theorem dX0_passTimes_70 : decode cX0_passTimes 70 = .ok (.aload_n 0, 1) := by decide +kernel
theorem dX0_passTimes_71 : decode cX0_passTimes 71 = .ok (.getfield 38, 3) := by decide +kernel
theorem dX0_passTimes_74 : decode cX0_passTimes 74 = .ok (.aload_n 0, 1) := by decide +kernel
theorem dX0_passTimes_75 : decode cX0_passTimes 75 = .ok (.getfield 67, 3) := by decide +kernel
theorem dX0_passTimes_78 : decode cX0_passTimes 78 = .ok (.invokevirtual 129, 3) := by decide +kernel
theorem dX0_passTimes_81 : decode cX0_passTimes 81 = .ok (.iconst (-1), 1) := by decide +kernel
theorem dX0_passTimes_82 : decode cX0_passTimes 82 = .ok (.if_icmp .ne 13, 3) := by decide +kernel
theorem dX0_passTimes_85 : decode cX0_passTimes 85 = .ok (.aload_n 1, 1) := by decide +kernel
theorem dX0_passTimes_86 : decode cX0_passTimes 86 = .ok (.dup, 1) := by decide +kernel
theorem dX0_passTimes_87 : decode cX0_passTimes 87 = .ok (.getfield 195, 3) := by decide +kernel
theorem dX0_passTimes_90 : decode cX0_passTimes 90 = .ok (.iconst 1, 1) := by decide +kernel
theorem dX0_passTimes_91 : decode cX0_passTimes 91 = .ok (.iadd, 1) := by decide +kernel
theorem dX0_passTimes_92 : decode cX0_passTimes 92 = .ok (.putfield 195, 3) := by decide +kernel
theorem dX0_passTimes_95 : decode cX0_passTimes 95 = .ok (.return_, 1) := by decide +kernel
theorem dX0_passTimes_96 : decode cX0_passTimes 96 = .ok (.aload_n 1, 1) := by decide +kernel
theorem dX0_passTimes_97 : decode cX0_passTimes 97 = .ok (.getfield 198, 3) := by decide +kernel
theorem dX0_passTimes_100 : decode cX0_passTimes 100 = .ok (.iconst 2, 1) := by decide +kernel
theorem dX0_passTimes_101 : decode cX0_passTimes 101 = .ok (.if_icmp .ne 27, 3) := by decide +kernel
theorem dX0_passTimes_104 : decode cX0_passTimes 104 = .ok (.aload_n 1, 1) := by decide +kernel
theorem dX0_passTimes_105 : decode cX0_passTimes 105 = .ok (.getfield 178, 3) := by decide +kernel
theorem dX0_passTimes_108 : decode cX0_passTimes 108 = .ok (.aload_n 0, 1) := by decide +kernel
theorem dX0_passTimes_109 : decode cX0_passTimes 109 = .ok (.getfield 18, 3) := by decide +kernel
theorem dX0_passTimes_112 : decode cX0_passTimes 112 = .ok (.aload_n 1, 1) := by decide +kernel
theorem dX0_passTimes_113 : decode cX0_passTimes 113 = .ok (.getfield 157, 3) := by decide +kernel
theorem dX0_passTimes_116 : decode cX0_passTimes 116 = .ok (.iconst 3, 1) := by decide +kernel
theorem dX0_passTimes_117 : decode cX0_passTimes 117 = .ok (.invokevirtual 108, 3) := by decide +kernel
theorem dX0_passTimes_120 : decode cX0_passTimes 120 = .ok (.if_icmp .lt 8, 3) := by decide +kernel
theorem dX0_passTimes_123 : decode cX0_passTimes 123 = .ok (.aload_n 1, 1) := by decide +kernel
theorem dX0_passTimes_124 : decode cX0_passTimes 124 = .ok (.iconst 1, 1) := by decide +kernel
theorem dX0_passTimes_125 : decode cX0_passTimes 125 = .ok (.invokevirtual 201, 3) := by decide +kernel
theorem dX0_passTimes_128 : decode cX0_passTimes 128 = .ok (.aload_n 1, 1) := by decide +kernel
theorem dX0_passTimes_129 : decode cX0_passTimes 129 = .ok (.getfield 198, 3) := by decide +kernel
theorem dX0_passTimes_132 : decode cX0_passTimes 132 = .ok (.iconst 1, 1) := by decide +kernel
theorem dX0_passTimes_133 : decode cX0_passTimes 133 = .ok (.if_icmp .ne 27, 3) := by decide +kernel
theorem dX0_passTimes_136 : decode cX0_passTimes 136 = .ok (.aload_n 1, 1) := by decide +kernel
theorem dX0_passTimes_137 : decode cX0_passTimes 137 = .ok (.getfield 178, 3) := by decide +kernel
theorem dX0_passTimes_140 : decode cX0_passTimes 140 = .ok (.aload_n 0, 1) := by decide +kernel
theorem dX0_passTimes_141 : decode cX0_passTimes 141 = .ok (.getfield 18, 3) := by decide +kernel
theorem dX0_passTimes_144 : decode cX0_passTimes 144 = .ok (.aload_n 1, 1) := by decide +kernel
theorem dX0_passTimes_145 : decode cX0_passTimes 145 = .ok (.getfield 157, 3) := by decide +kernel
theorem dX0_passTimes_148 : decode cX0_passTimes 148 = .ok (.iconst 4, 1) := by decide +kernel
theorem dX0_passTimes_149 : decode cX0_passTimes 149 = .ok (.invokevirtual 108, 3) := by decide +kernel
theorem dX0_passTimes_152 : decode cX0_passTimes 152 = .ok (.if_icmp .lt 8, 3) := by decide +kernel
theorem dX0_passTimes_155 : decode cX0_passTimes 155 = .ok (.aload_n 0, 1) := by decide +kernel
theorem dX0_passTimes_156 : decode cX0_passTimes 156 = .ok (.aload_n 1, 1) := by decide +kernel
theorem dX0_passTimes_157 : decode cX0_passTimes 157 = .ok (.invokevirtual 204, 3) := by decide +kernel
theorem dX0_passTimes_160 : decode cX0_passTimes 160 = .ok (.return_, 1) := by decide +kernel
theorem dX0_weigh_0 : decode cX0_weigh 0 = .ok (.aload_n 0, 1) := by decide +kernel
theorem dX0_weigh_1 : decode cX0_weigh 1 = .ok (.getfield 52, 3) := by decide +kernel
theorem dX0_weigh_4 : decode cX0_weigh 4 = .ok (.invokevirtual 207, 3) := by decide +kernel
theorem dX0_weigh_7 : decode cX0_weigh 7 = .ok (.aload_n 0, 1) := by decide +kernel
theorem dX0_weigh_8 : decode cX0_weigh 8 = .ok (.getfield 56, 3) := by decide +kernel
theorem dX0_weigh_11 : decode cX0_weigh 11 = .ok (.invokevirtual 207, 3) := by decide +kernel
theorem dX0_weigh_14 : decode cX0_weigh 14 = .ok (.ior, 1) := by decide +kernel
theorem dX0_weigh_15 : decode cX0_weigh 15 = .ok (.istore_n 3, 1) := by decide +kernel
theorem dX0_weigh_16 : decode cX0_weigh 16 = .ok (.iload_n 2, 1) := by decide +kernel
theorem dX0_weigh_17 : decode cX0_weigh 17 = .ok (.iconst 1, 1) := by decide +kernel
theorem dX0_weigh_18 : decode cX0_weigh 18 = .ok (.aload_n 0, 1) := by decide +kernel
theorem dX0_weigh_19 : decode cX0_weigh 19 = .ok (.getfield 73, 3) := by decide +kernel
theorem dX0_weigh_22 : decode cX0_weigh 22 = .ok (.isub, 1) := by decide +kernel
theorem dX0_weigh_23 : decode cX0_weigh 23 = .ok (.invokestatic 210, 3) := by decide +kernel
theorem dX0_weigh_26 : decode cX0_weigh 26 = .ok (.iload_n 3, 1) := by decide +kernel
theorem dX0_weigh_27 : decode cX0_weigh 27 = .ok (.ior, 1) := by decide +kernel
theorem dX0_weigh_28 : decode cX0_weigh 28 = .ok (.iand, 1) := by decide +kernel
theorem dX0_weigh_29 : decode cX0_weigh 29 = .ok (.ifCond .eq 7, 3) := by decide +kernel
theorem dX0_weigh_32 : decode cX0_weigh 32 = .ok (.iconst 1, 1) := by decide +kernel
theorem dX0_weigh_33 : decode cX0_weigh 33 = .ok (.goto 4, 3) := by decide +kernel
theorem dX0_weigh_36 : decode cX0_weigh 36 = .ok (.iconst 0, 1) := by decide +kernel
theorem dX0_weigh_37 : decode cX0_weigh 37 = .ok (.istore 4, 2) := by decide +kernel
theorem dX0_weigh_39 : decode cX0_weigh 39 = .ok (.aload_n 1, 1) := by decide +kernel
theorem dX0_weigh_40 : decode cX0_weigh 40 = .ok (.iload_n 2, 1) := by decide +kernel
theorem dX0_weigh_41 : decode cX0_weigh 41 = .ok (.aload_n 1, 1) := by decide +kernel
theorem dX0_weigh_42 : decode cX0_weigh 42 = .ok (.invokevirtual 213, 3) := by decide +kernel
theorem dX0_weigh_45 : decode cX0_weigh 45 = .ok (.iand, 1) := by decide +kernel
theorem dX0_weigh_46 : decode cX0_weigh 46 = .ok (.ifCond .eq 12, 3) := by decide +kernel
theorem dX0_weigh_49 : decode cX0_weigh 49 = .ok (.aload_n 1, 1) := by decide +kernel
theorem dX0_weigh_50 : decode cX0_weigh 50 = .ok (.getfield 157, 3) := by decide +kernel
theorem dX0_weigh_53 : decode cX0_weigh 53 = .ok (.iconst 1, 1) := by decide +kernel
theorem dX0_weigh_54 : decode cX0_weigh 54 = .ok (.iadd, 1) := by decide +kernel
theorem dX0_weigh_55 : decode cX0_weigh 55 = .ok (.goto 4, 3) := by decide +kernel
theorem dX0_weigh_58 : decode cX0_weigh 58 = .ok (.iconst (-1), 1) := by decide +kernel
theorem dX0_weigh_59 : decode cX0_weigh 59 = .ok (.putfield 216, 3) := by decide +kernel
theorem dX0_weigh_62 : decode cX0_weigh 62 = .ok (.aload_n 1, 1) := by decide +kernel
theorem dX0_weigh_63 : decode cX0_weigh 63 = .ok (.iload 4, 2) := by decide +kernel
theorem dX0_weigh_65 : decode cX0_weigh 65 = .ok (.ifCond .ne 11, 3) := by decide +kernel
theorem dX0_weigh_68 : decode cX0_weigh 68 = .ok (.aload_n 1, 1) := by decide +kernel
theorem dX0_weigh_69 : decode cX0_weigh 69 = .ok (.getfield 216, 3) := by decide +kernel
theorem dX0_weigh_72 : decode cX0_weigh 72 = .ok (.iconst (-1), 1) := by decide +kernel
theorem dX0_weigh_73 : decode cX0_weigh 73 = .ok (.if_icmp .eq 7, 3) := by decide +kernel
theorem dX0_weigh_76 : decode cX0_weigh 76 = .ok (.iconst 1, 1) := by decide +kernel
theorem dX0_weigh_77 : decode cX0_weigh 77 = .ok (.goto 4, 3) := by decide +kernel
theorem dX0_weigh_80 : decode cX0_weigh 80 = .ok (.iconst 0, 1) := by decide +kernel
theorem dX0_weigh_81 : decode cX0_weigh 81 = .ok (.putfield 192, 3) := by decide +kernel
theorem dX0_weigh_84 : decode cX0_weigh 84 = .ok (.return_, 1) := by decide +kernel
theorem dX0_end_0 : decode cX0_end 0 = .ok (.aload_n 1, 1) := by decide +kernel
theorem dX0_end_1 : decode cX0_end 1 = .ok (.getfield 219, 3) := by decide +kernel
theorem dX0_end_4 : decode cX0_end 4 = .ok (.iconst (-1), 1) := by decide +kernel
theorem dX0_end_5 : decode cX0_end 5 = .ok (.if_icmp .ne 10, 3) := by decide +kernel
theorem dX0_end_8 : decode cX0_end 8 = .ok (.aload_n 1, 1) := by decide +kernel
theorem dX0_end_9 : decode cX0_end 9 = .ok (.invokevirtual 98, 3) := by decide +kernel
theorem dX0_end_12 : decode cX0_end 12 = .ok (.goto 12, 3) := by decide +kernel
theorem dX0_end_15 : decode cX0_end 15 = .ok (.aload_n 0, 1) := by decide +kernel
theorem dX0_end_16 : decode cX0_end 16 = .ok (.aload_n 1, 1) := by decide +kernel
theorem dX0_end_17 : decode cX0_end 17 = .ok (.aload_n 1, 1) := by decide +kernel
theorem dX0_end_18 : decode cX0_end 18 = .ok (.getfield 219, 3) := by decide +kernel
theorem dX0_end_21 : decode cX0_end 21 = .ok (.invokevirtual 222, 3) := by decide +kernel
theorem dX0_end_24 : decode cX0_end 24 = .ok (.return_, 1) := by decide +kernel
theorem dX0_begin_0 : decode cX0_begin 0 = .ok (.aload_n 0, 1) := by decide +kernel
theorem dX0_begin_1 : decode cX0_begin 1 = .ok (.getfield 24, 3) := by decide +kernel
theorem dX0_begin_4 : decode cX0_begin 4 = .ok (.iload_n 2, 1) := by decide +kernel
theorem dX0_begin_5 : decode cX0_begin 5 = .ok (.invokevirtual 166, 3) := by decide +kernel
theorem dX0_begin_8 : decode cX0_begin 8 = .ok (.istore_n 3, 1) := by decide +kernel
theorem dX0_begin_9 : decode cX0_begin 9 = .ok (.aload_n 1, 1) := by decide +kernel
theorem dX0_begin_10 : decode cX0_begin 10 = .ok (.iload_n 2, 1) := by decide +kernel
theorem dX0_begin_11 : decode cX0_begin 11 = .ok (.iload_n 3, 1) := by decide +kernel
theorem dX0_begin_12 : decode cX0_begin 12 = .ok (.ifCond .eq 15, 3) := by decide +kernel
theorem dX0_begin_15 : decode cX0_begin 15 = .ok (.aload_n 0, 1) := by decide +kernel
theorem dX0_begin_16 : decode cX0_begin 16 = .ok (.getfield 18, 3) := by decide +kernel
theorem dX0_begin_19 : decode cX0_begin 19 = .ok (.iload_n 2, 1) := by decide +kernel
theorem dX0_begin_20 : decode cX0_begin 20 = .ok (.iconst 1, 1) := by decide +kernel
theorem dX0_begin_21 : decode cX0_begin 21 = .ok (.invokevirtual 108, 3) := by decide +kernel
theorem dX0_begin_24 : decode cX0_begin 24 = .ok (.goto 4, 3) := by decide +kernel
theorem dX0_begin_27 : decode cX0_begin 27 = .ok (.iconst 0, 1) := by decide +kernel
theorem dX0_begin_28 : decode cX0_begin 28 = .ok (.invokevirtual 225, 3) := by decide +kernel
theorem dX0_begin_31 : decode cX0_begin 31 = .ok (.aload_n 0, 1) := by decide +kernel
theorem dX0_begin_32 : decode cX0_begin 32 = .ok (.dup, 1) := by decide +kernel
theorem dX0_begin_33 : decode cX0_begin 33 = .ok (.getfield 76, 3) := by decide +kernel
theorem dX0_begin_36 : decode cX0_begin 36 = .ok (.iload_n 2, 1) := by decide +kernel
theorem dX0_begin_37 : decode cX0_begin 37 = .ok (.invokestatic 104, 3) := by decide +kernel
theorem dX0_begin_40 : decode cX0_begin 40 = .ok (.iconst (-1), 1) := by decide +kernel
theorem dX0_begin_41 : decode cX0_begin 41 = .ok (.ixor, 1) := by decide +kernel
theorem dX0_begin_42 : decode cX0_begin 42 = .ok (.iand, 1) := by decide +kernel
theorem dX0_begin_43 : decode cX0_begin 43 = .ok (.putfield 76, 3) := by decide +kernel
theorem dX0_begin_46 : decode cX0_begin 46 = .ok (.aload_n 0, 1) := by decide +kernel
theorem dX0_begin_47 : decode cX0_begin 47 = .ok (.getfield 79, 3) := by decide +kernel
theorem dX0_begin_50 : decode cX0_begin 50 = .ok (.iload_n 2, 1) := by decide +kernel
theorem dX0_begin_51 : decode cX0_begin 51 = .ok (.invokestatic 104, 3) := by decide +kernel
theorem dX0_begin_54 : decode cX0_begin 54 = .ok (.iand, 1) := by decide +kernel
theorem dX0_begin_55 : decode cX0_begin 55 = .ok (.ifCond .ne 17, 3) := by decide +kernel
theorem dX0_begin_58 : decode cX0_begin 58 = .ok (.aload_n 0, 1) := by decide +kernel
theorem dX0_begin_59 : decode cX0_begin 59 = .ok (.getfield 18, 3) := by decide +kernel
theorem dX0_begin_62 : decode cX0_begin 62 = .ok (.iload_n 2, 1) := by decide +kernel
theorem dX0_begin_63 : decode cX0_begin 63 = .ok (.bipush 7, 2) := by decide +kernel
theorem dX0_begin_65 : decode cX0_begin 65 = .ok (.invokevirtual 108, 3) := by decide +kernel
theorem dX0_begin_68 : decode cX0_begin 68 = .ok (.iconst 3, 1) := by decide +kernel
theorem dX0_begin_69 : decode cX0_begin 69 = .ok (.if_icmp .ne 7, 3) := by decide +kernel
theorem dX0_begin_72 : decode cX0_begin 72 = .ok (.iconst 1, 1) := by decide +kernel
theorem dX0_begin_73 : decode cX0_begin 73 = .ok (.goto 4, 3) := by decide +kernel
theorem dX0_begin_76 : decode cX0_begin 76 = .ok (.iconst 0, 1) := by decide +kernel
theorem dX0_begin_77 : decode cX0_begin 77 = .ok (.istore 4, 2) := by decide +kernel
theorem dX0_begin_79 : decode cX0_begin 79 = .ok (.iload 4, 2) := by decide +kernel
theorem dX0_begin_81 : decode cX0_begin 81 = .ok (.ifCond .eq 20, 3) := by decide +kernel
theorem dX0_begin_84 : decode cX0_begin 84 = .ok (.aload_n 0, 1) := by decide +kernel
theorem dX0_begin_85 : decode cX0_begin 85 = .ok (.getfield 18, 3) := by decide +kernel
theorem dX0_begin_88 : decode cX0_begin 88 = .ok (.iload_n 2, 1) := by decide +kernel
theorem dX0_begin_89 : decode cX0_begin 89 = .ok (.iconst 5, 1) := by decide +kernel
theorem dX0_begin_90 : decode cX0_begin 90 = .ok (.invokevirtual 108, 3) := by decide +kernel
theorem dX0_begin_93 : decode cX0_begin 93 = .ok (.ifCond .eq 8, 3) := by decide +kernel
theorem dX0_begin_96 : decode cX0_begin 96 = .ok (.aload_n 0, 1) := by decide +kernel
theorem dX0_begin_97 : decode cX0_begin 97 = .ok (.aload_n 1, 1) := by decide +kernel
theorem dX0_begin_98 : decode cX0_begin 98 = .ok (.invokevirtual 227, 3) := by decide +kernel
theorem dX0_begin_101 : decode cX0_begin 101 = .ok (.return_, 1) := by decide +kernel
theorem dX0_beginWalk_0 : decode cX0_beginWalk 0 = .ok (.aload_n 1, 1) := by decide +kernel
theorem dX0_beginWalk_1 : decode cX0_beginWalk 1 = .ok (.invokevirtual 230, 3) := by decide +kernel
theorem dX0_beginWalk_4 : decode cX0_beginWalk 4 = .ok (.aload_n 0, 1) := by decide +kernel
theorem dX0_beginWalk_5 : decode cX0_beginWalk 5 = .ok (.dup, 1) := by decide +kernel
theorem dX0_beginWalk_6 : decode cX0_beginWalk 6 = .ok (.getfield 79, 3) := by decide +kernel
theorem dX0_beginWalk_9 : decode cX0_beginWalk 9 = .ok (.aload_n 1, 1) := by decide +kernel
theorem dX0_beginWalk_10 : decode cX0_beginWalk 10 = .ok (.getfield 157, 3) := by decide +kernel
theorem dX0_beginWalk_13 : decode cX0_beginWalk 13 = .ok (.invokestatic 104, 3) := by decide +kernel
theorem dX0_beginWalk_16 : decode cX0_beginWalk 16 = .ok (.iconst (-1), 1) := by decide +kernel
theorem dX0_beginWalk_17 : decode cX0_beginWalk 17 = .ok (.ixor, 1) := by decide +kernel
theorem dX0_beginWalk_18 : decode cX0_beginWalk 18 = .ok (.iand, 1) := by decide +kernel
theorem dX0_beginWalk_19 : decode cX0_beginWalk 19 = .ok (.putfield 79, 3) := by decide +kernel
theorem dX0_beginWalk_22 : decode cX0_beginWalk 22 = .ok (.return_, 1) := by decide +kernel
theorem dX0_goByCalls_0 : decode cX0_goByCalls 0 = .ok (.iload_n 1, 1) := by decide +kernel
theorem dX0_goByCalls_1 : decode cX0_goByCalls 1 = .ok (.ifCond .eq 14, 3) := by decide +kernel
theorem dX0_goByCalls_4 : decode cX0_goByCalls 4 = .ok (.aload_n 0, 1) := by decide +kernel
theorem dX0_goByCalls_5 : decode cX0_goByCalls 5 = .ok (.getfield 73, 3) := by decide +kernel
theorem dX0_goByCalls_8 : decode cX0_goByCalls 8 = .ok (.ifCond .ne 7, 3) := by decide +kernel
theorem dX0_goByCalls_11 : decode cX0_goByCalls 11 = .ok (.iconst 1, 1) := by decide +kernel
theorem dX0_goByCalls_12 : decode cX0_goByCalls 12 = .ok (.goto 4, 3) := by decide +kernel
theorem dX0_goByCalls_15 : decode cX0_goByCalls 15 = .ok (.iconst 0, 1) := by decide +kernel
theorem dX0_goByCalls_16 : decode cX0_goByCalls 16 = .ok (.istore_n 2, 1) := by decide +kernel
theorem dX0_goByCalls_17 : decode cX0_goByCalls 17 = .ok (.iload_n 1, 1) := by decide +kernel
theorem dX0_goByCalls_18 : decode cX0_goByCalls 18 = .ok (.ifCond .eq 15, 3) := by decide +kernel
theorem dX0_goByCalls_21 : decode cX0_goByCalls 21 = .ok (.aload_n 0, 1) := by decide +kernel
theorem dX0_goByCalls_22 : decode cX0_goByCalls 22 = .ok (.getfield 73, 3) := by decide +kernel
theorem dX0_goByCalls_25 : decode cX0_goByCalls 25 = .ok (.iconst 1, 1) := by decide +kernel
theorem dX0_goByCalls_26 : decode cX0_goByCalls 26 = .ok (.if_icmp .ne 7, 3) := by decide +kernel
theorem dX0_goByCalls_29 : decode cX0_goByCalls 29 = .ok (.iconst 1, 1) := by decide +kernel
theorem dX0_goByCalls_30 : decode cX0_goByCalls 30 = .ok (.goto 4, 3) := by decide +kernel
theorem dX0_goByCalls_33 : decode cX0_goByCalls 33 = .ok (.iconst 0, 1) := by decide +kernel
theorem dX0_goByCalls_34 : decode cX0_goByCalls 34 = .ok (.istore_n 3, 1) := by decide +kernel
theorem dX0_goByCalls_35 : decode cX0_goByCalls 35 = .ok (.aload_n 0, 1) := by decide +kernel
theorem dX0_goByCalls_36 : decode cX0_goByCalls 36 = .ok (.getfield 82, 3) := by decide +kernel
theorem dX0_goByCalls_39 : decode cX0_goByCalls 39 = .ok (.ifCond .eq 28, 3) := by decide +kernel
theorem dX0_goByCalls_42 : decode cX0_goByCalls 42 = .ok (.aload_n 0, 1) := by decide +kernel
theorem dX0_goByCalls_43 : decode cX0_goByCalls 43 = .ok (.iconst 0, 1) := by decide +kernel
theorem dX0_goByCalls_44 : decode cX0_goByCalls 44 = .ok (.putfield 82, 3) := by decide +kernel
theorem dX0_goByCalls_47 : decode cX0_goByCalls 47 = .ok (.aload_n 0, 1) := by decide +kernel
theorem dX0_goByCalls_48 : decode cX0_goByCalls 48 = .ok (.dup, 1) := by decide +kernel
theorem dX0_goByCalls_49 : decode cX0_goByCalls 49 = .ok (.getfield 76, 3) := by decide +kernel
theorem dX0_goByCalls_52 : decode cX0_goByCalls 52 = .ok (.aload_n 0, 1) := by decide +kernel
theorem dX0_goByCalls_53 : decode cX0_goByCalls 53 = .ok (.getfield 67, 3) := by decide +kernel
theorem dX0_goByCalls_56 : decode cX0_goByCalls 56 = .ok (.aload_n 0, 1) := by decide +kernel
theorem dX0_goByCalls_57 : decode cX0_goByCalls 57 = .ok (.invokevirtual 232, 3) := by decide +kernel
theorem dX0_goByCalls_60 : decode cX0_goByCalls 60 = .ok (.iconst (-1), 1) := by decide +kernel
theorem dX0_goByCalls_61 : decode cX0_goByCalls 61 = .ok (.ixor, 1) := by decide +kernel
theorem dX0_goByCalls_62 : decode cX0_goByCalls 62 = .ok (.iand, 1) := by decide +kernel
theorem dX0_goByCalls_63 : decode cX0_goByCalls 63 = .ok (.ior, 1) := by decide +kernel
theorem dX0_goByCalls_64 : decode cX0_goByCalls 64 = .ok (.putfield 76, 3) := by decide +kernel
theorem dX0_goByCalls_67 : decode cX0_goByCalls 67 = .ok (.aload_n 0, 1) := by decide +kernel
theorem dX0_goByCalls_68 : decode cX0_goByCalls 68 = .ok (.invokevirtual 185, 3) := by decide +kernel
theorem dX0_goByCalls_71 : decode cX0_goByCalls 71 = .ok (.istore 4, 2) := by decide +kernel
theorem dX0_goByCalls_73 : decode cX0_goByCalls 73 = .ok (.aload_n 0, 1) := by decide +kernel
theorem dX0_goByCalls_74 : decode cX0_goByCalls 74 = .ok (.aload_n 0, 1) := by decide +kernel
theorem dX0_goByCalls_75 : decode cX0_goByCalls 75 = .ok (.getfield 52, 3) := by decide +kernel
theorem dX0_goByCalls_78 : decode cX0_goByCalls 78 = .ok (.iload 4, 2) := by decide +kernel
theorem dX0_goByCalls_80 : decode cX0_goByCalls 80 = .ok (.invokevirtual 188, 3) := by decide +kernel
theorem dX0_goByCalls_83 : decode cX0_goByCalls 83 = .ok (.aload_n 0, 1) := by decide +kernel
theorem dX0_goByCalls_84 : decode cX0_goByCalls 84 = .ok (.aload_n 0, 1) := by decide +kernel
theorem dX0_goByCalls_85 : decode cX0_goByCalls 85 = .ok (.getfield 56, 3) := by decide +kernel
theorem dX0_goByCalls_88 : decode cX0_goByCalls 88 = .ok (.iload 4, 2) := by decide +kernel
theorem dX0_goByCalls_90 : decode cX0_goByCalls 90 = .ok (.invokevirtual 188, 3) := by decide +kernel
theorem dX0_goByCalls_93 : decode cX0_goByCalls 93 = .ok (.aload_n 0, 1) := by decide +kernel
theorem dX0_goByCalls_94 : decode cX0_goByCalls 94 = .ok (.aload_n 0, 1) := by decide +kernel
theorem dX0_goByCalls_95 : decode cX0_goByCalls 95 = .ok (.getfield 52, 3) := by decide +kernel
theorem dX0_goByCalls_98 : decode cX0_goByCalls 98 = .ok (.iload_n 3, 1) := by decide +kernel
theorem dX0_goByCalls_99 : decode cX0_goByCalls 99 = .ok (.invokevirtual 235, 3) := by decide +kernel
theorem dX0_goByCalls_102 : decode cX0_goByCalls 102 = .ok (.aload_n 0, 1) := by decide +kernel
theorem dX0_goByCalls_103 : decode cX0_goByCalls 103 = .ok (.aload_n 0, 1) := by decide +kernel
theorem dX0_goByCalls_104 : decode cX0_goByCalls 104 = .ok (.getfield 56, 3) := by decide +kernel
theorem dX0_goByCalls_107 : decode cX0_goByCalls 107 = .ok (.iload_n 3, 1) := by decide +kernel
theorem dX0_goByCalls_108 : decode cX0_goByCalls 108 = .ok (.invokevirtual 235, 3) := by decide +kernel
theorem dX0_goByCalls_111 : decode cX0_goByCalls 111 = .ok (.iload_n 2, 1) := by decide +kernel
theorem dX0_goByCalls_112 : decode cX0_goByCalls 112 = .ok (.ifCond .ne 31, 3) := by decide +kernel
theorem dX0_goByCalls_115 : decode cX0_goByCalls 115 = .ok (.aload_n 0, 1) := by decide +kernel
theorem dX0_goByCalls_116 : decode cX0_goByCalls 116 = .ok (.aload_n 0, 1) := by decide +kernel
theorem dX0_goByCalls_117 : decode cX0_goByCalls 117 = .ok (.getfield 52, 3) := by decide +kernel
theorem dX0_goByCalls_120 : decode cX0_goByCalls 120 = .ok (.iload_n 3, 1) := by decide +kernel
theorem dX0_goByCalls_121 : decode cX0_goByCalls 121 = .ok (.invokevirtual 239, 3) := by decide +kernel
theorem dX0_goByCalls_124 : decode cX0_goByCalls 124 = .ok (.ifCond .eq 19, 3) := by decide +kernel
theorem dX0_goByCalls_127 : decode cX0_goByCalls 127 = .ok (.aload_n 0, 1) := by decide +kernel
theorem dX0_goByCalls_128 : decode cX0_goByCalls 128 = .ok (.aload_n 0, 1) := by decide +kernel
theorem dX0_goByCalls_129 : decode cX0_goByCalls 129 = .ok (.getfield 56, 3) := by decide +kernel
theorem dX0_goByCalls_132 : decode cX0_goByCalls 132 = .ok (.iload_n 3, 1) := by decide +kernel
theorem dX0_goByCalls_133 : decode cX0_goByCalls 133 = .ok (.invokevirtual 239, 3) := by decide +kernel
theorem dX0_goByCalls_136 : decode cX0_goByCalls 136 = .ok (.ifCond .eq 7, 3) := by decide +kernel
theorem dX0_goByCalls_139 : decode cX0_goByCalls 139 = .ok (.aload_n 0, 1) := by decide +kernel
theorem dX0_goByCalls_140 : decode cX0_goByCalls 140 = .ok (.invokevirtual 243, 3) := by decide +kernel
theorem dX0_goByCalls_143 : decode cX0_goByCalls 143 = .ok (.aload_n 0, 1) := by decide +kernel
theorem dX0_goByCalls_144 : decode cX0_goByCalls 144 = .ok (.getfield 52, 3) := by decide +kernel
theorem dX0_goByCalls_147 : decode cX0_goByCalls 147 = .ok (.invokevirtual 175, 3) := by decide +kernel
theorem dX0_goByCalls_150 : decode cX0_goByCalls 150 = .ok (.ifCond .eq 24, 3) := by decide +kernel
theorem dX0_goByCalls_153 : decode cX0_goByCalls 153 = .ok (.aload_n 0, 1) := by decide +kernel
theorem dX0_goByCalls_154 : decode cX0_goByCalls 154 = .ok (.getfield 56, 3) := by decide +kernel
theorem dX0_goByCalls_157 : decode cX0_goByCalls 157 = .ok (.invokevirtual 175, 3) := by decide +kernel
theorem dX0_goByCalls_160 : decode cX0_goByCalls 160 = .ok (.ifCond .eq 14, 3) := by decide +kernel
theorem dX0_goByCalls_163 : decode cX0_goByCalls 163 = .ok (.iload 4, 2) := by decide +kernel
theorem dX0_goByCalls_165 : decode cX0_goByCalls 165 = .ok (.ifCond .eq 9, 3) := by decide +kernel
theorem dX0_goByCalls_168 : decode cX0_goByCalls 168 = .ok (.aload_n 0, 1) := by decide +kernel
theorem dX0_goByCalls_169 : decode cX0_goByCalls 169 = .ok (.iload 4, 2) := by decide +kernel
theorem dX0_goByCalls_171 : decode cX0_goByCalls 171 = .ok (.invokevirtual 246, 3) := by decide +kernel
theorem dX0_goByCalls_174 : decode cX0_goByCalls 174 = .ok (.return_, 1) := by decide +kernel
theorem dX0_goOn_0 : decode cX0_goOn 0 = .ok (.aload_n 1, 1) := by decide +kernel
theorem dX0_goOn_1 : decode cX0_goOn 1 = .ok (.invokevirtual 154, 3) := by decide +kernel
theorem dX0_goOn_4 : decode cX0_goOn 4 = .ok (.ifCond .eq 21, 3) := by decide +kernel
theorem dX0_goOn_7 : decode cX0_goOn 7 = .ok (.aload_n 1, 1) := by decide +kernel
theorem dX0_goOn_8 : decode cX0_goOn 8 = .ok (.getfield 249, 3) := by decide +kernel
theorem dX0_goOn_11 : decode cX0_goOn 11 = .ok (.ifCond .ne 14, 3) := by decide +kernel
theorem dX0_goOn_14 : decode cX0_goOn 14 = .ok (.aload_n 1, 1) := by decide +kernel
theorem dX0_goOn_15 : decode cX0_goOn 15 = .ok (.getfield 192, 3) := by decide +kernel
theorem dX0_goOn_18 : decode cX0_goOn 18 = .ok (.ifCond .ne 7, 3) := by decide +kernel
theorem dX0_goOn_21 : decode cX0_goOn 21 = .ok (.iconst 1, 1) := by decide +kernel
theorem dX0_goOn_22 : decode cX0_goOn 22 = .ok (.goto 4, 3) := by decide +kernel
theorem dX0_goOn_25 : decode cX0_goOn 25 = .ok (.iconst 0, 1) := by decide +kernel
theorem dX0_goOn_26 : decode cX0_goOn 26 = .ok (.istore_n 3, 1) := by decide +kernel
theorem dX0_goOn_27 : decode cX0_goOn 27 = .ok (.iload_n 3, 1) := by decide +kernel
theorem dX0_goOn_28 : decode cX0_goOn 28 = .ok (.ifCond .eq 23, 3) := by decide +kernel
theorem dX0_goOn_31 : decode cX0_goOn 31 = .ok (.aload_n 0, 1) := by decide +kernel
theorem dX0_goOn_32 : decode cX0_goOn 32 = .ok (.getfield 79, 3) := by decide +kernel
theorem dX0_goOn_35 : decode cX0_goOn 35 = .ok (.aload_n 1, 1) := by decide +kernel
theorem dX0_goOn_36 : decode cX0_goOn 36 = .ok (.getfield 157, 3) := by decide +kernel
theorem dX0_goOn_39 : decode cX0_goOn 39 = .ok (.invokestatic 104, 3) := by decide +kernel
theorem dX0_goOn_42 : decode cX0_goOn 42 = .ok (.iand, 1) := by decide +kernel
theorem dX0_goOn_43 : decode cX0_goOn 43 = .ok (.ifCond .eq 8, 3) := by decide +kernel
theorem dX0_goOn_46 : decode cX0_goOn 46 = .ok (.aload_n 0, 1) := by decide +kernel
theorem dX0_goOn_47 : decode cX0_goOn 47 = .ok (.aload_n 1, 1) := by decide +kernel
theorem dX0_goOn_48 : decode cX0_goOn 48 = .ok (.invokevirtual 227, 3) := by decide +kernel
theorem dX0_goOn_51 : decode cX0_goOn 51 = .ok (.aload_n 0, 1) := by decide +kernel
theorem dX0_goOn_52 : decode cX0_goOn 52 = .ok (.aload_n 1, 1) := by decide +kernel
theorem dX0_goOn_53 : decode cX0_goOn 53 = .ok (.iload_n 2, 1) := by decide +kernel
theorem dX0_goOn_54 : decode cX0_goOn 54 = .ok (.invokevirtual 252, 3) := by decide +kernel
theorem dX0_goOn_57 : decode cX0_goOn 57 = .ok (.ifCond .eq 19, 3) := by decide +kernel
theorem dX0_goOn_60 : decode cX0_goOn 60 = .ok (.aload_n 1, 1) := by decide +kernel
theorem dX0_goOn_61 : decode cX0_goOn 61 = .ok (.getfield 216, 3) := by decide +kernel
theorem dX0_goOn_64 : decode cX0_goOn 64 = .ok (.iconst (-1), 1) := by decide +kernel
theorem dX0_goOn_65 : decode cX0_goOn 65 = .ok (.if_icmp .eq 11, 3) := by decide +kernel
theorem dX0_goOn_68 : decode cX0_goOn 68 = .ok (.aload_n 1, 1) := by decide +kernel
theorem dX0_goOn_69 : decode cX0_goOn 69 = .ok (.aload_n 1, 1) := by decide +kernel
theorem dX0_goOn_70 : decode cX0_goOn 70 = .ok (.getfield 216, 3) := by decide +kernel
theorem dX0_goOn_73 : decode cX0_goOn 73 = .ok (.invokevirtual 255, 3) := by decide +kernel
theorem dX0_goOn_76 : decode cX0_goOn 76 = .ok (.return_, 1) := by decide +kernel
theorem dX0_mayLeave_0 : decode cX0_mayLeave 0 = .ok (.aload_n 1, 1) := by decide +kernel
theorem dX0_mayLeave_1 : decode cX0_mayLeave 1 = .ok (.invokevirtual 175, 3) := by decide +kernel
theorem dX0_mayLeave_4 : decode cX0_mayLeave 4 = .ok (.ifCond .ne 20, 3) := by decide +kernel
theorem dX0_mayLeave_7 : decode cX0_mayLeave 7 = .ok (.aload_n 0, 1) := by decide +kernel
theorem dX0_mayLeave_8 : decode cX0_mayLeave 8 = .ok (.aload_n 1, 1) := by decide +kernel
theorem dX0_mayLeave_9 : decode cX0_mayLeave 9 = .ok (.iload_n 2, 1) := by decide +kernel
theorem dX0_mayLeave_10 : decode cX0_mayLeave 10 = .ok (.invokevirtual 252, 3) := by decide +kernel
theorem dX0_mayLeave_13 : decode cX0_mayLeave 13 = .ok (.ifCond .eq 15, 3) := by decide +kernel
theorem dX0_mayLeave_16 : decode cX0_mayLeave 16 = .ok (.aload_n 1, 1) := by decide +kernel
theorem dX0_mayLeave_17 : decode cX0_mayLeave 17 = .ok (.getfield 216, 3) := by decide +kernel
theorem dX0_mayLeave_20 : decode cX0_mayLeave 20 = .ok (.iconst (-1), 1) := by decide +kernel
theorem dX0_mayLeave_21 : decode cX0_mayLeave 21 = .ok (.if_icmp .ne 7, 3) := by decide +kernel
theorem dX0_mayLeave_24 : decode cX0_mayLeave 24 = .ok (.iconst 1, 1) := by decide +kernel
theorem dX0_mayLeave_25 : decode cX0_mayLeave 25 = .ok (.goto 4, 3) := by decide +kernel
theorem dX0_mayLeave_28 : decode cX0_mayLeave 28 = .ok (.iconst 0, 1) := by decide +kernel
theorem dX0_mayLeave_29 : decode cX0_mayLeave 29 = .ok (.ireturn, 1) := by decide +kernel
theorem dX0_isDone_0 : decode cX0_isDone 0 = .ok (.aload_n 1, 1) := by decide +kernel
theorem dX0_isDone_1 : decode cX0_isDone 1 = .ok (.getfield 192, 3) := by decide +kernel
theorem dX0_isDone_4 : decode cX0_isDone 4 = .ok (.ifCond .eq 22, 3) := by decide +kernel
theorem dX0_isDone_7 : decode cX0_isDone 7 = .ok (.aload_n 1, 1) := by decide +kernel
theorem dX0_isDone_8 : decode cX0_isDone 8 = .ok (.aload_n 0, 1) := by decide +kernel
theorem dX0_isDone_9 : decode cX0_isDone 9 = .ok (.getfield 18, 3) := by decide +kernel
theorem dX0_isDone_12 : decode cX0_isDone 12 = .ok (.aload_n 1, 1) := by decide +kernel
theorem dX0_isDone_13 : decode cX0_isDone 13 = .ok (.getfield 157, 3) := by decide +kernel
theorem dX0_isDone_16 : decode cX0_isDone 16 = .ok (.iconst 0, 1) := by decide +kernel
theorem dX0_isDone_17 : decode cX0_isDone 17 = .ok (.invokevirtual 108, 3) := by decide +kernel
theorem dX0_isDone_20 : decode cX0_isDone 20 = .ok (.invokevirtual 258, 3) := by decide +kernel
theorem dX0_isDone_23 : decode cX0_isDone 23 = .ok (.ifCond .ne 5, 3) := by decide +kernel
theorem dX0_isDone_26 : decode cX0_isDone 26 = .ok (.iconst 0, 1) := by decide +kernel
theorem dX0_isDone_27 : decode cX0_isDone 27 = .ok (.ireturn, 1) := by decide +kernel
theorem dX0_isDone_28 : decode cX0_isDone 28 = .ok (.iload_n 2, 1) := by decide +kernel
theorem dX0_isDone_29 : decode cX0_isDone 29 = .ok (.ifCond .ne 29, 3) := by decide +kernel
theorem dX0_isDone_32 : decode cX0_isDone 32 = .ok (.aload_n 1, 1) := by decide +kernel
theorem dX0_isDone_33 : decode cX0_isDone 33 = .ok (.getfield 170, 3) := by decide +kernel
theorem dX0_isDone_36 : decode cX0_isDone 36 = .ok (.ifCond .eq 22, 3) := by decide +kernel
theorem dX0_isDone_39 : decode cX0_isDone 39 = .ok (.aload_n 1, 1) := by decide +kernel
theorem dX0_isDone_40 : decode cX0_isDone 40 = .ok (.getfield 195, 3) := by decide +kernel
theorem dX0_isDone_43 : decode cX0_isDone 43 = .ok (.aload_n 0, 1) := by decide +kernel
theorem dX0_isDone_44 : decode cX0_isDone 44 = .ok (.getfield 18, 3) := by decide +kernel
theorem dX0_isDone_47 : decode cX0_isDone 47 = .ok (.aload_n 1, 1) := by decide +kernel
theorem dX0_isDone_48 : decode cX0_isDone 48 = .ok (.getfield 157, 3) := by decide +kernel
theorem dX0_isDone_51 : decode cX0_isDone 51 = .ok (.iconst 2, 1) := by decide +kernel
theorem dX0_isDone_52 : decode cX0_isDone 52 = .ok (.invokevirtual 108, 3) := by decide +kernel
theorem dX0_isDone_55 : decode cX0_isDone 55 = .ok (.if_icmp .lt 7, 3) := by decide +kernel
theorem dX0_isDone_58 : decode cX0_isDone 58 = .ok (.iconst 1, 1) := by decide +kernel
theorem dX0_isDone_59 : decode cX0_isDone 59 = .ok (.goto 4, 3) := by decide +kernel
theorem dX0_isDone_62 : decode cX0_isDone 62 = .ok (.iconst 0, 1) := by decide +kernel
theorem dX0_isDone_63 : decode cX0_isDone 63 = .ok (.ireturn, 1) := by decide +kernel
theorem dX0_leaveSide_0 : decode cX0_leaveSide 0 = .ok (.iconst 0, 1) := by decide +kernel
theorem dX0_leaveSide_1 : decode cX0_leaveSide 1 = .ok (.istore_n 1, 1) := by decide +kernel
theorem dX0_leaveSide_2 : decode cX0_leaveSide 2 = .ok (.iload_n 1, 1) := by decide +kernel
theorem dX0_leaveSide_3 : decode cX0_leaveSide 3 = .ok (.iconst 2, 1) := by decide +kernel
theorem dX0_leaveSide_4 : decode cX0_leaveSide 4 = .ok (.if_icmp .ge 27, 3) := by decide +kernel
theorem dX0_leaveSide_7 : decode cX0_leaveSide 7 = .ok (.aload_n 0, 1) := by decide +kernel
theorem dX0_leaveSide_8 : decode cX0_leaveSide 8 = .ok (.iload_n 1, 1) := by decide +kernel
theorem dX0_leaveSide_9 : decode cX0_leaveSide 9 = .ok (.invokevirtual 150, 3) := by decide +kernel
theorem dX0_leaveSide_12 : decode cX0_leaveSide 12 = .ok (.astore_n 2, 1) := by decide +kernel
theorem dX0_leaveSide_13 : decode cX0_leaveSide 13 = .ok (.aload_n 2, 1) := by decide +kernel
theorem dX0_leaveSide_14 : decode cX0_leaveSide 14 = .ok (.invokevirtual 154, 3) := by decide +kernel
theorem dX0_leaveSide_17 : decode cX0_leaveSide 17 = .ok (.ifCond .eq 8, 3) := by decide +kernel
theorem dX0_leaveSide_20 : decode cX0_leaveSide 20 = .ok (.aload_n 2, 1) := by decide +kernel
theorem dX0_leaveSide_21 : decode cX0_leaveSide 21 = .ok (.iconst (-1), 1) := by decide +kernel
theorem dX0_leaveSide_22 : decode cX0_leaveSide 22 = .ok (.invokevirtual 255, 3) := by decide +kernel
theorem dX0_leaveSide_25 : decode cX0_leaveSide 25 = .ok (.iinc 1 1, 3) := by decide +kernel
theorem dX0_leaveSide_28 : decode cX0_leaveSide 28 = .ok (.goto (-26), 3) := by decide +kernel
theorem dX0_leaveSide_31 : decode cX0_leaveSide 31 = .ok (.return_, 1) := by decide +kernel
theorem dX0_cross_0 : decode cX0_cross 0 = .ok (.iload_n 1, 1) := by decide +kernel
theorem dX0_cross_1 : decode cX0_cross 1 = .ok (.iconst 1, 1) := by decide +kernel
theorem dX0_cross_2 : decode cX0_cross 2 = .ok (.aload_n 0, 1) := by decide +kernel
theorem dX0_cross_3 : decode cX0_cross 3 = .ok (.getfield 73, 3) := by decide +kernel
theorem dX0_cross_6 : decode cX0_cross 6 = .ok (.isub, 1) := by decide +kernel
theorem dX0_cross_7 : decode cX0_cross 7 = .ok (.invokestatic 210, 3) := by decide +kernel
theorem dX0_cross_10 : decode cX0_cross 10 = .ok (.iand, 1) := by decide +kernel
theorem dX0_cross_11 : decode cX0_cross 11 = .ok (.ifCond .eq 13, 3) := by decide +kernel
theorem dX0_cross_14 : decode cX0_cross 14 = .ok (.aload_n 0, 1) := by decide +kernel
theorem dX0_cross_15 : decode cX0_cross 15 = .ok (.iconst 1, 1) := by decide +kernel
theorem dX0_cross_16 : decode cX0_cross 16 = .ok (.aload_n 0, 1) := by decide +kernel
theorem dX0_cross_17 : decode cX0_cross 17 = .ok (.getfield 73, 3) := by decide +kernel
theorem dX0_cross_20 : decode cX0_cross 20 = .ok (.isub, 1) := by decide +kernel
theorem dX0_cross_21 : decode cX0_cross 21 = .ok (.putfield 73, 3) := by decide +kernel
theorem dX0_cross_24 : decode cX0_cross 24 = .ok (.iconst 0, 1) := by decide +kernel
theorem dX0_cross_25 : decode cX0_cross 25 = .ok (.istore_n 2, 1) := by decide +kernel
theorem dX0_cross_26 : decode cX0_cross 26 = .ok (.iload_n 2, 1) := by decide +kernel
theorem dX0_cross_27 : decode cX0_cross 27 = .ok (.iconst 2, 1) := by decide +kernel
theorem dX0_cross_28 : decode cX0_cross 28 = .ok (.if_icmp .ge 53, 3) := by decide +kernel
theorem dX0_cross_31 : decode cX0_cross 31 = .ok (.aload_n 0, 1) := by decide +kernel
theorem dX0_cross_32 : decode cX0_cross 32 = .ok (.iload_n 2, 1) := by decide +kernel
theorem dX0_cross_33 : decode cX0_cross 33 = .ok (.iload_n 1, 1) := by decide +kernel
theorem dX0_cross_34 : decode cX0_cross 34 = .ok (.invokevirtual 261, 3) := by decide +kernel
theorem dX0_cross_37 : decode cX0_cross 37 = .ok (.istore_n 3, 1) := by decide +kernel
theorem dX0_cross_38 : decode cX0_cross 38 = .ok (.iload_n 3, 1) := by decide +kernel
theorem dX0_cross_39 : decode cX0_cross 39 = .ok (.iconst (-1), 1) := by decide +kernel
theorem dX0_cross_40 : decode cX0_cross 40 = .ok (.if_icmp .eq 7, 3) := by decide +kernel
theorem dX0_cross_43 : decode cX0_cross 43 = .ok (.iload_n 3, 1) := by decide +kernel
theorem dX0_cross_44 : decode cX0_cross 44 = .ok (.goto 12, 3) := by decide +kernel
theorem dX0_cross_47 : decode cX0_cross 47 = .ok (.aload_n 0, 1) := by decide +kernel
theorem dX0_cross_48 : decode cX0_cross 48 = .ok (.iload_n 2, 1) := by decide +kernel
theorem dX0_cross_49 : decode cX0_cross 49 = .ok (.aload_n 0, 1) := by decide +kernel
theorem dX0_cross_50 : decode cX0_cross 50 = .ok (.getfield 67, 3) := by decide +kernel
theorem dX0_cross_53 : decode cX0_cross 53 = .ok (.invokevirtual 261, 3) := by decide +kernel
theorem dX0_cross_56 : decode cX0_cross 56 = .ok (.istore 4, 2) := by decide +kernel
theorem dX0_cross_58 : decode cX0_cross 58 = .ok (.iload 4, 2) := by decide +kernel
theorem dX0_cross_60 : decode cX0_cross 60 = .ok (.iconst (-1), 1) := by decide +kernel
theorem dX0_cross_61 : decode cX0_cross 61 = .ok (.if_icmp .eq 14, 3) := by decide +kernel
theorem dX0_cross_64 : decode cX0_cross 64 = .ok (.aload_n 0, 1) := by decide +kernel
theorem dX0_cross_65 : decode cX0_cross 65 = .ok (.aload_n 0, 1) := by decide +kernel
theorem dX0_cross_66 : decode cX0_cross 66 = .ok (.iload_n 2, 1) := by decide +kernel
theorem dX0_cross_67 : decode cX0_cross 67 = .ok (.invokevirtual 150, 3) := by decide +kernel
theorem dX0_cross_70 : decode cX0_cross 70 = .ok (.iload 4, 2) := by decide +kernel
theorem dX0_cross_72 : decode cX0_cross 72 = .ok (.invokevirtual 222, 3) := by decide +kernel
theorem dX0_cross_75 : decode cX0_cross 75 = .ok (.iinc 2 1, 3) := by decide +kernel
theorem dX0_cross_78 : decode cX0_cross 78 = .ok (.goto (-52), 3) := by decide +kernel
theorem dX0_cross_81 : decode cX0_cross 81 = .ok (.return_, 1) := by decide +kernel
theorem dX0_firstOfSide_0 : decode cX0_firstOfSide 0 = .ok (.iload_n 1, 1) := by decide +kernel
theorem dX0_firstOfSide_1 : decode cX0_firstOfSide 1 = .ok (.iconst 4, 1) := by decide +kernel
theorem dX0_firstOfSide_2 : decode cX0_firstOfSide 2 = .ok (.imul, 1) := by decide +kernel
theorem dX0_firstOfSide_3 : decode cX0_firstOfSide 3 = .ok (.aload_n 0, 1) := by decide +kernel
theorem dX0_firstOfSide_4 : decode cX0_firstOfSide 4 = .ok (.getfield 73, 3) := by decide +kernel
theorem dX0_firstOfSide_7 : decode cX0_firstOfSide 7 = .ok (.iconst 2, 1) := by decide +kernel
theorem dX0_firstOfSide_8 : decode cX0_firstOfSide 8 = .ok (.imul, 1) := by decide +kernel
theorem dX0_firstOfSide_9 : decode cX0_firstOfSide 9 = .ok (.iadd, 1) := by decide +kernel
theorem dX0_firstOfSide_10 : decode cX0_firstOfSide 10 = .ok (.istore_n 3, 1) := by decide +kernel
theorem dX0_firstOfSide_11 : decode cX0_firstOfSide 11 = .ok (.iload_n 2, 1) := by decide +kernel
theorem dX0_firstOfSide_12 : decode cX0_firstOfSide 12 = .ok (.iload_n 3, 1) := by decide +kernel
theorem dX0_firstOfSide_13 : decode cX0_firstOfSide 13 = .ok (.invokestatic 104, 3) := by decide +kernel
theorem dX0_firstOfSide_16 : decode cX0_firstOfSide 16 = .ok (.iand, 1) := by decide +kernel
theorem dX0_firstOfSide_17 : decode cX0_firstOfSide 17 = .ok (.ifCond .eq 5, 3) := by decide +kernel
theorem dX0_firstOfSide_20 : decode cX0_firstOfSide 20 = .ok (.iload_n 3, 1) := by decide +kernel
theorem dX0_firstOfSide_21 : decode cX0_firstOfSide 21 = .ok (.ireturn, 1) := by decide +kernel
theorem dX0_firstOfSide_22 : decode cX0_firstOfSide 22 = .ok (.iload_n 2, 1) := by decide +kernel
theorem dX0_firstOfSide_23 : decode cX0_firstOfSide 23 = .ok (.iload_n 3, 1) := by decide +kernel
theorem dX0_firstOfSide_24 : decode cX0_firstOfSide 24 = .ok (.iconst 1, 1) := by decide +kernel
theorem dX0_firstOfSide_25 : decode cX0_firstOfSide 25 = .ok (.iadd, 1) := by decide +kernel
theorem dX0_firstOfSide_26 : decode cX0_firstOfSide 26 = .ok (.invokestatic 104, 3) := by decide +kernel
theorem dX0_firstOfSide_29 : decode cX0_firstOfSide 29 = .ok (.iand, 1) := by decide +kernel
theorem dX0_firstOfSide_30 : decode cX0_firstOfSide 30 = .ok (.ifCond .eq 9, 3) := by decide +kernel
theorem dX0_firstOfSide_33 : decode cX0_firstOfSide 33 = .ok (.iload_n 3, 1) := by decide +kernel
theorem dX0_firstOfSide_34 : decode cX0_firstOfSide 34 = .ok (.iconst 1, 1) := by decide +kernel
theorem dX0_firstOfSide_35 : decode cX0_firstOfSide 35 = .ok (.iadd, 1) := by decide +kernel
theorem dX0_firstOfSide_36 : decode cX0_firstOfSide 36 = .ok (.goto 4, 3) := by decide +kernel
theorem dX0_firstOfSide_39 : decode cX0_firstOfSide 39 = .ok (.iconst (-1), 1) := by decide +kernel
theorem dX0_firstOfSide_40 : decode cX0_firstOfSide 40 = .ok (.ireturn, 1) := by decide +kernel
theorem dX0_goByInput_0 : decode cX0_goByInput 0 = .ok (.aload_n 0, 1) := by decide +kernel
theorem dX0_goByInput_1 : decode cX0_goByInput 1 = .ok (.iconst 1, 1) := by decide +kernel
theorem dX0_goByInput_2 : decode cX0_goByInput 2 = .ok (.putfield 82, 3) := by decide +kernel
theorem dX0_goByInput_5 : decode cX0_goByInput 5 = .ok (.iload_n 1, 1) := by decide +kernel
theorem dX0_goByInput_6 : decode cX0_goByInput 6 = .ok (.invokestatic 264, 3) := by decide +kernel
theorem dX0_goByInput_9 : decode cX0_goByInput 9 = .ok (.aload_n 0, 1) := by decide +kernel
theorem dX0_goByInput_10 : decode cX0_goByInput 10 = .ok (.getfield 73, 3) := by decide +kernel
theorem dX0_goByInput_13 : decode cX0_goByInput 13 = .ok (.if_icmp .ne 7, 3) := by decide +kernel
theorem dX0_goByInput_16 : decode cX0_goByInput 16 = .ok (.iconst 1, 1) := by decide +kernel
theorem dX0_goByInput_17 : decode cX0_goByInput 17 = .ok (.goto 4, 3) := by decide +kernel
theorem dX0_goByInput_20 : decode cX0_goByInput 20 = .ok (.iconst 0, 1) := by decide +kernel
theorem dX0_goByInput_21 : decode cX0_goByInput 21 = .ok (.istore_n 2, 1) := by decide +kernel
theorem dX0_goByInput_22 : decode cX0_goByInput 22 = .ok (.iconst 0, 1) := by decide +kernel
theorem dX0_goByInput_23 : decode cX0_goByInput 23 = .ok (.istore_n 3, 1) := by decide +kernel
theorem dX0_goByInput_24 : decode cX0_goByInput 24 = .ok (.iload_n 3, 1) := by decide +kernel
theorem dX0_goByInput_25 : decode cX0_goByInput 25 = .ok (.iconst 2, 1) := by decide +kernel
theorem dX0_goByInput_26 : decode cX0_goByInput 26 = .ok (.if_icmp .ge 25, 3) := by decide +kernel
theorem dX0_goByInput_29 : decode cX0_goByInput 29 = .ok (.aload_n 0, 1) := by decide +kernel
theorem dX0_goByInput_30 : decode cX0_goByInput 30 = .ok (.aload_n 0, 1) := by decide +kernel
theorem dX0_goByInput_31 : decode cX0_goByInput 31 = .ok (.iload_n 3, 1) := by decide +kernel
theorem dX0_goByInput_32 : decode cX0_goByInput 32 = .ok (.invokevirtual 150, 3) := by decide +kernel
theorem dX0_goByInput_35 : decode cX0_goByInput 35 = .ok (.aload_n 0, 1) := by decide +kernel
theorem dX0_goByInput_36 : decode cX0_goByInput 36 = .ok (.iload_n 3, 1) := by decide +kernel
theorem dX0_goByInput_37 : decode cX0_goByInput 37 = .ok (.iload_n 1, 1) := by decide +kernel
theorem dX0_goByInput_38 : decode cX0_goByInput 38 = .ok (.invokevirtual 267, 3) := by decide +kernel
theorem dX0_goByInput_41 : decode cX0_goByInput 41 = .ok (.iload_n 2, 1) := by decide +kernel
theorem dX0_goByInput_42 : decode cX0_goByInput 42 = .ok (.invokevirtual 270, 3) := by decide +kernel
theorem dX0_goByInput_45 : decode cX0_goByInput 45 = .ok (.iinc 3 1, 3) := by decide +kernel
theorem dX0_goByInput_48 : decode cX0_goByInput 48 = .ok (.goto (-24), 3) := by decide +kernel
theorem dX0_goByInput_51 : decode cX0_goByInput 51 = .ok (.iload_n 2, 1) := by decide +kernel
theorem dX0_goByInput_52 : decode cX0_goByInput 52 = .ok (.ifCond .ne 29, 3) := by decide +kernel
theorem dX0_goByInput_55 : decode cX0_goByInput 55 = .ok (.aload_n 0, 1) := by decide +kernel
theorem dX0_goByInput_56 : decode cX0_goByInput 56 = .ok (.aload_n 0, 1) := by decide +kernel
theorem dX0_goByInput_57 : decode cX0_goByInput 57 = .ok (.getfield 52, 3) := by decide +kernel
theorem dX0_goByInput_60 : decode cX0_goByInput 60 = .ok (.invokevirtual 274, 3) := by decide +kernel
theorem dX0_goByInput_63 : decode cX0_goByInput 63 = .ok (.ifCond .eq 18, 3) := by decide +kernel
theorem dX0_goByInput_66 : decode cX0_goByInput 66 = .ok (.aload_n 0, 1) := by decide +kernel
theorem dX0_goByInput_67 : decode cX0_goByInput 67 = .ok (.aload_n 0, 1) := by decide +kernel
theorem dX0_goByInput_68 : decode cX0_goByInput 68 = .ok (.getfield 56, 3) := by decide +kernel
theorem dX0_goByInput_71 : decode cX0_goByInput 71 = .ok (.invokevirtual 274, 3) := by decide +kernel
theorem dX0_goByInput_74 : decode cX0_goByInput 74 = .ok (.ifCond .eq 7, 3) := by decide +kernel
theorem dX0_goByInput_77 : decode cX0_goByInput 77 = .ok (.aload_n 0, 1) := by decide +kernel
theorem dX0_goByInput_78 : decode cX0_goByInput 78 = .ok (.invokevirtual 243, 3) := by decide +kernel
theorem dX0_goByInput_81 : decode cX0_goByInput 81 = .ok (.aload_n 0, 1) := by decide +kernel
theorem dX0_goByInput_82 : decode cX0_goByInput 82 = .ok (.getfield 52, 3) := by decide +kernel
theorem dX0_goByInput_85 : decode cX0_goByInput 85 = .ok (.invokevirtual 175, 3) := by decide +kernel
theorem dX0_goByInput_88 : decode cX0_goByInput 88 = .ok (.ifCond .eq 21, 3) := by decide +kernel
theorem dX0_goByInput_91 : decode cX0_goByInput 91 = .ok (.aload_n 0, 1) := by decide +kernel
theorem dX0_goByInput_92 : decode cX0_goByInput 92 = .ok (.getfield 56, 3) := by decide +kernel
theorem dX0_goByInput_95 : decode cX0_goByInput 95 = .ok (.invokevirtual 175, 3) := by decide +kernel
theorem dX0_goByInput_98 : decode cX0_goByInput 98 = .ok (.ifCond .eq 11, 3) := by decide +kernel
theorem dX0_goByInput_101 : decode cX0_goByInput 101 = .ok (.aload_n 0, 1) := by decide +kernel
theorem dX0_goByInput_102 : decode cX0_goByInput 102 = .ok (.iload_n 1, 1) := by decide +kernel
theorem dX0_goByInput_103 : decode cX0_goByInput 103 = .ok (.invokestatic 264, 3) := by decide +kernel
theorem dX0_goByInput_106 : decode cX0_goByInput 106 = .ok (.putfield 73, 3) := by decide +kernel
theorem dX0_goByInput_109 : decode cX0_goByInput 109 = .ok (.iconst 0, 1) := by decide +kernel
theorem dX0_goByInput_110 : decode cX0_goByInput 110 = .ok (.istore_n 3, 1) := by decide +kernel
theorem dX0_goByInput_111 : decode cX0_goByInput 111 = .ok (.iload_n 3, 1) := by decide +kernel
theorem dX0_goByInput_112 : decode cX0_goByInput 112 = .ok (.iconst 2, 1) := by decide +kernel
theorem dX0_goByInput_113 : decode cX0_goByInput 113 = .ok (.if_icmp .ge 57, 3) := by decide +kernel
theorem dX0_goByInput_116 : decode cX0_goByInput 116 = .ok (.aload_n 0, 1) := by decide +kernel
theorem dX0_goByInput_117 : decode cX0_goByInput 117 = .ok (.iload_n 3, 1) := by decide +kernel
theorem dX0_goByInput_118 : decode cX0_goByInput 118 = .ok (.iload_n 1, 1) := by decide +kernel
theorem dX0_goByInput_119 : decode cX0_goByInput 119 = .ok (.invokevirtual 267, 3) := by decide +kernel
theorem dX0_goByInput_122 : decode cX0_goByInput 122 = .ok (.istore 4, 2) := by decide +kernel
theorem dX0_goByInput_124 : decode cX0_goByInput 124 = .ok (.aload_n 0, 1) := by decide +kernel
theorem dX0_goByInput_125 : decode cX0_goByInput 125 = .ok (.iload_n 3, 1) := by decide +kernel
theorem dX0_goByInput_126 : decode cX0_goByInput 126 = .ok (.invokevirtual 150, 3) := by decide +kernel
theorem dX0_goByInput_129 : decode cX0_goByInput 129 = .ok (.invokevirtual 175, 3) := by decide +kernel
theorem dX0_goByInput_132 : decode cX0_goByInput 132 = .ok (.ifCond .eq 32, 3) := by decide +kernel
theorem dX0_goByInput_135 : decode cX0_goByInput 135 = .ok (.iload 4, 2) := by decide +kernel
theorem dX0_goByInput_137 : decode cX0_goByInput 137 = .ok (.iconst (-1), 1) := by decide +kernel
theorem dX0_goByInput_138 : decode cX0_goByInput 138 = .ok (.if_icmp .eq 26, 3) := by decide +kernel
theorem dX0_goByInput_141 : decode cX0_goByInput 141 = .ok (.iload 4, 2) := by decide +kernel
theorem dX0_goByInput_143 : decode cX0_goByInput 143 = .ok (.invokestatic 264, 3) := by decide +kernel
theorem dX0_goByInput_146 : decode cX0_goByInput 146 = .ok (.aload_n 0, 1) := by decide +kernel
theorem dX0_goByInput_147 : decode cX0_goByInput 147 = .ok (.getfield 73, 3) := by decide +kernel
theorem dX0_goByInput_150 : decode cX0_goByInput 150 = .ok (.if_icmp .ne 14, 3) := by decide +kernel
theorem dX0_goByInput_153 : decode cX0_goByInput 153 = .ok (.aload_n 0, 1) := by decide +kernel
theorem dX0_goByInput_154 : decode cX0_goByInput 154 = .ok (.aload_n 0, 1) := by decide +kernel
theorem dX0_goByInput_155 : decode cX0_goByInput 155 = .ok (.iload_n 3, 1) := by decide +kernel
theorem dX0_goByInput_156 : decode cX0_goByInput 156 = .ok (.invokevirtual 150, 3) := by decide +kernel
theorem dX0_goByInput_159 : decode cX0_goByInput 159 = .ok (.iload 4, 2) := by decide +kernel
theorem dX0_goByInput_161 : decode cX0_goByInput 161 = .ok (.invokevirtual 222, 3) := by decide +kernel
theorem dX0_goByInput_164 : decode cX0_goByInput 164 = .ok (.iinc 3 1, 3) := by decide +kernel
theorem dX0_goByInput_167 : decode cX0_goByInput 167 = .ok (.goto (-56), 3) := by decide +kernel
theorem dX0_goByInput_170 : decode cX0_goByInput 170 = .ok (.return_, 1) := by decide +kernel
theorem dX0_giveWay_0 : decode cX0_giveWay 0 = .ok (.aload_n 1, 1) := by decide +kernel
theorem dX0_giveWay_1 : decode cX0_giveWay 1 = .ok (.getfield 249, 3) := by decide +kernel
theorem dX0_giveWay_4 : decode cX0_giveWay 4 = .ok (.iconst 4, 1) := by decide +kernel
theorem dX0_giveWay_5 : decode cX0_giveWay 5 = .ok (.if_icmp .ne 7, 3) := by decide +kernel
theorem dX0_giveWay_8 : decode cX0_giveWay 8 = .ok (.aload_n 1, 1) := by decide +kernel
theorem dX0_giveWay_9 : decode cX0_giveWay 9 = .ok (.invokevirtual 278, 3) := by decide +kernel
theorem dX0_giveWay_12 : decode cX0_giveWay 12 = .ok (.iload_n 3, 1) := by decide +kernel
theorem dX0_giveWay_13 : decode cX0_giveWay 13 = .ok (.ifCond .eq 40, 3) := by decide +kernel
theorem dX0_giveWay_16 : decode cX0_giveWay 16 = .ok (.iload_n 2, 1) := by decide +kernel
theorem dX0_giveWay_17 : decode cX0_giveWay 17 = .ok (.iconst (-1), 1) := by decide +kernel
theorem dX0_giveWay_18 : decode cX0_giveWay 18 = .ok (.if_icmp .eq 35, 3) := by decide +kernel
theorem dX0_giveWay_21 : decode cX0_giveWay 21 = .ok (.aload_n 1, 1) := by decide +kernel
theorem dX0_giveWay_22 : decode cX0_giveWay 22 = .ok (.getfield 157, 3) := by decide +kernel
theorem dX0_giveWay_25 : decode cX0_giveWay 25 = .ok (.iload_n 2, 1) := by decide +kernel
theorem dX0_giveWay_26 : decode cX0_giveWay 26 = .ok (.if_icmp .eq 27, 3) := by decide +kernel
theorem dX0_giveWay_29 : decode cX0_giveWay 29 = .ok (.aload_n 1, 1) := by decide +kernel
theorem dX0_giveWay_30 : decode cX0_giveWay 30 = .ok (.aload_n 0, 1) := by decide +kernel
theorem dX0_giveWay_31 : decode cX0_giveWay 31 = .ok (.getfield 18, 3) := by decide +kernel
theorem dX0_giveWay_34 : decode cX0_giveWay 34 = .ok (.aload_n 1, 1) := by decide +kernel
theorem dX0_giveWay_35 : decode cX0_giveWay 35 = .ok (.getfield 157, 3) := by decide +kernel
theorem dX0_giveWay_38 : decode cX0_giveWay 38 = .ok (.iconst 0, 1) := by decide +kernel
theorem dX0_giveWay_39 : decode cX0_giveWay 39 = .ok (.invokevirtual 108, 3) := by decide +kernel
theorem dX0_giveWay_42 : decode cX0_giveWay 42 = .ok (.invokevirtual 258, 3) := by decide +kernel
theorem dX0_giveWay_45 : decode cX0_giveWay 45 = .ok (.ifCond .eq 8, 3) := by decide +kernel
theorem dX0_giveWay_48 : decode cX0_giveWay 48 = .ok (.aload_n 1, 1) := by decide +kernel
theorem dX0_giveWay_49 : decode cX0_giveWay 49 = .ok (.iload_n 2, 1) := by decide +kernel
theorem dX0_giveWay_50 : decode cX0_giveWay 50 = .ok (.invokevirtual 255, 3) := by decide +kernel
theorem dX0_giveWay_53 : decode cX0_giveWay 53 = .ok (.return_, 1) := by decide +kernel
theorem dX0_mayLeaveByInput_0 : decode cX0_mayLeaveByInput 0 = .ok (.aload_n 1, 1) := by decide +kernel
theorem dX0_mayLeaveByInput_1 : decode cX0_mayLeaveByInput 1 = .ok (.invokevirtual 175, 3) := by decide +kernel
theorem dX0_mayLeaveByInput_4 : decode cX0_mayLeaveByInput 4 = .ok (.ifCond .ne 22, 3) := by decide +kernel
theorem dX0_mayLeaveByInput_7 : decode cX0_mayLeaveByInput 7 = .ok (.aload_n 1, 1) := by decide +kernel
theorem dX0_mayLeaveByInput_8 : decode cX0_mayLeaveByInput 8 = .ok (.aload_n 0, 1) := by decide +kernel
theorem dX0_mayLeaveByInput_9 : decode cX0_mayLeaveByInput 9 = .ok (.getfield 18, 3) := by decide +kernel
theorem dX0_mayLeaveByInput_12 : decode cX0_mayLeaveByInput 12 = .ok (.aload_n 1, 1) := by decide +kernel
theorem dX0_mayLeaveByInput_13 : decode cX0_mayLeaveByInput 13 = .ok (.getfield 157, 3) := by decide +kernel
theorem dX0_mayLeaveByInput_16 : decode cX0_mayLeaveByInput 16 = .ok (.iconst 0, 1) := by decide +kernel
theorem dX0_mayLeaveByInput_17 : decode cX0_mayLeaveByInput 17 = .ok (.invokevirtual 108, 3) := by decide +kernel
theorem dX0_mayLeaveByInput_20 : decode cX0_mayLeaveByInput 20 = .ok (.invokevirtual 258, 3) := by decide +kernel
theorem dX0_mayLeaveByInput_23 : decode cX0_mayLeaveByInput 23 = .ok (.ifCond .eq 7, 3) := by decide +kernel
theorem dX0_mayLeaveByInput_26 : decode cX0_mayLeaveByInput 26 = .ok (.iconst 1, 1) := by decide +kernel
theorem dX0_mayLeaveByInput_27 : decode cX0_mayLeaveByInput 27 = .ok (.goto 4, 3) := by decide +kernel
theorem dX0_mayLeaveByInput_30 : decode cX0_mayLeaveByInput 30 = .ok (.iconst 0, 1) := by decide +kernel
theorem dX0_mayLeaveByInput_31 : decode cX0_mayLeaveByInput 31 = .ok (.ireturn, 1) := by decide +kernel
theorem dX0_goalOf_0 : decode cX0_goalOf 0 = .ok (.iload_n 2, 1) := by decide +kernel
theorem dX0_goalOf_1 : decode cX0_goalOf 1 = .ok (.invokestatic 147, 3) := by decide +kernel
theorem dX0_goalOf_4 : decode cX0_goalOf 4 = .ok (.iload_n 1, 1) := by decide +kernel
theorem dX0_goalOf_5 : decode cX0_goalOf 5 = .ok (.if_icmp .ne 5, 3) := by decide +kernel
theorem dX0_goalOf_8 : decode cX0_goalOf 8 = .ok (.iload_n 2, 1) := by decide +kernel
theorem dX0_goalOf_9 : decode cX0_goalOf 9 = .ok (.ireturn, 1) := by decide +kernel
theorem dX0_goalOf_10 : decode cX0_goalOf 10 = .ok (.iload_n 2, 1) := by decide +kernel
theorem dX0_goalOf_11 : decode cX0_goalOf 11 = .ok (.iconst 4, 1) := by decide +kernel
theorem dX0_goalOf_12 : decode cX0_goalOf 12 = .ok (.iadd, 1) := by decide +kernel
theorem dX0_goalOf_13 : decode cX0_goalOf 13 = .ok (.bipush 8, 2) := by decide +kernel
theorem dX0_goalOf_15 : decode cX0_goalOf 15 = .ok (.irem, 1) := by decide +kernel
theorem dX0_goalOf_16 : decode cX0_goalOf 16 = .ok (.istore_n 3, 1) := by decide +kernel
theorem dX0_goalOf_17 : decode cX0_goalOf 17 = .ok (.aload_n 0, 1) := by decide +kernel
theorem dX0_goalOf_18 : decode cX0_goalOf 18 = .ok (.getfield 67, 3) := by decide +kernel
theorem dX0_goalOf_21 : decode cX0_goalOf 21 = .ok (.iload_n 3, 1) := by decide +kernel
theorem dX0_goalOf_22 : decode cX0_goalOf 22 = .ok (.invokestatic 104, 3) := by decide +kernel
theorem dX0_goalOf_25 : decode cX0_goalOf 25 = .ok (.iand, 1) := by decide +kernel
theorem dX0_goalOf_26 : decode cX0_goalOf 26 = .ok (.ifCond .eq 7, 3) := by decide +kernel
theorem dX0_goalOf_29 : decode cX0_goalOf 29 = .ok (.iload_n 3, 1) := by decide +kernel
theorem dX0_goalOf_30 : decode cX0_goalOf 30 = .ok (.goto 4, 3) := by decide +kernel
theorem dX0_goalOf_33 : decode cX0_goalOf 33 = .ok (.iconst (-1), 1) := by decide +kernel
theorem dX0_goalOf_34 : decode cX0_goalOf 34 = .ok (.ireturn, 1) := by decide +kernel
theorem dX0_watch_0 : decode cX0_watch 0 = .ok (.iconst 0, 1) := by decide +kernel
theorem dX0_watch_1 : decode cX0_watch 1 = .ok (.istore_n 1, 1) := by decide +kernel
theorem dX0_watch_2 : decode cX0_watch 2 = .ok (.iload_n 1, 1) := by decide +kernel
theorem dX0_watch_3 : decode cX0_watch 3 = .ok (.bipush 8, 2) := by decide +kernel
theorem dX0_watch_5 : decode cX0_watch 5 = .ok (.if_icmp .ge 22, 3) := by decide +kernel
theorem dX0_watch_8 : decode cX0_watch 8 = .ok (.aload_n 0, 1) := by decide +kernel
theorem dX0_watch_9 : decode cX0_watch 9 = .ok (.getfield 45, 3) := by decide +kernel
theorem dX0_watch_12 : decode cX0_watch 12 = .ok (.iload_n 1, 1) := by decide +kernel
theorem dX0_watch_13 : decode cX0_watch 13 = .ok (.aload_n 0, 1) := by decide +kernel
theorem dX0_watch_14 : decode cX0_watch 14 = .ok (.iload_n 1, 1) := by decide +kernel
theorem dX0_watch_15 : decode cX0_watch 15 = .ok (.invokevirtual 281, 3) := by decide +kernel
theorem dX0_watch_18 : decode cX0_watch 18 = .ok (.invokevirtual 284, 3) := by decide +kernel
theorem dX0_watch_21 : decode cX0_watch 21 = .ok (.iinc 1 1, 3) := by decide +kernel
theorem dX0_watch_24 : decode cX0_watch 24 = .ok (.goto (-22), 3) := by decide +kernel
theorem dX0_watch_27 : decode cX0_watch 27 = .ok (.aload_n 0, 1) := by decide +kernel
theorem dX0_watch_28 : decode cX0_watch 28 = .ok (.getfield 45, 3) := by decide +kernel
theorem dX0_watch_31 : decode cX0_watch 31 = .ok (.aload_n 0, 1) := by decide +kernel
theorem dX0_watch_32 : decode cX0_watch 32 = .ok (.getfield 67, 3) := by decide +kernel
theorem dX0_watch_35 : decode cX0_watch 35 = .ok (.invokevirtual 287, 3) := by decide +kernel
theorem dX0_watch_38 : decode cX0_watch 38 = .ok (.istore_n 1, 1) := by decide +kernel
theorem dX0_watch_39 : decode cX0_watch 39 = .ok (.iload_n 1, 1) := by decide +kernel
theorem dX0_watch_40 : decode cX0_watch 40 = .ok (.ifCond .eq 32, 3) := by decide +kernel
theorem dX0_watch_43 : decode cX0_watch 43 = .ok (.aload_n 0, 1) := by decide +kernel
theorem dX0_watch_44 : decode cX0_watch 44 = .ok (.iload_n 1, 1) := by decide +kernel
theorem dX0_watch_45 : decode cX0_watch 45 = .ok (.putfield 70, 3) := by decide +kernel
theorem dX0_watch_48 : decode cX0_watch 48 = .ok (.aload_n 0, 1) := by decide +kernel
theorem dX0_watch_49 : decode cX0_watch 49 = .ok (.getfield 52, 3) := by decide +kernel
theorem dX0_watch_52 : decode cX0_watch 52 = .ok (.invokevirtual 98, 3) := by decide +kernel
theorem dX0_watch_55 : decode cX0_watch 55 = .ok (.aload_n 0, 1) := by decide +kernel
theorem dX0_watch_56 : decode cX0_watch 56 = .ok (.getfield 56, 3) := by decide +kernel
theorem dX0_watch_59 : decode cX0_watch 59 = .ok (.invokevirtual 98, 3) := by decide +kernel
theorem dX0_watch_62 : decode cX0_watch 62 = .ok (.aload_n 0, 1) := by decide +kernel
theorem dX0_watch_63 : decode cX0_watch 63 = .ok (.iconst 0, 1) := by decide +kernel
theorem dX0_watch_64 : decode cX0_watch 64 = .ok (.putfield 76, 3) := by decide +kernel
theorem dX0_watch_67 : decode cX0_watch 67 = .ok (.aload_n 0, 1) := by decide +kernel
theorem dX0_watch_68 : decode cX0_watch 68 = .ok (.iconst 0, 1) := by decide +kernel
theorem dX0_watch_69 : decode cX0_watch 69 = .ok (.putfield 79, 3) := by decide +kernel
theorem dX0_watch_72 : decode cX0_watch 72 = .ok (.return_, 1) := by decide +kernel
theorem dX0_lampsOf_0 : decode cX0_lampsOf 0 = .ok (.iload_n 1, 1) := by decide +kernel
theorem dX0_lampsOf_1 : decode cX0_lampsOf 1 = .ok (.invokestatic 290, 3) := by decide +kernel
theorem dX0_lampsOf_4 : decode cX0_lampsOf 4 = .ok (.ifCond .eq 15, 3) := by decide +kernel
theorem dX0_lampsOf_7 : decode cX0_lampsOf 7 = .ok (.aload_n 0, 1) := by decide +kernel
theorem dX0_lampsOf_8 : decode cX0_lampsOf 8 = .ok (.getfield 67, 3) := by decide +kernel
theorem dX0_lampsOf_11 : decode cX0_lampsOf 11 = .ok (.iload_n 1, 1) := by decide +kernel
theorem dX0_lampsOf_12 : decode cX0_lampsOf 12 = .ok (.invokestatic 104, 3) := by decide +kernel
theorem dX0_lampsOf_15 : decode cX0_lampsOf 15 = .ok (.iand, 1) := by decide +kernel
theorem dX0_lampsOf_16 : decode cX0_lampsOf 16 = .ok (.ifCond .ne 5, 3) := by decide +kernel
theorem dX0_lampsOf_19 : decode cX0_lampsOf 19 = .ok (.iconst 0, 1) := by decide +kernel
theorem dX0_lampsOf_20 : decode cX0_lampsOf 20 = .ok (.ireturn, 1) := by decide +kernel
theorem dX0_lampsOf_21 : decode cX0_lampsOf 21 = .ok (.aload_n 0, 1) := by decide +kernel
theorem dX0_lampsOf_22 : decode cX0_lampsOf 22 = .ok (.getfield 70, 3) := by decide +kernel
theorem dX0_lampsOf_25 : decode cX0_lampsOf 25 = .ok (.ifCond .eq 6, 3) := by decide +kernel
theorem dX0_lampsOf_28 : decode cX0_lampsOf 28 = .ok (.bipush 8, 2) := by decide +kernel
theorem dX0_lampsOf_30 : decode cX0_lampsOf 30 = .ok (.ireturn, 1) := by decide +kernel
theorem dX0_lampsOf_31 : decode cX0_lampsOf 31 = .ok (.aload_n 0, 1) := by decide +kernel
theorem dX0_lampsOf_32 : decode cX0_lampsOf 32 = .ok (.iload_n 1, 1) := by decide +kernel
theorem dX0_lampsOf_33 : decode cX0_lampsOf 33 = .ok (.invokestatic 147, 3) := by decide +kernel
theorem dX0_lampsOf_36 : decode cX0_lampsOf 36 = .ok (.invokevirtual 150, 3) := by decide +kernel
theorem dX0_lampsOf_39 : decode cX0_lampsOf 39 = .ok (.astore_n 2, 1) := by decide +kernel
theorem dX0_lampsOf_40 : decode cX0_lampsOf 40 = .ok (.aload_n 2, 1) := by decide +kernel
theorem dX0_lampsOf_41 : decode cX0_lampsOf 41 = .ok (.getfield 157, 3) := by decide +kernel
theorem dX0_lampsOf_44 : decode cX0_lampsOf 44 = .ok (.iload_n 1, 1) := by decide +kernel
theorem dX0_lampsOf_45 : decode cX0_lampsOf 45 = .ok (.if_icmp .ne 10, 3) := by decide +kernel
theorem dX0_lampsOf_48 : decode cX0_lampsOf 48 = .ok (.aload_n 2, 1) := by decide +kernel
theorem dX0_lampsOf_49 : decode cX0_lampsOf 49 = .ok (.getfield 198, 3) := by decide +kernel
theorem dX0_lampsOf_52 : decode cX0_lampsOf 52 = .ok (.goto 4, 3) := by decide +kernel
theorem dX0_lampsOf_55 : decode cX0_lampsOf 55 = .ok (.iconst 1, 1) := by decide +kernel
theorem dX0_lampsOf_56 : decode cX0_lampsOf 56 = .ok (.istore_n 3, 1) := by decide +kernel
theorem dX0_lampsOf_57 : decode cX0_lampsOf 57 = .ok (.aload_n 0, 1) := by decide +kernel
theorem dX0_lampsOf_58 : decode cX0_lampsOf 58 = .ok (.getfield 59, 3) := by decide +kernel
theorem dX0_lampsOf_61 : decode cX0_lampsOf 61 = .ok (.iload_n 1, 1) := by decide +kernel
theorem dX0_lampsOf_62 : decode cX0_lampsOf 62 = .ok (.iaload, 1) := by decide +kernel
theorem dX0_lampsOf_63 : decode cX0_lampsOf 63 = .ok (.tableswitch 39 1 3 #[25, 30, 34], 25) := by decide +kernel
theorem dX0_lampsOf_88 : decode cX0_lampsOf 88 = .ok (.iload_n 3, 1) := by decide +kernel
theorem dX0_lampsOf_89 : decode cX0_lampsOf 89 = .ok (.bipush (-2), 2) := by decide +kernel
theorem dX0_lampsOf_91 : decode cX0_lampsOf 91 = .ok (.iand, 1) := by decide +kernel
theorem dX0_lampsOf_92 : decode cX0_lampsOf 92 = .ok (.ireturn, 1) := by decide +kernel
theorem dX0_lampsOf_93 : decode cX0_lampsOf 93 = .ok (.iload_n 3, 1) := by decide +kernel
theorem dX0_lampsOf_94 : decode cX0_lampsOf 94 = .ok (.iconst 4, 1) := by decide +kernel
theorem dX0_lampsOf_95 : decode cX0_lampsOf 95 = .ok (.ior, 1) := by decide +kernel
theorem dX0_lampsOf_96 : decode cX0_lampsOf 96 = .ok (.ireturn, 1) := by decide +kernel
theorem dX0_lampsOf_97 : decode cX0_lampsOf 97 = .ok (.iload_n 3, 1) := by decide +kernel
theorem dX0_lampsOf_98 : decode cX0_lampsOf 98 = .ok (.bipush (-3), 2) := by decide +kernel
theorem dX0_lampsOf_100 : decode cX0_lampsOf 100 = .ok (.iand, 1) := by decide +kernel
theorem dX0_lampsOf_101 : decode cX0_lampsOf 101 = .ok (.ireturn, 1) := by decide +kernel
theorem dX0_lampsOf_102 : decode cX0_lampsOf 102 = .ok (.iload_n 3, 1) := by decide +kernel
theorem dX0_lampsOf_103 : decode cX0_lampsOf 103 = .ok (.ireturn, 1) := by decide +kernel
theorem dX0_signsOf_0 : decode cX0_signsOf 0 = .ok (.aload_n 0, 1) := by decide +kernel
theorem dX0_signsOf_1 : decode cX0_signsOf 1 = .ok (.iload_n 1, 1) := by decide +kernel
theorem dX0_signsOf_2 : decode cX0_signsOf 2 = .ok (.invokestatic 147, 3) := by decide +kernel
theorem dX0_signsOf_5 : decode cX0_signsOf 5 = .ok (.invokevirtual 150, 3) := by decide +kernel
theorem dX0_signsOf_8 : decode cX0_signsOf 8 = .ok (.astore_n 2, 1) := by decide +kernel
theorem dX0_signsOf_9 : decode cX0_signsOf 9 = .ok (.aload_n 2, 1) := by decide +kernel
theorem dX0_signsOf_10 : decode cX0_signsOf 10 = .ok (.getfield 157, 3) := by decide +kernel
theorem dX0_signsOf_13 : decode cX0_signsOf 13 = .ok (.iload_n 1, 1) := by decide +kernel
theorem dX0_signsOf_14 : decode cX0_signsOf 14 = .ok (.if_icmp .ne 10, 3) := by decide +kernel
theorem dX0_signsOf_17 : decode cX0_signsOf 17 = .ok (.aload_n 2, 1) := by decide +kernel
theorem dX0_signsOf_18 : decode cX0_signsOf 18 = .ok (.getfield 249, 3) := by decide +kernel
theorem dX0_signsOf_21 : decode cX0_signsOf 21 = .ok (.goto 4, 3) := by decide +kernel
theorem dX0_signsOf_24 : decode cX0_signsOf 24 = .ok (.iconst 0, 1) := by decide +kernel
theorem dX0_signsOf_25 : decode cX0_signsOf 25 = .ok (.istore_n 3, 1) := by decide +kernel
theorem dX0_signsOf_26 : decode cX0_signsOf 26 = .ok (.aload_n 0, 1) := by decide +kernel
theorem dX0_signsOf_27 : decode cX0_signsOf 27 = .ok (.getfield 76, 3) := by decide +kernel
theorem dX0_signsOf_30 : decode cX0_signsOf 30 = .ok (.iload_n 1, 1) := by decide +kernel
theorem dX0_signsOf_31 : decode cX0_signsOf 31 = .ok (.invokestatic 104, 3) := by decide +kernel
theorem dX0_signsOf_34 : decode cX0_signsOf 34 = .ok (.iand, 1) := by decide +kernel
theorem dX0_signsOf_35 : decode cX0_signsOf 35 = .ok (.ifCond .eq 7, 3) := by decide +kernel
theorem dX0_signsOf_38 : decode cX0_signsOf 38 = .ok (.iload_n 3, 1) := by decide +kernel
theorem dX0_signsOf_39 : decode cX0_signsOf 39 = .ok (.iconst 1, 1) := by decide +kernel
theorem dX0_signsOf_40 : decode cX0_signsOf 40 = .ok (.ior, 1) := by decide +kernel
theorem dX0_signsOf_41 : decode cX0_signsOf 41 = .ok (.istore_n 3, 1) := by decide +kernel
theorem dX0_signsOf_42 : decode cX0_signsOf 42 = .ok (.aload_n 0, 1) := by decide +kernel
theorem dX0_signsOf_43 : decode cX0_signsOf 43 = .ok (.getfield 79, 3) := by decide +kernel
theorem dX0_signsOf_46 : decode cX0_signsOf 46 = .ok (.iload_n 1, 1) := by decide +kernel
theorem dX0_signsOf_47 : decode cX0_signsOf 47 = .ok (.invokestatic 104, 3) := by decide +kernel
theorem dX0_signsOf_50 : decode cX0_signsOf 50 = .ok (.iand, 1) := by decide +kernel
theorem dX0_signsOf_51 : decode cX0_signsOf 51 = .ok (.ifCond .eq 7, 3) := by decide +kernel
theorem dX0_signsOf_54 : decode cX0_signsOf 54 = .ok (.iload_n 3, 1) := by decide +kernel
theorem dX0_signsOf_55 : decode cX0_signsOf 55 = .ok (.iconst 2, 1) := by decide +kernel
theorem dX0_signsOf_56 : decode cX0_signsOf 56 = .ok (.ior, 1) := by decide +kernel
theorem dX0_signsOf_57 : decode cX0_signsOf 57 = .ok (.istore_n 3, 1) := by decide +kernel
theorem dX0_signsOf_58 : decode cX0_signsOf 58 = .ok (.aload_n 0, 1) := by decide +kernel
theorem dX0_signsOf_59 : decode cX0_signsOf 59 = .ok (.getfield 24, 3) := by decide +kernel
theorem dX0_signsOf_62 : decode cX0_signsOf 62 = .ok (.getfield 293, 3) := by decide +kernel
theorem dX0_signsOf_65 : decode cX0_signsOf 65 = .ok (.iload_n 1, 1) := by decide +kernel
theorem dX0_signsOf_66 : decode cX0_signsOf 66 = .ok (.invokestatic 104, 3) := by decide +kernel
theorem dX0_signsOf_69 : decode cX0_signsOf 69 = .ok (.iand, 1) := by decide +kernel
theorem dX0_signsOf_70 : decode cX0_signsOf 70 = .ok (.ifCond .eq 10, 3) := by decide +kernel
theorem dX0_signsOf_73 : decode cX0_signsOf 73 = .ok (.iload_n 3, 1) := by decide +kernel
theorem dX0_signsOf_74 : decode cX0_signsOf 74 = .ok (.bipush 16, 2) := by decide +kernel
theorem dX0_signsOf_76 : decode cX0_signsOf 76 = .ok (.ior, 1) := by decide +kernel
theorem dX0_signsOf_77 : decode cX0_signsOf 77 = .ok (.goto 4, 3) := by decide +kernel
theorem dX0_signsOf_80 : decode cX0_signsOf 80 = .ok (.iload_n 3, 1) := by decide +kernel
theorem dX0_signsOf_81 : decode cX0_signsOf 81 = .ok (.ireturn, 1) := by decide +kernel
theorem dX0_way_0 : decode cX0_way 0 = .ok (.aload_n 0, 1) := by decide +kernel
theorem dX0_way_1 : decode cX0_way 1 = .ok (.invokevirtual 118, 3) := by decide +kernel
theorem dX0_way_4 : decode cX0_way 4 = .ok (.ifCond .eq 5, 3) := by decide +kernel
theorem dX0_way_7 : decode cX0_way 7 = .ok (.iconst 0, 1) := by decide +kernel
theorem dX0_way_8 : decode cX0_way 8 = .ok (.ireturn, 1) := by decide +kernel
theorem dX0_way_9 : decode cX0_way 9 = .ok (.aload_n 0, 1) := by decide +kernel
theorem dX0_way_10 : decode cX0_way 10 = .ok (.getfield 70, 3) := by decide +kernel
theorem dX0_way_13 : decode cX0_way 13 = .ok (.ifCond .eq 5, 3) := by decide +kernel
theorem dX0_way_16 : decode cX0_way 16 = .ok (.iconst 4, 1) := by decide +kernel
theorem dX0_way_17 : decode cX0_way 17 = .ok (.ireturn, 1) := by decide +kernel
theorem dX0_way_18 : decode cX0_way 18 = .ok (.aload_n 0, 1) := by decide +kernel
theorem dX0_way_19 : decode cX0_way 19 = .ok (.getfield 38, 3) := by decide +kernel
theorem dX0_way_22 : decode cX0_way 22 = .ok (.aload_n 0, 1) := by decide +kernel
theorem dX0_way_23 : decode cX0_way 23 = .ok (.getfield 67, 3) := by decide +kernel
theorem dX0_way_26 : decode cX0_way 26 = .ok (.invokevirtual 129, 3) := by decide +kernel
theorem dX0_way_29 : decode cX0_way 29 = .ok (.iconst (-1), 1) := by decide +kernel
theorem dX0_way_30 : decode cX0_way 30 = .ok (.if_icmp .eq 5, 3) := by decide +kernel
theorem dX0_way_33 : decode cX0_way 33 = .ok (.iconst 3, 1) := by decide +kernel
theorem dX0_way_34 : decode cX0_way 34 = .ok (.ireturn, 1) := by decide +kernel
theorem dX0_way_35 : decode cX0_way 35 = .ok (.aload_n 0, 1) := by decide +kernel
theorem dX0_way_36 : decode cX0_way 36 = .ok (.getfield 31, 3) := by decide +kernel
theorem dX0_way_39 : decode cX0_way 39 = .ok (.getfield 296, 3) := by decide +kernel
theorem dX0_way_42 : decode cX0_way 42 = .ok (.iconst (-1), 1) := by decide +kernel
theorem dX0_way_43 : decode cX0_way 43 = .ok (.if_icmp .eq 7, 3) := by decide +kernel
theorem dX0_way_46 : decode cX0_way 46 = .ok (.iconst 2, 1) := by decide +kernel
theorem dX0_way_47 : decode cX0_way 47 = .ok (.goto 4, 3) := by decide +kernel
theorem dX0_way_50 : decode cX0_way 50 = .ok (.iconst 1, 1) := by decide +kernel
theorem dX0_way_51 : decode cX0_way 51 = .ok (.ireturn, 1) := by decide +kernel
theorem dX0_countingCalls_0 : decode cX0_countingCalls 0 = .ok (.aload_n 0, 1) := by decide +kernel
theorem dX0_countingCalls_1 : decode cX0_countingCalls 1 = .ok (.getfield 76, 3) := by decide +kernel
theorem dX0_countingCalls_4 : decode cX0_countingCalls 4 = .ok (.aload_n 0, 1) := by decide +kernel
theorem dX0_countingCalls_5 : decode cX0_countingCalls 5 = .ok (.getfield 79, 3) := by decide +kernel
theorem dX0_countingCalls_8 : decode cX0_countingCalls 8 = .ok (.ior, 1) := by decide +kernel
theorem dX0_countingCalls_9 : decode cX0_countingCalls 9 = .ok (.aload_n 0, 1) := by decide +kernel
theorem dX0_countingCalls_10 : decode cX0_countingCalls 10 = .ok (.invokevirtual 232, 3) := by decide +kernel
theorem dX0_countingCalls_13 : decode cX0_countingCalls 13 = .ok (.iconst (-1), 1) := by decide +kernel
theorem dX0_countingCalls_14 : decode cX0_countingCalls 14 = .ok (.ixor, 1) := by decide +kernel
theorem dX0_countingCalls_15 : decode cX0_countingCalls 15 = .ok (.iand, 1) := by decide +kernel
theorem dX0_countingCalls_16 : decode cX0_countingCalls 16 = .ok (.ireturn, 1) := by decide +kernel
theorem dX0_greenPhases_0 : decode cX0_greenPhases 0 = .ok (.aload_n 0, 1) := by decide +kernel
theorem dX0_greenPhases_1 : decode cX0_greenPhases 1 = .ok (.getfield 52, 3) := by decide +kernel
theorem dX0_greenPhases_4 : decode cX0_greenPhases 4 = .ok (.invokevirtual 299, 3) := by decide +kernel
theorem dX0_greenPhases_7 : decode cX0_greenPhases 7 = .ok (.aload_n 0, 1) := by decide +kernel
theorem dX0_greenPhases_8 : decode cX0_greenPhases 8 = .ok (.getfield 56, 3) := by decide +kernel
theorem dX0_greenPhases_11 : decode cX0_greenPhases 11 = .ok (.invokevirtual 299, 3) := by decide +kernel
theorem dX0_greenPhases_14 : decode cX0_greenPhases 14 = .ok (.ior, 1) := by decide +kernel
theorem dX0_greenPhases_15 : decode cX0_greenPhases 15 = .ok (.ireturn, 1) := by decide +kernel
theorem dX0_ring_0 : decode cX0_ring 0 = .ok (.iload_n 1, 1) := by decide +kernel
theorem dX0_ring_1 : decode cX0_ring 1 = .ok (.ifCond .ne 10, 3) := by decide +kernel
theorem dX0_ring_4 : decode cX0_ring 4 = .ok (.aload_n 0, 1) := by decide +kernel
theorem dX0_ring_5 : decode cX0_ring 5 = .ok (.getfield 52, 3) := by decide +kernel
theorem dX0_ring_8 : decode cX0_ring 8 = .ok (.goto 7, 3) := by decide +kernel
theorem dX0_ring_11 : decode cX0_ring 11 = .ok (.aload_n 0, 1) := by decide +kernel
theorem dX0_ring_12 : decode cX0_ring 12 = .ok (.getfield 56, 3) := by decide +kernel
theorem dX0_ring_15 : decode cX0_ring 15 = .ok (.areturn, 1) := by decide +kernel
theorem dX1_init_0 : decode cX1_init 0 = .ok (.aload_n 0, 1) := by decide +kernel
theorem dX1_init_1 : decode cX1_init 1 = .ok (.invokespecial 3, 3) := by decide +kernel
theorem dX1_init_4 : decode cX1_init 4 = .ok (.aload_n 0, 1) := by decide +kernel
theorem dX1_init_5 : decode cX1_init 5 = .ok (.bipush 8, 2) := by decide +kernel
theorem dX1_init_7 : decode cX1_init 7 = .ok (.newarray .int, 2) := by decide +kernel
theorem dX1_init_9 : decode cX1_init 9 = .ok (.putfield 9, 3) := by decide +kernel
theorem dX1_init_12 : decode cX1_init 12 = .ok (.aload_n 0, 1) := by decide +kernel
theorem dX1_init_13 : decode cX1_init 13 = .ok (.bipush 8, 2) := by decide +kernel
theorem dX1_init_15 : decode cX1_init 15 = .ok (.newarray .float, 2) := by decide +kernel
theorem dX1_init_17 : decode cX1_init 17 = .ok (.putfield 15, 3) := by decide +kernel
theorem dX1_init_20 : decode cX1_init 20 = .ok (.aload_n 0, 1) := by decide +kernel
theorem dX1_init_21 : decode cX1_init 21 = .ok (.iconst 0, 1) := by decide +kernel
theorem dX1_init_22 : decode cX1_init 22 = .ok (.putfield 19, 3) := by decide +kernel
theorem dX1_init_25 : decode cX1_init 25 = .ok (.aload_n 0, 1) := by decide +kernel
theorem dX1_init_26 : decode cX1_init 26 = .ok (.iconst 0, 1) := by decide +kernel
theorem dX1_init_27 : decode cX1_init 27 = .ok (.putfield 23, 3) := by decide +kernel
theorem dX1_init_30 : decode cX1_init 30 = .ok (.return_, 1) := by decide +kernel
theorem dX1_turn_0 : decode cX1_turn 0 = .ok (.aload_n 0, 1) := by decide +kernel
theorem dX1_turn_1 : decode cX1_turn 1 = .ok (.iload_n 2, 1) := by decide +kernel
theorem dX1_turn_2 : decode cX1_turn 2 = .ok (.ifCond .eq 15, 3) := by decide +kernel
theorem dX1_turn_5 : decode cX1_turn 5 = .ok (.aload_n 0, 1) := by decide +kernel
theorem dX1_turn_6 : decode cX1_turn 6 = .ok (.getfield 19, 3) := by decide +kernel
theorem dX1_turn_9 : decode cX1_turn 9 = .ok (.iload_n 1, 1) := by decide +kernel
theorem dX1_turn_10 : decode cX1_turn 10 = .ok (.invokestatic 26, 3) := by decide +kernel
theorem dX1_turn_13 : decode cX1_turn 13 = .ok (.ior, 1) := by decide +kernel
theorem dX1_turn_14 : decode cX1_turn 14 = .ok (.goto 14, 3) := by decide +kernel
theorem dX1_turn_17 : decode cX1_turn 17 = .ok (.aload_n 0, 1) := by decide +kernel
theorem dX1_turn_18 : decode cX1_turn 18 = .ok (.getfield 19, 3) := by decide +kernel
theorem dX1_turn_21 : decode cX1_turn 21 = .ok (.iload_n 1, 1) := by decide +kernel
theorem dX1_turn_22 : decode cX1_turn 22 = .ok (.invokestatic 26, 3) := by decide +kernel
theorem dX1_turn_25 : decode cX1_turn 25 = .ok (.iconst (-1), 1) := by decide +kernel
theorem dX1_turn_26 : decode cX1_turn 26 = .ok (.ixor, 1) := by decide +kernel
theorem dX1_turn_27 : decode cX1_turn 27 = .ok (.iand, 1) := by decide +kernel
theorem dX1_turn_28 : decode cX1_turn 28 = .ok (.putfield 19, 3) := by decide +kernel
theorem dX1_turn_31 : decode cX1_turn 31 = .ok (.return_, 1) := by decide +kernel
theorem dX1_pass_0 : decode cX1_pass 0 = .ok (.aload_n 0, 1) := by decide +kernel
theorem dX1_pass_1 : decode cX1_pass 1 = .ok (.iconst 0, 1) := by decide +kernel
theorem dX1_pass_2 : decode cX1_pass 2 = .ok (.putfield 23, 3) := by decide +kernel
theorem dX1_pass_5 : decode cX1_pass 5 = .ok (.iconst 0, 1) := by decide +kernel
theorem dX1_pass_6 : decode cX1_pass 6 = .ok (.istore_n 1, 1) := by decide +kernel
theorem dX1_pass_7 : decode cX1_pass 7 = .ok (.iload_n 1, 1) := by decide +kernel
theorem dX1_pass_8 : decode cX1_pass 8 = .ok (.bipush 8, 2) := by decide +kernel
theorem dX1_pass_10 : decode cX1_pass 10 = .ok (.if_icmp .ge 106, 3) := by decide +kernel
theorem dX1_pass_13 : decode cX1_pass 13 = .ok (.aload_n 0, 1) := by decide +kernel
theorem dX1_pass_14 : decode cX1_pass 14 = .ok (.getfield 19, 3) := by decide +kernel
theorem dX1_pass_17 : decode cX1_pass 17 = .ok (.iload_n 1, 1) := by decide +kernel
theorem dX1_pass_18 : decode cX1_pass 18 = .ok (.invokestatic 26, 3) := by decide +kernel
theorem dX1_pass_21 : decode cX1_pass 21 = .ok (.iand, 1) := by decide +kernel
theorem dX1_pass_22 : decode cX1_pass 22 = .ok (.ifCond .eq 7, 3) := by decide +kernel
theorem dX1_pass_25 : decode cX1_pass 25 = .ok (.iconst 1, 1) := by decide +kernel
theorem dX1_pass_26 : decode cX1_pass 26 = .ok (.goto 4, 3) := by decide +kernel
theorem dX1_pass_29 : decode cX1_pass 29 = .ok (.iconst 0, 1) := by decide +kernel
theorem dX1_pass_30 : decode cX1_pass 30 = .ok (.istore_n 2, 1) := by decide +kernel
theorem dX1_pass_31 : decode cX1_pass 31 = .ok (.aload_n 0, 1) := by decide +kernel
theorem dX1_pass_32 : decode cX1_pass 32 = .ok (.getfield 9, 3) := by decide +kernel
theorem dX1_pass_35 : decode cX1_pass 35 = .ok (.iload_n 1, 1) := by decide +kernel
theorem dX1_pass_36 : decode cX1_pass 36 = .ok (.iload_n 2, 1) := by decide +kernel
theorem dX1_pass_37 : decode cX1_pass 37 = .ok (.ifCond .eq 19, 3) := by decide +kernel
theorem dX1_pass_40 : decode cX1_pass 40 = .ok (.aload_n 0, 1) := by decide +kernel
theorem dX1_pass_41 : decode cX1_pass 41 = .ok (.getfield 9, 3) := by decide +kernel
theorem dX1_pass_44 : decode cX1_pass 44 = .ok (.iload_n 1, 1) := by decide +kernel
theorem dX1_pass_45 : decode cX1_pass 45 = .ok (.iaload, 1) := by decide +kernel
theorem dX1_pass_46 : decode cX1_pass 46 = .ok (.iconst 1, 1) := by decide +kernel
theorem dX1_pass_47 : decode cX1_pass 47 = .ok (.iadd, 1) := by decide +kernel
theorem dX1_pass_48 : decode cX1_pass 48 = .ok (.bipush 100, 2) := by decide +kernel
theorem dX1_pass_50 : decode cX1_pass 50 = .ok (.invokestatic 30, 3) := by decide +kernel
theorem dX1_pass_53 : decode cX1_pass 53 = .ok (.goto 4, 3) := by decide +kernel
theorem dX1_pass_56 : decode cX1_pass 56 = .ok (.iconst 0, 1) := by decide +kernel
theorem dX1_pass_57 : decode cX1_pass 57 = .ok (.iastore, 1) := by decide +kernel
theorem dX1_pass_58 : decode cX1_pass 58 = .ok (.aload_n 0, 1) := by decide +kernel
theorem dX1_pass_59 : decode cX1_pass 59 = .ok (.getfield 9, 3) := by decide +kernel
theorem dX1_pass_62 : decode cX1_pass 62 = .ok (.iload_n 1, 1) := by decide +kernel
theorem dX1_pass_63 : decode cX1_pass 63 = .ok (.iaload, 1) := by decide +kernel
theorem dX1_pass_64 : decode cX1_pass 64 = .ok (.bipush 60, 2) := by decide +kernel
theorem dX1_pass_66 : decode cX1_pass 66 = .ok (.if_icmp .lt 16, 3) := by decide +kernel
theorem dX1_pass_69 : decode cX1_pass 69 = .ok (.aload_n 0, 1) := by decide +kernel
theorem dX1_pass_70 : decode cX1_pass 70 = .ok (.dup, 1) := by decide +kernel
theorem dX1_pass_71 : decode cX1_pass 71 = .ok (.getfield 23, 3) := by decide +kernel
theorem dX1_pass_74 : decode cX1_pass 74 = .ok (.iload_n 1, 1) := by decide +kernel
theorem dX1_pass_75 : decode cX1_pass 75 = .ok (.invokestatic 26, 3) := by decide +kernel
theorem dX1_pass_78 : decode cX1_pass 78 = .ok (.ior, 1) := by decide +kernel
theorem dX1_pass_79 : decode cX1_pass 79 = .ok (.putfield 23, 3) := by decide +kernel
theorem dX1_pass_82 : decode cX1_pass 82 = .ok (.aload_n 0, 1) := by decide +kernel
theorem dX1_pass_83 : decode cX1_pass 83 = .ok (.getfield 15, 3) := by decide +kernel
theorem dX1_pass_86 : decode cX1_pass 86 = .ok (.iload_n 1, 1) := by decide +kernel
theorem dX1_pass_87 : decode cX1_pass 87 = .ok (.faload, 1) := by decide +kernel
theorem dX1_pass_88 : decode cX1_pass 88 = .ok (.ldc 36, 2) := by decide +kernel
theorem dX1_pass_90 : decode cX1_pass 90 = .ok (.fmul, 1) := by decide +kernel
theorem dX1_pass_91 : decode cX1_pass 91 = .ok (.fstore_n 3, 1) := by decide +kernel
theorem dX1_pass_92 : decode cX1_pass 92 = .ok (.aload_n 0, 1) := by decide +kernel
theorem dX1_pass_93 : decode cX1_pass 93 = .ok (.getfield 15, 3) := by decide +kernel
theorem dX1_pass_96 : decode cX1_pass 96 = .ok (.iload_n 1, 1) := by decide +kernel
theorem dX1_pass_97 : decode cX1_pass 97 = .ok (.iload_n 2, 1) := by decide +kernel
theorem dX1_pass_98 : decode cX1_pass 98 = .ok (.ifCond .eq 10, 3) := by decide +kernel
theorem dX1_pass_101 : decode cX1_pass 101 = .ok (.fload_n 3, 1) := by decide +kernel
theorem dX1_pass_102 : decode cX1_pass 102 = .ok (.ldc 37, 2) := by decide +kernel
theorem dX1_pass_104 : decode cX1_pass 104 = .ok (.fadd, 1) := by decide +kernel
theorem dX1_pass_105 : decode cX1_pass 105 = .ok (.goto 4, 3) := by decide +kernel
theorem dX1_pass_108 : decode cX1_pass 108 = .ok (.fload_n 3, 1) := by decide +kernel
theorem dX1_pass_109 : decode cX1_pass 109 = .ok (.fastore, 1) := by decide +kernel
theorem dX1_pass_110 : decode cX1_pass 110 = .ok (.iinc 1 1, 3) := by decide +kernel
theorem dX1_pass_113 : decode cX1_pass 113 = .ok (.goto (-106), 3) := by decide +kernel
theorem dX1_pass_116 : decode cX1_pass 116 = .ok (.return_, 1) := by decide +kernel
theorem dX1_calls_0 : decode cX1_calls 0 = .ok (.aload_n 0, 1) := by decide +kernel
theorem dX1_calls_1 : decode cX1_calls 1 = .ok (.getfield 19, 3) := by decide +kernel
theorem dX1_calls_4 : decode cX1_calls 4 = .ok (.aload_n 0, 1) := by decide +kernel
theorem dX1_calls_5 : decode cX1_calls 5 = .ok (.getfield 23, 3) := by decide +kernel
theorem dX1_calls_8 : decode cX1_calls 8 = .ok (.ior, 1) := by decide +kernel
theorem dX1_calls_9 : decode cX1_calls 9 = .ok (.iload_n 1, 1) := by decide +kernel
theorem dX1_calls_10 : decode cX1_calls 10 = .ok (.invokestatic 26, 3) := by decide +kernel
theorem dX1_calls_13 : decode cX1_calls 13 = .ok (.iand, 1) := by decide +kernel
theorem dX1_calls_14 : decode cX1_calls 14 = .ok (.ifCond .eq 7, 3) := by decide +kernel
theorem dX1_calls_17 : decode cX1_calls 17 = .ok (.iconst 1, 1) := by decide +kernel
theorem dX1_calls_18 : decode cX1_calls 18 = .ok (.goto 4, 3) := by decide +kernel
theorem dX1_calls_21 : decode cX1_calls 21 = .ok (.iconst 0, 1) := by decide +kernel
theorem dX1_calls_22 : decode cX1_calls 22 = .ok (.ireturn, 1) := by decide +kernel
theorem dX1_extendsGreen_0 : decode cX1_extendsGreen 0 = .ok (.aload_n 0, 1) := by decide +kernel
theorem dX1_extendsGreen_1 : decode cX1_extendsGreen 1 = .ok (.getfield 19, 3) := by decide +kernel
theorem dX1_extendsGreen_4 : decode cX1_extendsGreen 4 = .ok (.aload_n 0, 1) := by decide +kernel
theorem dX1_extendsGreen_5 : decode cX1_extendsGreen 5 = .ok (.getfield 23, 3) := by decide +kernel
theorem dX1_extendsGreen_8 : decode cX1_extendsGreen 8 = .ok (.iconst (-1), 1) := by decide +kernel
theorem dX1_extendsGreen_9 : decode cX1_extendsGreen 9 = .ok (.ixor, 1) := by decide +kernel
theorem dX1_extendsGreen_10 : decode cX1_extendsGreen 10 = .ok (.iand, 1) := by decide +kernel
theorem dX1_extendsGreen_11 : decode cX1_extendsGreen 11 = .ok (.iload_n 1, 1) := by decide +kernel
theorem dX1_extendsGreen_12 : decode cX1_extendsGreen 12 = .ok (.invokestatic 26, 3) := by decide +kernel
theorem dX1_extendsGreen_15 : decode cX1_extendsGreen 15 = .ok (.iand, 1) := by decide +kernel
theorem dX1_extendsGreen_16 : decode cX1_extendsGreen 16 = .ok (.ifCond .eq 7, 3) := by decide +kernel
theorem dX1_extendsGreen_19 : decode cX1_extendsGreen 19 = .ok (.iconst 1, 1) := by decide +kernel
theorem dX1_extendsGreen_20 : decode cX1_extendsGreen 20 = .ok (.goto 4, 3) := by decide +kernel
theorem dX1_extendsGreen_23 : decode cX1_extendsGreen 23 = .ok (.iconst 0, 1) := by decide +kernel
theorem dX1_extendsGreen_24 : decode cX1_extendsGreen 24 = .ok (.ireturn, 1) := by decide +kernel
theorem dX2_init_0 : decode cX2_init 0 = .ok (.aload_n 0, 1) := by decide +kernel
theorem dX2_init_1 : decode cX2_init 1 = .ok (.invokespecial 3, 3) := by decide +kernel
theorem dX2_init_4 : decode cX2_init 4 = .ok (.aload_n 0, 1) := by decide +kernel
theorem dX2_init_5 : decode cX2_init 5 = .ok (.iconst 2, 1) := by decide +kernel
theorem dX2_init_6 : decode cX2_init 6 = .ok (.newarray .boolean, 2) := by decide +kernel
theorem dX2_init_8 : decode cX2_init 8 = .ok (.putfield 9, 3) := by decide +kernel
theorem dX2_init_11 : decode cX2_init 11 = .ok (.aload_n 0, 1) := by decide +kernel
theorem dX2_init_12 : decode cX2_init 12 = .ok (.iconst 2, 1) := by decide +kernel
theorem dX2_init_13 : decode cX2_init 13 = .ok (.newarray .int, 2) := by decide +kernel
theorem dX2_init_15 : decode cX2_init 15 = .ok (.dup, 1) := by decide +kernel
theorem dX2_init_16 : decode cX2_init 16 = .ok (.iconst 0, 1) := by decide +kernel
theorem dX2_init_17 : decode cX2_init 17 = .ok (.iconst (-1), 1) := by decide +kernel
theorem dX2_init_18 : decode cX2_init 18 = .ok (.iastore, 1) := by decide +kernel
theorem dX2_init_19 : decode cX2_init 19 = .ok (.dup, 1) := by decide +kernel
theorem dX2_init_20 : decode cX2_init 20 = .ok (.iconst 1, 1) := by decide +kernel
theorem dX2_init_21 : decode cX2_init 21 = .ok (.iconst (-1), 1) := by decide +kernel
theorem dX2_init_22 : decode cX2_init 22 = .ok (.iastore, 1) := by decide +kernel
theorem dX2_init_23 : decode cX2_init 23 = .ok (.putfield 15, 3) := by decide +kernel
theorem dX2_init_26 : decode cX2_init 26 = .ok (.return_, 1) := by decide +kernel
theorem dX2_turn_0 : decode cX2_turn 0 = .ok (.iload_n 1, 1) := by decide +kernel
theorem dX2_turn_1 : decode cX2_turn 1 = .ok (.invokestatic 19, 3) := by decide +kernel
theorem dX2_turn_4 : decode cX2_turn 4 = .ok (.ifCond .eq 10, 3) := by decide +kernel
theorem dX2_turn_7 : decode cX2_turn 7 = .ok (.aload_n 0, 1) := by decide +kernel
theorem dX2_turn_8 : decode cX2_turn 8 = .ok (.getfield 9, 3) := by decide +kernel
theorem dX2_turn_11 : decode cX2_turn 11 = .ok (.iload_n 1, 1) := by decide +kernel
theorem dX2_turn_12 : decode cX2_turn 12 = .ok (.iload_n 2, 1) := by decide +kernel
theorem dX2_turn_13 : decode cX2_turn 13 = .ok (.bastore, 1) := by decide +kernel
theorem dX2_turn_14 : decode cX2_turn 14 = .ok (.return_, 1) := by decide +kernel
theorem dX2_aim_0 : decode cX2_aim 0 = .ok (.iload_n 1, 1) := by decide +kernel
theorem dX2_aim_1 : decode cX2_aim 1 = .ok (.invokestatic 19, 3) := by decide +kernel
theorem dX2_aim_4 : decode cX2_aim 4 = .ok (.ifCond .eq 10, 3) := by decide +kernel
theorem dX2_aim_7 : decode cX2_aim 7 = .ok (.aload_n 0, 1) := by decide +kernel
theorem dX2_aim_8 : decode cX2_aim 8 = .ok (.getfield 15, 3) := by decide +kernel
theorem dX2_aim_11 : decode cX2_aim 11 = .ok (.iload_n 1, 1) := by decide +kernel
theorem dX2_aim_12 : decode cX2_aim 12 = .ok (.iload_n 2, 1) := by decide +kernel
theorem dX2_aim_13 : decode cX2_aim 13 = .ok (.iastore, 1) := by decide +kernel
theorem dX2_aim_14 : decode cX2_aim 14 = .ok (.return_, 1) := by decide +kernel
theorem dX2_targetInForce_0 : decode cX2_targetInForce 0 = .ok (.iconst (-1), 1) := by decide +kernel
theorem dX2_targetInForce_1 : decode cX2_targetInForce 1 = .ok (.istore_n 2, 1) := by decide +kernel
theorem dX2_targetInForce_2 : decode cX2_targetInForce 2 = .ok (.aload_n 0, 1) := by decide +kernel
theorem dX2_targetInForce_3 : decode cX2_targetInForce 3 = .ok (.getfield 9, 3) := by decide +kernel
theorem dX2_targetInForce_6 : decode cX2_targetInForce 6 = .ok (.iconst 0, 1) := by decide +kernel
theorem dX2_targetInForce_7 : decode cX2_targetInForce 7 = .ok (.baload, 1) := by decide +kernel
theorem dX2_targetInForce_8 : decode cX2_targetInForce 8 = .ok (.ifCond .eq 13, 3) := by decide +kernel
theorem dX2_targetInForce_11 : decode cX2_targetInForce 11 = .ok (.aload_n 0, 1) := by decide +kernel
theorem dX2_targetInForce_12 : decode cX2_targetInForce 12 = .ok (.getfield 15, 3) := by decide +kernel
theorem dX2_targetInForce_15 : decode cX2_targetInForce 15 = .ok (.iconst 0, 1) := by decide +kernel
theorem dX2_targetInForce_16 : decode cX2_targetInForce 16 = .ok (.iaload, 1) := by decide +kernel
theorem dX2_targetInForce_17 : decode cX2_targetInForce 17 = .ok (.istore_n 2, 1) := by decide +kernel
theorem dX2_targetInForce_18 : decode cX2_targetInForce 18 = .ok (.goto 19, 3) := by decide +kernel
theorem dX2_targetInForce_21 : decode cX2_targetInForce 21 = .ok (.aload_n 0, 1) := by decide +kernel
theorem dX2_targetInForce_22 : decode cX2_targetInForce 22 = .ok (.getfield 9, 3) := by decide +kernel
theorem dX2_targetInForce_25 : decode cX2_targetInForce 25 = .ok (.iconst 1, 1) := by decide +kernel
theorem dX2_targetInForce_26 : decode cX2_targetInForce 26 = .ok (.baload, 1) := by decide +kernel
theorem dX2_targetInForce_27 : decode cX2_targetInForce 27 = .ok (.ifCond .eq 10, 3) := by decide +kernel
theorem dX2_targetInForce_30 : decode cX2_targetInForce 30 = .ok (.aload_n 0, 1) := by decide +kernel
theorem dX2_targetInForce_31 : decode cX2_targetInForce 31 = .ok (.getfield 15, 3) := by decide +kernel
theorem dX2_targetInForce_34 : decode cX2_targetInForce 34 = .ok (.iconst 1, 1) := by decide +kernel
theorem dX2_targetInForce_35 : decode cX2_targetInForce 35 = .ok (.iaload, 1) := by decide +kernel
theorem dX2_targetInForce_36 : decode cX2_targetInForce 36 = .ok (.istore_n 2, 1) := by decide +kernel
theorem dX2_targetInForce_37 : decode cX2_targetInForce 37 = .ok (.iload_n 1, 1) := by decide +kernel
theorem dX2_targetInForce_38 : decode cX2_targetInForce 38 = .ok (.iload_n 2, 1) := by decide +kernel
theorem dX2_targetInForce_39 : decode cX2_targetInForce 39 = .ok (.invokestatic 23, 3) := by decide +kernel
theorem dX2_targetInForce_42 : decode cX2_targetInForce 42 = .ok (.iand, 1) := by decide +kernel
theorem dX2_targetInForce_43 : decode cX2_targetInForce 43 = .ok (.ifCond .eq 7, 3) := by decide +kernel
theorem dX2_targetInForce_46 : decode cX2_targetInForce 46 = .ok (.iload_n 2, 1) := by decide +kernel
theorem dX2_targetInForce_47 : decode cX2_targetInForce 47 = .ok (.goto 4, 3) := by decide +kernel
theorem dX2_targetInForce_50 : decode cX2_targetInForce 50 = .ok (.iconst (-1), 1) := by decide +kernel
theorem dX2_targetInForce_51 : decode cX2_targetInForce 51 = .ok (.ireturn, 1) := by decide +kernel
theorem dX3_init_0 : decode cX3_init 0 = .ok (.aload_n 0, 1) := by decide +kernel
theorem dX3_init_1 : decode cX3_init 1 = .ok (.invokespecial 3, 3) := by decide +kernel
theorem dX3_init_4 : decode cX3_init 4 = .ok (.aload_n 0, 1) := by decide +kernel
theorem dX3_init_5 : decode cX3_init 5 = .ok (.iconst (-1), 1) := by decide +kernel
theorem dX3_init_6 : decode cX3_init 6 = .ok (.putfield 9, 3) := by decide +kernel
theorem dX3_init_9 : decode cX3_init 9 = .ok (.aload_n 0, 1) := by decide +kernel
theorem dX3_init_10 : decode cX3_init 10 = .ok (.iconst 0, 1) := by decide +kernel
theorem dX3_init_11 : decode cX3_init 11 = .ok (.putfield 15, 3) := by decide +kernel
theorem dX3_init_14 : decode cX3_init 14 = .ok (.aload_n 0, 1) := by decide +kernel
theorem dX3_init_15 : decode cX3_init 15 = .ok (.iconst 0, 1) := by decide +kernel
theorem dX3_init_16 : decode cX3_init 16 = .ok (.putfield 18, 3) := by decide +kernel
theorem dX3_init_19 : decode cX3_init 19 = .ok (.aload_n 0, 1) := by decide +kernel
theorem dX3_init_20 : decode cX3_init 20 = .ok (.iconst (-1), 1) := by decide +kernel
theorem dX3_init_21 : decode cX3_init 21 = .ok (.putfield 21, 3) := by decide +kernel
theorem dX3_init_24 : decode cX3_init 24 = .ok (.return_, 1) := by decide +kernel
theorem dX3_expects_0 : decode cX3_expects 0 = .ok (.iload_n 1, 1) := by decide +kernel
theorem dX3_expects_1 : decode cX3_expects 1 = .ok (.ifCond .lt 9, 3) := by decide +kernel
theorem dX3_expects_4 : decode cX3_expects 4 = .ok (.iload_n 1, 1) := by decide +kernel
theorem dX3_expects_5 : decode cX3_expects 5 = .ok (.bipush 8, 2) := by decide +kernel
theorem dX3_expects_7 : decode cX3_expects 7 = .ok (.if_icmp .lt 5, 3) := by decide +kernel
theorem dX3_expects_10 : decode cX3_expects 10 = .ok (.iconst 0, 1) := by decide +kernel
theorem dX3_expects_11 : decode cX3_expects 11 = .ok (.ireturn, 1) := by decide +kernel
theorem dX3_expects_12 : decode cX3_expects 12 = .ok (.aload_n 0, 1) := by decide +kernel
theorem dX3_expects_13 : decode cX3_expects 13 = .ok (.getfield 21, 3) := by decide +kernel
theorem dX3_expects_16 : decode cX3_expects 16 = .ok (.iconst (-1), 1) := by decide +kernel
theorem dX3_expects_17 : decode cX3_expects 17 = .ok (.if_icmp .eq 16, 3) := by decide +kernel
theorem dX3_expects_20 : decode cX3_expects 20 = .ok (.iload_n 1, 1) := by decide +kernel
theorem dX3_expects_21 : decode cX3_expects 21 = .ok (.aload_n 0, 1) := by decide +kernel
theorem dX3_expects_22 : decode cX3_expects 22 = .ok (.getfield 21, 3) := by decide +kernel
theorem dX3_expects_25 : decode cX3_expects 25 = .ok (.iconst 1, 1) := by decide +kernel
theorem dX3_expects_26 : decode cX3_expects 26 = .ok (.iadd, 1) := by decide +kernel
theorem dX3_expects_27 : decode cX3_expects 27 = .ok (.bipush 8, 2) := by decide +kernel
theorem dX3_expects_29 : decode cX3_expects 29 = .ok (.irem, 1) := by decide +kernel
theorem dX3_expects_30 : decode cX3_expects 30 = .ok (.if_icmp .ne 7, 3) := by decide +kernel
theorem dX3_expects_33 : decode cX3_expects 33 = .ok (.iconst 1, 1) := by decide +kernel
theorem dX3_expects_34 : decode cX3_expects 34 = .ok (.goto 4, 3) := by decide +kernel
theorem dX3_expects_37 : decode cX3_expects 37 = .ok (.iconst 0, 1) := by decide +kernel
theorem dX3_expects_38 : decode cX3_expects 38 = .ok (.ireturn, 1) := by decide +kernel
theorem dX3_take_0 : decode cX3_take 0 = .ok (.aload_n 0, 1) := by decide +kernel
theorem dX3_take_1 : decode cX3_take 1 = .ok (.aload_n 0, 1) := by decide +kernel
theorem dX3_take_2 : decode cX3_take 2 = .ok (.getfield 9, 3) := by decide +kernel
theorem dX3_take_5 : decode cX3_take 5 = .ok (.iconst (-1), 1) := by decide +kernel
theorem dX3_take_6 : decode cX3_take 6 = .ok (.if_icmp .ne 7, 3) := by decide +kernel
theorem dX3_take_9 : decode cX3_take 9 = .ok (.iconst 0, 1) := by decide +kernel
theorem dX3_take_10 : decode cX3_take 10 = .ok (.goto 11, 3) := by decide +kernel
theorem dX3_take_13 : decode cX3_take 13 = .ok (.aload_n 0, 1) := by decide +kernel
theorem dX3_take_14 : decode cX3_take 14 = .ok (.getfield 15, 3) := by decide +kernel
theorem dX3_take_17 : decode cX3_take 17 = .ok (.iload_n 3, 1) := by decide +kernel
theorem dX3_take_18 : decode cX3_take 18 = .ok (.invokestatic 24, 3) := by decide +kernel
theorem dX3_take_21 : decode cX3_take 21 = .ok (.putfield 15, 3) := by decide +kernel
theorem dX3_take_24 : decode cX3_take 24 = .ok (.aload_n 0, 1) := by decide +kernel
theorem dX3_take_25 : decode cX3_take 25 = .ok (.iload_n 2, 1) := by decide +kernel
theorem dX3_take_26 : decode cX3_take 26 = .ok (.putfield 9, 3) := by decide +kernel
theorem dX3_take_29 : decode cX3_take 29 = .ok (.aload_n 0, 1) := by decide +kernel
theorem dX3_take_30 : decode cX3_take 30 = .ok (.iload_n 1, 1) := by decide +kernel
theorem dX3_take_31 : decode cX3_take 31 = .ok (.putfield 21, 3) := by decide +kernel
theorem dX3_take_34 : decode cX3_take 34 = .ok (.aload_n 0, 1) := by decide +kernel
theorem dX3_take_35 : decode cX3_take 35 = .ok (.iconst 0, 1) := by decide +kernel
theorem dX3_take_36 : decode cX3_take 36 = .ok (.putfield 18, 3) := by decide +kernel
theorem dX3_take_39 : decode cX3_take 39 = .ok (.return_, 1) := by decide +kernel
theorem dX3_fitTo_0 : decode cX3_fitTo 0 = .ok (.aload_n 0, 1) := by decide +kernel
theorem dX3_fitTo_1 : decode cX3_fitTo 1 = .ok (.getfield 9, 3) := by decide +kernel
theorem dX3_fitTo_4 : decode cX3_fitTo 4 = .ok (.iload_n 1, 1) := by decide +kernel
theorem dX3_fitTo_5 : decode cX3_fitTo 5 = .ok (.if_icmp .ne 15, 3) := by decide +kernel
theorem dX3_fitTo_8 : decode cX3_fitTo 8 = .ok (.aload_n 0, 1) := by decide +kernel
theorem dX3_fitTo_9 : decode cX3_fitTo 9 = .ok (.aload_n 0, 1) := by decide +kernel
theorem dX3_fitTo_10 : decode cX3_fitTo 10 = .ok (.getfield 15, 3) := by decide +kernel
theorem dX3_fitTo_13 : decode cX3_fitTo 13 = .ok (.iload_n 2, 1) := by decide +kernel
theorem dX3_fitTo_14 : decode cX3_fitTo 14 = .ok (.invokestatic 24, 3) := by decide +kernel
theorem dX3_fitTo_17 : decode cX3_fitTo 17 = .ok (.putfield 15, 3) := by decide +kernel
theorem dX3_fitTo_20 : decode cX3_fitTo 20 = .ok (.return_, 1) := by decide +kernel
theorem dX3_pass_0 : decode cX3_pass 0 = .ok (.aload_n 0, 1) := by decide +kernel
theorem dX3_pass_1 : decode cX3_pass 1 = .ok (.getfield 9, 3) := by decide +kernel
theorem dX3_pass_4 : decode cX3_pass 4 = .ok (.iconst (-1), 1) := by decide +kernel
theorem dX3_pass_5 : decode cX3_pass 5 = .ok (.if_icmp .ne 4, 3) := by decide +kernel
theorem dX3_pass_8 : decode cX3_pass 8 = .ok (.return_, 1) := by decide +kernel
theorem dX3_pass_9 : decode cX3_pass 9 = .ok (.aload_n 0, 1) := by decide +kernel
theorem dX3_pass_10 : decode cX3_pass 10 = .ok (.dup, 1) := by decide +kernel
theorem dX3_pass_11 : decode cX3_pass 11 = .ok (.getfield 18, 3) := by decide +kernel
theorem dX3_pass_14 : decode cX3_pass 14 = .ok (.iconst 1, 1) := by decide +kernel
theorem dX3_pass_15 : decode cX3_pass 15 = .ok (.iadd, 1) := by decide +kernel
theorem dX3_pass_16 : decode cX3_pass 16 = .ok (.putfield 18, 3) := by decide +kernel
theorem dX3_pass_19 : decode cX3_pass 19 = .ok (.aload_n 0, 1) := by decide +kernel
theorem dX3_pass_20 : decode cX3_pass 20 = .ok (.getfield 18, 3) := by decide +kernel
theorem dX3_pass_23 : decode cX3_pass 23 = .ok (.bipush 30, 2) := by decide +kernel
theorem dX3_pass_25 : decode cX3_pass 25 = .ok (.if_icmp .lt 9, 3) := by decide +kernel
theorem dX3_pass_28 : decode cX3_pass 28 = .ok (.aload_n 0, 1) := by decide +kernel
theorem dX3_pass_29 : decode cX3_pass 29 = .ok (.iconst (-1), 1) := by decide +kernel
theorem dX3_pass_30 : decode cX3_pass 30 = .ok (.putfield 9, 3) := by decide +kernel
theorem dX3_pass_33 : decode cX3_pass 33 = .ok (.return_, 1) := by decide +kernel
theorem dX3_pass_34 : decode cX3_pass 34 = .ok (.aload_n 1, 1) := by decide +kernel
theorem dX3_pass_35 : decode cX3_pass 35 = .ok (.aload_n 0, 1) := by decide +kernel
theorem dX3_pass_36 : decode cX3_pass 36 = .ok (.getfield 9, 3) := by decide +kernel
theorem dX3_pass_39 : decode cX3_pass 39 = .ok (.invokevirtual 28, 3) := by decide +kernel
theorem dX3_pass_42 : decode cX3_pass 42 = .ok (.istore_n 3, 1) := by decide +kernel
theorem dX3_pass_43 : decode cX3_pass 43 = .ok (.aload_n 0, 1) := by decide +kernel
theorem dX3_pass_44 : decode cX3_pass 44 = .ok (.aload_n 0, 1) := by decide +kernel
theorem dX3_pass_45 : decode cX3_pass 45 = .ok (.getfield 15, 3) := by decide +kernel
theorem dX3_pass_48 : decode cX3_pass 48 = .ok (.iconst 1, 1) := by decide +kernel
theorem dX3_pass_49 : decode cX3_pass 49 = .ok (.iadd, 1) := by decide +kernel
theorem dX3_pass_50 : decode cX3_pass 50 = .ok (.iload_n 3, 1) := by decide +kernel
theorem dX3_pass_51 : decode cX3_pass 51 = .ok (.invokestatic 24, 3) := by decide +kernel
theorem dX3_pass_54 : decode cX3_pass 54 = .ok (.putfield 15, 3) := by decide +kernel
theorem dX3_pass_57 : decode cX3_pass 57 = .ok (.iload_n 2, 1) := by decide +kernel
theorem dX3_pass_58 : decode cX3_pass 58 = .ok (.iconst 5, 1) := by decide +kernel
theorem dX3_pass_59 : decode cX3_pass 59 = .ok (.irem, 1) := by decide +kernel
theorem dX3_pass_60 : decode cX3_pass 60 = .ok (.ifCond .ne 43, 3) := by decide +kernel
theorem dX3_pass_63 : decode cX3_pass 63 = .ok (.iload_n 2, 1) := by decide +kernel
theorem dX3_pass_64 : decode cX3_pass 64 = .ok (.aload_n 1, 1) := by decide +kernel
theorem dX3_pass_65 : decode cX3_pass 65 = .ok (.aload_n 0, 1) := by decide +kernel
theorem dX3_pass_66 : decode cX3_pass 66 = .ok (.getfield 9, 3) := by decide +kernel
theorem dX3_pass_69 : decode cX3_pass 69 = .ok (.invokevirtual 34, 3) := by decide +kernel
theorem dX3_pass_72 : decode cX3_pass 72 = .ok (.isub, 1) := by decide +kernel
theorem dX3_pass_73 : decode cX3_pass 73 = .ok (.aload_n 0, 1) := by decide +kernel
theorem dX3_pass_74 : decode cX3_pass 74 = .ok (.getfield 15, 3) := by decide +kernel
theorem dX3_pass_77 : decode cX3_pass 77 = .ok (.isub, 1) := by decide +kernel
theorem dX3_pass_78 : decode cX3_pass 78 = .ok (.iload_n 3, 1) := by decide +kernel
theorem dX3_pass_79 : decode cX3_pass 79 = .ok (.invokestatic 24, 3) := by decide +kernel
theorem dX3_pass_82 : decode cX3_pass 82 = .ok (.istore 4, 2) := by decide +kernel
theorem dX3_pass_84 : decode cX3_pass 84 = .ok (.aload_n 0, 1) := by decide +kernel
theorem dX3_pass_85 : decode cX3_pass 85 = .ok (.aload_n 0, 1) := by decide +kernel
theorem dX3_pass_86 : decode cX3_pass 86 = .ok (.getfield 15, 3) := by decide +kernel
theorem dX3_pass_89 : decode cX3_pass 89 = .ok (.iload 4, 2) := by decide +kernel
theorem dX3_pass_91 : decode cX3_pass 91 = .ok (.iload_n 3, 1) := by decide +kernel
theorem dX3_pass_92 : decode cX3_pass 92 = .ok (.invokestatic 37, 3) := by decide +kernel
theorem dX3_pass_95 : decode cX3_pass 95 = .ok (.iadd, 1) := by decide +kernel
theorem dX3_pass_96 : decode cX3_pass 96 = .ok (.iload_n 3, 1) := by decide +kernel
theorem dX3_pass_97 : decode cX3_pass 97 = .ok (.invokestatic 24, 3) := by decide +kernel
theorem dX3_pass_100 : decode cX3_pass 100 = .ok (.putfield 15, 3) := by decide +kernel
theorem dX3_pass_103 : decode cX3_pass 103 = .ok (.return_, 1) := by decide +kernel
theorem dX3_shorterWay_0 : decode cX3_shorterWay 0 = .ok (.iload_n 0, 1) := by decide +kernel
theorem dX3_shorterWay_1 : decode cX3_shorterWay 1 = .ok (.ifCond .ne 5, 3) := by decide +kernel
theorem dX3_shorterWay_4 : decode cX3_shorterWay 4 = .ok (.iconst 0, 1) := by decide +kernel
theorem dX3_shorterWay_5 : decode cX3_shorterWay 5 = .ok (.ireturn, 1) := by decide +kernel
theorem dX3_shorterWay_6 : decode cX3_shorterWay 6 = .ok (.iload_n 0, 1) := by decide +kernel
theorem dX3_shorterWay_7 : decode cX3_shorterWay 7 = .ok (.iload_n 1, 1) := by decide +kernel
theorem dX3_shorterWay_8 : decode cX3_shorterWay 8 = .ok (.iload_n 0, 1) := by decide +kernel
theorem dX3_shorterWay_9 : decode cX3_shorterWay 9 = .ok (.isub, 1) := by decide +kernel
theorem dX3_shorterWay_10 : decode cX3_shorterWay 10 = .ok (.if_icmp .gt 7, 3) := by decide +kernel
theorem dX3_shorterWay_13 : decode cX3_shorterWay 13 = .ok (.iconst 1, 1) := by decide +kernel
theorem dX3_shorterWay_14 : decode cX3_shorterWay 14 = .ok (.goto 4, 3) := by decide +kernel
theorem dX3_shorterWay_17 : decode cX3_shorterWay 17 = .ok (.iconst (-1), 1) := by decide +kernel
theorem dX3_shorterWay_18 : decode cX3_shorterWay 18 = .ok (.ireturn, 1) := by decide +kernel
theorem dX3_shownClock_0 : decode cX3_shownClock 0 = .ok (.aload_n 0, 1) := by decide +kernel
theorem dX3_shownClock_1 : decode cX3_shownClock 1 = .ok (.getfield 9, 3) := by decide +kernel
theorem dX3_shownClock_4 : decode cX3_shownClock 4 = .ok (.iconst (-1), 1) := by decide +kernel
theorem dX3_shownClock_5 : decode cX3_shownClock 5 = .ok (.if_icmp .ne 7, 3) := by decide +kernel
theorem dX3_shownClock_8 : decode cX3_shownClock 8 = .ok (.iconst (-1), 1) := by decide +kernel
theorem dX3_shownClock_9 : decode cX3_shownClock 9 = .ok (.goto 7, 3) := by decide +kernel
theorem dX3_shownClock_12 : decode cX3_shownClock 12 = .ok (.aload_n 0, 1) := by decide +kernel
theorem dX3_shownClock_13 : decode cX3_shownClock 13 = .ok (.getfield 15, 3) := by decide +kernel
theorem dX3_shownClock_16 : decode cX3_shownClock 16 = .ok (.ireturn, 1) := by decide +kernel
theorem dX3_isBeforeSplit_0 : decode cX3_isBeforeSplit 0 = .ok (.aload_n 0, 1) := by decide +kernel
theorem dX3_isBeforeSplit_1 : decode cX3_isBeforeSplit 1 = .ok (.getfield 9, 3) := by decide +kernel
theorem dX3_isBeforeSplit_4 : decode cX3_isBeforeSplit 4 = .ok (.iconst (-1), 1) := by decide +kernel
theorem dX3_isBeforeSplit_5 : decode cX3_isBeforeSplit 5 = .ok (.if_icmp .eq 22, 3) := by decide +kernel
theorem dX3_isBeforeSplit_8 : decode cX3_isBeforeSplit 8 = .ok (.aload_n 0, 1) := by decide +kernel
theorem dX3_isBeforeSplit_9 : decode cX3_isBeforeSplit 9 = .ok (.getfield 15, 3) := by decide +kernel
theorem dX3_isBeforeSplit_12 : decode cX3_isBeforeSplit 12 = .ok (.aload_n 1, 1) := by decide +kernel
theorem dX3_isBeforeSplit_13 : decode cX3_isBeforeSplit 13 = .ok (.aload_n 0, 1) := by decide +kernel
theorem dX3_isBeforeSplit_14 : decode cX3_isBeforeSplit 14 = .ok (.getfield 9, 3) := by decide +kernel
theorem dX3_isBeforeSplit_17 : decode cX3_isBeforeSplit 17 = .ok (.invokevirtual 40, 3) := by decide +kernel
theorem dX3_isBeforeSplit_20 : decode cX3_isBeforeSplit 20 = .ok (.if_icmp .ge 7, 3) := by decide +kernel
theorem dX3_isBeforeSplit_23 : decode cX3_isBeforeSplit 23 = .ok (.iconst 1, 1) := by decide +kernel
theorem dX3_isBeforeSplit_24 : decode cX3_isBeforeSplit 24 = .ok (.goto 4, 3) := by decide +kernel
theorem dX3_isBeforeSplit_27 : decode cX3_isBeforeSplit 27 = .ok (.iconst 0, 1) := by decide +kernel
theorem dX3_isBeforeSplit_28 : decode cX3_isBeforeSplit 28 = .ok (.ireturn, 1) := by decide +kernel
theorem dX4_init_0 : decode cX4_init 0 = .ok (.aload_n 0, 1) := by decide +kernel
theorem dX4_init_1 : decode cX4_init 1 = .ok (.invokespecial 3, 3) := by decide +kernel
theorem dX4_init_4 : decode cX4_init 4 = .ok (.aload_n 0, 1) := by decide +kernel
theorem dX4_init_5 : decode cX4_init 5 = .ok (.bipush 8, 2) := by decide +kernel
theorem dX4_init_7 : decode cX4_init 7 = .ok (.newarray .int, 2) := by decide +kernel
theorem dX4_init_9 : decode cX4_init 9 = .ok (.putfield 9, 3) := by decide +kernel
theorem dX4_init_12 : decode cX4_init 12 = .ok (.aload_n 0, 1) := by decide +kernel
theorem dX4_init_13 : decode cX4_init 13 = .ok (.bipush 8, 2) := by decide +kernel
theorem dX4_init_15 : decode cX4_init 15 = .ok (.newarray .int, 2) := by decide +kernel
theorem dX4_init_17 : decode cX4_init 17 = .ok (.putfield 15, 3) := by decide +kernel
theorem dX4_init_20 : decode cX4_init 20 = .ok (.aload_n 0, 1) := by decide +kernel
theorem dX4_init_21 : decode cX4_init 21 = .ok (.bipush 8, 2) := by decide +kernel
theorem dX4_init_23 : decode cX4_init 23 = .ok (.newarray .int, 2) := by decide +kernel
theorem dX4_init_25 : decode cX4_init 25 = .ok (.putfield 18, 3) := by decide +kernel
theorem dX4_init_28 : decode cX4_init 28 = .ok (.aload_n 0, 1) := by decide +kernel
theorem dX4_init_29 : decode cX4_init 29 = .ok (.iconst 0, 1) := by decide +kernel
theorem dX4_init_30 : decode cX4_init 30 = .ok (.putfield 21, 3) := by decide +kernel
theorem dX4_init_33 : decode cX4_init 33 = .ok (.return_, 1) := by decide +kernel
theorem dX4_beginAnew_0 : decode cX4_beginAnew 0 = .ok (.aload_n 0, 1) := by decide +kernel
theorem dX4_beginAnew_1 : decode cX4_beginAnew 1 = .ok (.iconst 0, 1) := by decide +kernel
theorem dX4_beginAnew_2 : decode cX4_beginAnew 2 = .ok (.putfield 21, 3) := by decide +kernel
theorem dX4_beginAnew_5 : decode cX4_beginAnew 5 = .ok (.iconst 0, 1) := by decide +kernel
theorem dX4_beginAnew_6 : decode cX4_beginAnew 6 = .ok (.istore_n 1, 1) := by decide +kernel
theorem dX4_beginAnew_7 : decode cX4_beginAnew 7 = .ok (.iload_n 1, 1) := by decide +kernel
theorem dX4_beginAnew_8 : decode cX4_beginAnew 8 = .ok (.bipush 8, 2) := by decide +kernel
theorem dX4_beginAnew_10 : decode cX4_beginAnew 10 = .ok (.if_icmp .ge 23, 3) := by decide +kernel
theorem dX4_beginAnew_13 : decode cX4_beginAnew 13 = .ok (.aload_n 0, 1) := by decide +kernel
theorem dX4_beginAnew_14 : decode cX4_beginAnew 14 = .ok (.getfield 15, 3) := by decide +kernel
theorem dX4_beginAnew_17 : decode cX4_beginAnew 17 = .ok (.iload_n 1, 1) := by decide +kernel
theorem dX4_beginAnew_18 : decode cX4_beginAnew 18 = .ok (.iconst 0, 1) := by decide +kernel
theorem dX4_beginAnew_19 : decode cX4_beginAnew 19 = .ok (.iastore, 1) := by decide +kernel
theorem dX4_beginAnew_20 : decode cX4_beginAnew 20 = .ok (.aload_n 0, 1) := by decide +kernel
theorem dX4_beginAnew_21 : decode cX4_beginAnew 21 = .ok (.getfield 18, 3) := by decide +kernel
theorem dX4_beginAnew_24 : decode cX4_beginAnew 24 = .ok (.iload_n 1, 1) := by decide +kernel
theorem dX4_beginAnew_25 : decode cX4_beginAnew 25 = .ok (.iconst 0, 1) := by decide +kernel
theorem dX4_beginAnew_26 : decode cX4_beginAnew 26 = .ok (.iastore, 1) := by decide +kernel
theorem dX4_beginAnew_27 : decode cX4_beginAnew 27 = .ok (.iinc 1 1, 3) := by decide +kernel
theorem dX4_beginAnew_30 : decode cX4_beginAnew 30 = .ok (.goto (-23), 3) := by decide +kernel
theorem dX4_beginAnew_33 : decode cX4_beginAnew 33 = .ok (.return_, 1) := by decide +kernel
theorem dX4_see_0 : decode cX4_see 0 = .ok (.iload_n 1, 1) := by decide +kernel
theorem dX4_see_1 : decode cX4_see 1 = .ok (.invokestatic 25, 3) := by decide +kernel
theorem dX4_see_4 : decode cX4_see 4 = .ok (.ifCond .eq 10, 3) := by decide +kernel
theorem dX4_see_7 : decode cX4_see 7 = .ok (.aload_n 0, 1) := by decide +kernel
theorem dX4_see_8 : decode cX4_see 8 = .ok (.getfield 9, 3) := by decide +kernel
theorem dX4_see_11 : decode cX4_see 11 = .ok (.iload_n 1, 1) := by decide +kernel
theorem dX4_see_12 : decode cX4_see 12 = .ok (.iload_n 2, 1) := by decide +kernel
theorem dX4_see_13 : decode cX4_see 13 = .ok (.iastore, 1) := by decide +kernel
theorem dX4_see_14 : decode cX4_see 14 = .ok (.return_, 1) := by decide +kernel
theorem dX4_look_0 : decode cX4_look 0 = .ok (.iconst 0, 1) := by decide +kernel
theorem dX4_look_1 : decode cX4_look 1 = .ok (.istore_n 2, 1) := by decide +kernel
theorem dX4_look_2 : decode cX4_look 2 = .ok (.aload_n 0, 1) := by decide +kernel
theorem dX4_look_3 : decode cX4_look 3 = .ok (.iload_n 1, 1) := by decide +kernel
theorem dX4_look_4 : decode cX4_look 4 = .ok (.invokevirtual 29, 3) := by decide +kernel
theorem dX4_look_7 : decode cX4_look 7 = .ok (.ifCond .eq 8, 3) := by decide +kernel
theorem dX4_look_10 : decode cX4_look 10 = .ok (.iconst 1, 1) := by decide +kernel
theorem dX4_look_11 : decode cX4_look 11 = .ok (.istore_n 2, 1) := by decide +kernel
theorem dX4_look_12 : decode cX4_look 12 = .ok (.goto 26, 3) := by decide +kernel
theorem dX4_look_15 : decode cX4_look 15 = .ok (.aload_n 0, 1) := by decide +kernel
theorem dX4_look_16 : decode cX4_look 16 = .ok (.iload_n 1, 1) := by decide +kernel
theorem dX4_look_17 : decode cX4_look 17 = .ok (.invokevirtual 32, 3) := by decide +kernel
theorem dX4_look_20 : decode cX4_look 20 = .ok (.ifCond .eq 8, 3) := by decide +kernel
theorem dX4_look_23 : decode cX4_look 23 = .ok (.iconst 2, 1) := by decide +kernel
theorem dX4_look_24 : decode cX4_look 24 = .ok (.istore_n 2, 1) := by decide +kernel
theorem dX4_look_25 : decode cX4_look 25 = .ok (.goto 13, 3) := by decide +kernel
theorem dX4_look_28 : decode cX4_look 28 = .ok (.aload_n 0, 1) := by decide +kernel
theorem dX4_look_29 : decode cX4_look 29 = .ok (.iload_n 1, 1) := by decide +kernel
theorem dX4_look_30 : decode cX4_look 30 = .ok (.invokevirtual 35, 3) := by decide +kernel
theorem dX4_look_33 : decode cX4_look 33 = .ok (.ifCond .eq 5, 3) := by decide +kernel
theorem dX4_look_36 : decode cX4_look 36 = .ok (.iconst 3, 1) := by decide +kernel
theorem dX4_look_37 : decode cX4_look 37 = .ok (.istore_n 2, 1) := by decide +kernel
theorem dX4_look_38 : decode cX4_look 38 = .ok (.aload_n 0, 1) := by decide +kernel
theorem dX4_look_39 : decode cX4_look 39 = .ok (.invokevirtual 38, 3) := by decide +kernel
theorem dX4_look_42 : decode cX4_look 42 = .ok (.iload_n 2, 1) := by decide +kernel
theorem dX4_look_43 : decode cX4_look 43 = .ok (.ireturn, 1) := by decide +kernel
theorem dX4_seesConflict_0 : decode cX4_seesConflict 0 = .ok (.iconst 0, 1) := by decide +kernel
theorem dX4_seesConflict_1 : decode cX4_seesConflict 1 = .ok (.istore_n 2, 1) := by decide +kernel
theorem dX4_seesConflict_2 : decode cX4_seesConflict 2 = .ok (.iload_n 2, 1) := by decide +kernel
theorem dX4_seesConflict_3 : decode cX4_seesConflict 3 = .ok (.bipush 8, 2) := by decide +kernel
theorem dX4_seesConflict_5 : decode cX4_seesConflict 5 = .ok (.if_icmp .ge 89, 3) := by decide +kernel
theorem dX4_seesConflict_8 : decode cX4_seesConflict 8 = .ok (.iload_n 2, 1) := by decide +kernel
theorem dX4_seesConflict_9 : decode cX4_seesConflict 9 = .ok (.iconst 1, 1) := by decide +kernel
theorem dX4_seesConflict_10 : decode cX4_seesConflict 10 = .ok (.iadd, 1) := by decide +kernel
theorem dX4_seesConflict_11 : decode cX4_seesConflict 11 = .ok (.istore_n 3, 1) := by decide +kernel
theorem dX4_seesConflict_12 : decode cX4_seesConflict 12 = .ok (.iload_n 3, 1) := by decide +kernel
theorem dX4_seesConflict_13 : decode cX4_seesConflict 13 = .ok (.bipush 8, 2) := by decide +kernel
theorem dX4_seesConflict_15 : decode cX4_seesConflict 15 = .ok (.if_icmp .ge 73, 3) := by decide +kernel
theorem dX4_seesConflict_18 : decode cX4_seesConflict 18 = .ok (.iload_n 1, 1) := by decide +kernel
theorem dX4_seesConflict_19 : decode cX4_seesConflict 19 = .ok (.iload_n 2, 1) := by decide +kernel
theorem dX4_seesConflict_20 : decode cX4_seesConflict 20 = .ok (.invokestatic 41, 3) := by decide +kernel
theorem dX4_seesConflict_23 : decode cX4_seesConflict 23 = .ok (.iand, 1) := by decide +kernel
theorem dX4_seesConflict_24 : decode cX4_seesConflict 24 = .ok (.ifCond .eq 16, 3) := by decide +kernel
theorem dX4_seesConflict_27 : decode cX4_seesConflict 27 = .ok (.iload_n 1, 1) := by decide +kernel
theorem dX4_seesConflict_28 : decode cX4_seesConflict 28 = .ok (.iload_n 3, 1) := by decide +kernel
theorem dX4_seesConflict_29 : decode cX4_seesConflict 29 = .ok (.invokestatic 41, 3) := by decide +kernel
theorem dX4_seesConflict_32 : decode cX4_seesConflict 32 = .ok (.iand, 1) := by decide +kernel
theorem dX4_seesConflict_33 : decode cX4_seesConflict 33 = .ok (.ifCond .eq 7, 3) := by decide +kernel
theorem dX4_seesConflict_36 : decode cX4_seesConflict 36 = .ok (.iconst 1, 1) := by decide +kernel
theorem dX4_seesConflict_37 : decode cX4_seesConflict 37 = .ok (.goto 4, 3) := by decide +kernel
theorem dX4_seesConflict_40 : decode cX4_seesConflict 40 = .ok (.iconst 0, 1) := by decide +kernel
theorem dX4_seesConflict_41 : decode cX4_seesConflict 41 = .ok (.istore 4, 2) := by decide +kernel
theorem dX4_seesConflict_43 : decode cX4_seesConflict 43 = .ok (.iload 4, 2) := by decide +kernel
theorem dX4_seesConflict_45 : decode cX4_seesConflict 45 = .ok (.ifCond .eq 37, 3) := by decide +kernel
theorem dX4_seesConflict_48 : decode cX4_seesConflict 48 = .ok (.aload_n 0, 1) := by decide +kernel
theorem dX4_seesConflict_49 : decode cX4_seesConflict 49 = .ok (.getfield 9, 3) := by decide +kernel
theorem dX4_seesConflict_52 : decode cX4_seesConflict 52 = .ok (.iload_n 2, 1) := by decide +kernel
theorem dX4_seesConflict_53 : decode cX4_seesConflict 53 = .ok (.iaload, 1) := by decide +kernel
theorem dX4_seesConflict_54 : decode cX4_seesConflict 54 = .ok (.invokestatic 45, 3) := by decide +kernel
theorem dX4_seesConflict_57 : decode cX4_seesConflict 57 = .ok (.ifCond .eq 25, 3) := by decide +kernel
theorem dX4_seesConflict_60 : decode cX4_seesConflict 60 = .ok (.aload_n 0, 1) := by decide +kernel
theorem dX4_seesConflict_61 : decode cX4_seesConflict 61 = .ok (.getfield 9, 3) := by decide +kernel
theorem dX4_seesConflict_64 : decode cX4_seesConflict 64 = .ok (.iload_n 3, 1) := by decide +kernel
theorem dX4_seesConflict_65 : decode cX4_seesConflict 65 = .ok (.iaload, 1) := by decide +kernel
theorem dX4_seesConflict_66 : decode cX4_seesConflict 66 = .ok (.invokestatic 45, 3) := by decide +kernel
theorem dX4_seesConflict_69 : decode cX4_seesConflict 69 = .ok (.ifCond .eq 13, 3) := by decide +kernel
theorem dX4_seesConflict_72 : decode cX4_seesConflict 72 = .ok (.iload_n 2, 1) := by decide +kernel
theorem dX4_seesConflict_73 : decode cX4_seesConflict 73 = .ok (.iload_n 3, 1) := by decide +kernel
theorem dX4_seesConflict_74 : decode cX4_seesConflict 74 = .ok (.invokestatic 48, 3) := by decide +kernel
theorem dX4_seesConflict_77 : decode cX4_seesConflict 77 = .ok (.ifCond .ne 5, 3) := by decide +kernel
theorem dX4_seesConflict_80 : decode cX4_seesConflict 80 = .ok (.iconst 1, 1) := by decide +kernel
theorem dX4_seesConflict_81 : decode cX4_seesConflict 81 = .ok (.ireturn, 1) := by decide +kernel
theorem dX4_seesConflict_82 : decode cX4_seesConflict 82 = .ok (.iinc 3 1, 3) := by decide +kernel
theorem dX4_seesConflict_85 : decode cX4_seesConflict 85 = .ok (.goto (-73), 3) := by decide +kernel
theorem dX4_seesConflict_88 : decode cX4_seesConflict 88 = .ok (.iinc 2 1, 3) := by decide +kernel
theorem dX4_seesConflict_91 : decode cX4_seesConflict 91 = .ok (.goto (-89), 3) := by decide +kernel
theorem dX4_seesConflict_94 : decode cX4_seesConflict 94 = .ok (.iconst 0, 1) := by decide +kernel
theorem dX4_seesConflict_95 : decode cX4_seesConflict 95 = .ok (.ireturn, 1) := by decide +kernel
theorem dX4_seesDark_0 : decode cX4_seesDark 0 = .ok (.iconst 0, 1) := by decide +kernel
theorem dX4_seesDark_1 : decode cX4_seesDark 1 = .ok (.istore_n 2, 1) := by decide +kernel
theorem dX4_seesDark_2 : decode cX4_seesDark 2 = .ok (.iload_n 2, 1) := by decide +kernel
theorem dX4_seesDark_3 : decode cX4_seesDark 3 = .ok (.bipush 8, 2) := by decide +kernel
theorem dX4_seesDark_5 : decode cX4_seesDark 5 = .ok (.if_icmp .ge 55, 3) := by decide +kernel
theorem dX4_seesDark_8 : decode cX4_seesDark 8 = .ok (.iload_n 1, 1) := by decide +kernel
theorem dX4_seesDark_9 : decode cX4_seesDark 9 = .ok (.iload_n 2, 1) := by decide +kernel
theorem dX4_seesDark_10 : decode cX4_seesDark 10 = .ok (.invokestatic 41, 3) := by decide +kernel
theorem dX4_seesDark_13 : decode cX4_seesDark 13 = .ok (.iand, 1) := by decide +kernel
theorem dX4_seesDark_14 : decode cX4_seesDark 14 = .ok (.ifCond .eq 7, 3) := by decide +kernel
theorem dX4_seesDark_17 : decode cX4_seesDark 17 = .ok (.iconst 1, 1) := by decide +kernel
theorem dX4_seesDark_18 : decode cX4_seesDark 18 = .ok (.goto 4, 3) := by decide +kernel
theorem dX4_seesDark_21 : decode cX4_seesDark 21 = .ok (.iconst 0, 1) := by decide +kernel
theorem dX4_seesDark_22 : decode cX4_seesDark 22 = .ok (.istore_n 3, 1) := by decide +kernel
theorem dX4_seesDark_23 : decode cX4_seesDark 23 = .ok (.iload_n 3, 1) := by decide +kernel
theorem dX4_seesDark_24 : decode cX4_seesDark 24 = .ok (.ifCond .eq 30, 3) := by decide +kernel
theorem dX4_seesDark_27 : decode cX4_seesDark 27 = .ok (.aload_n 0, 1) := by decide +kernel
theorem dX4_seesDark_28 : decode cX4_seesDark 28 = .ok (.getfield 21, 3) := by decide +kernel
theorem dX4_seesDark_31 : decode cX4_seesDark 31 = .ok (.ifCond .eq 23, 3) := by decide +kernel
theorem dX4_seesDark_34 : decode cX4_seesDark 34 = .ok (.aload_n 0, 1) := by decide +kernel
theorem dX4_seesDark_35 : decode cX4_seesDark 35 = .ok (.getfield 9, 3) := by decide +kernel
theorem dX4_seesDark_38 : decode cX4_seesDark 38 = .ok (.iload_n 2, 1) := by decide +kernel
theorem dX4_seesDark_39 : decode cX4_seesDark 39 = .ok (.iaload, 1) := by decide +kernel
theorem dX4_seesDark_40 : decode cX4_seesDark 40 = .ok (.ifCond .ne 14, 3) := by decide +kernel
theorem dX4_seesDark_43 : decode cX4_seesDark 43 = .ok (.aload_n 0, 1) := by decide +kernel
theorem dX4_seesDark_44 : decode cX4_seesDark 44 = .ok (.getfield 15, 3) := by decide +kernel
theorem dX4_seesDark_47 : decode cX4_seesDark 47 = .ok (.iload_n 2, 1) := by decide +kernel
theorem dX4_seesDark_48 : decode cX4_seesDark 48 = .ok (.iaload, 1) := by decide +kernel
theorem dX4_seesDark_49 : decode cX4_seesDark 49 = .ok (.ifCond .ne 5, 3) := by decide +kernel
theorem dX4_seesDark_52 : decode cX4_seesDark 52 = .ok (.iconst 1, 1) := by decide +kernel
theorem dX4_seesDark_53 : decode cX4_seesDark 53 = .ok (.ireturn, 1) := by decide +kernel
theorem dX4_seesDark_54 : decode cX4_seesDark 54 = .ok (.iinc 2 1, 3) := by decide +kernel
theorem dX4_seesDark_57 : decode cX4_seesDark 57 = .ok (.goto (-55), 3) := by decide +kernel
theorem dX4_seesDark_60 : decode cX4_seesDark 60 = .ok (.iconst 0, 1) := by decide +kernel
theorem dX4_seesDark_61 : decode cX4_seesDark 61 = .ok (.ireturn, 1) := by decide +kernel
theorem dX4_seesShort_0 : decode cX4_seesShort 0 = .ok (.iconst 0, 1) := by decide +kernel
theorem dX4_seesShort_1 : decode cX4_seesShort 1 = .ok (.istore_n 2, 1) := by decide +kernel
theorem dX4_seesShort_2 : decode cX4_seesShort 2 = .ok (.iload_n 2, 1) := by decide +kernel
theorem dX4_seesShort_3 : decode cX4_seesShort 3 = .ok (.bipush 8, 2) := by decide +kernel
theorem dX4_seesShort_5 : decode cX4_seesShort 5 = .ok (.if_icmp .ge 64, 3) := by decide +kernel
theorem dX4_seesShort_8 : decode cX4_seesShort 8 = .ok (.aload_n 0, 1) := by decide +kernel
theorem dX4_seesShort_9 : decode cX4_seesShort 9 = .ok (.getfield 15, 3) := by decide +kernel
theorem dX4_seesShort_12 : decode cX4_seesShort 12 = .ok (.iload_n 2, 1) := by decide +kernel
theorem dX4_seesShort_13 : decode cX4_seesShort 13 = .ok (.iaload, 1) := by decide +kernel
theorem dX4_seesShort_14 : decode cX4_seesShort 14 = .ok (.invokestatic 45, 3) := by decide +kernel
theorem dX4_seesShort_17 : decode cX4_seesShort 17 = .ok (.ifCond .eq 19, 3) := by decide +kernel
theorem dX4_seesShort_20 : decode cX4_seesShort 20 = .ok (.aload_n 0, 1) := by decide +kernel
theorem dX4_seesShort_21 : decode cX4_seesShort 21 = .ok (.getfield 9, 3) := by decide +kernel
theorem dX4_seesShort_24 : decode cX4_seesShort 24 = .ok (.iload_n 2, 1) := by decide +kernel
theorem dX4_seesShort_25 : decode cX4_seesShort 25 = .ok (.iaload, 1) := by decide +kernel
theorem dX4_seesShort_26 : decode cX4_seesShort 26 = .ok (.invokestatic 45, 3) := by decide +kernel
theorem dX4_seesShort_29 : decode cX4_seesShort 29 = .ok (.ifCond .ne 7, 3) := by decide +kernel
theorem dX4_seesShort_32 : decode cX4_seesShort 32 = .ok (.iconst 1, 1) := by decide +kernel
theorem dX4_seesShort_33 : decode cX4_seesShort 33 = .ok (.goto 4, 3) := by decide +kernel
theorem dX4_seesShort_36 : decode cX4_seesShort 36 = .ok (.iconst 0, 1) := by decide +kernel
theorem dX4_seesShort_37 : decode cX4_seesShort 37 = .ok (.istore_n 3, 1) := by decide +kernel
theorem dX4_seesShort_38 : decode cX4_seesShort 38 = .ok (.iload_n 1, 1) := by decide +kernel
theorem dX4_seesShort_39 : decode cX4_seesShort 39 = .ok (.iload_n 2, 1) := by decide +kernel
theorem dX4_seesShort_40 : decode cX4_seesShort 40 = .ok (.invokestatic 41, 3) := by decide +kernel
theorem dX4_seesShort_43 : decode cX4_seesShort 43 = .ok (.iand, 1) := by decide +kernel
theorem dX4_seesShort_44 : decode cX4_seesShort 44 = .ok (.ifCond .eq 19, 3) := by decide +kernel
theorem dX4_seesShort_47 : decode cX4_seesShort 47 = .ok (.iload_n 3, 1) := by decide +kernel
theorem dX4_seesShort_48 : decode cX4_seesShort 48 = .ok (.ifCond .eq 15, 3) := by decide +kernel
theorem dX4_seesShort_51 : decode cX4_seesShort 51 = .ok (.aload_n 0, 1) := by decide +kernel
theorem dX4_seesShort_52 : decode cX4_seesShort 52 = .ok (.getfield 18, 3) := by decide +kernel
theorem dX4_seesShort_55 : decode cX4_seesShort 55 = .ok (.iload_n 2, 1) := by decide +kernel
theorem dX4_seesShort_56 : decode cX4_seesShort 56 = .ok (.iaload, 1) := by decide +kernel
theorem dX4_seesShort_57 : decode cX4_seesShort 57 = .ok (.iconst 3, 1) := by decide +kernel
theorem dX4_seesShort_58 : decode cX4_seesShort 58 = .ok (.if_icmp .ge 5, 3) := by decide +kernel
theorem dX4_seesShort_61 : decode cX4_seesShort 61 = .ok (.iconst 1, 1) := by decide +kernel
theorem dX4_seesShort_62 : decode cX4_seesShort 62 = .ok (.ireturn, 1) := by decide +kernel
theorem dX4_seesShort_63 : decode cX4_seesShort 63 = .ok (.iinc 2 1, 3) := by decide +kernel
theorem dX4_seesShort_66 : decode cX4_seesShort 66 = .ok (.goto (-64), 3) := by decide +kernel
theorem dX4_seesShort_69 : decode cX4_seesShort 69 = .ok (.iconst 0, 1) := by decide +kernel
theorem dX4_seesShort_70 : decode cX4_seesShort 70 = .ok (.ireturn, 1) := by decide +kernel
theorem dX4_remember_0 : decode cX4_remember 0 = .ok (.aload_n 0, 1) := by decide +kernel
theorem dX4_remember_1 : decode cX4_remember 1 = .ok (.iconst 1, 1) := by decide +kernel
theorem dX4_remember_2 : decode cX4_remember 2 = .ok (.putfield 21, 3) := by decide +kernel
theorem dX4_remember_5 : decode cX4_remember 5 = .ok (.iconst 0, 1) := by decide +kernel
theorem dX4_remember_6 : decode cX4_remember 6 = .ok (.istore_n 1, 1) := by decide +kernel
theorem dX4_remember_7 : decode cX4_remember 7 = .ok (.iload_n 1, 1) := by decide +kernel
theorem dX4_remember_8 : decode cX4_remember 8 = .ok (.bipush 8, 2) := by decide +kernel
theorem dX4_remember_10 : decode cX4_remember 10 = .ok (.if_icmp .ge 63, 3) := by decide +kernel
theorem dX4_remember_13 : decode cX4_remember 13 = .ok (.aload_n 0, 1) := by decide +kernel
theorem dX4_remember_14 : decode cX4_remember 14 = .ok (.getfield 15, 3) := by decide +kernel
theorem dX4_remember_17 : decode cX4_remember 17 = .ok (.iload_n 1, 1) := by decide +kernel
theorem dX4_remember_18 : decode cX4_remember 18 = .ok (.aload_n 0, 1) := by decide +kernel
theorem dX4_remember_19 : decode cX4_remember 19 = .ok (.getfield 9, 3) := by decide +kernel
theorem dX4_remember_22 : decode cX4_remember 22 = .ok (.iload_n 1, 1) := by decide +kernel
theorem dX4_remember_23 : decode cX4_remember 23 = .ok (.iaload, 1) := by decide +kernel
theorem dX4_remember_24 : decode cX4_remember 24 = .ok (.iastore, 1) := by decide +kernel
theorem dX4_remember_25 : decode cX4_remember 25 = .ok (.aload_n 0, 1) := by decide +kernel
theorem dX4_remember_26 : decode cX4_remember 26 = .ok (.getfield 9, 3) := by decide +kernel
theorem dX4_remember_29 : decode cX4_remember 29 = .ok (.iload_n 1, 1) := by decide +kernel
theorem dX4_remember_30 : decode cX4_remember 30 = .ok (.iaload, 1) := by decide +kernel
theorem dX4_remember_31 : decode cX4_remember 31 = .ok (.iconst 4, 1) := by decide +kernel
theorem dX4_remember_32 : decode cX4_remember 32 = .ok (.iand, 1) := by decide +kernel
theorem dX4_remember_33 : decode cX4_remember 33 = .ok (.ifCond .eq 13, 3) := by decide +kernel
theorem dX4_remember_36 : decode cX4_remember 36 = .ok (.aload_n 0, 1) := by decide +kernel
theorem dX4_remember_37 : decode cX4_remember 37 = .ok (.getfield 18, 3) := by decide +kernel
theorem dX4_remember_40 : decode cX4_remember 40 = .ok (.iload_n 1, 1) := by decide +kernel
theorem dX4_remember_41 : decode cX4_remember 41 = .ok (.iconst 0, 1) := by decide +kernel
theorem dX4_remember_42 : decode cX4_remember 42 = .ok (.iastore, 1) := by decide +kernel
theorem dX4_remember_43 : decode cX4_remember 43 = .ok (.goto 24, 3) := by decide +kernel
theorem dX4_remember_46 : decode cX4_remember 46 = .ok (.aload_n 0, 1) := by decide +kernel
theorem dX4_remember_47 : decode cX4_remember 47 = .ok (.getfield 9, 3) := by decide +kernel
theorem dX4_remember_50 : decode cX4_remember 50 = .ok (.iload_n 1, 1) := by decide +kernel
theorem dX4_remember_51 : decode cX4_remember 51 = .ok (.iaload, 1) := by decide +kernel
theorem dX4_remember_52 : decode cX4_remember 52 = .ok (.iconst 2, 1) := by decide +kernel
theorem dX4_remember_53 : decode cX4_remember 53 = .ok (.iand, 1) := by decide +kernel
theorem dX4_remember_54 : decode cX4_remember 54 = .ok (.ifCond .eq 13, 3) := by decide +kernel
theorem dX4_remember_57 : decode cX4_remember 57 = .ok (.aload_n 0, 1) := by decide +kernel
theorem dX4_remember_58 : decode cX4_remember 58 = .ok (.getfield 18, 3) := by decide +kernel
theorem dX4_remember_61 : decode cX4_remember 61 = .ok (.iload_n 1, 1) := by decide +kernel
theorem dX4_remember_62 : decode cX4_remember 62 = .ok (.dup2, 1) := by decide +kernel
theorem dX4_remember_63 : decode cX4_remember 63 = .ok (.iaload, 1) := by decide +kernel
theorem dX4_remember_64 : decode cX4_remember 64 = .ok (.iconst 1, 1) := by decide +kernel
theorem dX4_remember_65 : decode cX4_remember 65 = .ok (.iadd, 1) := by decide +kernel
theorem dX4_remember_66 : decode cX4_remember 66 = .ok (.iastore, 1) := by decide +kernel
theorem dX4_remember_67 : decode cX4_remember 67 = .ok (.iinc 1 1, 3) := by decide +kernel
theorem dX4_remember_70 : decode cX4_remember 70 = .ok (.goto (-63), 3) := by decide +kernel
theorem dX4_remember_73 : decode cX4_remember 73 = .ok (.return_, 1) := by decide +kernel
theorem dX4_goes_0 : decode cX4_goes 0 = .ok (.iload_n 0, 1) := by decide +kernel
theorem dX4_goes_1 : decode cX4_goes 1 = .ok (.bipush 6, 2) := by decide +kernel
theorem dX4_goes_3 : decode cX4_goes 3 = .ok (.iand, 1) := by decide +kernel
theorem dX4_goes_4 : decode cX4_goes 4 = .ok (.ifCond .eq 7, 3) := by decide +kernel
theorem dX4_goes_7 : decode cX4_goes 7 = .ok (.iconst 1, 1) := by decide +kernel
theorem dX4_goes_8 : decode cX4_goes 8 = .ok (.goto 4, 3) := by decide +kernel
theorem dX4_goes_11 : decode cX4_goes 11 = .ok (.iconst 0, 1) := by decide +kernel
theorem dX4_goes_12 : decode cX4_goes 12 = .ok (.ireturn, 1) := by decide +kernel
theorem dX4_goTogether_0 : decode cX4_goTogether 0 = .ok (.iload_n 0, 1) := by decide +kernel
theorem dX4_goTogether_1 : decode cX4_goTogether 1 = .ok (.invokestatic 52, 3) := by decide +kernel
theorem dX4_goTogether_4 : decode cX4_goTogether 4 = .ok (.iload_n 1, 1) := by decide +kernel
theorem dX4_goTogether_5 : decode cX4_goTogether 5 = .ok (.invokestatic 52, 3) := by decide +kernel
theorem dX4_goTogether_8 : decode cX4_goTogether 8 = .ok (.if_icmp .eq 18, 3) := by decide +kernel
theorem dX4_goTogether_11 : decode cX4_goTogether 11 = .ok (.iload_n 0, 1) := by decide +kernel
theorem dX4_goTogether_12 : decode cX4_goTogether 12 = .ok (.invokestatic 55, 3) := by decide +kernel
theorem dX4_goTogether_15 : decode cX4_goTogether 15 = .ok (.iload_n 1, 1) := by decide +kernel
theorem dX4_goTogether_16 : decode cX4_goTogether 16 = .ok (.invokestatic 55, 3) := by decide +kernel
theorem dX4_goTogether_19 : decode cX4_goTogether 19 = .ok (.if_icmp .ne 7, 3) := by decide +kernel
theorem dX4_goTogether_22 : decode cX4_goTogether 22 = .ok (.iconst 1, 1) := by decide +kernel
theorem dX4_goTogether_23 : decode cX4_goTogether 23 = .ok (.goto 4, 3) := by decide +kernel
theorem dX4_goTogether_26 : decode cX4_goTogether 26 = .ok (.iconst 0, 1) := by decide +kernel
theorem dX4_goTogether_27 : decode cX4_goTogether 27 = .ok (.ireturn, 1) := by decide +kernel
theorem dX5_init_0 : decode cX5_init 0 = .ok (.aload_n 0, 1) := by decide +kernel
theorem dX5_init_1 : decode cX5_init 1 = .ok (.invokespecial 3, 3) := by decide +kernel
theorem dX5_init_4 : decode cX5_init 4 = .ok (.aload_n 0, 1) := by decide +kernel
theorem dX5_init_5 : decode cX5_init 5 = .ok (.iconst 4, 1) := by decide +kernel
theorem dX5_init_6 : decode cX5_init 6 = .ok (.newarray .int, 2) := by decide +kernel
theorem dX5_init_8 : decode cX5_init 8 = .ok (.putfield 9, 3) := by decide +kernel
theorem dX5_init_11 : decode cX5_init 11 = .ok (.aload_n 0, 1) := by decide +kernel
theorem dX5_init_12 : decode cX5_init 12 = .ok (.iconst 4, 1) := by decide +kernel
theorem dX5_init_13 : decode cX5_init 13 = .ok (.newarray .int, 2) := by decide +kernel
theorem dX5_init_15 : decode cX5_init 15 = .ok (.putfield 15, 3) := by decide +kernel
theorem dX5_init_18 : decode cX5_init 18 = .ok (.aload_n 0, 1) := by decide +kernel
theorem dX5_init_19 : decode cX5_init 19 = .ok (.iconst 4, 1) := by decide +kernel
theorem dX5_init_20 : decode cX5_init 20 = .ok (.newarray .int, 2) := by decide +kernel
theorem dX5_init_22 : decode cX5_init 22 = .ok (.putfield 18, 3) := by decide +kernel
theorem dX5_init_25 : decode cX5_init 25 = .ok (.return_, 1) := by decide +kernel
theorem dX5_make_0 : decode cX5_make 0 = .ok (.iload_n 1, 1) := by decide +kernel
theorem dX5_make_1 : decode cX5_make 1 = .ok (.ifCond .lt 45, 3) := by decide +kernel
theorem dX5_make_4 : decode cX5_make 4 = .ok (.iload_n 1, 1) := by decide +kernel
theorem dX5_make_5 : decode cX5_make 5 = .ok (.iconst 4, 1) := by decide +kernel
theorem dX5_make_6 : decode cX5_make 6 = .ok (.if_icmp .ge 40, 3) := by decide +kernel
theorem dX5_make_9 : decode cX5_make 9 = .ok (.iload_n 2, 1) := by decide +kernel
theorem dX5_make_10 : decode cX5_make 10 = .ok (.bipush 20, 2) := by decide +kernel
theorem dX5_make_12 : decode cX5_make 12 = .ok (.if_icmp .lt 34, 3) := by decide +kernel
theorem dX5_make_15 : decode cX5_make 15 = .ok (.iload_n 2, 1) := by decide +kernel
theorem dX5_make_16 : decode cX5_make 16 = .ok (.bipush 120, 2) := by decide +kernel
theorem dX5_make_18 : decode cX5_make 18 = .ok (.if_icmp .gt 28, 3) := by decide +kernel
theorem dX5_make_21 : decode cX5_make 21 = .ok (.iload_n 3, 1) := by decide +kernel
theorem dX5_make_22 : decode cX5_make 22 = .ok (.ifCond .lt 24, 3) := by decide +kernel
theorem dX5_make_25 : decode cX5_make 25 = .ok (.iload_n 3, 1) := by decide +kernel
theorem dX5_make_26 : decode cX5_make 26 = .ok (.iload_n 2, 1) := by decide +kernel
theorem dX5_make_27 : decode cX5_make 27 = .ok (.if_icmp .ge 19, 3) := by decide +kernel
theorem dX5_make_30 : decode cX5_make 30 = .ok (.iload 4, 2) := by decide +kernel
theorem dX5_make_32 : decode cX5_make 32 = .ok (.iconst 1, 1) := by decide +kernel
theorem dX5_make_33 : decode cX5_make 33 = .ok (.if_icmp .lt 13, 3) := by decide +kernel
theorem dX5_make_36 : decode cX5_make 36 = .ok (.iload 4, 2) := by decide +kernel
theorem dX5_make_38 : decode cX5_make 38 = .ok (.iload_n 2, 1) := by decide +kernel
theorem dX5_make_39 : decode cX5_make 39 = .ok (.if_icmp .ge 7, 3) := by decide +kernel
theorem dX5_make_42 : decode cX5_make 42 = .ok (.iconst 1, 1) := by decide +kernel
theorem dX5_make_43 : decode cX5_make 43 = .ok (.goto 4, 3) := by decide +kernel
theorem dX5_make_46 : decode cX5_make 46 = .ok (.iconst 0, 1) := by decide +kernel
theorem dX5_make_47 : decode cX5_make 47 = .ok (.istore 5, 2) := by decide +kernel
theorem dX5_make_49 : decode cX5_make 49 = .ok (.iload 5, 2) := by decide +kernel
theorem dX5_make_51 : decode cX5_make 51 = .ok (.ifCond .eq 25, 3) := by decide +kernel
theorem dX5_make_54 : decode cX5_make 54 = .ok (.aload_n 0, 1) := by decide +kernel
theorem dX5_make_55 : decode cX5_make 55 = .ok (.getfield 9, 3) := by decide +kernel
theorem dX5_make_58 : decode cX5_make 58 = .ok (.iload_n 1, 1) := by decide +kernel
theorem dX5_make_59 : decode cX5_make 59 = .ok (.iload_n 2, 1) := by decide +kernel
theorem dX5_make_60 : decode cX5_make 60 = .ok (.iastore, 1) := by decide +kernel
theorem dX5_make_61 : decode cX5_make 61 = .ok (.aload_n 0, 1) := by decide +kernel
theorem dX5_make_62 : decode cX5_make 62 = .ok (.getfield 15, 3) := by decide +kernel
theorem dX5_make_65 : decode cX5_make 65 = .ok (.iload_n 1, 1) := by decide +kernel
theorem dX5_make_66 : decode cX5_make 66 = .ok (.iload_n 3, 1) := by decide +kernel
theorem dX5_make_67 : decode cX5_make 67 = .ok (.iastore, 1) := by decide +kernel
theorem dX5_make_68 : decode cX5_make 68 = .ok (.aload_n 0, 1) := by decide +kernel
theorem dX5_make_69 : decode cX5_make 69 = .ok (.getfield 18, 3) := by decide +kernel
theorem dX5_make_72 : decode cX5_make 72 = .ok (.iload_n 1, 1) := by decide +kernel
theorem dX5_make_73 : decode cX5_make 73 = .ok (.iload 4, 2) := by decide +kernel
theorem dX5_make_75 : decode cX5_make 75 = .ok (.iastore, 1) := by decide +kernel
theorem dX5_make_76 : decode cX5_make 76 = .ok (.iload 5, 2) := by decide +kernel
theorem dX5_make_78 : decode cX5_make 78 = .ok (.ireturn, 1) := by decide +kernel
theorem dX5_isMade_0 : decode cX5_isMade 0 = .ok (.iload_n 1, 1) := by decide +kernel
theorem dX5_isMade_1 : decode cX5_isMade 1 = .ok (.ifCond .lt 21, 3) := by decide +kernel
theorem dX5_isMade_4 : decode cX5_isMade 4 = .ok (.iload_n 1, 1) := by decide +kernel
theorem dX5_isMade_5 : decode cX5_isMade 5 = .ok (.iconst 4, 1) := by decide +kernel
theorem dX5_isMade_6 : decode cX5_isMade 6 = .ok (.if_icmp .ge 16, 3) := by decide +kernel
theorem dX5_isMade_9 : decode cX5_isMade 9 = .ok (.aload_n 0, 1) := by decide +kernel
theorem dX5_isMade_10 : decode cX5_isMade 10 = .ok (.getfield 9, 3) := by decide +kernel
theorem dX5_isMade_13 : decode cX5_isMade 13 = .ok (.iload_n 1, 1) := by decide +kernel
theorem dX5_isMade_14 : decode cX5_isMade 14 = .ok (.iaload, 1) := by decide +kernel
theorem dX5_isMade_15 : decode cX5_isMade 15 = .ok (.ifCond .eq 7, 3) := by decide +kernel
theorem dX5_isMade_18 : decode cX5_isMade 18 = .ok (.iconst 1, 1) := by decide +kernel
theorem dX5_isMade_19 : decode cX5_isMade 19 = .ok (.goto 4, 3) := by decide +kernel
theorem dX5_isMade_22 : decode cX5_isMade 22 = .ok (.iconst 0, 1) := by decide +kernel
theorem dX5_isMade_23 : decode cX5_isMade 23 = .ok (.ireturn, 1) := by decide +kernel
theorem dX5_cycleOf_0 : decode cX5_cycleOf 0 = .ok (.aload_n 0, 1) := by decide +kernel
theorem dX5_cycleOf_1 : decode cX5_cycleOf 1 = .ok (.iload_n 1, 1) := by decide +kernel
theorem dX5_cycleOf_2 : decode cX5_cycleOf 2 = .ok (.invokevirtual 21, 3) := by decide +kernel
theorem dX5_cycleOf_5 : decode cX5_cycleOf 5 = .ok (.ifCond .eq 12, 3) := by decide +kernel
theorem dX5_cycleOf_8 : decode cX5_cycleOf 8 = .ok (.aload_n 0, 1) := by decide +kernel
theorem dX5_cycleOf_9 : decode cX5_cycleOf 9 = .ok (.getfield 9, 3) := by decide +kernel
theorem dX5_cycleOf_12 : decode cX5_cycleOf 12 = .ok (.iload_n 1, 1) := by decide +kernel
theorem dX5_cycleOf_13 : decode cX5_cycleOf 13 = .ok (.iaload, 1) := by decide +kernel
theorem dX5_cycleOf_14 : decode cX5_cycleOf 14 = .ok (.goto 4, 3) := by decide +kernel
theorem dX5_cycleOf_17 : decode cX5_cycleOf 17 = .ok (.iconst 0, 1) := by decide +kernel
theorem dX5_cycleOf_18 : decode cX5_cycleOf 18 = .ok (.ireturn, 1) := by decide +kernel
theorem dX5_offsetOf_0 : decode cX5_offsetOf 0 = .ok (.aload_n 0, 1) := by decide +kernel
theorem dX5_offsetOf_1 : decode cX5_offsetOf 1 = .ok (.iload_n 1, 1) := by decide +kernel
theorem dX5_offsetOf_2 : decode cX5_offsetOf 2 = .ok (.invokevirtual 21, 3) := by decide +kernel
theorem dX5_offsetOf_5 : decode cX5_offsetOf 5 = .ok (.ifCond .eq 12, 3) := by decide +kernel
theorem dX5_offsetOf_8 : decode cX5_offsetOf 8 = .ok (.aload_n 0, 1) := by decide +kernel
theorem dX5_offsetOf_9 : decode cX5_offsetOf 9 = .ok (.getfield 15, 3) := by decide +kernel
theorem dX5_offsetOf_12 : decode cX5_offsetOf 12 = .ok (.iload_n 1, 1) := by decide +kernel
theorem dX5_offsetOf_13 : decode cX5_offsetOf 13 = .ok (.iaload, 1) := by decide +kernel
theorem dX5_offsetOf_14 : decode cX5_offsetOf 14 = .ok (.goto 4, 3) := by decide +kernel
theorem dX5_offsetOf_17 : decode cX5_offsetOf 17 = .ok (.iconst 0, 1) := by decide +kernel
theorem dX5_offsetOf_18 : decode cX5_offsetOf 18 = .ok (.ireturn, 1) := by decide +kernel
theorem dX5_splitOf_0 : decode cX5_splitOf 0 = .ok (.aload_n 0, 1) := by decide +kernel
theorem dX5_splitOf_1 : decode cX5_splitOf 1 = .ok (.iload_n 1, 1) := by decide +kernel
theorem dX5_splitOf_2 : decode cX5_splitOf 2 = .ok (.invokevirtual 21, 3) := by decide +kernel
theorem dX5_splitOf_5 : decode cX5_splitOf 5 = .ok (.ifCond .eq 12, 3) := by decide +kernel
theorem dX5_splitOf_8 : decode cX5_splitOf 8 = .ok (.aload_n 0, 1) := by decide +kernel
theorem dX5_splitOf_9 : decode cX5_splitOf 9 = .ok (.getfield 18, 3) := by decide +kernel
theorem dX5_splitOf_12 : decode cX5_splitOf 12 = .ok (.iload_n 1, 1) := by decide +kernel
theorem dX5_splitOf_13 : decode cX5_splitOf 13 = .ok (.iaload, 1) := by decide +kernel
theorem dX5_splitOf_14 : decode cX5_splitOf 14 = .ok (.goto 4, 3) := by decide +kernel
theorem dX5_splitOf_17 : decode cX5_splitOf 17 = .ok (.iconst 0, 1) := by decide +kernel
theorem dX5_splitOf_18 : decode cX5_splitOf 18 = .ok (.ireturn, 1) := by decide +kernel
theorem dX6_init_0 : decode cX6_init 0 = .ok (.aload_n 0, 1) := by decide +kernel
theorem dX6_init_1 : decode cX6_init 1 = .ok (.invokespecial 3, 3) := by decide +kernel
theorem dX6_init_4 : decode cX6_init 4 = .ok (.aload_n 0, 1) := by decide +kernel
theorem dX6_init_5 : decode cX6_init 5 = .ok (.iconst (-1), 1) := by decide +kernel
theorem dX6_init_6 : decode cX6_init 6 = .ok (.putfield 9, 3) := by decide +kernel
theorem dX6_init_9 : decode cX6_init 9 = .ok (.aload_n 0, 1) := by decide +kernel
theorem dX6_init_10 : decode cX6_init 10 = .ok (.iconst (-1), 1) := by decide +kernel
theorem dX6_init_11 : decode cX6_init 11 = .ok (.putfield 15, 3) := by decide +kernel
theorem dX6_init_14 : decode cX6_init 14 = .ok (.aload_n 0, 1) := by decide +kernel
theorem dX6_init_15 : decode cX6_init 15 = .ok (.iconst (-1), 1) := by decide +kernel
theorem dX6_init_16 : decode cX6_init 16 = .ok (.putfield 18, 3) := by decide +kernel
theorem dX6_init_19 : decode cX6_init 19 = .ok (.aload_n 0, 1) := by decide +kernel
theorem dX6_init_20 : decode cX6_init 20 = .ok (.iconst 0, 1) := by decide +kernel
theorem dX6_init_21 : decode cX6_init 21 = .ok (.putfield 21, 3) := by decide +kernel
theorem dX6_init_24 : decode cX6_init 24 = .ok (.aload_n 0, 1) := by decide +kernel
theorem dX6_init_25 : decode cX6_init 25 = .ok (.iconst 0, 1) := by decide +kernel
theorem dX6_init_26 : decode cX6_init 26 = .ok (.putfield 25, 3) := by decide +kernel
theorem dX6_init_29 : decode cX6_init 29 = .ok (.aload_n 0, 1) := by decide +kernel
theorem dX6_init_30 : decode cX6_init 30 = .ok (.iconst 0, 1) := by decide +kernel
theorem dX6_init_31 : decode cX6_init 31 = .ok (.putfield 28, 3) := by decide +kernel
theorem dX6_init_34 : decode cX6_init 34 = .ok (.aload_n 0, 1) := by decide +kernel
theorem dX6_init_35 : decode cX6_init 35 = .ok (.iconst 0, 1) := by decide +kernel
theorem dX6_init_36 : decode cX6_init 36 = .ok (.putfield 31, 3) := by decide +kernel
theorem dX6_init_39 : decode cX6_init 39 = .ok (.aload_n 0, 1) := by decide +kernel
theorem dX6_init_40 : decode cX6_init 40 = .ok (.iconst 0, 1) := by decide +kernel
theorem dX6_init_41 : decode cX6_init 41 = .ok (.putfield 34, 3) := by decide +kernel
theorem dX6_init_44 : decode cX6_init 44 = .ok (.aload_n 0, 1) := by decide +kernel
theorem dX6_init_45 : decode cX6_init 45 = .ok (.iconst 0, 1) := by decide +kernel
theorem dX6_init_46 : decode cX6_init 46 = .ok (.putfield 37, 3) := by decide +kernel
theorem dX6_init_49 : decode cX6_init 49 = .ok (.aload_n 0, 1) := by decide +kernel
theorem dX6_init_50 : decode cX6_init 50 = .ok (.iconst 0, 1) := by decide +kernel
theorem dX6_init_51 : decode cX6_init 51 = .ok (.putfield 40, 3) := by decide +kernel
theorem dX6_init_54 : decode cX6_init 54 = .ok (.return_, 1) := by decide +kernel
theorem dX6_waits_0 : decode cX6_waits 0 = .ok (.aload_n 0, 1) := by decide +kernel
theorem dX6_waits_1 : decode cX6_waits 1 = .ok (.getfield 9, 3) := by decide +kernel
theorem dX6_waits_4 : decode cX6_waits 4 = .ok (.iconst (-1), 1) := by decide +kernel
theorem dX6_waits_5 : decode cX6_waits 5 = .ok (.if_icmp .ne 7, 3) := by decide +kernel
theorem dX6_waits_8 : decode cX6_waits 8 = .ok (.iconst 1, 1) := by decide +kernel
theorem dX6_waits_9 : decode cX6_waits 9 = .ok (.goto 4, 3) := by decide +kernel
theorem dX6_waits_12 : decode cX6_waits 12 = .ok (.iconst 0, 1) := by decide +kernel
theorem dX6_waits_13 : decode cX6_waits 13 = .ok (.ireturn, 1) := by decide +kernel
theorem dX6_isGreen_0 : decode cX6_isGreen 0 = .ok (.aload_n 0, 1) := by decide +kernel
theorem dX6_isGreen_1 : decode cX6_isGreen 1 = .ok (.getfield 25, 3) := by decide +kernel
theorem dX6_isGreen_4 : decode cX6_isGreen 4 = .ok (.iconst 4, 1) := by decide +kernel
theorem dX6_isGreen_5 : decode cX6_isGreen 5 = .ok (.if_icmp .ne 7, 3) := by decide +kernel
theorem dX6_isGreen_8 : decode cX6_isGreen 8 = .ok (.iconst 1, 1) := by decide +kernel
theorem dX6_isGreen_9 : decode cX6_isGreen 9 = .ok (.goto 4, 3) := by decide +kernel
theorem dX6_isGreen_12 : decode cX6_isGreen 12 = .ok (.iconst 0, 1) := by decide +kernel
theorem dX6_isGreen_13 : decode cX6_isGreen 13 = .ok (.ireturn, 1) := by decide +kernel
theorem dX6_mayEnd_0 : decode cX6_mayEnd 0 = .ok (.aload_n 0, 1) := by decide +kernel
theorem dX6_mayEnd_1 : decode cX6_mayEnd 1 = .ok (.getfield 25, 3) := by decide +kernel
theorem dX6_mayEnd_4 : decode cX6_mayEnd 4 = .ok (.iconst 4, 1) := by decide +kernel
theorem dX6_mayEnd_5 : decode cX6_mayEnd 5 = .ok (.if_icmp .ne 22, 3) := by decide +kernel
theorem dX6_mayEnd_8 : decode cX6_mayEnd 8 = .ok (.aload_n 0, 1) := by decide +kernel
theorem dX6_mayEnd_9 : decode cX6_mayEnd 9 = .ok (.getfield 37, 3) := by decide +kernel
theorem dX6_mayEnd_12 : decode cX6_mayEnd 12 = .ok (.ifCond .ne 15, 3) := by decide +kernel
theorem dX6_mayEnd_15 : decode cX6_mayEnd 15 = .ok (.aload_n 0, 1) := by decide +kernel
theorem dX6_mayEnd_16 : decode cX6_mayEnd 16 = .ok (.getfield 28, 3) := by decide +kernel
theorem dX6_mayEnd_19 : decode cX6_mayEnd 19 = .ok (.iload_n 1, 1) := by decide +kernel
theorem dX6_mayEnd_20 : decode cX6_mayEnd 20 = .ok (.if_icmp .lt 7, 3) := by decide +kernel
theorem dX6_mayEnd_23 : decode cX6_mayEnd 23 = .ok (.iconst 1, 1) := by decide +kernel
theorem dX6_mayEnd_24 : decode cX6_mayEnd 24 = .ok (.goto 4, 3) := by decide +kernel
theorem dX6_mayEnd_27 : decode cX6_mayEnd 27 = .ok (.iconst 0, 1) := by decide +kernel
theorem dX6_mayEnd_28 : decode cX6_mayEnd 28 = .ok (.ireturn, 1) := by decide +kernel
theorem dX6_greenPhase_0 : decode cX6_greenPhase 0 = .ok (.aload_n 0, 1) := by decide +kernel
theorem dX6_greenPhase_1 : decode cX6_greenPhase 1 = .ok (.getfield 25, 3) := by decide +kernel
theorem dX6_greenPhase_4 : decode cX6_greenPhase 4 = .ok (.iconst 4, 1) := by decide +kernel
theorem dX6_greenPhase_5 : decode cX6_greenPhase 5 = .ok (.if_icmp .ne 13, 3) := by decide +kernel
theorem dX6_greenPhase_8 : decode cX6_greenPhase 8 = .ok (.aload_n 0, 1) := by decide +kernel
theorem dX6_greenPhase_9 : decode cX6_greenPhase 9 = .ok (.getfield 9, 3) := by decide +kernel
theorem dX6_greenPhase_12 : decode cX6_greenPhase 12 = .ok (.invokestatic 43, 3) := by decide +kernel
theorem dX6_greenPhase_15 : decode cX6_greenPhase 15 = .ok (.goto 4, 3) := by decide +kernel
theorem dX6_greenPhase_18 : decode cX6_greenPhase 18 = .ok (.iconst 0, 1) := by decide +kernel
theorem dX6_greenPhase_19 : decode cX6_greenPhase 19 = .ok (.ireturn, 1) := by decide +kernel
theorem dX6_phaseBefore_0 : decode cX6_phaseBefore 0 = .ok (.aload_n 0, 1) := by decide +kernel
theorem dX6_phaseBefore_1 : decode cX6_phaseBefore 1 = .ok (.invokevirtual 47, 3) := by decide +kernel
theorem dX6_phaseBefore_4 : decode cX6_phaseBefore 4 = .ok (.ifCond .ne 12, 3) := by decide +kernel
theorem dX6_phaseBefore_7 : decode cX6_phaseBefore 7 = .ok (.aload_n 0, 1) := by decide +kernel
theorem dX6_phaseBefore_8 : decode cX6_phaseBefore 8 = .ok (.getfield 9, 3) := by decide +kernel
theorem dX6_phaseBefore_11 : decode cX6_phaseBefore 11 = .ok (.iconst 2, 1) := by decide +kernel
theorem dX6_phaseBefore_12 : decode cX6_phaseBefore 12 = .ok (.irem, 1) := by decide +kernel
theorem dX6_phaseBefore_13 : decode cX6_phaseBefore 13 = .ok (.ifCond .ne 7, 3) := by decide +kernel
theorem dX6_phaseBefore_16 : decode cX6_phaseBefore 16 = .ok (.iconst 0, 1) := by decide +kernel
theorem dX6_phaseBefore_17 : decode cX6_phaseBefore 17 = .ok (.goto 12, 3) := by decide +kernel
theorem dX6_phaseBefore_20 : decode cX6_phaseBefore 20 = .ok (.aload_n 0, 1) := by decide +kernel
theorem dX6_phaseBefore_21 : decode cX6_phaseBefore 21 = .ok (.getfield 9, 3) := by decide +kernel
theorem dX6_phaseBefore_24 : decode cX6_phaseBefore 24 = .ok (.iconst 1, 1) := by decide +kernel
theorem dX6_phaseBefore_25 : decode cX6_phaseBefore 25 = .ok (.isub, 1) := by decide +kernel
theorem dX6_phaseBefore_26 : decode cX6_phaseBefore 26 = .ok (.invokestatic 43, 3) := by decide +kernel
theorem dX6_phaseBefore_29 : decode cX6_phaseBefore 29 = .ok (.ireturn, 1) := by decide +kernel
theorem dX6_phaseBehind_0 : decode cX6_phaseBehind 0 = .ok (.aload_n 0, 1) := by decide +kernel
theorem dX6_phaseBehind_1 : decode cX6_phaseBehind 1 = .ok (.invokevirtual 47, 3) := by decide +kernel
theorem dX6_phaseBehind_4 : decode cX6_phaseBehind 4 = .ok (.ifCond .ne 12, 3) := by decide +kernel
theorem dX6_phaseBehind_7 : decode cX6_phaseBehind 7 = .ok (.aload_n 0, 1) := by decide +kernel
theorem dX6_phaseBehind_8 : decode cX6_phaseBehind 8 = .ok (.getfield 9, 3) := by decide +kernel
theorem dX6_phaseBehind_11 : decode cX6_phaseBehind 11 = .ok (.iconst 2, 1) := by decide +kernel
theorem dX6_phaseBehind_12 : decode cX6_phaseBehind 12 = .ok (.irem, 1) := by decide +kernel
theorem dX6_phaseBehind_13 : decode cX6_phaseBehind 13 = .ok (.ifCond .eq 7, 3) := by decide +kernel
theorem dX6_phaseBehind_16 : decode cX6_phaseBehind 16 = .ok (.iconst 0, 1) := by decide +kernel
theorem dX6_phaseBehind_17 : decode cX6_phaseBehind 17 = .ok (.goto 12, 3) := by decide +kernel
theorem dX6_phaseBehind_20 : decode cX6_phaseBehind 20 = .ok (.aload_n 0, 1) := by decide +kernel
theorem dX6_phaseBehind_21 : decode cX6_phaseBehind 21 = .ok (.getfield 9, 3) := by decide +kernel
theorem dX6_phaseBehind_24 : decode cX6_phaseBehind 24 = .ok (.iconst 1, 1) := by decide +kernel
theorem dX6_phaseBehind_25 : decode cX6_phaseBehind 25 = .ok (.iadd, 1) := by decide +kernel
theorem dX6_phaseBehind_26 : decode cX6_phaseBehind 26 = .ok (.invokestatic 43, 3) := by decide +kernel
theorem dX6_phaseBehind_29 : decode cX6_phaseBehind 29 = .ok (.ireturn, 1) := by decide +kernel
theorem dX6_rest_0 : decode cX6_rest 0 = .ok (.aload_n 0, 1) := by decide +kernel
theorem dX6_rest_1 : decode cX6_rest 1 = .ok (.iconst (-1), 1) := by decide +kernel
theorem dX6_rest_2 : decode cX6_rest 2 = .ok (.putfield 9, 3) := by decide +kernel
theorem dX6_rest_5 : decode cX6_rest 5 = .ok (.aload_n 0, 1) := by decide +kernel
theorem dX6_rest_6 : decode cX6_rest 6 = .ok (.iconst (-1), 1) := by decide +kernel
theorem dX6_rest_7 : decode cX6_rest 7 = .ok (.putfield 15, 3) := by decide +kernel
theorem dX6_rest_10 : decode cX6_rest 10 = .ok (.aload_n 0, 1) := by decide +kernel
theorem dX6_rest_11 : decode cX6_rest 11 = .ok (.iconst 0, 1) := by decide +kernel
theorem dX6_rest_12 : decode cX6_rest 12 = .ok (.putfield 25, 3) := by decide +kernel
theorem dX6_rest_15 : decode cX6_rest 15 = .ok (.aload_n 0, 1) := by decide +kernel
theorem dX6_rest_16 : decode cX6_rest 16 = .ok (.iconst 0, 1) := by decide +kernel
theorem dX6_rest_17 : decode cX6_rest 17 = .ok (.putfield 37, 3) := by decide +kernel
theorem dX6_rest_20 : decode cX6_rest 20 = .ok (.return_, 1) := by decide +kernel
theorem dX6_begin_0 : decode cX6_begin 0 = .ok (.aload_n 0, 1) := by decide +kernel
theorem dX6_begin_1 : decode cX6_begin 1 = .ok (.iload_n 1, 1) := by decide +kernel
theorem dX6_begin_2 : decode cX6_begin 2 = .ok (.putfield 9, 3) := by decide +kernel
theorem dX6_begin_5 : decode cX6_begin 5 = .ok (.aload_n 0, 1) := by decide +kernel
theorem dX6_begin_6 : decode cX6_begin 6 = .ok (.iconst (-1), 1) := by decide +kernel
theorem dX6_begin_7 : decode cX6_begin 7 = .ok (.putfield 15, 3) := by decide +kernel
theorem dX6_begin_10 : decode cX6_begin 10 = .ok (.aload_n 0, 1) := by decide +kernel
theorem dX6_begin_11 : decode cX6_begin 11 = .ok (.iconst 0, 1) := by decide +kernel
theorem dX6_begin_12 : decode cX6_begin 12 = .ok (.putfield 31, 3) := by decide +kernel
theorem dX6_begin_15 : decode cX6_begin 15 = .ok (.aload_n 0, 1) := by decide +kernel
theorem dX6_begin_16 : decode cX6_begin 16 = .ok (.iload_n 2, 1) := by decide +kernel
theorem dX6_begin_17 : decode cX6_begin 17 = .ok (.putfield 34, 3) := by decide +kernel
theorem dX6_begin_20 : decode cX6_begin 20 = .ok (.aload_n 0, 1) := by decide +kernel
theorem dX6_begin_21 : decode cX6_begin 21 = .ok (.iconst 0, 1) := by decide +kernel
theorem dX6_begin_22 : decode cX6_begin 22 = .ok (.putfield 37, 3) := by decide +kernel
theorem dX6_begin_25 : decode cX6_begin 25 = .ok (.aload_n 0, 1) := by decide +kernel
theorem dX6_begin_26 : decode cX6_begin 26 = .ok (.iconst 4, 1) := by decide +kernel
theorem dX6_begin_27 : decode cX6_begin 27 = .ok (.invokevirtual 51, 3) := by decide +kernel
theorem dX6_begin_30 : decode cX6_begin 30 = .ok (.return_, 1) := by decide +kernel
theorem dX6_turnYellow_0 : decode cX6_turnYellow 0 = .ok (.aload_n 0, 1) := by decide +kernel
theorem dX6_turnYellow_1 : decode cX6_turnYellow 1 = .ok (.iload_n 1, 1) := by decide +kernel
theorem dX6_turnYellow_2 : decode cX6_turnYellow 2 = .ok (.putfield 15, 3) := by decide +kernel
theorem dX6_turnYellow_5 : decode cX6_turnYellow 5 = .ok (.aload_n 0, 1) := by decide +kernel
theorem dX6_turnYellow_6 : decode cX6_turnYellow 6 = .ok (.iconst 2, 1) := by decide +kernel
theorem dX6_turnYellow_7 : decode cX6_turnYellow 7 = .ok (.invokevirtual 51, 3) := by decide +kernel
theorem dX6_turnYellow_10 : decode cX6_turnYellow 10 = .ok (.return_, 1) := by decide +kernel
theorem dX6_show_0 : decode cX6_show 0 = .ok (.aload_n 0, 1) := by decide +kernel
theorem dX6_show_1 : decode cX6_show 1 = .ok (.iload_n 1, 1) := by decide +kernel
theorem dX6_show_2 : decode cX6_show 2 = .ok (.putfield 25, 3) := by decide +kernel
theorem dX6_show_5 : decode cX6_show 5 = .ok (.aload_n 0, 1) := by decide +kernel
theorem dX6_show_6 : decode cX6_show 6 = .ok (.iconst 0, 1) := by decide +kernel
theorem dX6_show_7 : decode cX6_show 7 = .ok (.putfield 28, 3) := by decide +kernel
theorem dX6_show_10 : decode cX6_show 10 = .ok (.return_, 1) := by decide +kernel
theorem dX6_beginWalk_0 : decode cX6_beginWalk 0 = .ok (.aload_n 0, 1) := by decide +kernel
theorem dX6_beginWalk_1 : decode cX6_beginWalk 1 = .ok (.iconst 4, 1) := by decide +kernel
theorem dX6_beginWalk_2 : decode cX6_beginWalk 2 = .ok (.putfield 37, 3) := by decide +kernel
theorem dX6_beginWalk_5 : decode cX6_beginWalk 5 = .ok (.aload_n 0, 1) := by decide +kernel
theorem dX6_beginWalk_6 : decode cX6_beginWalk 6 = .ok (.iconst 0, 1) := by decide +kernel
theorem dX6_beginWalk_7 : decode cX6_beginWalk 7 = .ok (.putfield 40, 3) := by decide +kernel
theorem dX6_beginWalk_10 : decode cX6_beginWalk 10 = .ok (.return_, 1) := by decide +kernel
theorem dX6_beginClear_0 : decode cX6_beginClear 0 = .ok (.aload_n 0, 1) := by decide +kernel
theorem dX6_beginClear_1 : decode cX6_beginClear 1 = .ok (.bipush 8, 2) := by decide +kernel
theorem dX6_beginClear_3 : decode cX6_beginClear 3 = .ok (.putfield 37, 3) := by decide +kernel
theorem dX6_beginClear_6 : decode cX6_beginClear 6 = .ok (.aload_n 0, 1) := by decide +kernel
theorem dX6_beginClear_7 : decode cX6_beginClear 7 = .ok (.iconst 0, 1) := by decide +kernel
theorem dX6_beginClear_8 : decode cX6_beginClear 8 = .ok (.putfield 40, 3) := by decide +kernel
theorem dX6_beginClear_11 : decode cX6_beginClear 11 = .ok (.return_, 1) := by decide +kernel
theorem dX6_passWalk_0 : decode cX6_passWalk 0 = .ok (.aload_n 0, 1) := by decide +kernel
theorem dX6_passWalk_1 : decode cX6_passWalk 1 = .ok (.dup, 1) := by decide +kernel
theorem dX6_passWalk_2 : decode cX6_passWalk 2 = .ok (.getfield 40, 3) := by decide +kernel
theorem dX6_passWalk_5 : decode cX6_passWalk 5 = .ok (.iconst 1, 1) := by decide +kernel
theorem dX6_passWalk_6 : decode cX6_passWalk 6 = .ok (.iadd, 1) := by decide +kernel
theorem dX6_passWalk_7 : decode cX6_passWalk 7 = .ok (.putfield 40, 3) := by decide +kernel
theorem dX6_passWalk_10 : decode cX6_passWalk 10 = .ok (.aload_n 0, 1) := by decide +kernel
theorem dX6_passWalk_11 : decode cX6_passWalk 11 = .ok (.getfield 37, 3) := by decide +kernel
theorem dX6_passWalk_14 : decode cX6_passWalk 14 = .ok (.iconst 4, 1) := by decide +kernel
theorem dX6_passWalk_15 : decode cX6_passWalk 15 = .ok (.if_icmp .ne 18, 3) := by decide +kernel
theorem dX6_passWalk_18 : decode cX6_passWalk 18 = .ok (.aload_n 0, 1) := by decide +kernel
theorem dX6_passWalk_19 : decode cX6_passWalk 19 = .ok (.getfield 40, 3) := by decide +kernel
theorem dX6_passWalk_22 : decode cX6_passWalk 22 = .ok (.iload_n 1, 1) := by decide +kernel
theorem dX6_passWalk_23 : decode cX6_passWalk 23 = .ok (.if_icmp .lt 10, 3) := by decide +kernel
theorem dX6_passWalk_26 : decode cX6_passWalk 26 = .ok (.aload_n 0, 1) := by decide +kernel
theorem dX6_passWalk_27 : decode cX6_passWalk 27 = .ok (.invokevirtual 55, 3) := by decide +kernel
theorem dX6_passWalk_30 : decode cX6_passWalk 30 = .ok (.goto 25, 3) := by decide +kernel
theorem dX6_passWalk_33 : decode cX6_passWalk 33 = .ok (.aload_n 0, 1) := by decide +kernel
theorem dX6_passWalk_34 : decode cX6_passWalk 34 = .ok (.getfield 37, 3) := by decide +kernel
theorem dX6_passWalk_37 : decode cX6_passWalk 37 = .ok (.bipush 8, 2) := by decide +kernel
theorem dX6_passWalk_39 : decode cX6_passWalk 39 = .ok (.if_icmp .ne 16, 3) := by decide +kernel
theorem dX6_passWalk_42 : decode cX6_passWalk 42 = .ok (.aload_n 0, 1) := by decide +kernel
theorem dX6_passWalk_43 : decode cX6_passWalk 43 = .ok (.getfield 40, 3) := by decide +kernel
theorem dX6_passWalk_46 : decode cX6_passWalk 46 = .ok (.iload_n 2, 1) := by decide +kernel
theorem dX6_passWalk_47 : decode cX6_passWalk 47 = .ok (.if_icmp .lt 8, 3) := by decide +kernel
theorem dX6_passWalk_50 : decode cX6_passWalk 50 = .ok (.aload_n 0, 1) := by decide +kernel
theorem dX6_passWalk_51 : decode cX6_passWalk 51 = .ok (.iconst 0, 1) := by decide +kernel
theorem dX6_passWalk_52 : decode cX6_passWalk 52 = .ok (.putfield 37, 3) := by decide +kernel
theorem dX6_passWalk_55 : decode cX6_passWalk 55 = .ok (.return_, 1) := by decide +kernel
theorem dX7_init_0 : decode cX7_init 0 = .ok (.aload_n 0, 1) := by decide +kernel
theorem dX7_init_1 : decode cX7_init 1 = .ok (.invokespecial 3, 3) := by decide +kernel
theorem dX7_init_4 : decode cX7_init 4 = .ok (.aload_n 0, 1) := by decide +kernel
theorem dX7_init_5 : decode cX7_init 5 = .ok (.bipush 64, 2) := by decide +kernel
theorem dX7_init_7 : decode cX7_init 7 = .ok (.newarray .int, 2) := by decide +kernel
theorem dX7_init_9 : decode cX7_init 9 = .ok (.putfield 9, 3) := by decide +kernel
theorem dX7_init_12 : decode cX7_init 12 = .ok (.return_, 1) := by decide +kernel
theorem dX7_at_0 : decode cX7_at 0 = .ok (.iload_n 1, 1) := by decide +kernel
theorem dX7_at_1 : decode cX7_at 1 = .ok (.bipush 8, 2) := by decide +kernel
theorem dX7_at_3 : decode cX7_at 3 = .ok (.imul, 1) := by decide +kernel
theorem dX7_at_4 : decode cX7_at 4 = .ok (.iload_n 2, 1) := by decide +kernel
theorem dX7_at_5 : decode cX7_at 5 = .ok (.iadd, 1) := by decide +kernel
theorem dX7_at_6 : decode cX7_at 6 = .ok (.istore_n 3, 1) := by decide +kernel
theorem dX7_at_7 : decode cX7_at 7 = .ok (.iload_n 3, 1) := by decide +kernel
theorem dX7_at_8 : decode cX7_at 8 = .ok (.ifCond .lt 21, 3) := by decide +kernel
theorem dX7_at_11 : decode cX7_at 11 = .ok (.iload_n 3, 1) := by decide +kernel
theorem dX7_at_12 : decode cX7_at 12 = .ok (.aload_n 0, 1) := by decide +kernel
theorem dX7_at_13 : decode cX7_at 13 = .ok (.getfield 9, 3) := by decide +kernel
theorem dX7_at_16 : decode cX7_at 16 = .ok (.arraylength, 1) := by decide +kernel
theorem dX7_at_17 : decode cX7_at 17 = .ok (.if_icmp .ge 12, 3) := by decide +kernel
theorem dX7_at_20 : decode cX7_at 20 = .ok (.aload_n 0, 1) := by decide +kernel
theorem dX7_at_21 : decode cX7_at 21 = .ok (.getfield 9, 3) := by decide +kernel
theorem dX7_at_24 : decode cX7_at 24 = .ok (.iload_n 3, 1) := by decide +kernel
theorem dX7_at_25 : decode cX7_at 25 = .ok (.iaload, 1) := by decide +kernel
theorem dX7_at_26 : decode cX7_at 26 = .ok (.goto 4, 3) := by decide +kernel
theorem dX7_at_29 : decode cX7_at 29 = .ok (.iconst 0, 1) := by decide +kernel
theorem dX7_at_30 : decode cX7_at 30 = .ok (.ireturn, 1) := by decide +kernel
theorem dX7_write_0 : decode cX7_write 0 = .ok (.iload_n 1, 1) := by decide +kernel
theorem dX7_write_1 : decode cX7_write 1 = .ok (.bipush 8, 2) := by decide +kernel
theorem dX7_write_3 : decode cX7_write 3 = .ok (.imul, 1) := by decide +kernel
theorem dX7_write_4 : decode cX7_write 4 = .ok (.iload_n 2, 1) := by decide +kernel
theorem dX7_write_5 : decode cX7_write 5 = .ok (.iadd, 1) := by decide +kernel
theorem dX7_write_6 : decode cX7_write 6 = .ok (.istore 4, 2) := by decide +kernel
theorem dX7_write_8 : decode cX7_write 8 = .ok (.iload 4, 2) := by decide +kernel
theorem dX7_write_10 : decode cX7_write 10 = .ok (.ifCond .lt 21, 3) := by decide +kernel
theorem dX7_write_13 : decode cX7_write 13 = .ok (.iload 4, 2) := by decide +kernel
theorem dX7_write_15 : decode cX7_write 15 = .ok (.aload_n 0, 1) := by decide +kernel
theorem dX7_write_16 : decode cX7_write 16 = .ok (.getfield 9, 3) := by decide +kernel
theorem dX7_write_19 : decode cX7_write 19 = .ok (.arraylength, 1) := by decide +kernel
theorem dX7_write_20 : decode cX7_write 20 = .ok (.if_icmp .ge 11, 3) := by decide +kernel
theorem dX7_write_23 : decode cX7_write 23 = .ok (.aload_n 0, 1) := by decide +kernel
theorem dX7_write_24 : decode cX7_write 24 = .ok (.getfield 9, 3) := by decide +kernel
theorem dX7_write_27 : decode cX7_write 27 = .ok (.iload 4, 2) := by decide +kernel
theorem dX7_write_29 : decode cX7_write 29 = .ok (.iload_n 3, 1) := by decide +kernel
theorem dX7_write_30 : decode cX7_write 30 = .ok (.iastore, 1) := by decide +kernel
theorem dX7_write_31 : decode cX7_write 31 = .ok (.return_, 1) := by decide +kernel
theorem dX7_copyFrom_0 : decode cX7_copyFrom 0 = .ok (.aload_n 1, 1) := by decide +kernel
theorem dX7_copyFrom_1 : decode cX7_copyFrom 1 = .ok (.getfield 9, 3) := by decide +kernel
theorem dX7_copyFrom_4 : decode cX7_copyFrom 4 = .ok (.iconst 0, 1) := by decide +kernel
theorem dX7_copyFrom_5 : decode cX7_copyFrom 5 = .ok (.aload_n 0, 1) := by decide +kernel
theorem dX7_copyFrom_6 : decode cX7_copyFrom 6 = .ok (.getfield 9, 3) := by decide +kernel
theorem dX7_copyFrom_9 : decode cX7_copyFrom 9 = .ok (.iconst 0, 1) := by decide +kernel
theorem dX7_copyFrom_10 : decode cX7_copyFrom 10 = .ok (.aload_n 0, 1) := by decide +kernel
theorem dX7_copyFrom_11 : decode cX7_copyFrom 11 = .ok (.getfield 9, 3) := by decide +kernel
theorem dX7_copyFrom_14 : decode cX7_copyFrom 14 = .ok (.arraylength, 1) := by decide +kernel
theorem dX7_copyFrom_15 : decode cX7_copyFrom 15 = .ok (.invokestatic 15, 3) := by decide +kernel
theorem dX7_copyFrom_18 : decode cX7_copyFrom 18 = .ok (.return_, 1) := by decide +kernel
theorem dX7_isUsed_0 : decode cX7_isUsed 0 = .ok (.aload_n 0, 1) := by decide +kernel
theorem dX7_isUsed_1 : decode cX7_isUsed 1 = .ok (.iload_n 1, 1) := by decide +kernel
theorem dX7_isUsed_2 : decode cX7_isUsed 2 = .ok (.iconst 0, 1) := by decide +kernel
theorem dX7_isUsed_3 : decode cX7_isUsed 3 = .ok (.invokevirtual 21, 3) := by decide +kernel
theorem dX7_isUsed_6 : decode cX7_isUsed 6 = .ok (.ifCond .eq 7, 3) := by decide +kernel
theorem dX7_isUsed_9 : decode cX7_isUsed 9 = .ok (.iconst 1, 1) := by decide +kernel
theorem dX7_isUsed_10 : decode cX7_isUsed 10 = .ok (.goto 4, 3) := by decide +kernel
theorem dX7_isUsed_13 : decode cX7_isUsed 13 = .ok (.iconst 0, 1) := by decide +kernel
theorem dX7_isUsed_14 : decode cX7_isUsed 14 = .ok (.ireturn, 1) := by decide +kernel
theorem dX7_used_0 : decode cX7_used 0 = .ok (.iconst 0, 1) := by decide +kernel
theorem dX7_used_1 : decode cX7_used 1 = .ok (.istore_n 1, 1) := by decide +kernel
theorem dX7_used_2 : decode cX7_used 2 = .ok (.iconst 0, 1) := by decide +kernel
theorem dX7_used_3 : decode cX7_used 3 = .ok (.istore_n 2, 1) := by decide +kernel
theorem dX7_used_4 : decode cX7_used 4 = .ok (.iload_n 2, 1) := by decide +kernel
theorem dX7_used_5 : decode cX7_used 5 = .ok (.bipush 8, 2) := by decide +kernel
theorem dX7_used_7 : decode cX7_used 7 = .ok (.if_icmp .ge 24, 3) := by decide +kernel
theorem dX7_used_10 : decode cX7_used 10 = .ok (.aload_n 0, 1) := by decide +kernel
theorem dX7_used_11 : decode cX7_used 11 = .ok (.iload_n 2, 1) := by decide +kernel
theorem dX7_used_12 : decode cX7_used 12 = .ok (.invokevirtual 25, 3) := by decide +kernel
theorem dX7_used_15 : decode cX7_used 15 = .ok (.ifCond .eq 10, 3) := by decide +kernel
theorem dX7_used_18 : decode cX7_used 18 = .ok (.iload_n 1, 1) := by decide +kernel
theorem dX7_used_19 : decode cX7_used 19 = .ok (.iload_n 2, 1) := by decide +kernel
theorem dX7_used_20 : decode cX7_used 20 = .ok (.invokestatic 29, 3) := by decide +kernel
theorem dX7_used_23 : decode cX7_used 23 = .ok (.ior, 1) := by decide +kernel
theorem dX7_used_24 : decode cX7_used 24 = .ok (.istore_n 1, 1) := by decide +kernel
theorem dX7_used_25 : decode cX7_used 25 = .ok (.iinc 2 1, 3) := by decide +kernel
theorem dX7_used_28 : decode cX7_used 28 = .ok (.goto (-24), 3) := by decide +kernel
theorem dX7_used_31 : decode cX7_used 31 = .ok (.iload_n 1, 1) := by decide +kernel
theorem dX7_used_32 : decode cX7_used 32 = .ok (.ireturn, 1) := by decide +kernel
theorem dX7_wrongPlace_0 : decode cX7_wrongPlace 0 = .ok (.iconst 0, 1) := by decide +kernel
theorem dX7_wrongPlace_1 : decode cX7_wrongPlace 1 = .ok (.istore_n 1, 1) := by decide +kernel
theorem dX7_wrongPlace_2 : decode cX7_wrongPlace 2 = .ok (.iload_n 1, 1) := by decide +kernel
theorem dX7_wrongPlace_3 : decode cX7_wrongPlace 3 = .ok (.bipush 8, 2) := by decide +kernel
theorem dX7_wrongPlace_5 : decode cX7_wrongPlace 5 = .ok (.if_icmp .ge 47, 3) := by decide +kernel
theorem dX7_wrongPlace_8 : decode cX7_wrongPlace 8 = .ok (.iconst 0, 1) := by decide +kernel
theorem dX7_wrongPlace_9 : decode cX7_wrongPlace 9 = .ok (.istore_n 2, 1) := by decide +kernel
theorem dX7_wrongPlace_10 : decode cX7_wrongPlace 10 = .ok (.iload_n 2, 1) := by decide +kernel
theorem dX7_wrongPlace_11 : decode cX7_wrongPlace 11 = .ok (.bipush 8, 2) := by decide +kernel
theorem dX7_wrongPlace_13 : decode cX7_wrongPlace 13 = .ok (.if_icmp .ge 33, 3) := by decide +kernel
theorem dX7_wrongPlace_16 : decode cX7_wrongPlace 16 = .ok (.aload_n 0, 1) := by decide +kernel
theorem dX7_wrongPlace_17 : decode cX7_wrongPlace 17 = .ok (.iload_n 1, 1) := by decide +kernel
theorem dX7_wrongPlace_18 : decode cX7_wrongPlace 18 = .ok (.invokevirtual 25, 3) := by decide +kernel
theorem dX7_wrongPlace_21 : decode cX7_wrongPlace 21 = .ok (.ifCond .eq 19, 3) := by decide +kernel
theorem dX7_wrongPlace_24 : decode cX7_wrongPlace 24 = .ok (.aload_n 0, 1) := by decide +kernel
theorem dX7_wrongPlace_25 : decode cX7_wrongPlace 25 = .ok (.iload_n 1, 1) := by decide +kernel
theorem dX7_wrongPlace_26 : decode cX7_wrongPlace 26 = .ok (.iload_n 2, 1) := by decide +kernel
theorem dX7_wrongPlace_27 : decode cX7_wrongPlace 27 = .ok (.invokevirtual 33, 3) := by decide +kernel
theorem dX7_wrongPlace_30 : decode cX7_wrongPlace 30 = .ok (.ifCond .ne 10, 3) := by decide +kernel
theorem dX7_wrongPlace_33 : decode cX7_wrongPlace 33 = .ok (.iload_n 1, 1) := by decide +kernel
theorem dX7_wrongPlace_34 : decode cX7_wrongPlace 34 = .ok (.bipush 8, 2) := by decide +kernel
theorem dX7_wrongPlace_36 : decode cX7_wrongPlace 36 = .ok (.imul, 1) := by decide +kernel
theorem dX7_wrongPlace_37 : decode cX7_wrongPlace 37 = .ok (.iload_n 2, 1) := by decide +kernel
theorem dX7_wrongPlace_38 : decode cX7_wrongPlace 38 = .ok (.iadd, 1) := by decide +kernel
theorem dX7_wrongPlace_39 : decode cX7_wrongPlace 39 = .ok (.ireturn, 1) := by decide +kernel
theorem dX7_wrongPlace_40 : decode cX7_wrongPlace 40 = .ok (.iinc 2 1, 3) := by decide +kernel
theorem dX7_wrongPlace_43 : decode cX7_wrongPlace 43 = .ok (.goto (-33), 3) := by decide +kernel
theorem dX7_wrongPlace_46 : decode cX7_wrongPlace 46 = .ok (.iinc 1 1, 3) := by decide +kernel
theorem dX7_wrongPlace_49 : decode cX7_wrongPlace 49 = .ok (.goto (-47), 3) := by decide +kernel
theorem dX7_wrongPlace_52 : decode cX7_wrongPlace 52 = .ok (.aload_n 0, 1) := by decide +kernel
theorem dX7_wrongPlace_53 : decode cX7_wrongPlace 53 = .ok (.invokevirtual 37, 3) := by decide +kernel
theorem dX7_wrongPlace_56 : decode cX7_wrongPlace 56 = .ok (.bipush 51, 2) := by decide +kernel
theorem dX7_wrongPlace_58 : decode cX7_wrongPlace 58 = .ok (.iand, 1) := by decide +kernel
theorem dX7_wrongPlace_59 : decode cX7_wrongPlace 59 = .ok (.ifCond .ne 6, 3) := by decide +kernel
theorem dX7_wrongPlace_62 : decode cX7_wrongPlace 62 = .ok (.bipush 64, 2) := by decide +kernel
theorem dX7_wrongPlace_64 : decode cX7_wrongPlace 64 = .ok (.ireturn, 1) := by decide +kernel
theorem dX7_wrongPlace_65 : decode cX7_wrongPlace 65 = .ok (.aload_n 0, 1) := by decide +kernel
theorem dX7_wrongPlace_66 : decode cX7_wrongPlace 66 = .ok (.invokevirtual 37, 3) := by decide +kernel
theorem dX7_wrongPlace_69 : decode cX7_wrongPlace 69 = .ok (.sipush 204, 3) := by decide +kernel
theorem dX7_wrongPlace_72 : decode cX7_wrongPlace 72 = .ok (.iand, 1) := by decide +kernel
theorem dX7_wrongPlace_73 : decode cX7_wrongPlace 73 = .ok (.ifCond .ne 8, 3) := by decide +kernel
theorem dX7_wrongPlace_76 : decode cX7_wrongPlace 76 = .ok (.bipush 65, 2) := by decide +kernel
theorem dX7_wrongPlace_78 : decode cX7_wrongPlace 78 = .ok (.goto 4, 3) := by decide +kernel
theorem dX7_wrongPlace_81 : decode cX7_wrongPlace 81 = .ok (.iconst (-1), 1) := by decide +kernel
theorem dX7_wrongPlace_82 : decode cX7_wrongPlace 82 = .ok (.ireturn, 1) := by decide +kernel
theorem dX7_isRight_0 : decode cX7_isRight 0 = .ok (.aload_n 0, 1) := by decide +kernel
theorem dX7_isRight_1 : decode cX7_isRight 1 = .ok (.iload_n 1, 1) := by decide +kernel
theorem dX7_isRight_2 : decode cX7_isRight 2 = .ok (.iload_n 2, 1) := by decide +kernel
theorem dX7_isRight_3 : decode cX7_isRight 3 = .ok (.invokevirtual 21, 3) := by decide +kernel
theorem dX7_isRight_6 : decode cX7_isRight 6 = .ok (.istore_n 3, 1) := by decide +kernel
theorem dX7_isRight_7 : decode cX7_isRight 7 = .ok (.aload_n 0, 1) := by decide +kernel
theorem dX7_isRight_8 : decode cX7_isRight 8 = .ok (.iload_n 1, 1) := by decide +kernel
theorem dX7_isRight_9 : decode cX7_isRight 9 = .ok (.iconst 5, 1) := by decide +kernel
theorem dX7_isRight_10 : decode cX7_isRight 10 = .ok (.invokevirtual 21, 3) := by decide +kernel
theorem dX7_isRight_13 : decode cX7_isRight 13 = .ok (.ifCond .eq 7, 3) := by decide +kernel
theorem dX7_isRight_16 : decode cX7_isRight 16 = .ok (.iconst 1, 1) := by decide +kernel
theorem dX7_isRight_17 : decode cX7_isRight 17 = .ok (.goto 4, 3) := by decide +kernel
theorem dX7_isRight_20 : decode cX7_isRight 20 = .ok (.iconst 0, 1) := by decide +kernel
theorem dX7_isRight_21 : decode cX7_isRight 21 = .ok (.istore 4, 2) := by decide +kernel
theorem dX7_isRight_23 : decode cX7_isRight 23 = .ok (.iload_n 2, 1) := by decide +kernel
theorem dX7_isRight_24 : decode cX7_isRight 24 = .ok (.tableswitch 164 0 6 #[44, 56, 68, 90, 107, 118, 130], 44) := by decide +kernel
theorem dX7_isRight_68 : decode cX7_isRight 68 = .ok (.iload_n 3, 1) := by decide +kernel
theorem dX7_isRight_69 : decode cX7_isRight 69 = .ok (.bipush 30, 2) := by decide +kernel
theorem dX7_isRight_71 : decode cX7_isRight 71 = .ok (.if_icmp .gt 7, 3) := by decide +kernel
theorem dX7_isRight_74 : decode cX7_isRight 74 = .ok (.iconst 1, 1) := by decide +kernel
theorem dX7_isRight_75 : decode cX7_isRight 75 = .ok (.goto 4, 3) := by decide +kernel
theorem dX7_isRight_78 : decode cX7_isRight 78 = .ok (.iconst 0, 1) := by decide +kernel
theorem dX7_isRight_79 : decode cX7_isRight 79 = .ok (.ireturn, 1) := by decide +kernel
theorem dX7_isRight_80 : decode cX7_isRight 80 = .ok (.iload_n 3, 1) := by decide +kernel
theorem dX7_isRight_81 : decode cX7_isRight 81 = .ok (.bipush 10, 2) := by decide +kernel
theorem dX7_isRight_83 : decode cX7_isRight 83 = .ok (.if_icmp .gt 7, 3) := by decide +kernel
theorem dX7_isRight_86 : decode cX7_isRight 86 = .ok (.iconst 1, 1) := by decide +kernel
theorem dX7_isRight_87 : decode cX7_isRight 87 = .ok (.goto 4, 3) := by decide +kernel
theorem dX7_isRight_90 : decode cX7_isRight 90 = .ok (.iconst 0, 1) := by decide +kernel
theorem dX7_isRight_91 : decode cX7_isRight 91 = .ok (.ireturn, 1) := by decide +kernel
theorem dX7_isRight_92 : decode cX7_isRight 92 = .ok (.iload_n 3, 1) := by decide +kernel
theorem dX7_isRight_93 : decode cX7_isRight 93 = .ok (.aload_n 0, 1) := by decide +kernel
theorem dX7_isRight_94 : decode cX7_isRight 94 = .ok (.iload_n 1, 1) := by decide +kernel
theorem dX7_isRight_95 : decode cX7_isRight 95 = .ok (.iconst 0, 1) := by decide +kernel
theorem dX7_isRight_96 : decode cX7_isRight 96 = .ok (.invokevirtual 21, 3) := by decide +kernel
theorem dX7_isRight_99 : decode cX7_isRight 99 = .ok (.if_icmp .lt 13, 3) := by decide +kernel
theorem dX7_isRight_102 : decode cX7_isRight 102 = .ok (.iload_n 3, 1) := by decide +kernel
theorem dX7_isRight_103 : decode cX7_isRight 103 = .ok (.bipush 60, 2) := by decide +kernel
theorem dX7_isRight_105 : decode cX7_isRight 105 = .ok (.if_icmp .gt 7, 3) := by decide +kernel
theorem dX7_isRight_108 : decode cX7_isRight 108 = .ok (.iconst 1, 1) := by decide +kernel
theorem dX7_isRight_109 : decode cX7_isRight 109 = .ok (.goto 4, 3) := by decide +kernel
theorem dX7_isRight_112 : decode cX7_isRight 112 = .ok (.iconst 0, 1) := by decide +kernel
theorem dX7_isRight_113 : decode cX7_isRight 113 = .ok (.ireturn, 1) := by decide +kernel
theorem dX7_isRight_114 : decode cX7_isRight 114 = .ok (.iload_n 3, 1) := by decide +kernel
theorem dX7_isRight_115 : decode cX7_isRight 115 = .ok (.iconst 3, 1) := by decide +kernel
theorem dX7_isRight_116 : decode cX7_isRight 116 = .ok (.if_icmp .lt 13, 3) := by decide +kernel
theorem dX7_isRight_119 : decode cX7_isRight 119 = .ok (.iload_n 3, 1) := by decide +kernel
theorem dX7_isRight_120 : decode cX7_isRight 120 = .ok (.bipush 6, 2) := by decide +kernel
theorem dX7_isRight_122 : decode cX7_isRight 122 = .ok (.if_icmp .gt 7, 3) := by decide +kernel
theorem dX7_isRight_125 : decode cX7_isRight 125 = .ok (.iconst 1, 1) := by decide +kernel
theorem dX7_isRight_126 : decode cX7_isRight 126 = .ok (.goto 4, 3) := by decide +kernel
theorem dX7_isRight_129 : decode cX7_isRight 129 = .ok (.iconst 0, 1) := by decide +kernel
theorem dX7_isRight_130 : decode cX7_isRight 130 = .ok (.ireturn, 1) := by decide +kernel
theorem dX7_isRight_131 : decode cX7_isRight 131 = .ok (.iload_n 3, 1) := by decide +kernel
theorem dX7_isRight_132 : decode cX7_isRight 132 = .ok (.iconst 4, 1) := by decide +kernel
theorem dX7_isRight_133 : decode cX7_isRight 133 = .ok (.if_icmp .gt 7, 3) := by decide +kernel
theorem dX7_isRight_136 : decode cX7_isRight 136 = .ok (.iconst 1, 1) := by decide +kernel
theorem dX7_isRight_137 : decode cX7_isRight 137 = .ok (.goto 4, 3) := by decide +kernel
theorem dX7_isRight_140 : decode cX7_isRight 140 = .ok (.iconst 0, 1) := by decide +kernel
theorem dX7_isRight_141 : decode cX7_isRight 141 = .ok (.ireturn, 1) := by decide +kernel
theorem dX7_isRight_142 : decode cX7_isRight 142 = .ok (.iload_n 3, 1) := by decide +kernel
theorem dX7_isRight_143 : decode cX7_isRight 143 = .ok (.bipush 20, 2) := by decide +kernel
theorem dX7_isRight_145 : decode cX7_isRight 145 = .ok (.if_icmp .gt 7, 3) := by decide +kernel
theorem dX7_isRight_148 : decode cX7_isRight 148 = .ok (.iconst 1, 1) := by decide +kernel
theorem dX7_isRight_149 : decode cX7_isRight 149 = .ok (.goto 4, 3) := by decide +kernel
theorem dX7_isRight_152 : decode cX7_isRight 152 = .ok (.iconst 0, 1) := by decide +kernel
theorem dX7_isRight_153 : decode cX7_isRight 153 = .ok (.ireturn, 1) := by decide +kernel
theorem dX7_isRight_154 : decode cX7_isRight 154 = .ok (.iload 4, 2) := by decide +kernel
theorem dX7_isRight_156 : decode cX7_isRight 156 = .ok (.ifCond .eq 22, 3) := by decide +kernel
theorem dX7_isRight_159 : decode cX7_isRight 159 = .ok (.iload_n 3, 1) := by decide +kernel
theorem dX7_isRight_160 : decode cX7_isRight 160 = .ok (.iconst 1, 1) := by decide +kernel
theorem dX7_isRight_161 : decode cX7_isRight 161 = .ok (.if_icmp .lt 13, 3) := by decide +kernel
theorem dX7_isRight_164 : decode cX7_isRight 164 = .ok (.iload_n 3, 1) := by decide +kernel
theorem dX7_isRight_165 : decode cX7_isRight 165 = .ok (.bipush 20, 2) := by decide +kernel
theorem dX7_isRight_167 : decode cX7_isRight 167 = .ok (.if_icmp .gt 7, 3) := by decide +kernel
theorem dX7_isRight_170 : decode cX7_isRight 170 = .ok (.iconst 1, 1) := by decide +kernel
theorem dX7_isRight_171 : decode cX7_isRight 171 = .ok (.goto 16, 3) := by decide +kernel
theorem dX7_isRight_174 : decode cX7_isRight 174 = .ok (.iconst 0, 1) := by decide +kernel
theorem dX7_isRight_175 : decode cX7_isRight 175 = .ok (.goto 12, 3) := by decide +kernel
theorem dX7_isRight_178 : decode cX7_isRight 178 = .ok (.iload_n 3, 1) := by decide +kernel
theorem dX7_isRight_179 : decode cX7_isRight 179 = .ok (.ifCond .ne 7, 3) := by decide +kernel
theorem dX7_isRight_182 : decode cX7_isRight 182 = .ok (.iconst 1, 1) := by decide +kernel
theorem dX7_isRight_183 : decode cX7_isRight 183 = .ok (.goto 4, 3) := by decide +kernel
theorem dX7_isRight_186 : decode cX7_isRight 186 = .ok (.iconst 0, 1) := by decide +kernel
theorem dX7_isRight_187 : decode cX7_isRight 187 = .ok (.ireturn, 1) := by decide +kernel
theorem dX7_isRight_188 : decode cX7_isRight 188 = .ok (.iload_n 3, 1) := by decide +kernel
theorem dX7_isRight_189 : decode cX7_isRight 189 = .ok (.iconst 3, 1) := by decide +kernel
theorem dX7_isRight_190 : decode cX7_isRight 190 = .ok (.if_icmp .lt 13, 3) := by decide +kernel
theorem dX7_isRight_193 : decode cX7_isRight 193 = .ok (.iload_n 3, 1) := by decide +kernel
theorem dX7_isRight_194 : decode cX7_isRight 194 = .ok (.iconst 3, 1) := by decide +kernel
theorem dX7_isRight_195 : decode cX7_isRight 195 = .ok (.if_icmp .ne 12, 3) := by decide +kernel
theorem dX7_isRight_198 : decode cX7_isRight 198 = .ok (.iload 4, 2) := by decide +kernel
theorem dX7_isRight_200 : decode cX7_isRight 200 = .ok (.ifCond .eq 7, 3) := by decide +kernel
theorem dX7_isRight_203 : decode cX7_isRight 203 = .ok (.iconst 1, 1) := by decide +kernel
theorem dX7_isRight_204 : decode cX7_isRight 204 = .ok (.goto 4, 3) := by decide +kernel
theorem dX7_isRight_207 : decode cX7_isRight 207 = .ok (.iconst 0, 1) := by decide +kernel
theorem dX7_isRight_208 : decode cX7_isRight 208 = .ok (.ireturn, 1) := by decide +kernel
theorem dX8_init_0 : decode cX8_init 0 = .ok (.aload_n 0, 1) := by decide +kernel
theorem dX8_init_1 : decode cX8_init 1 = .ok (.invokespecial 1, 3) := by decide +kernel
theorem dX8_init_4 : decode cX8_init 4 = .ok (.aload_n 0, 1) := by decide +kernel
theorem dX8_init_5 : decode cX8_init 5 = .ok (.new 7, 3) := by decide +kernel
theorem dX8_init_8 : decode cX8_init 8 = .ok (.dup, 1) := by decide +kernel
theorem dX8_init_9 : decode cX8_init 9 = .ok (.invokespecial 9, 3) := by decide +kernel
theorem dX8_init_12 : decode cX8_init 12 = .ok (.putfield 10, 3) := by decide +kernel
theorem dX8_init_15 : decode cX8_init 15 = .ok (.aload_n 0, 1) := by decide +kernel
theorem dX8_init_16 : decode cX8_init 16 = .ok (.new 16, 3) := by decide +kernel
theorem dX8_init_19 : decode cX8_init 19 = .ok (.dup, 1) := by decide +kernel
theorem dX8_init_20 : decode cX8_init 20 = .ok (.invokespecial 18, 3) := by decide +kernel
theorem dX8_init_23 : decode cX8_init 23 = .ok (.putfield 19, 3) := by decide +kernel
theorem dX8_init_26 : decode cX8_init 26 = .ok (.aload_n 0, 1) := by decide +kernel
theorem dX8_init_27 : decode cX8_init 27 = .ok (.new 16, 3) := by decide +kernel
theorem dX8_init_30 : decode cX8_init 30 = .ok (.dup, 1) := by decide +kernel
theorem dX8_init_31 : decode cX8_init 31 = .ok (.invokespecial 18, 3) := by decide +kernel
theorem dX8_init_34 : decode cX8_init 34 = .ok (.putfield 23, 3) := by decide +kernel
theorem dX8_init_37 : decode cX8_init 37 = .ok (.aload_n 0, 1) := by decide +kernel
theorem dX8_init_38 : decode cX8_init 38 = .ok (.iconst 0, 1) := by decide +kernel
theorem dX8_init_39 : decode cX8_init 39 = .ok (.putfield 26, 3) := by decide +kernel
theorem dX8_init_42 : decode cX8_init 42 = .ok (.return_, 1) := by decide +kernel
theorem dX8_put_0 : decode cX8_put 0 = .ok (.aload_n 0, 1) := by decide +kernel
theorem dX8_put_1 : decode cX8_put 1 = .ok (.iload_n 1, 1) := by decide +kernel
theorem dX8_put_2 : decode cX8_put 2 = .ok (.invokevirtual 30, 3) := by decide +kernel
theorem dX8_put_5 : decode cX8_put 5 = .ok (.astore 5, 2) := by decide +kernel
theorem dX8_put_7 : decode cX8_put 7 = .ok (.aload 5, 2) := by decide +kernel
theorem dX8_put_9 : decode cX8_put 9 = .ok (.ifnull 10, 3) := by decide +kernel
theorem dX8_put_12 : decode cX8_put 12 = .ok (.iload_n 2, 1) := by decide +kernel
theorem dX8_put_13 : decode cX8_put 13 = .ok (.invokestatic 34, 3) := by decide +kernel
theorem dX8_put_16 : decode cX8_put 16 = .ok (.ifCond .ne 5, 3) := by decide +kernel
theorem dX8_put_19 : decode cX8_put 19 = .ok (.iconst 0, 1) := by decide +kernel
theorem dX8_put_20 : decode cX8_put 20 = .ok (.ireturn, 1) := by decide +kernel
theorem dX8_put_21 : decode cX8_put 21 = .ok (.iload_n 3, 1) := by decide +kernel
theorem dX8_put_22 : decode cX8_put 22 = .ok (.ifCond .lt 21, 3) := by decide +kernel
theorem dX8_put_25 : decode cX8_put 25 = .ok (.iload_n 3, 1) := by decide +kernel
theorem dX8_put_26 : decode cX8_put 26 = .ok (.bipush 8, 2) := by decide +kernel
theorem dX8_put_28 : decode cX8_put 28 = .ok (.if_icmp .ge 15, 3) := by decide +kernel
theorem dX8_put_31 : decode cX8_put 31 = .ok (.iload 4, 2) := by decide +kernel
theorem dX8_put_33 : decode cX8_put 33 = .ok (.ifCond .lt 10, 3) := by decide +kernel
theorem dX8_put_36 : decode cX8_put 36 = .ok (.iload 4, 2) := by decide +kernel
theorem dX8_put_38 : decode cX8_put 38 = .ok (.bipush 99, 2) := by decide +kernel
theorem dX8_put_40 : decode cX8_put 40 = .ok (.if_icmp .le 5, 3) := by decide +kernel
theorem dX8_put_43 : decode cX8_put 43 = .ok (.iconst 0, 1) := by decide +kernel
theorem dX8_put_44 : decode cX8_put 44 = .ok (.ireturn, 1) := by decide +kernel
theorem dX8_put_45 : decode cX8_put 45 = .ok (.aload 5, 2) := by decide +kernel
theorem dX8_put_47 : decode cX8_put 47 = .ok (.getfield 38, 3) := by decide +kernel
theorem dX8_put_50 : decode cX8_put 50 = .ok (.iload_n 2, 1) := by decide +kernel
theorem dX8_put_51 : decode cX8_put 51 = .ok (.iload_n 3, 1) := by decide +kernel
theorem dX8_put_52 : decode cX8_put 52 = .ok (.iload 4, 2) := by decide +kernel
theorem dX8_put_54 : decode cX8_put 54 = .ok (.invokevirtual 42, 3) := by decide +kernel
theorem dX8_put_57 : decode cX8_put 57 = .ok (.iconst 1, 1) := by decide +kernel
theorem dX8_put_58 : decode cX8_put 58 = .ok (.ireturn, 1) := by decide +kernel
theorem dX8_enact_0 : decode cX8_enact 0 = .ok (.aload_n 0, 1) := by decide +kernel
theorem dX8_enact_1 : decode cX8_enact 1 = .ok (.iload_n 1, 1) := by decide +kernel
theorem dX8_enact_2 : decode cX8_enact 2 = .ok (.invokevirtual 30, 3) := by decide +kernel
theorem dX8_enact_5 : decode cX8_enact 5 = .ok (.astore_n 2, 1) := by decide +kernel
theorem dX8_enact_6 : decode cX8_enact 6 = .ok (.aload_n 2, 1) := by decide +kernel
theorem dX8_enact_7 : decode cX8_enact 7 = .ok (.ifnonnull 13, 3) := by decide +kernel
theorem dX8_enact_10 : decode cX8_enact 10 = .ok (.new 48, 3) := by decide +kernel
theorem dX8_enact_13 : decode cX8_enact 13 = .ok (.dup, 1) := by decide +kernel
theorem dX8_enact_14 : decode cX8_enact 14 = .ok (.ldc 50, 2) := by decide +kernel
theorem dX8_enact_16 : decode cX8_enact 16 = .ok (.invokespecial 52, 3) := by decide +kernel
theorem dX8_enact_19 : decode cX8_enact 19 = .ok (.athrow, 1) := by decide +kernel
theorem dX8_enact_20 : decode cX8_enact 20 = .ok (.aload_n 2, 1) := by decide +kernel
theorem dX8_enact_21 : decode cX8_enact 21 = .ok (.invokevirtual 55, 3) := by decide +kernel
theorem dX8_enact_24 : decode cX8_enact 24 = .ok (.ifCond .ne 13, 3) := by decide +kernel
theorem dX8_enact_27 : decode cX8_enact 27 = .ok (.new 59, 3) := by decide +kernel
theorem dX8_enact_30 : decode cX8_enact 30 = .ok (.dup, 1) := by decide +kernel
theorem dX8_enact_31 : decode cX8_enact 31 = .ok (.ldc 61, 2) := by decide +kernel
theorem dX8_enact_33 : decode cX8_enact 33 = .ok (.invokespecial 63, 3) := by decide +kernel
theorem dX8_enact_36 : decode cX8_enact 36 = .ok (.athrow, 1) := by decide +kernel
theorem dX8_enact_37 : decode cX8_enact 37 = .ok (.aload_n 2, 1) := by decide +kernel
theorem dX8_enact_38 : decode cX8_enact 38 = .ok (.getfield 64, 3) := by decide +kernel
theorem dX8_enact_41 : decode cX8_enact 41 = .ok (.invokestatic 67, 3) := by decide +kernel
theorem dX8_enact_44 : decode cX8_enact 44 = .ok (.ireturn, 1) := by decide +kernel
theorem dX8_place_0 : decode cX8_place 0 = .ok (.aload_n 0, 1) := by decide +kernel
theorem dX8_place_1 : decode cX8_place 1 = .ok (.iload_n 1, 1) := by decide +kernel
theorem dX8_place_2 : decode cX8_place 2 = .ok (.invokevirtual 30, 3) := by decide +kernel
theorem dX8_place_5 : decode cX8_place 5 = .ok (.astore_n 2, 1) := by decide +kernel
theorem dX8_place_6 : decode cX8_place 6 = .ok (.aload_n 2, 1) := by decide +kernel
theorem dX8_place_7 : decode cX8_place 7 = .ok (.ifnonnull 7, 3) := by decide +kernel
theorem dX8_place_10 : decode cX8_place 10 = .ok (.iconst (-1), 1) := by decide +kernel
theorem dX8_place_11 : decode cX8_place 11 = .ok (.goto 7, 3) := by decide +kernel
theorem dX8_place_14 : decode cX8_place 14 = .ok (.aload_n 2, 1) := by decide +kernel
theorem dX8_place_15 : decode cX8_place 15 = .ok (.getfield 73, 3) := by decide +kernel
theorem dX8_place_18 : decode cX8_place 18 = .ok (.ireturn, 1) := by decide +kernel
theorem dX8_detect_0 : decode cX8_detect 0 = .ok (.aload_n 0, 1) := by decide +kernel
theorem dX8_detect_1 : decode cX8_detect 1 = .ok (.iload_n 1, 1) := by decide +kernel
theorem dX8_detect_2 : decode cX8_detect 2 = .ok (.invokevirtual 30, 3) := by decide +kernel
theorem dX8_detect_5 : decode cX8_detect 5 = .ok (.astore 4, 2) := by decide +kernel
theorem dX8_detect_7 : decode cX8_detect 7 = .ok (.aload 4, 2) := by decide +kernel
theorem dX8_detect_9 : decode cX8_detect 9 = .ok (.ifnull 10, 3) := by decide +kernel
theorem dX8_detect_12 : decode cX8_detect 12 = .ok (.iload_n 2, 1) := by decide +kernel
theorem dX8_detect_13 : decode cX8_detect 13 = .ok (.invokestatic 34, 3) := by decide +kernel
theorem dX8_detect_16 : decode cX8_detect 16 = .ok (.ifCond .ne 5, 3) := by decide +kernel
theorem dX8_detect_19 : decode cX8_detect 19 = .ok (.iconst 0, 1) := by decide +kernel
theorem dX8_detect_20 : decode cX8_detect 20 = .ok (.ireturn, 1) := by decide +kernel
theorem dX8_detect_21 : decode cX8_detect 21 = .ok (.aload 4, 2) := by decide +kernel
theorem dX8_detect_23 : decode cX8_detect 23 = .ok (.getfield 76, 3) := by decide +kernel
theorem dX8_detect_26 : decode cX8_detect 26 = .ok (.iload_n 2, 1) := by decide +kernel
theorem dX8_detect_27 : decode cX8_detect 27 = .ok (.iload_n 3, 1) := by decide +kernel
theorem dX8_detect_28 : decode cX8_detect 28 = .ok (.invokevirtual 80, 3) := by decide +kernel
theorem dX8_detect_31 : decode cX8_detect 31 = .ok (.iconst 1, 1) := by decide +kernel
theorem dX8_detect_32 : decode cX8_detect 32 = .ok (.ireturn, 1) := by decide +kernel
theorem dX8_press_0 : decode cX8_press 0 = .ok (.aload_n 0, 1) := by decide +kernel
theorem dX8_press_1 : decode cX8_press 1 = .ok (.iload_n 1, 1) := by decide +kernel
theorem dX8_press_2 : decode cX8_press 2 = .ok (.invokevirtual 30, 3) := by decide +kernel
theorem dX8_press_5 : decode cX8_press 5 = .ok (.astore_n 3, 1) := by decide +kernel
theorem dX8_press_6 : decode cX8_press 6 = .ok (.aload_n 3, 1) := by decide +kernel
theorem dX8_press_7 : decode cX8_press 7 = .ok (.ifnull 22, 3) := by decide +kernel
theorem dX8_press_10 : decode cX8_press 10 = .ok (.iload_n 2, 1) := by decide +kernel
theorem dX8_press_11 : decode cX8_press 11 = .ok (.invokestatic 34, 3) := by decide +kernel
theorem dX8_press_14 : decode cX8_press 14 = .ok (.ifCond .eq 15, 3) := by decide +kernel
theorem dX8_press_17 : decode cX8_press 17 = .ok (.aload_n 3, 1) := by decide +kernel
theorem dX8_press_18 : decode cX8_press 18 = .ok (.iload_n 2, 1) := by decide +kernel
theorem dX8_press_19 : decode cX8_press 19 = .ok (.invokevirtual 86, 3) := by decide +kernel
theorem dX8_press_22 : decode cX8_press 22 = .ok (.ifCond .eq 7, 3) := by decide +kernel
theorem dX8_press_25 : decode cX8_press 25 = .ok (.iconst 1, 1) := by decide +kernel
theorem dX8_press_26 : decode cX8_press 26 = .ok (.goto 4, 3) := by decide +kernel
theorem dX8_press_29 : decode cX8_press 29 = .ok (.iconst 0, 1) := by decide +kernel
theorem dX8_press_30 : decode cX8_press 30 = .ok (.ireturn, 1) := by decide +kernel
theorem dX8_target_0 : decode cX8_target 0 = .ok (.aload_n 0, 1) := by decide +kernel
theorem dX8_target_1 : decode cX8_target 1 = .ok (.iload_n 1, 1) := by decide +kernel
theorem dX8_target_2 : decode cX8_target 2 = .ok (.invokevirtual 30, 3) := by decide +kernel
theorem dX8_target_5 : decode cX8_target 5 = .ok (.astore 4, 2) := by decide +kernel
theorem dX8_target_7 : decode cX8_target 7 = .ok (.aload 4, 2) := by decide +kernel
theorem dX8_target_9 : decode cX8_target 9 = .ok (.ifnull 17, 3) := by decide +kernel
theorem dX8_target_12 : decode cX8_target 12 = .ok (.iload_n 2, 1) := by decide +kernel
theorem dX8_target_13 : decode cX8_target 13 = .ok (.invokestatic 89, 3) := by decide +kernel
theorem dX8_target_16 : decode cX8_target 16 = .ok (.ifCond .eq 10, 3) := by decide +kernel
theorem dX8_target_19 : decode cX8_target 19 = .ok (.iload_n 3, 1) := by decide +kernel
theorem dX8_target_20 : decode cX8_target 20 = .ok (.invokestatic 34, 3) := by decide +kernel
theorem dX8_target_23 : decode cX8_target 23 = .ok (.ifCond .ne 5, 3) := by decide +kernel
theorem dX8_target_26 : decode cX8_target 26 = .ok (.iconst 0, 1) := by decide +kernel
theorem dX8_target_27 : decode cX8_target 27 = .ok (.ireturn, 1) := by decide +kernel
theorem dX8_target_28 : decode cX8_target 28 = .ok (.aload 4, 2) := by decide +kernel
theorem dX8_target_30 : decode cX8_target 30 = .ok (.getfield 92, 3) := by decide +kernel
theorem dX8_target_33 : decode cX8_target 33 = .ok (.iload_n 2, 1) := by decide +kernel
theorem dX8_target_34 : decode cX8_target 34 = .ok (.iload_n 3, 1) := by decide +kernel
theorem dX8_target_35 : decode cX8_target 35 = .ok (.invokevirtual 96, 3) := by decide +kernel
theorem dX8_target_38 : decode cX8_target 38 = .ok (.iconst 1, 1) := by decide +kernel
theorem dX8_target_39 : decode cX8_target 39 = .ok (.ireturn, 1) := by decide +kernel
theorem dX8_preempt_0 : decode cX8_preempt 0 = .ok (.aload_n 0, 1) := by decide +kernel
theorem dX8_preempt_1 : decode cX8_preempt 1 = .ok (.iload_n 1, 1) := by decide +kernel
theorem dX8_preempt_2 : decode cX8_preempt 2 = .ok (.invokevirtual 30, 3) := by decide +kernel
theorem dX8_preempt_5 : decode cX8_preempt 5 = .ok (.astore 4, 2) := by decide +kernel
theorem dX8_preempt_7 : decode cX8_preempt 7 = .ok (.aload 4, 2) := by decide +kernel
theorem dX8_preempt_9 : decode cX8_preempt 9 = .ok (.ifnull 10, 3) := by decide +kernel
theorem dX8_preempt_12 : decode cX8_preempt 12 = .ok (.iload_n 2, 1) := by decide +kernel
theorem dX8_preempt_13 : decode cX8_preempt 13 = .ok (.invokestatic 89, 3) := by decide +kernel
theorem dX8_preempt_16 : decode cX8_preempt 16 = .ok (.ifCond .ne 5, 3) := by decide +kernel
theorem dX8_preempt_19 : decode cX8_preempt 19 = .ok (.iconst 0, 1) := by decide +kernel
theorem dX8_preempt_20 : decode cX8_preempt 20 = .ok (.ireturn, 1) := by decide +kernel
theorem dX8_preempt_21 : decode cX8_preempt 21 = .ok (.aload 4, 2) := by decide +kernel
theorem dX8_preempt_23 : decode cX8_preempt 23 = .ok (.getfield 92, 3) := by decide +kernel
theorem dX8_preempt_26 : decode cX8_preempt 26 = .ok (.iload_n 2, 1) := by decide +kernel
theorem dX8_preempt_27 : decode cX8_preempt 27 = .ok (.iload_n 3, 1) := by decide +kernel
theorem dX8_preempt_28 : decode cX8_preempt 28 = .ok (.invokevirtual 102, 3) := by decide +kernel
theorem dX8_preempt_31 : decode cX8_preempt 31 = .ok (.iconst 1, 1) := by decide +kernel
theorem dX8_preempt_32 : decode cX8_preempt 32 = .ok (.ireturn, 1) := by decide +kernel
theorem dX8_plan_0 : decode cX8_plan 0 = .ok (.aload_n 0, 1) := by decide +kernel
theorem dX8_plan_1 : decode cX8_plan 1 = .ok (.getfield 10, 3) := by decide +kernel
theorem dX8_plan_4 : decode cX8_plan 4 = .ok (.iload_n 1, 1) := by decide +kernel
theorem dX8_plan_5 : decode cX8_plan 5 = .ok (.iload_n 2, 1) := by decide +kernel
theorem dX8_plan_6 : decode cX8_plan 6 = .ok (.iload_n 3, 1) := by decide +kernel
theorem dX8_plan_7 : decode cX8_plan 7 = .ok (.iload 4, 2) := by decide +kernel
theorem dX8_plan_9 : decode cX8_plan 9 = .ok (.invokevirtual 103, 3) := by decide +kernel
theorem dX8_plan_12 : decode cX8_plan 12 = .ok (.ifCond .ne 5, 3) := by decide +kernel
theorem dX8_plan_15 : decode cX8_plan 15 = .ok (.iconst 0, 1) := by decide +kernel
theorem dX8_plan_16 : decode cX8_plan 16 = .ok (.ireturn, 1) := by decide +kernel
theorem dX8_plan_17 : decode cX8_plan 17 = .ok (.aload_n 0, 1) := by decide +kernel
theorem dX8_plan_18 : decode cX8_plan 18 = .ok (.getfield 19, 3) := by decide +kernel
theorem dX8_plan_21 : decode cX8_plan 21 = .ok (.getfield 107, 3) := by decide +kernel
theorem dX8_plan_24 : decode cX8_plan 24 = .ok (.iload_n 1, 1) := by decide +kernel
theorem dX8_plan_25 : decode cX8_plan 25 = .ok (.iload_n 2, 1) := by decide +kernel
theorem dX8_plan_26 : decode cX8_plan 26 = .ok (.invokevirtual 111, 3) := by decide +kernel
theorem dX8_plan_29 : decode cX8_plan 29 = .ok (.aload_n 0, 1) := by decide +kernel
theorem dX8_plan_30 : decode cX8_plan 30 = .ok (.getfield 23, 3) := by decide +kernel
theorem dX8_plan_33 : decode cX8_plan 33 = .ok (.getfield 107, 3) := by decide +kernel
theorem dX8_plan_36 : decode cX8_plan 36 = .ok (.iload_n 1, 1) := by decide +kernel
theorem dX8_plan_37 : decode cX8_plan 37 = .ok (.iload_n 2, 1) := by decide +kernel
theorem dX8_plan_38 : decode cX8_plan 38 = .ok (.invokevirtual 111, 3) := by decide +kernel
theorem dX8_plan_41 : decode cX8_plan 41 = .ok (.iconst 1, 1) := by decide +kernel
theorem dX8_plan_42 : decode cX8_plan 42 = .ok (.ireturn, 1) := by decide +kernel
theorem dX8_message_0 : decode cX8_message 0 = .ok (.aload_n 0, 1) := by decide +kernel
theorem dX8_message_1 : decode cX8_message 1 = .ok (.iload_n 1, 1) := by decide +kernel
theorem dX8_message_2 : decode cX8_message 2 = .ok (.invokevirtual 30, 3) := by decide +kernel
theorem dX8_message_5 : decode cX8_message 5 = .ok (.astore 4, 2) := by decide +kernel
theorem dX8_message_7 : decode cX8_message 7 = .ok (.aload 4, 2) := by decide +kernel
theorem dX8_message_9 : decode cX8_message 9 = .ok (.ifnull 26, 3) := by decide +kernel
theorem dX8_message_12 : decode cX8_message 12 = .ok (.aload_n 0, 1) := by decide +kernel
theorem dX8_message_13 : decode cX8_message 13 = .ok (.getfield 10, 3) := by decide +kernel
theorem dX8_message_16 : decode cX8_message 16 = .ok (.iload_n 3, 1) := by decide +kernel
theorem dX8_message_17 : decode cX8_message 17 = .ok (.invokevirtual 116, 3) := by decide +kernel
theorem dX8_message_20 : decode cX8_message 20 = .ok (.ifCond .eq 15, 3) := by decide +kernel
theorem dX8_message_23 : decode cX8_message 23 = .ok (.aload 4, 2) := by decide +kernel
theorem dX8_message_25 : decode cX8_message 25 = .ok (.getfield 107, 3) := by decide +kernel
theorem dX8_message_28 : decode cX8_message 28 = .ok (.iload_n 2, 1) := by decide +kernel
theorem dX8_message_29 : decode cX8_message 29 = .ok (.invokevirtual 119, 3) := by decide +kernel
theorem dX8_message_32 : decode cX8_message 32 = .ok (.ifCond .ne 5, 3) := by decide +kernel
theorem dX8_message_35 : decode cX8_message 35 = .ok (.iconst 0, 1) := by decide +kernel
theorem dX8_message_36 : decode cX8_message 36 = .ok (.ireturn, 1) := by decide +kernel
theorem dX8_message_37 : decode cX8_message 37 = .ok (.aload 4, 2) := by decide +kernel
theorem dX8_message_39 : decode cX8_message 39 = .ok (.getfield 107, 3) := by decide +kernel
theorem dX8_message_42 : decode cX8_message 42 = .ok (.iload_n 2, 1) := by decide +kernel
theorem dX8_message_43 : decode cX8_message 43 = .ok (.iload_n 3, 1) := by decide +kernel
theorem dX8_message_44 : decode cX8_message 44 = .ok (.aload_n 0, 1) := by decide +kernel
theorem dX8_message_45 : decode cX8_message 45 = .ok (.getfield 10, 3) := by decide +kernel
theorem dX8_message_48 : decode cX8_message 48 = .ok (.iload_n 3, 1) := by decide +kernel
theorem dX8_message_49 : decode cX8_message 49 = .ok (.invokevirtual 122, 3) := by decide +kernel
theorem dX8_message_52 : decode cX8_message 52 = .ok (.invokevirtual 125, 3) := by decide +kernel
theorem dX8_message_55 : decode cX8_message 55 = .ok (.iconst 1, 1) := by decide +kernel
theorem dX8_message_56 : decode cX8_message 56 = .ok (.ireturn, 1) := by decide +kernel
theorem dX8_fault_0 : decode cX8_fault 0 = .ok (.aload_n 0, 1) := by decide +kernel
theorem dX8_fault_1 : decode cX8_fault 1 = .ok (.iload_n 1, 1) := by decide +kernel
theorem dX8_fault_2 : decode cX8_fault 2 = .ok (.invokevirtual 30, 3) := by decide +kernel
theorem dX8_fault_5 : decode cX8_fault 5 = .ok (.astore 4, 2) := by decide +kernel
theorem dX8_fault_7 : decode cX8_fault 7 = .ok (.aload 4, 2) := by decide +kernel
theorem dX8_fault_9 : decode cX8_fault 9 = .ok (.ifnull 19, 3) := by decide +kernel
theorem dX8_fault_12 : decode cX8_fault 12 = .ok (.iload_n 2, 1) := by decide +kernel
theorem dX8_fault_13 : decode cX8_fault 13 = .ok (.invokestatic 34, 3) := by decide +kernel
theorem dX8_fault_16 : decode cX8_fault 16 = .ok (.ifCond .eq 12, 3) := by decide +kernel
theorem dX8_fault_19 : decode cX8_fault 19 = .ok (.iload_n 3, 1) := by decide +kernel
theorem dX8_fault_20 : decode cX8_fault 20 = .ok (.ifCond .lt 8, 3) := by decide +kernel
theorem dX8_fault_23 : decode cX8_fault 23 = .ok (.iload_n 3, 1) := by decide +kernel
theorem dX8_fault_24 : decode cX8_fault 24 = .ok (.iconst 3, 1) := by decide +kernel
theorem dX8_fault_25 : decode cX8_fault 25 = .ok (.if_icmp .le 5, 3) := by decide +kernel
theorem dX8_fault_28 : decode cX8_fault 28 = .ok (.iconst 0, 1) := by decide +kernel
theorem dX8_fault_29 : decode cX8_fault 29 = .ok (.ireturn, 1) := by decide +kernel
theorem dX8_fault_30 : decode cX8_fault 30 = .ok (.aload 4, 2) := by decide +kernel
theorem dX8_fault_32 : decode cX8_fault 32 = .ok (.getfield 128, 3) := by decide +kernel
theorem dX8_fault_35 : decode cX8_fault 35 = .ok (.iload_n 2, 1) := by decide +kernel
theorem dX8_fault_36 : decode cX8_fault 36 = .ok (.iload_n 3, 1) := by decide +kernel
theorem dX8_fault_37 : decode cX8_fault 37 = .ok (.iastore, 1) := by decide +kernel
theorem dX8_fault_38 : decode cX8_fault 38 = .ok (.iconst 1, 1) := by decide +kernel
theorem dX8_fault_39 : decode cX8_fault 39 = .ok (.ireturn, 1) := by decide +kernel
theorem dX8_reset_0 : decode cX8_reset 0 = .ok (.aload_n 0, 1) := by decide +kernel
theorem dX8_reset_1 : decode cX8_reset 1 = .ok (.iload_n 1, 1) := by decide +kernel
theorem dX8_reset_2 : decode cX8_reset 2 = .ok (.invokevirtual 30, 3) := by decide +kernel
theorem dX8_reset_5 : decode cX8_reset 5 = .ok (.astore_n 2, 1) := by decide +kernel
theorem dX8_reset_6 : decode cX8_reset 6 = .ok (.aload_n 2, 1) := by decide +kernel
theorem dX8_reset_7 : decode cX8_reset 7 = .ok (.ifnull 10, 3) := by decide +kernel
theorem dX8_reset_10 : decode cX8_reset 10 = .ok (.aload_n 2, 1) := by decide +kernel
theorem dX8_reset_11 : decode cX8_reset 11 = .ok (.getfield 132, 3) := by decide +kernel
theorem dX8_reset_14 : decode cX8_reset 14 = .ok (.ifCond .ne 5, 3) := by decide +kernel
theorem dX8_reset_17 : decode cX8_reset 17 = .ok (.iconst 0, 1) := by decide +kernel
theorem dX8_reset_18 : decode cX8_reset 18 = .ok (.ireturn, 1) := by decide +kernel
theorem dX8_reset_19 : decode cX8_reset 19 = .ok (.aload_n 2, 1) := by decide +kernel
theorem dX8_reset_20 : decode cX8_reset 20 = .ok (.invokevirtual 135, 3) := by decide +kernel
theorem dX8_reset_23 : decode cX8_reset 23 = .ok (.iconst 1, 1) := by decide +kernel
theorem dX8_reset_24 : decode cX8_reset 24 = .ok (.ireturn, 1) := by decide +kernel
theorem dX8_tick_0 : decode cX8_tick 0 = .ok (.iload_n 1, 1) := by decide +kernel
theorem dX8_tick_1 : decode cX8_tick 1 = .ok (.ifCond .lt 9, 3) := by decide +kernel
theorem dX8_tick_4 : decode cX8_tick 4 = .ok (.iload_n 1, 1) := by decide +kernel
theorem dX8_tick_5 : decode cX8_tick 5 = .ok (.bipush 20, 2) := by decide +kernel
theorem dX8_tick_7 : decode cX8_tick 7 = .ok (.if_icmp .le 13, 3) := by decide +kernel
theorem dX8_tick_10 : decode cX8_tick 10 = .ok (.new 48, 3) := by decide +kernel
theorem dX8_tick_13 : decode cX8_tick 13 = .ok (.dup, 1) := by decide +kernel
theorem dX8_tick_14 : decode cX8_tick 14 = .ok (.ldc 138, 2) := by decide +kernel
theorem dX8_tick_16 : decode cX8_tick 16 = .ok (.invokespecial 52, 3) := by decide +kernel
theorem dX8_tick_19 : decode cX8_tick 19 = .ok (.athrow, 1) := by decide +kernel
theorem dX8_tick_20 : decode cX8_tick 20 = .ok (.iconst 0, 1) := by decide +kernel
theorem dX8_tick_21 : decode cX8_tick 21 = .ok (.istore_n 2, 1) := by decide +kernel
theorem dX8_tick_22 : decode cX8_tick 22 = .ok (.iload_n 2, 1) := by decide +kernel
theorem dX8_tick_23 : decode cX8_tick 23 = .ok (.iload_n 1, 1) := by decide +kernel
theorem dX8_tick_24 : decode cX8_tick 24 = .ok (.if_icmp .ge 49, 3) := by decide +kernel
theorem dX8_tick_27 : decode cX8_tick 27 = .ok (.aload_n 0, 1) := by decide +kernel
theorem dX8_tick_28 : decode cX8_tick 28 = .ok (.getfield 19, 3) := by decide +kernel
theorem dX8_tick_31 : decode cX8_tick 31 = .ok (.aload_n 0, 1) := by decide +kernel
theorem dX8_tick_32 : decode cX8_tick 32 = .ok (.getfield 10, 3) := by decide +kernel
theorem dX8_tick_35 : decode cX8_tick 35 = .ok (.aload_n 0, 1) := by decide +kernel
theorem dX8_tick_36 : decode cX8_tick 36 = .ok (.getfield 26, 3) := by decide +kernel
theorem dX8_tick_39 : decode cX8_tick 39 = .ok (.invokevirtual 140, 3) := by decide +kernel
theorem dX8_tick_42 : decode cX8_tick 42 = .ok (.aload_n 0, 1) := by decide +kernel
theorem dX8_tick_43 : decode cX8_tick 43 = .ok (.getfield 23, 3) := by decide +kernel
theorem dX8_tick_46 : decode cX8_tick 46 = .ok (.aload_n 0, 1) := by decide +kernel
theorem dX8_tick_47 : decode cX8_tick 47 = .ok (.getfield 10, 3) := by decide +kernel
theorem dX8_tick_50 : decode cX8_tick 50 = .ok (.aload_n 0, 1) := by decide +kernel
theorem dX8_tick_51 : decode cX8_tick 51 = .ok (.getfield 26, 3) := by decide +kernel
theorem dX8_tick_54 : decode cX8_tick 54 = .ok (.invokevirtual 140, 3) := by decide +kernel
theorem dX8_tick_57 : decode cX8_tick 57 = .ok (.aload_n 0, 1) := by decide +kernel
theorem dX8_tick_58 : decode cX8_tick 58 = .ok (.dup, 1) := by decide +kernel
theorem dX8_tick_59 : decode cX8_tick 59 = .ok (.getfield 26, 3) := by decide +kernel
theorem dX8_tick_62 : decode cX8_tick 62 = .ok (.iconst 1, 1) := by decide +kernel
theorem dX8_tick_63 : decode cX8_tick 63 = .ok (.iadd, 1) := by decide +kernel
theorem dX8_tick_64 : decode cX8_tick 64 = .ok (.putfield 26, 3) := by decide +kernel
theorem dX8_tick_67 : decode cX8_tick 67 = .ok (.iinc 2 1, 3) := by decide +kernel
theorem dX8_tick_70 : decode cX8_tick 70 = .ok (.goto (-48), 3) := by decide +kernel
theorem dX8_tick_73 : decode cX8_tick 73 = .ok (.aload_n 0, 1) := by decide +kernel
theorem dX8_tick_74 : decode cX8_tick 74 = .ok (.getfield 26, 3) := by decide +kernel
theorem dX8_tick_77 : decode cX8_tick 77 = .ok (.ireturn, 1) := by decide +kernel
theorem dX8_lamp_0 : decode cX8_lamp 0 = .ok (.aload_n 0, 1) := by decide +kernel
theorem dX8_lamp_1 : decode cX8_lamp 1 = .ok (.iload_n 1, 1) := by decide +kernel
theorem dX8_lamp_2 : decode cX8_lamp 2 = .ok (.invokevirtual 30, 3) := by decide +kernel
theorem dX8_lamp_5 : decode cX8_lamp 5 = .ok (.astore_n 3, 1) := by decide +kernel
theorem dX8_lamp_6 : decode cX8_lamp 6 = .ok (.aload_n 3, 1) := by decide +kernel
theorem dX8_lamp_7 : decode cX8_lamp 7 = .ok (.ifnull 10, 3) := by decide +kernel
theorem dX8_lamp_10 : decode cX8_lamp 10 = .ok (.iload_n 2, 1) := by decide +kernel
theorem dX8_lamp_11 : decode cX8_lamp 11 = .ok (.invokestatic 34, 3) := by decide +kernel
theorem dX8_lamp_14 : decode cX8_lamp 14 = .ok (.ifCond .ne 7, 3) := by decide +kernel
theorem dX8_lamp_17 : decode cX8_lamp 17 = .ok (.iconst (-1), 1) := by decide +kernel
theorem dX8_lamp_18 : decode cX8_lamp 18 = .ok (.goto 8, 3) := by decide +kernel
theorem dX8_lamp_21 : decode cX8_lamp 21 = .ok (.aload_n 3, 1) := by decide +kernel
theorem dX8_lamp_22 : decode cX8_lamp 22 = .ok (.iload_n 2, 1) := by decide +kernel
theorem dX8_lamp_23 : decode cX8_lamp 23 = .ok (.invokevirtual 144, 3) := by decide +kernel
theorem dX8_lamp_26 : decode cX8_lamp 26 = .ok (.ireturn, 1) := by decide +kernel
theorem dX8_signs_0 : decode cX8_signs 0 = .ok (.aload_n 0, 1) := by decide +kernel
theorem dX8_signs_1 : decode cX8_signs 1 = .ok (.iload_n 1, 1) := by decide +kernel
theorem dX8_signs_2 : decode cX8_signs 2 = .ok (.invokevirtual 30, 3) := by decide +kernel
theorem dX8_signs_5 : decode cX8_signs 5 = .ok (.astore_n 3, 1) := by decide +kernel
theorem dX8_signs_6 : decode cX8_signs 6 = .ok (.aload_n 3, 1) := by decide +kernel
theorem dX8_signs_7 : decode cX8_signs 7 = .ok (.ifnull 10, 3) := by decide +kernel
theorem dX8_signs_10 : decode cX8_signs 10 = .ok (.iload_n 2, 1) := by decide +kernel
theorem dX8_signs_11 : decode cX8_signs 11 = .ok (.invokestatic 34, 3) := by decide +kernel
theorem dX8_signs_14 : decode cX8_signs 14 = .ok (.ifCond .ne 7, 3) := by decide +kernel
theorem dX8_signs_17 : decode cX8_signs 17 = .ok (.iconst (-1), 1) := by decide +kernel
theorem dX8_signs_18 : decode cX8_signs 18 = .ok (.goto 8, 3) := by decide +kernel
theorem dX8_signs_21 : decode cX8_signs 21 = .ok (.aload_n 3, 1) := by decide +kernel
theorem dX8_signs_22 : decode cX8_signs 22 = .ok (.iload_n 2, 1) := by decide +kernel
theorem dX8_signs_23 : decode cX8_signs 23 = .ok (.invokevirtual 147, 3) := by decide +kernel
theorem dX8_signs_26 : decode cX8_signs 26 = .ok (.ireturn, 1) := by decide +kernel
theorem dX8_crossing_0 : decode cX8_crossing 0 = .ok (.aload_n 0, 1) := by decide +kernel
theorem dX8_crossing_1 : decode cX8_crossing 1 = .ok (.iload_n 1, 1) := by decide +kernel
theorem dX8_crossing_2 : decode cX8_crossing 2 = .ok (.invokevirtual 30, 3) := by decide +kernel
theorem dX8_crossing_5 : decode cX8_crossing 5 = .ok (.astore_n 3, 1) := by decide +kernel
theorem dX8_crossing_6 : decode cX8_crossing 6 = .ok (.aload_n 3, 1) := by decide +kernel
theorem dX8_crossing_7 : decode cX8_crossing 7 = .ok (.ifnonnull 5, 3) := by decide +kernel
theorem dX8_crossing_10 : decode cX8_crossing 10 = .ok (.iconst (-1), 1) := by decide +kernel
theorem dX8_crossing_11 : decode cX8_crossing 11 = .ok (.ireturn, 1) := by decide +kernel
theorem dX8_crossing_12 : decode cX8_crossing 12 = .ok (.iload_n 2, 1) := by decide +kernel
theorem dX8_crossing_13 : decode cX8_crossing 13 = .ok (.tableswitch 90 0 6 #[43, 48, 53, 58, 66, 74, 82], 43) := by decide +kernel
theorem dX8_crossing_56 : decode cX8_crossing 56 = .ok (.aload_n 3, 1) := by decide +kernel
theorem dX8_crossing_57 : decode cX8_crossing 57 = .ok (.getfield 150, 3) := by decide +kernel
theorem dX8_crossing_60 : decode cX8_crossing 60 = .ok (.ireturn, 1) := by decide +kernel
theorem dX8_crossing_61 : decode cX8_crossing 61 = .ok (.aload_n 3, 1) := by decide +kernel
theorem dX8_crossing_62 : decode cX8_crossing 62 = .ok (.invokevirtual 153, 3) := by decide +kernel
theorem dX8_crossing_65 : decode cX8_crossing 65 = .ok (.ireturn, 1) := by decide +kernel
theorem dX8_crossing_66 : decode cX8_crossing 66 = .ok (.aload_n 3, 1) := by decide +kernel
theorem dX8_crossing_67 : decode cX8_crossing 67 = .ok (.getfield 132, 3) := by decide +kernel
theorem dX8_crossing_70 : decode cX8_crossing 70 = .ok (.ireturn, 1) := by decide +kernel
theorem dX8_crossing_71 : decode cX8_crossing 71 = .ok (.aload_n 3, 1) := by decide +kernel
theorem dX8_crossing_72 : decode cX8_crossing 72 = .ok (.getfield 107, 3) := by decide +kernel
theorem dX8_crossing_75 : decode cX8_crossing 75 = .ok (.getfield 157, 3) := by decide +kernel
theorem dX8_crossing_78 : decode cX8_crossing 78 = .ok (.ireturn, 1) := by decide +kernel
theorem dX8_crossing_79 : decode cX8_crossing 79 = .ok (.aload_n 3, 1) := by decide +kernel
theorem dX8_crossing_80 : decode cX8_crossing 80 = .ok (.getfield 107, 3) := by decide +kernel
theorem dX8_crossing_83 : decode cX8_crossing 83 = .ok (.invokevirtual 160, 3) := by decide +kernel
theorem dX8_crossing_86 : decode cX8_crossing 86 = .ok (.ireturn, 1) := by decide +kernel
theorem dX8_crossing_87 : decode cX8_crossing 87 = .ok (.aload_n 3, 1) := by decide +kernel
theorem dX8_crossing_88 : decode cX8_crossing 88 = .ok (.getfield 163, 3) := by decide +kernel
theorem dX8_crossing_91 : decode cX8_crossing 91 = .ok (.getfield 167, 3) := by decide +kernel
theorem dX8_crossing_94 : decode cX8_crossing 94 = .ok (.ireturn, 1) := by decide +kernel
theorem dX8_crossing_95 : decode cX8_crossing 95 = .ok (.aload_n 3, 1) := by decide +kernel
theorem dX8_crossing_96 : decode cX8_crossing 96 = .ok (.getfield 172, 3) := by decide +kernel
theorem dX8_crossing_99 : decode cX8_crossing 99 = .ok (.getfield 167, 3) := by decide +kernel
theorem dX8_crossing_102 : decode cX8_crossing 102 = .ok (.ireturn, 1) := by decide +kernel
theorem dX8_crossing_103 : decode cX8_crossing 103 = .ok (.iconst (-1), 1) := by decide +kernel
theorem dX8_crossing_104 : decode cX8_crossing 104 = .ok (.ireturn, 1) := by decide +kernel
theorem dX8_occupancy_0 : decode cX8_occupancy 0 = .ok (.aload_n 0, 1) := by decide +kernel
theorem dX8_occupancy_1 : decode cX8_occupancy 1 = .ok (.iload_n 1, 1) := by decide +kernel
theorem dX8_occupancy_2 : decode cX8_occupancy 2 = .ok (.invokevirtual 30, 3) := by decide +kernel
theorem dX8_occupancy_5 : decode cX8_occupancy 5 = .ok (.astore_n 3, 1) := by decide +kernel
theorem dX8_occupancy_6 : decode cX8_occupancy 6 = .ok (.aload_n 3, 1) := by decide +kernel
theorem dX8_occupancy_7 : decode cX8_occupancy 7 = .ok (.ifnull 10, 3) := by decide +kernel
theorem dX8_occupancy_10 : decode cX8_occupancy 10 = .ok (.iload_n 2, 1) := by decide +kernel
theorem dX8_occupancy_11 : decode cX8_occupancy 11 = .ok (.invokestatic 34, 3) := by decide +kernel
theorem dX8_occupancy_14 : decode cX8_occupancy 14 = .ok (.ifCond .ne 7, 3) := by decide +kernel
theorem dX8_occupancy_17 : decode cX8_occupancy 17 = .ok (.fconst 0, 1) := by decide +kernel
theorem dX8_occupancy_18 : decode cX8_occupancy 18 = .ok (.goto 12, 3) := by decide +kernel
theorem dX8_occupancy_21 : decode cX8_occupancy 21 = .ok (.aload_n 3, 1) := by decide +kernel
theorem dX8_occupancy_22 : decode cX8_occupancy 22 = .ok (.getfield 76, 3) := by decide +kernel
theorem dX8_occupancy_25 : decode cX8_occupancy 25 = .ok (.getfield 175, 3) := by decide +kernel
theorem dX8_occupancy_28 : decode cX8_occupancy 28 = .ok (.iload_n 2, 1) := by decide +kernel
theorem dX8_occupancy_29 : decode cX8_occupancy 29 = .ok (.faload, 1) := by decide +kernel
theorem dX8_occupancy_30 : decode cX8_occupancy 30 = .ok (.freturn, 1) := by decide +kernel
theorem dX8_controllerOf_0 : decode cX8_controllerOf 0 = .ok (.iload_n 1, 1) := by decide +kernel
theorem dX8_controllerOf_1 : decode cX8_controllerOf 1 = .ok (.ifCond .ne 8, 3) := by decide +kernel
theorem dX8_controllerOf_4 : decode cX8_controllerOf 4 = .ok (.aload_n 0, 1) := by decide +kernel
theorem dX8_controllerOf_5 : decode cX8_controllerOf 5 = .ok (.getfield 19, 3) := by decide +kernel
theorem dX8_controllerOf_8 : decode cX8_controllerOf 8 = .ok (.areturn, 1) := by decide +kernel
theorem dX8_controllerOf_9 : decode cX8_controllerOf 9 = .ok (.iload_n 1, 1) := by decide +kernel
theorem dX8_controllerOf_10 : decode cX8_controllerOf 10 = .ok (.iconst 1, 1) := by decide +kernel
theorem dX8_controllerOf_11 : decode cX8_controllerOf 11 = .ok (.if_icmp .ne 10, 3) := by decide +kernel
theorem dX8_controllerOf_14 : decode cX8_controllerOf 14 = .ok (.aload_n 0, 1) := by decide +kernel
theorem dX8_controllerOf_15 : decode cX8_controllerOf 15 = .ok (.getfield 23, 3) := by decide +kernel
theorem dX8_controllerOf_18 : decode cX8_controllerOf 18 = .ok (.goto 4, 3) := by decide +kernel
theorem dX8_controllerOf_21 : decode cX8_controllerOf 21 = .ok (.aconst_null, 1) := by decide +kernel
theorem dX8_controllerOf_22 : decode cX8_controllerOf 22 = .ok (.areturn, 1) := by decide +kernel
theorem dX8_isPhase_0 : decode cX8_isPhase 0 = .ok (.iload_n 0, 1) := by decide +kernel
theorem dX8_isPhase_1 : decode cX8_isPhase 1 = .ok (.ifCond .lt 13, 3) := by decide +kernel
theorem dX8_isPhase_4 : decode cX8_isPhase 4 = .ok (.iload_n 0, 1) := by decide +kernel
theorem dX8_isPhase_5 : decode cX8_isPhase 5 = .ok (.bipush 8, 2) := by decide +kernel
theorem dX8_isPhase_7 : decode cX8_isPhase 7 = .ok (.if_icmp .ge 7, 3) := by decide +kernel
theorem dX8_isPhase_10 : decode cX8_isPhase 10 = .ok (.iconst 1, 1) := by decide +kernel
theorem dX8_isPhase_11 : decode cX8_isPhase 11 = .ok (.goto 4, 3) := by decide +kernel
theorem dX8_isPhase_14 : decode cX8_isPhase 14 = .ok (.iconst 0, 1) := by decide +kernel
theorem dX8_isPhase_15 : decode cX8_isPhase 15 = .ok (.ireturn, 1) := by decide +kernel
theorem dX8_isInput_0 : decode cX8_isInput 0 = .ok (.iload_n 0, 1) := by decide +kernel
theorem dX8_isInput_1 : decode cX8_isInput 1 = .ok (.ifCond .lt 12, 3) := by decide +kernel
theorem dX8_isInput_4 : decode cX8_isInput 4 = .ok (.iload_n 0, 1) := by decide +kernel
theorem dX8_isInput_5 : decode cX8_isInput 5 = .ok (.iconst 2, 1) := by decide +kernel
theorem dX8_isInput_6 : decode cX8_isInput 6 = .ok (.if_icmp .ge 7, 3) := by decide +kernel
theorem dX8_isInput_9 : decode cX8_isInput 9 = .ok (.iconst 1, 1) := by decide +kernel
theorem dX8_isInput_10 : decode cX8_isInput 10 = .ok (.goto 4, 3) := by decide +kernel
theorem dX8_isInput_13 : decode cX8_isInput 13 = .ok (.iconst 0, 1) := by decide +kernel
theorem dX8_isInput_14 : decode cX8_isInput 14 = .ok (.ireturn, 1) := by decide +kernel
theorem dX8_ringOf_0 : decode cX8_ringOf 0 = .ok (.iload_n 0, 1) := by decide +kernel
theorem dX8_ringOf_1 : decode cX8_ringOf 1 = .ok (.iconst 4, 1) := by decide +kernel
theorem dX8_ringOf_2 : decode cX8_ringOf 2 = .ok (.if_icmp .ge 7, 3) := by decide +kernel
theorem dX8_ringOf_5 : decode cX8_ringOf 5 = .ok (.iconst 0, 1) := by decide +kernel
theorem dX8_ringOf_6 : decode cX8_ringOf 6 = .ok (.goto 4, 3) := by decide +kernel
theorem dX8_ringOf_9 : decode cX8_ringOf 9 = .ok (.iconst 1, 1) := by decide +kernel
theorem dX8_ringOf_10 : decode cX8_ringOf 10 = .ok (.ireturn, 1) := by decide +kernel
theorem dX8_sideOf_0 : decode cX8_sideOf 0 = .ok (.iload_n 0, 1) := by decide +kernel
theorem dX8_sideOf_1 : decode cX8_sideOf 1 = .ok (.iconst 2, 1) := by decide +kernel
theorem dX8_sideOf_2 : decode cX8_sideOf 2 = .ok (.idiv, 1) := by decide +kernel
theorem dX8_sideOf_3 : decode cX8_sideOf 3 = .ok (.iconst 2, 1) := by decide +kernel
theorem dX8_sideOf_4 : decode cX8_sideOf 4 = .ok (.irem, 1) := by decide +kernel
theorem dX8_sideOf_5 : decode cX8_sideOf 5 = .ok (.ireturn, 1) := by decide +kernel
theorem dX8_phasesOfSide_0 : decode cX8_phasesOfSide 0 = .ok (.iload_n 0, 1) := by decide +kernel
theorem dX8_phasesOfSide_1 : decode cX8_phasesOfSide 1 = .ok (.ifCond .ne 8, 3) := by decide +kernel
theorem dX8_phasesOfSide_4 : decode cX8_phasesOfSide 4 = .ok (.bipush 51, 2) := by decide +kernel
theorem dX8_phasesOfSide_6 : decode cX8_phasesOfSide 6 = .ok (.goto 6, 3) := by decide +kernel
theorem dX8_phasesOfSide_9 : decode cX8_phasesOfSide 9 = .ok (.sipush 204, 3) := by decide +kernel
theorem dX8_phasesOfSide_12 : decode cX8_phasesOfSide 12 = .ok (.ireturn, 1) := by decide +kernel
theorem dX8_bit_0 : decode cX8_bit 0 = .ok (.iload_n 0, 1) := by decide +kernel
theorem dX8_bit_1 : decode cX8_bit 1 = .ok (.ifCond .lt 15, 3) := by decide +kernel
theorem dX8_bit_4 : decode cX8_bit 4 = .ok (.iload_n 0, 1) := by decide +kernel
theorem dX8_bit_5 : decode cX8_bit 5 = .ok (.bipush 8, 2) := by decide +kernel
theorem dX8_bit_7 : decode cX8_bit 7 = .ok (.if_icmp .ge 9, 3) := by decide +kernel
theorem dX8_bit_10 : decode cX8_bit 10 = .ok (.iconst 1, 1) := by decide +kernel
theorem dX8_bit_11 : decode cX8_bit 11 = .ok (.iload_n 0, 1) := by decide +kernel
theorem dX8_bit_12 : decode cX8_bit 12 = .ok (.ishl, 1) := by decide +kernel
theorem dX8_bit_13 : decode cX8_bit 13 = .ok (.goto 4, 3) := by decide +kernel
theorem dX8_bit_16 : decode cX8_bit 16 = .ok (.iconst 0, 1) := by decide +kernel
theorem dX8_bit_17 : decode cX8_bit 17 = .ok (.ireturn, 1) := by decide +kernel
theorem dX8_wrap_0 : decode cX8_wrap 0 = .ok (.iload_n 1, 1) := by decide +kernel
theorem dX8_wrap_1 : decode cX8_wrap 1 = .ok (.ifCond .le 11, 3) := by decide +kernel
theorem dX8_wrap_4 : decode cX8_wrap 4 = .ok (.iload_n 0, 1) := by decide +kernel
theorem dX8_wrap_5 : decode cX8_wrap 5 = .ok (.iload_n 1, 1) := by decide +kernel
theorem dX8_wrap_6 : decode cX8_wrap 6 = .ok (.invokestatic 179, 3) := by decide +kernel
theorem dX8_wrap_9 : decode cX8_wrap 9 = .ok (.goto 4, 3) := by decide +kernel
theorem dX8_wrap_12 : decode cX8_wrap 12 = .ok (.iconst 0, 1) := by decide +kernel
theorem dX8_wrap_13 : decode cX8_wrap 13 = .ok (.ireturn, 1) := by decide +kernel
theorem dJ6_bitCount_0f7a4_0 : decode cJ6_bitCount_0f7a4 0 = .ok (.iload_n 0, 1) := by decide +kernel
theorem dJ6_bitCount_0f7a4_1 : decode cJ6_bitCount_0f7a4 1 = .ok (.iload_n 0, 1) := by decide +kernel
theorem dJ6_bitCount_0f7a4_2 : decode cJ6_bitCount_0f7a4 2 = .ok (.iconst 1, 1) := by decide +kernel
theorem dJ6_bitCount_0f7a4_3 : decode cJ6_bitCount_0f7a4 3 = .ok (.iushr, 1) := by decide +kernel
theorem dJ6_bitCount_0f7a4_4 : decode cJ6_bitCount_0f7a4 4 = .ok (.ldc_w 265, 3) := by decide +kernel
theorem dJ6_bitCount_0f7a4_7 : decode cJ6_bitCount_0f7a4 7 = .ok (.iand, 1) := by decide +kernel
theorem dJ6_bitCount_0f7a4_8 : decode cJ6_bitCount_0f7a4 8 = .ok (.isub, 1) := by decide +kernel
theorem dJ6_bitCount_0f7a4_9 : decode cJ6_bitCount_0f7a4 9 = .ok (.istore_n 0, 1) := by decide +kernel
theorem dJ6_bitCount_0f7a4_10 : decode cJ6_bitCount_0f7a4 10 = .ok (.iload_n 0, 1) := by decide +kernel
theorem dJ6_bitCount_0f7a4_11 : decode cJ6_bitCount_0f7a4 11 = .ok (.ldc_w 266, 3) := by decide +kernel
theorem dJ6_bitCount_0f7a4_14 : decode cJ6_bitCount_0f7a4 14 = .ok (.iand, 1) := by decide +kernel
theorem dJ6_bitCount_0f7a4_15 : decode cJ6_bitCount_0f7a4 15 = .ok (.iload_n 0, 1) := by decide +kernel
theorem dJ6_bitCount_0f7a4_16 : decode cJ6_bitCount_0f7a4 16 = .ok (.iconst 2, 1) := by decide +kernel
theorem dJ6_bitCount_0f7a4_17 : decode cJ6_bitCount_0f7a4 17 = .ok (.iushr, 1) := by decide +kernel
theorem dJ6_bitCount_0f7a4_18 : decode cJ6_bitCount_0f7a4 18 = .ok (.ldc_w 266, 3) := by decide +kernel
theorem dJ6_bitCount_0f7a4_21 : decode cJ6_bitCount_0f7a4 21 = .ok (.iand, 1) := by decide +kernel
theorem dJ6_bitCount_0f7a4_22 : decode cJ6_bitCount_0f7a4 22 = .ok (.iadd, 1) := by decide +kernel
theorem dJ6_bitCount_0f7a4_23 : decode cJ6_bitCount_0f7a4 23 = .ok (.istore_n 0, 1) := by decide +kernel
theorem dJ6_bitCount_0f7a4_24 : decode cJ6_bitCount_0f7a4 24 = .ok (.iload_n 0, 1) := by decide +kernel
theorem dJ6_bitCount_0f7a4_25 : decode cJ6_bitCount_0f7a4 25 = .ok (.iload_n 0, 1) := by decide +kernel
theorem dJ6_bitCount_0f7a4_26 : decode cJ6_bitCount_0f7a4 26 = .ok (.iconst 4, 1) := by decide +kernel
theorem dJ6_bitCount_0f7a4_27 : decode cJ6_bitCount_0f7a4 27 = .ok (.iushr, 1) := by decide +kernel
theorem dJ6_bitCount_0f7a4_28 : decode cJ6_bitCount_0f7a4 28 = .ok (.iadd, 1) := by decide +kernel
theorem dJ6_bitCount_0f7a4_29 : decode cJ6_bitCount_0f7a4 29 = .ok (.ldc_w 267, 3) := by decide +kernel
theorem dJ6_bitCount_0f7a4_32 : decode cJ6_bitCount_0f7a4 32 = .ok (.iand, 1) := by decide +kernel
theorem dJ6_bitCount_0f7a4_33 : decode cJ6_bitCount_0f7a4 33 = .ok (.istore_n 0, 1) := by decide +kernel
theorem dJ6_bitCount_0f7a4_34 : decode cJ6_bitCount_0f7a4 34 = .ok (.iload_n 0, 1) := by decide +kernel
theorem dJ6_bitCount_0f7a4_35 : decode cJ6_bitCount_0f7a4 35 = .ok (.iload_n 0, 1) := by decide +kernel
theorem dJ6_bitCount_0f7a4_36 : decode cJ6_bitCount_0f7a4 36 = .ok (.bipush 8, 2) := by decide +kernel
theorem dJ6_bitCount_0f7a4_38 : decode cJ6_bitCount_0f7a4 38 = .ok (.iushr, 1) := by decide +kernel
theorem dJ6_bitCount_0f7a4_39 : decode cJ6_bitCount_0f7a4 39 = .ok (.iadd, 1) := by decide +kernel
theorem dJ6_bitCount_0f7a4_40 : decode cJ6_bitCount_0f7a4 40 = .ok (.istore_n 0, 1) := by decide +kernel
theorem dJ6_bitCount_0f7a4_41 : decode cJ6_bitCount_0f7a4 41 = .ok (.iload_n 0, 1) := by decide +kernel
theorem dJ6_bitCount_0f7a4_42 : decode cJ6_bitCount_0f7a4 42 = .ok (.iload_n 0, 1) := by decide +kernel
theorem dJ6_bitCount_0f7a4_43 : decode cJ6_bitCount_0f7a4 43 = .ok (.bipush 16, 2) := by decide +kernel
theorem dJ6_bitCount_0f7a4_45 : decode cJ6_bitCount_0f7a4 45 = .ok (.iushr, 1) := by decide +kernel
theorem dJ6_bitCount_0f7a4_46 : decode cJ6_bitCount_0f7a4 46 = .ok (.iadd, 1) := by decide +kernel
theorem dJ6_bitCount_0f7a4_47 : decode cJ6_bitCount_0f7a4 47 = .ok (.istore_n 0, 1) := by decide +kernel
theorem dJ6_bitCount_0f7a4_48 : decode cJ6_bitCount_0f7a4 48 = .ok (.iload_n 0, 1) := by decide +kernel
theorem dJ6_bitCount_0f7a4_49 : decode cJ6_bitCount_0f7a4 49 = .ok (.bipush 63, 2) := by decide +kernel
theorem dJ6_bitCount_0f7a4_51 : decode cJ6_bitCount_0f7a4 51 = .ok (.iand, 1) := by decide +kernel
theorem dJ6_bitCount_0f7a4_52 : decode cJ6_bitCount_0f7a4 52 = .ok (.ireturn, 1) := by decide +kernel
theorem dJ9_floorMod_7cf53_0 : decode cJ9_floorMod_7cf53 0 = .ok (.iload_n 0, 1) := by decide +kernel
theorem dJ9_floorMod_7cf53_1 : decode cJ9_floorMod_7cf53 1 = .ok (.iload_n 1, 1) := by decide +kernel
theorem dJ9_floorMod_7cf53_2 : decode cJ9_floorMod_7cf53 2 = .ok (.irem, 1) := by decide +kernel
theorem dJ9_floorMod_7cf53_3 : decode cJ9_floorMod_7cf53 3 = .ok (.istore_n 2, 1) := by decide +kernel
theorem dJ9_floorMod_7cf53_4 : decode cJ9_floorMod_7cf53 4 = .ok (.iload_n 0, 1) := by decide +kernel
theorem dJ9_floorMod_7cf53_5 : decode cJ9_floorMod_7cf53 5 = .ok (.iload_n 1, 1) := by decide +kernel
theorem dJ9_floorMod_7cf53_6 : decode cJ9_floorMod_7cf53 6 = .ok (.ixor, 1) := by decide +kernel
theorem dJ9_floorMod_7cf53_7 : decode cJ9_floorMod_7cf53 7 = .ok (.ifCond .ge 11, 3) := by decide +kernel
theorem dJ9_floorMod_7cf53_10 : decode cJ9_floorMod_7cf53 10 = .ok (.iload_n 2, 1) := by decide +kernel
theorem dJ9_floorMod_7cf53_11 : decode cJ9_floorMod_7cf53 11 = .ok (.ifCond .eq 7, 3) := by decide +kernel
theorem dJ9_floorMod_7cf53_14 : decode cJ9_floorMod_7cf53 14 = .ok (.iload_n 2, 1) := by decide +kernel
theorem dJ9_floorMod_7cf53_15 : decode cJ9_floorMod_7cf53 15 = .ok (.iload_n 1, 1) := by decide +kernel
theorem dJ9_floorMod_7cf53_16 : decode cJ9_floorMod_7cf53 16 = .ok (.iadd, 1) := by decide +kernel
theorem dJ9_floorMod_7cf53_17 : decode cJ9_floorMod_7cf53 17 = .ok (.ireturn, 1) := by decide +kernel
theorem dJ9_floorMod_7cf53_18 : decode cJ9_floorMod_7cf53 18 = .ok (.iload_n 2, 1) := by decide +kernel
theorem dJ9_floorMod_7cf53_19 : decode cJ9_floorMod_7cf53 19 = .ok (.ireturn, 1) := by decide +kernel
theorem dJ9_min_7cf53_0 : decode cJ9_min_7cf53 0 = .ok (.iload_n 0, 1) := by decide +kernel
theorem dJ9_min_7cf53_1 : decode cJ9_min_7cf53 1 = .ok (.iload_n 1, 1) := by decide +kernel
theorem dJ9_min_7cf53_2 : decode cJ9_min_7cf53 2 = .ok (.if_icmp .gt 7, 3) := by decide +kernel
theorem dJ9_min_7cf53_5 : decode cJ9_min_7cf53 5 = .ok (.iload_n 0, 1) := by decide +kernel
theorem dJ9_min_7cf53_6 : decode cJ9_min_7cf53 6 = .ok (.goto 4, 3) := by decide +kernel
theorem dJ9_min_7cf53_9 : decode cJ9_min_7cf53 9 = .ok (.iload_n 1, 1) := by decide +kernel
theorem dJ9_min_7cf53_10 : decode cJ9_min_7cf53 10 = .ok (.ireturn, 1) := by decide +kernel
end
section
/-! THE J LAYER. A memory is Nat → Nat → Int32 (cell, slot); a world w makes the cells out of it. jW E G K pc lv st: the machine stands at pc, with locals lv, stack st, memory K, and comes to the end that G asks for. Every row that may fail on the machine (an index, a divisor, a boolean field) takes 'hf', an equation of the method's pure function, which says that it doesn't. -/
abbrev Mem : Type := Nat → Nat → Int32
def ks (K : Mem) (i k : Nat) (v : Int32) : Mem := fun a b => if a = i then (if b = k then v else K a b) else K a b
/-- a store, then the rest -/
abbrev st {α : Type} (K : Mem) (i k : Nat) (v : Int32) (f : Mem → α) : α := f (ks K i k v)
/-- a named value, then the rest -/
abbrev lt {α β : Type} (v : β) (f : β → α) : α := f v
def inb (x : Int32) (n : Nat) : Bool := decide (¬ x < 0) && decide (x.toNatClampNeg < n)
theorem inb_in {x : Int32} {n : Nat} (h : inb x n = true) : vp_in x n := by
  simp only [inb, Bool.and_eq_true, decide_eq_true_eq] at h
  exact fun q => q.elim h.1 (fun q => Nat.not_lt.mpr q h.2)
abbrev ix (x : Int32) : Nat := x.toNatClampNeg
def bb (v : Int32) : Bool := decide (v = 0) || decide (v = 1)
theorem bb_nar {v : Int32} (h : bb v = true) : narrow .boolean (.int v) = .int v := by
  simp only [bb, Bool.or_eq_true, decide_eq_true_eq] at h
  rcases h with rfl | rfl <;> rfl
theorem bb_fit {v : Int32} (h : bb v = true) : fits .boolean (.int v) = true := by
  simp only [bb, Bool.or_eq_true, decide_eq_true_eq] at h
  rcases h with rfl | rfl <;> rfl
def jrem (x y : Int32) : Int32 := x - x / y * y
def jshl (x y : Int32) : Int32 := x <<< (y &&& 31)
def jushr (x y : Int32) : Int32 := (x.toUInt32 >>> (y.toUInt32 &&& Int32.toUInt32 31)).toInt32
def js16 (x : Int32) : Int32 := x.toInt16.toInt32
def nn (r : UInt32) : Bool := decide (r &&& 0x7fffffff ≤ 0x7f800000)
theorem nn_n {r : UInt32} (h : nn r = true) : vf_n32 r := by
  simp only [nn, decide_eq_true_eq] at h
  exact h
theorem bd {α β : Type} {X : Option α} {f : α → Option β} {u : β} (h : X.bind f = some u) : ∃ v, X = some v ∧ f v = some u := by
  cases X with
  | none => cases h
  | some v => exact ⟨v, rfl, h⟩
theorem cP {D : va_G} {cl : List vw_C} {a b : va_W} {H : Heap} (e : a = b) (h : va_P D cl a H) : va_P D cl b H := by rw [← e]; exact h
theorem cD {A : Nat → Prop} {a b : va_W} (e : a = b) (h : va_D A a) : va_D A b := by rw [← e]; exact h
abbrev jE : Type := Launch × va_G × (Mem → va_W) × (Nat → Nat → Prop) × List (ClassId × FieldType) × (State → Prop)
abbrev jG : Type := Program × Env × Room × State × MethodId × Array Value × List Frame × Method × Code × Nat × (State → Prop)
def jW : jE → jG → Mem → Nat → List (Nat × Value) → List Value → Prop
  | (l, D, w, AA, _, _), (p, e, R, s, m, args, below, meth, c, nL, Q), K, pc, lv, stk => ∀ (H : Heap) (locs : List Loc) (ls : Array Slot), va_P D vwCl (w K) H → va_D (AA s.heap.size) (w K) → va_S (AA s.heap.size) s.heap H locs → lv_has ls nL lv → W p l e R s m args below meth c H locs 0 0 Q (F0 m pc ls stk)
/-- what the world must be: what may be written; apartness is of the addresses alone; the nest words stay -/
def jOK : jE → Prop
  | (_, _, w, AA, _, NW) => (∀ sz q, sz ≤ q → AA sz q) ∧ (∀ sz sz' q, sz ≤ sz' → AA sz' q → AA sz q) ∧ (∀ X K K' sz, va_D X (w K) → va_D (AA sz) (w K')) ∧ (∀ s U : State, s.WarmedH U.vm → NW s → NW U) ∧ ∀ U U' : State, U'.vm = U.vm → NW U → NW U'
def jC : jE → jG → ByteArray → String → List Cond → Room → Nat → Prop
  | (l, D, w, AA, tys, NW), (p, _, R, s, m, args, _, _, c, nL, _), cc, own, Ts, rm, n0 => CallFix p m c cc nL s args Ts own ∧ va_K D vwCl tys s ∧ NW s ∧ R = rm ∧ nL = n0 ∧ jOK (l, D, w, AA, tys, NW)
section JR
variable {E : jE} {G : jG} {cc : ByteArray} {own : String} {Ts : List Cond} {rm : Room} {n0 : Nat} {K : Mem} {pc : Nat} {lv : List (Nat × Value)} {stk : List Value}
theorem j_iconst (C : jC E G cc own Ts rm n0) {n : Int} {v : Int32} (hd : decode cc pc = .ok (.iconst n, 1)) (hv : Int32.ofInt n = v) (k : jW E G K (pc + 1) lv (.int v :: stk)) : jW E G K (pc) lv (stk) := by
  obtain ⟨l, D, w, AA, tys, NW⟩ := E
  obtain ⟨p, e, R, s, m, args, below, meth, c, nL, Q⟩ := G
  obtain ⟨⟨hx, hb, hml, hown, hts⟩, hK, hN, hR, hn0, hO⟩ := C
  intro H locs ls hP hD hS hl
  exact lv_iconst hx hb hd hv (k H locs ls hP hD hS hl)
theorem j_bipush (C : jC E G cc own Ts rm n0) {n : Int} {v : Int32} (hd : decode cc pc = .ok (.bipush n, 2)) (hv : (Int8.ofInt n).toInt32 = v) (k : jW E G K (pc + 2) lv (.int v :: stk)) : jW E G K (pc) lv (stk) := by
  obtain ⟨l, D, w, AA, tys, NW⟩ := E
  obtain ⟨p, e, R, s, m, args, below, meth, c, nL, Q⟩ := G
  obtain ⟨⟨hx, hb, hml, hown, hts⟩, hK, hN, hR, hn0, hO⟩ := C
  intro H locs ls hP hD hS hl
  exact lv_bipush hx hb hd hv (k H locs ls hP hD hS hl)
theorem j_sipush (C : jC E G cc own Ts rm n0) {n : Int} {v : Int32} (hd : decode cc pc = .ok (.sipush n, 3)) (hv : (Int16.ofInt n).toInt32 = v) (k : jW E G K (pc + 3) lv (.int v :: stk)) : jW E G K (pc) lv (stk) := by
  obtain ⟨l, D, w, AA, tys, NW⟩ := E
  obtain ⟨p, e, R, s, m, args, below, meth, c, nL, Q⟩ := G
  obtain ⟨⟨hx, hb, hml, hown, hts⟩, hK, hN, hR, hn0, hO⟩ := C
  intro H locs ls hP hD hS hl
  exact lv_sipush hx hb hd hv (k H locs ls hP hD hS hl)
theorem j_iload_n (C : jC E G cc own Ts rm n0) {i0 : Fin 4} {i : Nat} {x : Int32} (j : Nat) (hd : decode cc pc = .ok (.iload_n i0, 1)) (hi : (i0 : Nat) = i) (hj : lv[j]? = some (i, .int x)) (k : jW E G K (pc + 1) lv (.int x :: stk)) : jW E G K (pc) lv (stk) := by
  obtain ⟨l, D, w, AA, tys, NW⟩ := E
  obtain ⟨p, e, R, s, m, args, below, meth, c, nL, Q⟩ := G
  obtain ⟨⟨hx, hb, hml, hown, hts⟩, hK, hN, hR, hn0, hO⟩ := C
  intro H locs ls hP hD hS hl
  exact lv_iload_n hx hb hd hi (lv_at hl j hj) (k H locs ls hP hD hS hl)
theorem j_iload (C : jC E G cc own Ts rm n0) {i : Nat} {x : Int32} (j : Nat) (hd : decode cc pc = .ok (.iload i, 2)) (hj : lv[j]? = some (i, .int x)) (k : jW E G K (pc + 2) lv (.int x :: stk)) : jW E G K (pc) lv (stk) := by
  obtain ⟨l, D, w, AA, tys, NW⟩ := E
  obtain ⟨p, e, R, s, m, args, below, meth, c, nL, Q⟩ := G
  obtain ⟨⟨hx, hb, hml, hown, hts⟩, hK, hN, hR, hn0, hO⟩ := C
  intro H locs ls hP hD hS hl
  exact lv_iload hx hb hd (lv_at hl j hj) (k H locs ls hP hD hS hl)
theorem j_aload_n (C : jC E G cc own Ts rm n0) {i0 : Fin 4} {i : Nat} {x : Nat} (j : Nat) (hd : decode cc pc = .ok (.aload_n i0, 1)) (hi : (i0 : Nat) = i) (hj : lv[j]? = some (i, .ref x)) (k : jW E G K (pc + 1) lv (.ref x :: stk)) : jW E G K (pc) lv (stk) := by
  obtain ⟨l, D, w, AA, tys, NW⟩ := E
  obtain ⟨p, e, R, s, m, args, below, meth, c, nL, Q⟩ := G
  obtain ⟨⟨hx, hb, hml, hown, hts⟩, hK, hN, hR, hn0, hO⟩ := C
  intro H locs ls hP hD hS hl
  exact lv_aload_n hx hb hd hi (lv_at hl j hj) (k H locs ls hP hD hS hl)
theorem j_aload (C : jC E G cc own Ts rm n0) {i : Nat} {x : Nat} (j : Nat) (hd : decode cc pc = .ok (.aload i, 2)) (hj : lv[j]? = some (i, .ref x)) (k : jW E G K (pc + 2) lv (.ref x :: stk)) : jW E G K (pc) lv (stk) := by
  obtain ⟨l, D, w, AA, tys, NW⟩ := E
  obtain ⟨p, e, R, s, m, args, below, meth, c, nL, Q⟩ := G
  obtain ⟨⟨hx, hb, hml, hown, hts⟩, hK, hN, hR, hn0, hO⟩ := C
  intro H locs ls hP hD hS hl
  exact lv_aload hx hb hd (lv_at hl j hj) (k H locs ls hP hD hS hl)
theorem j_fload_n (C : jC E G cc own Ts rm n0) {i0 : Fin 4} {i : Nat} {x : UInt32} (j : Nat) (hd : decode cc pc = .ok (.fload_n i0, 1)) (hi : (i0 : Nat) = i) (hj : lv[j]? = some (i, .float x)) (k : jW E G K (pc + 1) lv (.float x :: stk)) : jW E G K (pc) lv (stk) := by
  obtain ⟨l, D, w, AA, tys, NW⟩ := E
  obtain ⟨p, e, R, s, m, args, below, meth, c, nL, Q⟩ := G
  obtain ⟨⟨hx, hb, hml, hown, hts⟩, hK, hN, hR, hn0, hO⟩ := C
  intro H locs ls hP hD hS hl
  exact lv_fload_n hx hb hd hi (lv_at hl j hj) (k H locs ls hP hD hS hl)
theorem j_istore_n (C : jC E G cc own Ts rm n0) {α : Type} {f : Int32 → Option α} {u : α} {i0 : Fin 4} {i : Nat} {x : Int32} (lv2 : Int32 → List (Nat × Value)) (hd : decode cc pc = .ok (.istore_n i0, 1)) (hi : (i0 : Nat) = i) (hn : i < n0) (hl2 : ∀ y, (i, Value.int y) :: lv.filter (fun q => !(q.1 == i) && !(q.1 + 1 == i && q.2.category == 2)) = lv2 y) (hf : lt x f = some u) (k : ∀ y, f y = some u → jW E G K (pc + 1) (lv2 y) (stk)) : jW E G K (pc) lv (.int x :: stk) := by
  obtain ⟨l, D, w, AA, tys, NW⟩ := E
  obtain ⟨p, e, R, s, m, args, below, meth, c, nL, Q⟩ := G
  obtain ⟨⟨hx, hb, hml, hown, hts⟩, hK, hN, hR, hn0, hO⟩ := C
  intro H locs ls hP hD hS hl
  exact lv_istore_n hx hb hd hi hl (by rw [hn0]; exact hn) (hl2 x) (fun ls' hl' => k x hf H locs ls' hP hD hS hl')
theorem j_istore (C : jC E G cc own Ts rm n0) {α : Type} {f : Int32 → Option α} {u : α} {i : Nat} {x : Int32} (lv2 : Int32 → List (Nat × Value)) (hd : decode cc pc = .ok (.istore i, 2)) (hn : i < n0) (hl2 : ∀ y, (i, Value.int y) :: lv.filter (fun q => !(q.1 == i) && !(q.1 + 1 == i && q.2.category == 2)) = lv2 y) (hf : lt x f = some u) (k : ∀ y, f y = some u → jW E G K (pc + 2) (lv2 y) (stk)) : jW E G K (pc) lv (.int x :: stk) := by
  obtain ⟨l, D, w, AA, tys, NW⟩ := E
  obtain ⟨p, e, R, s, m, args, below, meth, c, nL, Q⟩ := G
  obtain ⟨⟨hx, hb, hml, hown, hts⟩, hK, hN, hR, hn0, hO⟩ := C
  intro H locs ls hP hD hS hl
  exact lv_istore hx hb hd hl (by rw [hn0]; exact hn) (hl2 x) (fun ls' hl' => k x hf H locs ls' hP hD hS hl')
theorem j_fstore_n (C : jC E G cc own Ts rm n0) {α : Type} {f : UInt32 → Option α} {u : α} {i0 : Fin 4} {i : Nat} {x : UInt32} (lv2 : UInt32 → List (Nat × Value)) (hd : decode cc pc = .ok (.fstore_n i0, 1)) (hi : (i0 : Nat) = i) (hn : i < n0) (hl2 : ∀ y, (i, Value.float y) :: lv.filter (fun q => !(q.1 == i) && !(q.1 + 1 == i && q.2.category == 2)) = lv2 y) (hf : lt x f = some u) (k : ∀ y, f y = some u → jW E G K (pc + 1) (lv2 y) (stk)) : jW E G K (pc) lv (.float x :: stk) := by
  obtain ⟨l, D, w, AA, tys, NW⟩ := E
  obtain ⟨p, e, R, s, m, args, below, meth, c, nL, Q⟩ := G
  obtain ⟨⟨hx, hb, hml, hown, hts⟩, hK, hN, hR, hn0, hO⟩ := C
  intro H locs ls hP hD hS hl
  exact lv_fstore_n hx hb hd hi hl (by rw [hn0]; exact hn) (hl2 x) (fun ls' hl' => k x hf H locs ls' hP hD hS hl')
theorem j_fstore (C : jC E G cc own Ts rm n0) {α : Type} {f : UInt32 → Option α} {u : α} {i : Nat} {x : UInt32} (lv2 : UInt32 → List (Nat × Value)) (hd : decode cc pc = .ok (.fstore i, 2)) (hn : i < n0) (hl2 : ∀ y, (i, Value.float y) :: lv.filter (fun q => !(q.1 == i) && !(q.1 + 1 == i && q.2.category == 2)) = lv2 y) (hf : lt x f = some u) (k : ∀ y, f y = some u → jW E G K (pc + 2) (lv2 y) (stk)) : jW E G K (pc) lv (.float x :: stk) := by
  obtain ⟨l, D, w, AA, tys, NW⟩ := E
  obtain ⟨p, e, R, s, m, args, below, meth, c, nL, Q⟩ := G
  obtain ⟨⟨hx, hb, hml, hown, hts⟩, hK, hN, hR, hn0, hO⟩ := C
  intro H locs ls hP hD hS hl
  exact lv_fstore hx hb hd hl (by rw [hn0]; exact hn) (hl2 x) (fun ls' hl' => k x hf H locs ls' hP hD hS hl')
theorem j_astore_n (C : jC E G cc own Ts rm n0) {i0 : Fin 4} {i x : Nat} (lv2 : List (Nat × Value)) (hd : decode cc pc = .ok (.astore_n i0, 1)) (hi : (i0 : Nat) = i) (hn : i < n0) (hl2 : (i, Value.ref x) :: lv.filter (fun q => !(q.1 == i) && !(q.1 + 1 == i && q.2.category == 2)) = lv2) (k : jW E G K (pc + 1) lv2 (stk)) : jW E G K (pc) lv (.ref x :: stk) := by
  obtain ⟨l, D, w, AA, tys, NW⟩ := E
  obtain ⟨p, e, R, s, m, args, below, meth, c, nL, Q⟩ := G
  obtain ⟨⟨hx, hb, hml, hown, hts⟩, hK, hN, hR, hn0, hO⟩ := C
  intro H locs ls hP hD hS hl
  exact lv_astore_n hx hb hd hi hl (by rw [hn0]; exact hn) hl2 (fun ls' hl' => k H locs ls' hP hD hS hl')
theorem j_astore (C : jC E G cc own Ts rm n0) {i x : Nat} (lv2 : List (Nat × Value)) (hd : decode cc pc = .ok (.astore i, 2)) (hn : i < n0) (hl2 : (i, Value.ref x) :: lv.filter (fun q => !(q.1 == i) && !(q.1 + 1 == i && q.2.category == 2)) = lv2) (k : jW E G K (pc + 2) lv2 (stk)) : jW E G K (pc) lv (.ref x :: stk) := by
  obtain ⟨l, D, w, AA, tys, NW⟩ := E
  obtain ⟨p, e, R, s, m, args, below, meth, c, nL, Q⟩ := G
  obtain ⟨⟨hx, hb, hml, hown, hts⟩, hK, hN, hR, hn0, hO⟩ := C
  intro H locs ls hP hD hS hl
  exact lv_astore hx hb hd hl (by rw [hn0]; exact hn) hl2 (fun ls' hl' => k H locs ls' hP hD hS hl')
theorem j_astore_nN (C : jC E G cc own Ts rm n0) {i0 : Fin 4} {i : Nat} (lv2 : List (Nat × Value)) (hd : decode cc pc = .ok (.astore_n i0, 1)) (hi : (i0 : Nat) = i) (hn : i < n0) (hl2 : (i, Value.null) :: lv.filter (fun q => !(q.1 == i) && !(q.1 + 1 == i && q.2.category == 2)) = lv2) (k : jW E G K (pc + 1) lv2 (stk)) : jW E G K (pc) lv (.null :: stk) := by
  obtain ⟨l, D, w, AA, tys, NW⟩ := E
  obtain ⟨p, e, R, s, m, args, below, meth, c, nL, Q⟩ := G
  obtain ⟨⟨hx, hb, hml, hown, hts⟩, hK, hN, hR, hn0, hO⟩ := C
  intro H locs ls hP hD hS hl
  exact lv_astore_nN hx hb hd hi hl (by rw [hn0]; exact hn) hl2 (fun ls' hl' => k H locs ls' hP hD hS hl')
theorem j_astoreN (C : jC E G cc own Ts rm n0) {i : Nat} (lv2 : List (Nat × Value)) (hd : decode cc pc = .ok (.astore i, 2)) (hn : i < n0) (hl2 : (i, Value.null) :: lv.filter (fun q => !(q.1 == i) && !(q.1 + 1 == i && q.2.category == 2)) = lv2) (k : jW E G K (pc + 2) lv2 (stk)) : jW E G K (pc) lv (.null :: stk) := by
  obtain ⟨l, D, w, AA, tys, NW⟩ := E
  obtain ⟨p, e, R, s, m, args, below, meth, c, nL, Q⟩ := G
  obtain ⟨⟨hx, hb, hml, hown, hts⟩, hK, hN, hR, hn0, hO⟩ := C
  intro H locs ls hP hD hS hl
  exact lv_astoreN hx hb hd hl (by rw [hn0]; exact hn) hl2 (fun ls' hl' => k H locs ls' hP hD hS hl')
theorem j_aload_nN (C : jC E G cc own Ts rm n0) {i0 : Fin 4} {i : Nat} (j : Nat) (hd : decode cc pc = .ok (.aload_n i0, 1)) (hi : (i0 : Nat) = i) (hj : lv[j]? = some (i, .null)) (k : jW E G K (pc + 1) lv (.null :: stk)) : jW E G K (pc) lv (stk) := by
  obtain ⟨l, D, w, AA, tys, NW⟩ := E
  obtain ⟨p, e, R, s, m, args, below, meth, c, nL, Q⟩ := G
  obtain ⟨⟨hx, hb, hml, hown, hts⟩, hK, hN, hR, hn0, hO⟩ := C
  intro H locs ls hP hD hS hl
  exact lv_aload_nN hx hb hd hi (lv_at hl j hj) (k H locs ls hP hD hS hl)
theorem j_aloadN (C : jC E G cc own Ts rm n0) {i : Nat} (j : Nat) (hd : decode cc pc = .ok (.aload i, 2)) (hj : lv[j]? = some (i, .null)) (k : jW E G K (pc + 2) lv (.null :: stk)) : jW E G K (pc) lv (stk) := by
  obtain ⟨l, D, w, AA, tys, NW⟩ := E
  obtain ⟨p, e, R, s, m, args, below, meth, c, nL, Q⟩ := G
  obtain ⟨⟨hx, hb, hml, hown, hts⟩, hK, hN, hR, hn0, hO⟩ := C
  intro H locs ls hP hD hS hl
  exact lv_aloadN hx hb hd (lv_at hl j hj) (k H locs ls hP hD hS hl)
theorem j_iinc (C : jC E G cc own Ts rm n0) {α : Type} {f : Int32 → Option α} {u : α} {i : Nat} {n : Int} {x v : Int32} (j : Nat) (lv2 : Int32 → List (Nat × Value)) (hd : decode cc pc = .ok (.iinc i n, 3)) (hj : lv[j]? = some (i, .int x)) (hv : x + Int32.ofInt n = v) (hn : i < n0) (hl2 : ∀ y, (i, Value.int y) :: lv.filter (fun q => !(q.1 == i) && !(q.1 + 1 == i && q.2.category == 2)) = lv2 y) (hf : lt v f = some u) (k : ∀ y, f y = some u → jW E G K (pc + 3) (lv2 y) (stk)) : jW E G K (pc) lv (stk) := by
  obtain ⟨l, D, w, AA, tys, NW⟩ := E
  obtain ⟨p, e, R, s, m, args, below, meth, c, nL, Q⟩ := G
  obtain ⟨⟨hx, hb, hml, hown, hts⟩, hK, hN, hR, hn0, hO⟩ := C
  intro H locs ls hP hD hS hl
  exact lv_iinc hx hb hd hl hj hv (by rw [hn0]; exact hn) (hl2 v) (fun ls' hl' => k v hf H locs ls' hP hD hS hl')
theorem j_iadd (C : jC E G cc own Ts rm n0) {x y : Int32} (hd : decode cc pc = .ok (.iadd, 1)) (k : jW E G K (pc + 1) lv (.int (x + y) :: stk)) : jW E G K (pc) lv (.int y :: .int x :: stk) := by
  obtain ⟨l, D, w, AA, tys, NW⟩ := E
  obtain ⟨p, e, R, s, m, args, below, meth, c, nL, Q⟩ := G
  obtain ⟨⟨hx, hb, hml, hown, hts⟩, hK, hN, hR, hn0, hO⟩ := C
  intro H locs ls hP hD hS hl
  exact lv_iadd hx hb hd (k H locs ls hP hD hS hl)
theorem j_isub (C : jC E G cc own Ts rm n0) {x y : Int32} (hd : decode cc pc = .ok (.isub, 1)) (k : jW E G K (pc + 1) lv (.int (x - y) :: stk)) : jW E G K (pc) lv (.int y :: .int x :: stk) := by
  obtain ⟨l, D, w, AA, tys, NW⟩ := E
  obtain ⟨p, e, R, s, m, args, below, meth, c, nL, Q⟩ := G
  obtain ⟨⟨hx, hb, hml, hown, hts⟩, hK, hN, hR, hn0, hO⟩ := C
  intro H locs ls hP hD hS hl
  exact lv_isub hx hb hd (k H locs ls hP hD hS hl)
theorem j_imul (C : jC E G cc own Ts rm n0) {x y : Int32} (hd : decode cc pc = .ok (.imul, 1)) (k : jW E G K (pc + 1) lv (.int (x * y) :: stk)) : jW E G K (pc) lv (.int y :: .int x :: stk) := by
  obtain ⟨l, D, w, AA, tys, NW⟩ := E
  obtain ⟨p, e, R, s, m, args, below, meth, c, nL, Q⟩ := G
  obtain ⟨⟨hx, hb, hml, hown, hts⟩, hK, hN, hR, hn0, hO⟩ := C
  intro H locs ls hP hD hS hl
  exact lv_imul hx hb hd (k H locs ls hP hD hS hl)
theorem j_iand (C : jC E G cc own Ts rm n0) {x y : Int32} (hd : decode cc pc = .ok (.iand, 1)) (k : jW E G K (pc + 1) lv (.int (x &&& y) :: stk)) : jW E G K (pc) lv (.int y :: .int x :: stk) := by
  obtain ⟨l, D, w, AA, tys, NW⟩ := E
  obtain ⟨p, e, R, s, m, args, below, meth, c, nL, Q⟩ := G
  obtain ⟨⟨hx, hb, hml, hown, hts⟩, hK, hN, hR, hn0, hO⟩ := C
  intro H locs ls hP hD hS hl
  exact lv_iand hx hb hd (k H locs ls hP hD hS hl)
theorem j_ior (C : jC E G cc own Ts rm n0) {x y : Int32} (hd : decode cc pc = .ok (.ior, 1)) (k : jW E G K (pc + 1) lv (.int (x ||| y) :: stk)) : jW E G K (pc) lv (.int y :: .int x :: stk) := by
  obtain ⟨l, D, w, AA, tys, NW⟩ := E
  obtain ⟨p, e, R, s, m, args, below, meth, c, nL, Q⟩ := G
  obtain ⟨⟨hx, hb, hml, hown, hts⟩, hK, hN, hR, hn0, hO⟩ := C
  intro H locs ls hP hD hS hl
  exact lv_ior hx hb hd (k H locs ls hP hD hS hl)
theorem j_ixor (C : jC E G cc own Ts rm n0) {x y : Int32} (hd : decode cc pc = .ok (.ixor, 1)) (k : jW E G K (pc + 1) lv (.int (x ^^^ y) :: stk)) : jW E G K (pc) lv (.int y :: .int x :: stk) := by
  obtain ⟨l, D, w, AA, tys, NW⟩ := E
  obtain ⟨p, e, R, s, m, args, below, meth, c, nL, Q⟩ := G
  obtain ⟨⟨hx, hb, hml, hown, hts⟩, hK, hN, hR, hn0, hO⟩ := C
  intro H locs ls hP hD hS hl
  exact lv_ixor hx hb hd (k H locs ls hP hD hS hl)
theorem j_ishl (C : jC E G cc own Ts rm n0) {x y : Int32} (hd : decode cc pc = .ok (.ishl, 1)) (k : jW E G K (pc + 1) lv (.int (jshl x y) :: stk)) : jW E G K (pc) lv (.int y :: .int x :: stk) := by
  obtain ⟨l, D, w, AA, tys, NW⟩ := E
  obtain ⟨p, e, R, s, m, args, below, meth, c, nL, Q⟩ := G
  obtain ⟨⟨hx, hb, hml, hown, hts⟩, hK, hN, hR, hn0, hO⟩ := C
  intro H locs ls hP hD hS hl
  exact lv_ishl hx hb hd (k H locs ls hP hD hS hl)
theorem j_iushr (C : jC E G cc own Ts rm n0) {x y : Int32} (hd : decode cc pc = .ok (.iushr, 1)) (k : jW E G K (pc + 1) lv (.int (jushr x y) :: stk)) : jW E G K (pc) lv (.int y :: .int x :: stk) := by
  obtain ⟨l, D, w, AA, tys, NW⟩ := E
  obtain ⟨p, e, R, s, m, args, below, meth, c, nL, Q⟩ := G
  obtain ⟨⟨hx, hb, hml, hown, hts⟩, hK, hN, hR, hn0, hO⟩ := C
  intro H locs ls hP hD hS hl
  exact lv_iushr hx hb hd rfl (k H locs ls hP hD hS hl)
theorem j_i2s (C : jC E G cc own Ts rm n0) {x : Int32} (hd : decode cc pc = .ok (.i2s, 1)) (k : jW E G K (pc + 1) lv (.int (js16 x) :: stk)) : jW E G K (pc) lv (.int x :: stk) := by
  obtain ⟨l, D, w, AA, tys, NW⟩ := E
  obtain ⟨p, e, R, s, m, args, below, meth, c, nL, Q⟩ := G
  obtain ⟨⟨hx, hb, hml, hown, hts⟩, hK, hN, hR, hn0, hO⟩ := C
  intro H locs ls hP hD hS hl
  exact lv_i2s hx hb hd rfl (k H locs ls hP hD hS hl)
theorem j_irem (C : jC E G cc own Ts rm n0) {x y : Int32} (hd : decode cc pc = .ok (.irem, 1)) (hne : ¬ y = 0) (k : jW E G K (pc + 1) lv (.int (jrem x y) :: stk)) : jW E G K (pc) lv (.int y :: .int x :: stk) := by
  obtain ⟨l, D, w, AA, tys, NW⟩ := E
  obtain ⟨p, e, R, s, m, args, below, meth, c, nL, Q⟩ := G
  obtain ⟨⟨hx, hb, hml, hown, hts⟩, hK, hN, hR, hn0, hO⟩ := C
  intro H locs ls hP hD hS hl
  exact lv_irem hx hb hd hne (k H locs ls hP hD hS hl)
theorem j_idiv (C : jC E G cc own Ts rm n0) {x y : Int32} (hd : decode cc pc = .ok (.idiv, 1)) (hne : ¬ y = 0) (k : jW E G K (pc + 1) lv (.int (x / y) :: stk)) : jW E G K (pc) lv (.int y :: .int x :: stk) := by
  obtain ⟨l, D, w, AA, tys, NW⟩ := E
  obtain ⟨p, e, R, s, m, args, below, meth, c, nL, Q⟩ := G
  obtain ⟨⟨hx, hb, hml, hown, hts⟩, hK, hN, hR, hn0, hO⟩ := C
  intro H locs ls hP hD hS hl
  exact lv_idiv hx hb hd hne (k H locs ls hP hD hS hl)
theorem j_irem_f (C : jC E G cc own Ts rm n0) {α : Type} {T : Option α} {u : α} {x y : Int32} (hd : decode cc pc = .ok (.irem, 1)) (hf : (if y = 0 then none else T) = some u) (k : T = some u → jW E G K (pc + 1) lv (.int (jrem x y) :: stk)) : jW E G K (pc) lv (.int y :: .int x :: stk) := by
  by_cases h : y = 0
  · rw [if_pos h] at hf
    cases hf
  · rw [if_neg h] at hf
    exact j_irem C hd h (k hf)
theorem j_fmul (C : jC E G cc own Ts rm n0) {α : Type} {T : Option α} {u : α} {x y : UInt32} (hd : decode cc pc = .ok (.fmul, 1)) (hf : (if nn (FP.fmul x y) = true then T else none) = some u) (k : T = some u → jW E G K (pc + 1) lv (.float (FP.fmul x y) :: stk)) : jW E G K (pc) lv (.float y :: .float x :: stk) := by
  by_cases h : nn (FP.fmul x y) = true
  · rw [if_pos h] at hf
    have k := k hf
    obtain ⟨l, D, w, AA, tys, NW⟩ := E
    obtain ⟨p, e, R, s, m, args, below, meth, c, nL, Q⟩ := G
    obtain ⟨⟨hx, hb, hml, hown, hts⟩, hK, hN, hR, hn0, hO⟩ := C
    intro H locs ls hP hD hS hl
    exact lv_fmul hx hb hd (nn_n h) (k H locs ls hP hD hS hl)
  · rw [if_neg h] at hf
    cases hf
theorem j_fadd (C : jC E G cc own Ts rm n0) {α : Type} {T : Option α} {u : α} {x y : UInt32} (hd : decode cc pc = .ok (.fadd, 1)) (hf : (if nn (FP.fadd x y) = true then T else none) = some u) (k : T = some u → jW E G K (pc + 1) lv (.float (FP.fadd x y) :: stk)) : jW E G K (pc) lv (.float y :: .float x :: stk) := by
  by_cases h : nn (FP.fadd x y) = true
  · rw [if_pos h] at hf
    have k := k hf
    obtain ⟨l, D, w, AA, tys, NW⟩ := E
    obtain ⟨p, e, R, s, m, args, below, meth, c, nL, Q⟩ := G
    obtain ⟨⟨hx, hb, hml, hown, hts⟩, hK, hN, hR, hn0, hO⟩ := C
    intro H locs ls hP hD hS hl
    exact lv_fadd hx hb hd (nn_n h) (k H locs ls hP hD hS hl)
  · rw [if_neg h] at hf
    cases hf
theorem j_fconst0 (C : jC E G cc own Ts rm n0) (hd : decode cc pc = .ok (.fconst 0, 1)) (k : jW E G K (pc + 1) lv (.float FP.fconst0 :: stk)) : jW E G K (pc) lv (stk) := by
  obtain ⟨l, D, w, AA, tys, NW⟩ := E
  obtain ⟨p, e, R, s, m, args, below, meth, c, nL, Q⟩ := G
  obtain ⟨⟨hx, hb, hml, hown, hts⟩, hK, hN, hR, hn0, hO⟩ := C
  intro H locs ls hP hD hS hl
  exact lv_fconst0 hx hb hd (k H locs ls hP hD hS hl)
theorem j_ldcf (C : jC E G cc own Ts rm n0) {index : Nat} {v : UInt32} (hw : Cond.constantFloat own index v ∈ Ts) (hd : decode cc pc = .ok (.ldc index, 2)) (k : jW E G K (pc + 2) lv (.float v :: stk)) : jW E G K (pc) lv (stk) := by
  obtain ⟨l, D, w, AA, tys, NW⟩ := E
  obtain ⟨p, e, R, s, m, args, below, meth, c, nL, Q⟩ := G
  obtain ⟨⟨hx, hb, hml, hown, hts⟩, hK, hN, hR, hn0, hO⟩ := C
  intro H locs ls hP hD hS hl
  exact lv_ldcf hx hb hown (hts _ hw) hd (k H locs ls hP hD hS hl)
theorem j_ldci (C : jC E G cc own Ts rm n0) {index : Nat} {v : Int32} (hw : Cond.constant own index v ∈ Ts) (hd : decode cc pc = .ok (.ldc_w index, 3)) (k : jW E G K (pc + 3) lv (.int v :: stk)) : jW E G K (pc) lv (stk) := by
  obtain ⟨l, D, w, AA, tys, NW⟩ := E
  obtain ⟨p, e, R, s, m, args, below, meth, c, nL, Q⟩ := G
  obtain ⟨⟨hx, hb, hml, hown, hts⟩, hK, hN, hR, hn0, hO⟩ := C
  intro H locs ls hP hD hS hl
  exact lv_ldcw hx hb hown (hts _ hw) hd (k H locs ls hP hD hS hl)
theorem j_dup (C : jC E G cc own Ts rm n0) {va : Value} (hd : decode cc pc = .ok (.dup, 1)) (hc : va.category = 1) (k : jW E G K (pc + 1) lv (va :: va :: stk)) : jW E G K (pc) lv (va :: stk) := by
  obtain ⟨l, D, w, AA, tys, NW⟩ := E
  obtain ⟨p, e, R, s, m, args, below, meth, c, nL, Q⟩ := G
  obtain ⟨⟨hx, hb, hml, hown, hts⟩, hK, hN, hR, hn0, hO⟩ := C
  intro H locs ls hP hD hS hl
  exact lv_dup hx hb hd hc (k H locs ls hP hD hS hl)
theorem j_dup2 (C : jC E G cc own Ts rm n0) {va vb : Value} (hd : decode cc pc = .ok (.dup2, 1)) (hc : va.category = 1) (hc2 : vb.category = 1) (k : jW E G K (pc + 1) lv (va :: vb :: va :: vb :: stk)) : jW E G K (pc) lv (va :: vb :: stk) := by
  obtain ⟨l, D, w, AA, tys, NW⟩ := E
  obtain ⟨p, e, R, s, m, args, below, meth, c, nL, Q⟩ := G
  obtain ⟨⟨hx, hb, hml, hown, hts⟩, hK, hN, hR, hn0, hO⟩ := C
  intro H locs ls hP hD hS hl
  exact lv_dup2_11 hx hb hd hc hc2 (k H locs ls hP hD hS hl)
theorem j_goto (C : jC E G cc own Ts rm n0) {off : Int} (tgt : Nat) (hd : decode cc pc = .ok (.goto off, 3)) (ht : (pc : Int) + off = (tgt : Int)) (k : jW E G K (tgt) lv (stk)) : jW E G K (pc) lv (stk) := by
  obtain ⟨l, D, w, AA, tys, NW⟩ := E
  obtain ⟨p, e, R, s, m, args, below, meth, c, nL, Q⟩ := G
  obtain ⟨⟨hx, hb, hml, hown, hts⟩, hK, hN, hR, hn0, hO⟩ := C
  intro H locs ls hP hD hS hl
  exact lv_goto hx hb hd ht (k H locs ls hP hD hS hl)
theorem j_null (C : jC E G cc own Ts rm n0) (hd : decode cc pc = .ok (.aconst_null, 1)) (k : jW E G K (pc + 1) lv (.null :: stk)) : jW E G K (pc) lv (stk) := by
  obtain ⟨l, D, w, AA, tys, NW⟩ := E
  obtain ⟨p, e, R, s, m, args, below, meth, c, nL, Q⟩ := G
  obtain ⟨⟨hx, hb, hml, hown, hts⟩, hK, hN, hR, hn0, hO⟩ := C
  intro H locs ls hP hD hS hl
  exact lv_null hx hb hd (k H locs ls hP hD hS hl)
theorem j_ifnull (C : jC E G cc own Ts rm n0) {x : Nat} {off : Int} (hd : decode cc pc = .ok (.ifnull off, 3)) (k : jW E G K (pc + 3) lv (stk)) : jW E G K (pc) lv (.ref x :: stk) := by
  obtain ⟨l, D, w, AA, tys, NW⟩ := E
  obtain ⟨p, e, R, s, m, args, below, meth, c, nL, Q⟩ := G
  obtain ⟨⟨hx, hb, hml, hown, hts⟩, hK, hN, hR, hn0, hO⟩ := C
  intro H locs ls hP hD hS hl
  exact lv_ifnull hx hb hd (k H locs ls hP hD hS hl)
theorem j_ifnullN (C : jC E G cc own Ts rm n0) {off : Int} (tgt : Nat) (hd : decode cc pc = .ok (.ifnull off, 3)) (ht : (pc : Int) + off = (tgt : Int)) (k : jW E G K (tgt) lv (stk)) : jW E G K (pc) lv (.null :: stk) := by
  obtain ⟨l, D, w, AA, tys, NW⟩ := E
  obtain ⟨p, e, R, s, m, args, below, meth, c, nL, Q⟩ := G
  obtain ⟨⟨hx, hb, hml, hown, hts⟩, hK, hN, hR, hn0, hO⟩ := C
  intro H locs ls hP hD hS hl
  exact lv_ifnullN hx hb hd ht (k H locs ls hP hD hS hl)
theorem j_ifnonnull (C : jC E G cc own Ts rm n0) {x : Nat} {off : Int} (tgt : Nat) (hd : decode cc pc = .ok (.ifnonnull off, 3)) (ht : (pc : Int) + off = (tgt : Int)) (k : jW E G K (tgt) lv (stk)) : jW E G K (pc) lv (.ref x :: stk) := by
  obtain ⟨l, D, w, AA, tys, NW⟩ := E
  obtain ⟨p, e, R, s, m, args, below, meth, c, nL, Q⟩ := G
  obtain ⟨⟨hx, hb, hml, hown, hts⟩, hK, hN, hR, hn0, hO⟩ := C
  intro H locs ls hP hD hS hl
  exact lv_ifnonnull hx hb hd ht (k H locs ls hP hD hS hl)
theorem j_ifnonnullN (C : jC E G cc own Ts rm n0) {off : Int} (hd : decode cc pc = .ok (.ifnonnull off, 3)) (k : jW E G K (pc + 3) lv (stk)) : jW E G K (pc) lv (.null :: stk) := by
  obtain ⟨l, D, w, AA, tys, NW⟩ := E
  obtain ⟨p, e, R, s, m, args, below, meth, c, nL, Q⟩ := G
  obtain ⟨⟨hx, hb, hml, hown, hts⟩, hK, hN, hR, hn0, hO⟩ := C
  intro H locs ls hP hD hS hl
  exact lv_ifnonnullN hx hb hd (k H locs ls hP hD hS hl)
theorem j_if_eq (C : jC E G cc own Ts rm n0) {α : Type} {X Y : Option α} {u : α} {x : Int32} {off : Int} (tgt : Nat) (hd : decode cc pc = .ok (.ifCond .eq off, 3)) (ht : (pc : Int) + off = (tgt : Int)) (hf : (if x = 0 then X else Y) = some u) (kX : X = some u → jW E G K (tgt) lv (stk)) (kY : Y = some u → jW E G K (pc + 3) lv (stk)) : jW E G K (pc) lv (.int x :: stk) := by
  obtain ⟨l, D, w, AA, tys, NW⟩ := E
  obtain ⟨p, e, R, s, m, args, below, meth, c, nL, Q⟩ := G
  obtain ⟨⟨hx, hb, hml, hown, hts⟩, hK, hN, hR, hn0, hO⟩ := C
  intro H locs ls hP hD hS hl
  exact lv_if_eq hx hb hd ht (fun h => kX (by rw [if_pos h] at hf; exact hf) H locs ls hP hD hS hl) (fun h => kY (by rw [if_neg h] at hf; exact hf) H locs ls hP hD hS hl)
theorem j_if_ne (C : jC E G cc own Ts rm n0) {α : Type} {X Y : Option α} {u : α} {x : Int32} {off : Int} (tgt : Nat) (hd : decode cc pc = .ok (.ifCond .ne off, 3)) (ht : (pc : Int) + off = (tgt : Int)) (hf : (if x = 0 then X else Y) = some u) (kX : X = some u → jW E G K (pc + 3) lv (stk)) (kY : Y = some u → jW E G K (tgt) lv (stk)) : jW E G K (pc) lv (.int x :: stk) := by
  obtain ⟨l, D, w, AA, tys, NW⟩ := E
  obtain ⟨p, e, R, s, m, args, below, meth, c, nL, Q⟩ := G
  obtain ⟨⟨hx, hb, hml, hown, hts⟩, hK, hN, hR, hn0, hO⟩ := C
  intro H locs ls hP hD hS hl
  exact lv_if_ne hx hb hd ht (fun h => kY (by rw [if_neg h] at hf; exact hf) H locs ls hP hD hS hl) (fun h => kX (by rw [if_pos h] at hf; exact hf) H locs ls hP hD hS hl)
theorem j_if_lt (C : jC E G cc own Ts rm n0) {α : Type} {X Y : Option α} {u : α} {x : Int32} {off : Int} (tgt : Nat) (hd : decode cc pc = .ok (.ifCond .lt off, 3)) (ht : (pc : Int) + off = (tgt : Int)) (hf : (if x < 0 then X else Y) = some u) (kX : X = some u → jW E G K (tgt) lv (stk)) (kY : Y = some u → jW E G K (pc + 3) lv (stk)) : jW E G K (pc) lv (.int x :: stk) := by
  obtain ⟨l, D, w, AA, tys, NW⟩ := E
  obtain ⟨p, e, R, s, m, args, below, meth, c, nL, Q⟩ := G
  obtain ⟨⟨hx, hb, hml, hown, hts⟩, hK, hN, hR, hn0, hO⟩ := C
  intro H locs ls hP hD hS hl
  exact lv_if_lt hx hb hd ht (fun h => kX (by rw [if_pos h] at hf; exact hf) H locs ls hP hD hS hl) (fun h => kY (by rw [if_neg h] at hf; exact hf) H locs ls hP hD hS hl)
theorem j_if_ge (C : jC E G cc own Ts rm n0) {α : Type} {X Y : Option α} {u : α} {x : Int32} {off : Int} (tgt : Nat) (hd : decode cc pc = .ok (.ifCond .ge off, 3)) (ht : (pc : Int) + off = (tgt : Int)) (hf : (if 0 ≤ x then X else Y) = some u) (kX : X = some u → jW E G K (tgt) lv (stk)) (kY : Y = some u → jW E G K (pc + 3) lv (stk)) : jW E G K (pc) lv (.int x :: stk) := by
  obtain ⟨l, D, w, AA, tys, NW⟩ := E
  obtain ⟨p, e, R, s, m, args, below, meth, c, nL, Q⟩ := G
  obtain ⟨⟨hx, hb, hml, hown, hts⟩, hK, hN, hR, hn0, hO⟩ := C
  intro H locs ls hP hD hS hl
  exact lv_if_ge hx hb hd ht (fun h => kX (by rw [if_pos h] at hf; exact hf) H locs ls hP hD hS hl) (fun h => kY (by rw [if_neg h] at hf; exact hf) H locs ls hP hD hS hl)
theorem j_if_gt (C : jC E G cc own Ts rm n0) {α : Type} {X Y : Option α} {u : α} {x : Int32} {off : Int} (tgt : Nat) (hd : decode cc pc = .ok (.ifCond .gt off, 3)) (ht : (pc : Int) + off = (tgt : Int)) (hf : (if 0 < x then X else Y) = some u) (kX : X = some u → jW E G K (tgt) lv (stk)) (kY : Y = some u → jW E G K (pc + 3) lv (stk)) : jW E G K (pc) lv (.int x :: stk) := by
  obtain ⟨l, D, w, AA, tys, NW⟩ := E
  obtain ⟨p, e, R, s, m, args, below, meth, c, nL, Q⟩ := G
  obtain ⟨⟨hx, hb, hml, hown, hts⟩, hK, hN, hR, hn0, hO⟩ := C
  intro H locs ls hP hD hS hl
  exact lv_if_gt hx hb hd ht (fun h => kX (by rw [if_pos h] at hf; exact hf) H locs ls hP hD hS hl) (fun h => kY (by rw [if_neg h] at hf; exact hf) H locs ls hP hD hS hl)
theorem j_if_le (C : jC E G cc own Ts rm n0) {α : Type} {X Y : Option α} {u : α} {x : Int32} {off : Int} (tgt : Nat) (hd : decode cc pc = .ok (.ifCond .le off, 3)) (ht : (pc : Int) + off = (tgt : Int)) (hf : (if x ≤ 0 then X else Y) = some u) (kX : X = some u → jW E G K (tgt) lv (stk)) (kY : Y = some u → jW E G K (pc + 3) lv (stk)) : jW E G K (pc) lv (.int x :: stk) := by
  obtain ⟨l, D, w, AA, tys, NW⟩ := E
  obtain ⟨p, e, R, s, m, args, below, meth, c, nL, Q⟩ := G
  obtain ⟨⟨hx, hb, hml, hown, hts⟩, hK, hN, hR, hn0, hO⟩ := C
  intro H locs ls hP hD hS hl
  exact lv_if_le hx hb hd ht (fun h => kX (by rw [if_pos h] at hf; exact hf) H locs ls hP hD hS hl) (fun h => kY (by rw [if_neg h] at hf; exact hf) H locs ls hP hD hS hl)
theorem j_icmp_eq (C : jC E G cc own Ts rm n0) {α : Type} {X Y : Option α} {u : α} {x y : Int32} {off : Int} (tgt : Nat) (hd : decode cc pc = .ok (.if_icmp .eq off, 3)) (ht : (pc : Int) + off = (tgt : Int)) (hf : (if x = y then X else Y) = some u) (kX : X = some u → jW E G K (tgt) lv (stk)) (kY : Y = some u → jW E G K (pc + 3) lv (stk)) : jW E G K (pc) lv (.int y :: .int x :: stk) := by
  obtain ⟨l, D, w, AA, tys, NW⟩ := E
  obtain ⟨p, e, R, s, m, args, below, meth, c, nL, Q⟩ := G
  obtain ⟨⟨hx, hb, hml, hown, hts⟩, hK, hN, hR, hn0, hO⟩ := C
  intro H locs ls hP hD hS hl
  exact lv_icmp_eq hx hb hd ht (fun h => kX (by rw [if_pos h] at hf; exact hf) H locs ls hP hD hS hl) (fun h => kY (by rw [if_neg h] at hf; exact hf) H locs ls hP hD hS hl)
theorem j_icmp_ne (C : jC E G cc own Ts rm n0) {α : Type} {X Y : Option α} {u : α} {x y : Int32} {off : Int} (tgt : Nat) (hd : decode cc pc = .ok (.if_icmp .ne off, 3)) (ht : (pc : Int) + off = (tgt : Int)) (hf : (if x = y then X else Y) = some u) (kX : X = some u → jW E G K (pc + 3) lv (stk)) (kY : Y = some u → jW E G K (tgt) lv (stk)) : jW E G K (pc) lv (.int y :: .int x :: stk) := by
  obtain ⟨l, D, w, AA, tys, NW⟩ := E
  obtain ⟨p, e, R, s, m, args, below, meth, c, nL, Q⟩ := G
  obtain ⟨⟨hx, hb, hml, hown, hts⟩, hK, hN, hR, hn0, hO⟩ := C
  intro H locs ls hP hD hS hl
  exact lv_icmp_ne hx hb hd ht (fun h => kY (by rw [if_neg h] at hf; exact hf) H locs ls hP hD hS hl) (fun h => kX (by rw [if_pos h] at hf; exact hf) H locs ls hP hD hS hl)
theorem j_icmp_lt (C : jC E G cc own Ts rm n0) {α : Type} {X Y : Option α} {u : α} {x y : Int32} {off : Int} (tgt : Nat) (hd : decode cc pc = .ok (.if_icmp .lt off, 3)) (ht : (pc : Int) + off = (tgt : Int)) (hf : (if x < y then X else Y) = some u) (kX : X = some u → jW E G K (tgt) lv (stk)) (kY : Y = some u → jW E G K (pc + 3) lv (stk)) : jW E G K (pc) lv (.int y :: .int x :: stk) := by
  obtain ⟨l, D, w, AA, tys, NW⟩ := E
  obtain ⟨p, e, R, s, m, args, below, meth, c, nL, Q⟩ := G
  obtain ⟨⟨hx, hb, hml, hown, hts⟩, hK, hN, hR, hn0, hO⟩ := C
  intro H locs ls hP hD hS hl
  exact lv_icmp_lt hx hb hd ht (fun h => kX (by rw [if_pos h] at hf; exact hf) H locs ls hP hD hS hl) (fun h => kY (by rw [if_neg h] at hf; exact hf) H locs ls hP hD hS hl)
theorem j_icmp_ge (C : jC E G cc own Ts rm n0) {α : Type} {X Y : Option α} {u : α} {x y : Int32} {off : Int} (tgt : Nat) (hd : decode cc pc = .ok (.if_icmp .ge off, 3)) (ht : (pc : Int) + off = (tgt : Int)) (hf : (if y ≤ x then X else Y) = some u) (kX : X = some u → jW E G K (tgt) lv (stk)) (kY : Y = some u → jW E G K (pc + 3) lv (stk)) : jW E G K (pc) lv (.int y :: .int x :: stk) := by
  obtain ⟨l, D, w, AA, tys, NW⟩ := E
  obtain ⟨p, e, R, s, m, args, below, meth, c, nL, Q⟩ := G
  obtain ⟨⟨hx, hb, hml, hown, hts⟩, hK, hN, hR, hn0, hO⟩ := C
  intro H locs ls hP hD hS hl
  exact lv_icmp_ge hx hb hd ht (fun h => kX (by rw [if_pos h] at hf; exact hf) H locs ls hP hD hS hl) (fun h => kY (by rw [if_neg h] at hf; exact hf) H locs ls hP hD hS hl)
theorem j_icmp_gt (C : jC E G cc own Ts rm n0) {α : Type} {X Y : Option α} {u : α} {x y : Int32} {off : Int} (tgt : Nat) (hd : decode cc pc = .ok (.if_icmp .gt off, 3)) (ht : (pc : Int) + off = (tgt : Int)) (hf : (if y < x then X else Y) = some u) (kX : X = some u → jW E G K (tgt) lv (stk)) (kY : Y = some u → jW E G K (pc + 3) lv (stk)) : jW E G K (pc) lv (.int y :: .int x :: stk) := by
  obtain ⟨l, D, w, AA, tys, NW⟩ := E
  obtain ⟨p, e, R, s, m, args, below, meth, c, nL, Q⟩ := G
  obtain ⟨⟨hx, hb, hml, hown, hts⟩, hK, hN, hR, hn0, hO⟩ := C
  intro H locs ls hP hD hS hl
  exact lv_icmp_gt hx hb hd ht (fun h => kX (by rw [if_pos h] at hf; exact hf) H locs ls hP hD hS hl) (fun h => kY (by rw [if_neg h] at hf; exact hf) H locs ls hP hD hS hl)
theorem j_icmp_le (C : jC E G cc own Ts rm n0) {α : Type} {X Y : Option α} {u : α} {x y : Int32} {off : Int} (tgt : Nat) (hd : decode cc pc = .ok (.if_icmp .le off, 3)) (ht : (pc : Int) + off = (tgt : Int)) (hf : (if x ≤ y then X else Y) = some u) (kX : X = some u → jW E G K (tgt) lv (stk)) (kY : Y = some u → jW E G K (pc + 3) lv (stk)) : jW E G K (pc) lv (.int y :: .int x :: stk) := by
  obtain ⟨l, D, w, AA, tys, NW⟩ := E
  obtain ⟨p, e, R, s, m, args, below, meth, c, nL, Q⟩ := G
  obtain ⟨⟨hx, hb, hml, hown, hts⟩, hK, hN, hR, hn0, hO⟩ := C
  intro H locs ls hP hD hS hl
  exact lv_icmp_le hx hb hd ht (fun h => kX (by rw [if_pos h] at hf; exact hf) H locs ls hP hD hS hl) (fun h => kY (by rw [if_neg h] at hf; exact hf) H locs ls hP hD hS hl)
theorem j_case {α : Type} {X Y : Option α} {u : α} {x a : Int32} {P : Prop} (hf : (if x = a then X else Y) = some u) (kX : x = a → X = some u → P) (kY : ¬ x = a → Y = some u → P) : P := by
  by_cases h : x = a
  · exact kX h (by rw [if_pos h] at hf; exact hf)
  · exact kY h (by rw [if_neg h] at hf; exact hf)
theorem j_chk {α : Type} {X : Option α} {u : α} {b : Bool} {P : Prop} (hf : (if b = true then X else none) = some u) (k : b = true → X = some u → P) : P := by
  by_cases h : b = true
  · exact k h (by rw [if_pos h] at hf; exact hf)
  · rw [if_neg h] at hf
    cases hf
theorem j_tabIn (C : jC E G cc own Ts rm n0) {dflt lo hi : Int} {offs : Array Int} {len : Nat} {x : Int32} {off : Int} (tgt : Nat) (hd : decode cc pc = .ok (.tableswitch dflt lo hi offs, len)) (h1 : ¬ x.toInt < lo) (h2 : ¬ hi < x.toInt) (ho : offs[(x.toInt - lo).toNat]? = some off) (ht : (pc : Int) + off = (tgt : Int)) (k : jW E G K (tgt) lv (stk)) : jW E G K (pc) lv (.int x :: stk) := by
  obtain ⟨l, D, w, AA, tys, NW⟩ := E
  obtain ⟨p, e, R, s, m, args, below, meth, c, nL, Q⟩ := G
  obtain ⟨⟨hx, hb, hml, hown, hts⟩, hK, hN, hR, hn0, hO⟩ := C
  intro H locs ls hP hD hS hl
  exact lv_tableIn hx hb hd h1 h2 ho ht (k H locs ls hP hD hS hl)
theorem j_tabOut (C : jC E G cc own Ts rm n0) {dflt lo hi : Int} {offs : Array Int} {len : Nat} {x : Int32} (tgt : Nat) (hd : decode cc pc = .ok (.tableswitch dflt lo hi offs, len)) (h : x.toInt < lo ∨ hi < x.toInt) (ht : (pc : Int) + dflt = (tgt : Int)) (k : jW E G K (tgt) lv (stk)) : jW E G K (pc) lv (.int x :: stk) := by
  obtain ⟨l, D, w, AA, tys, NW⟩ := E
  obtain ⟨p, e, R, s, m, args, below, meth, c, nL, Q⟩ := G
  obtain ⟨⟨hx, hb, hml, hown, hts⟩, hK, hN, hR, hn0, hO⟩ := C
  intro H locs ls hP hD hS hl
  exact lv_tableOut hx hb hd h ht (k H locs ls hP hD hS hl)
theorem j_get (C : jC E G cc own Ts rm n0) {ref Cn : String} {T : u_T} {N ci index : Nat} {fs : List Value} {a : Nat} {v : Value} (k0 : Nat) (hin : ∀ w ∈ u_ws Cn T N, w ∈ Ts) {q0 : Nat} (he : (E.2.2.1 K)[q0]? = some (a, .inr (ci, fs))) (hc : vwCl[ci]? = some (Cn, T, N)) (hk : k0 < N) (hw : Cond.fieldLink own index ref (T k0).2.1 (T k0).2.2.1 ∈ Ts) (hr : (T k0).1 = ref) (hv : fs[k0]? = some v) (hd : decode cc pc = .ok (.getfield index, 3)) (k : jW E G K (pc + 3) lv (v :: stk)) : jW E G K (pc) lv (.ref a :: stk) := by
  obtain ⟨l, D, w, AA, tys, NW⟩ := E
  obtain ⟨p, e, R, s, m, args, below, meth, c, nL, Q⟩ := G
  obtain ⟨⟨hx, hb, hml, hown, hts⟩, hK, hN, hR, hn0, hO⟩ := C
  intro H locs ls hP hD hS hl
  subst hr
  exact va_get hx hb hts hin hown hK hP q0 he hc k0 hk (hts _ hw) (fun _ h => h) hv hd (k H locs ls hP hD hS hl)
theorem j_getN (C : jC E G cc own Ts rm n0) {ref Cn : String} {T : u_T} {N ci index : Nat} {fs : List Value} {a : Nat} {v : Value} {host : String} (k0 : Nat) (hin : ∀ w ∈ u_ws Cn T N, w ∈ Ts) {q0 : Nat} (he : (E.2.2.1 K)[q0]? = some (a, .inr (ci, fs))) (hc : vwCl[ci]? = some (Cn, T, N)) (hk : k0 < N) (hw : ∀ U, E.2.2.2.2.2 U → va_Nw (Cond.fieldLinkNest own index ref (T k0).2.1 (T k0).2.2.1 host) U) (hr : (T k0).1 = ref) (hv : fs[k0]? = some v) (hd : decode cc pc = .ok (.getfield index, 3)) (k : jW E G K (pc + 3) lv (v :: stk)) : jW E G K (pc) lv (.ref a :: stk) := by
  obtain ⟨l, D, w, AA, tys, NW⟩ := E
  obtain ⟨p, e, R, s, m, args, below, meth, c, nL, Q⟩ := G
  obtain ⟨⟨hx, hb, hml, hown, hts⟩, hK, hN, hR, hn0, hO⟩ := C
  intro H locs ls hP hD hS hl
  subst hr
  exact va_getN hx hb hts hin hown hK hP q0 he hc k0 hk (va_Nw.use rfl (hw _ hN)) (fun _ h => h) hv hd (k H locs ls hP hD hS hl)
theorem j_put (C : jC E G cc own Ts rm n0) {α : Type} {f : Mem → Option α} {u : α} {ref Cn : String} {T : u_T} {N ci index : Nat} {fs : List Value} {a q0 : Nat} {x : Int32} {ty : FieldType} (k0 : Nat) (hin : ∀ w ∈ u_ws Cn T N, w ∈ Ts) (ty0 : Nat → FieldType) (hty : ∀ k, k < N → parseFieldDescriptor (T k).2.2.1 = some (ty0 k)) (hnm : ∀ a, a < N → ∀ b, b < N → a ≠ b → (T a).2.1 ≠ (T b).2.1) (he : (E.2.2.1 K)[q0]? = some (a, .inr (ci, fs))) (hset : (E.2.2.1 K).set q0 (a, .inr (ci, fs.set k0 (.int x))) = E.2.2.1 (ks K q0 k0 x)) (hc : vwCl[ci]? = some (Cn, T, N)) (hk : k0 < N) (hw : Cond.fieldLink own index ref (T k0).2.1 (T k0).2.2.1 ∈ Ts) (hr : (T k0).1 = ref) (hfin : (T k0).2.2.2 = false) (ht : parseFieldDescriptor (T k0).2.2.1 = some ty) (hn : narrow ty (.int x) = .int x) (hfit : fits ty (.int x) = true) (hlen : k0 < fs.length) (hd : decode cc pc = .ok (.putfield index, 3)) (hf : st K q0 k0 x f = some u) (k : ∀ K2, f K2 = some u → jW E G K2 (pc + 3) lv stk) : jW E G K (pc) lv (.int x :: .ref a :: stk) := by
  obtain ⟨l, D, w, AA, tys, NW⟩ := E
  obtain ⟨p, e, R, s, m, args, below, meth, c, nL, Q⟩ := G
  obtain ⟨⟨hx, hb, hml, hown, hts⟩, hK, hN, hR, hn0, hO⟩ := C
  intro H locs ls hP hD hS hl
  subst hr
  exact va_put hx hb hts hin ty0 hty hnm hown hK hP hD hS q0 he hc k0 hk (hts _ hw) (fun _ h => h) hfin ht hn hfit hlen hd (fun H1 locs1 p1 d1 s1 => k _ hf H1 locs1 ls (cP hset p1) (cD hset d1) s1 hl)
theorem j_putN (C : jC E G cc own Ts rm n0) {α : Type} {f : Mem → Option α} {u : α} {ref Cn host : String} {T : u_T} {N ci index : Nat} {fs : List Value} {a q0 : Nat} {x : Int32} {ty : FieldType} (k0 : Nat) (hin : ∀ w ∈ u_ws Cn T N, w ∈ Ts) (ty0 : Nat → FieldType) (hty : ∀ k, k < N → parseFieldDescriptor (T k).2.2.1 = some (ty0 k)) (hnm : ∀ a, a < N → ∀ b, b < N → a ≠ b → (T a).2.1 ≠ (T b).2.1) (he : (E.2.2.1 K)[q0]? = some (a, .inr (ci, fs))) (hset : (E.2.2.1 K).set q0 (a, .inr (ci, fs.set k0 (.int x))) = E.2.2.1 (ks K q0 k0 x)) (hc : vwCl[ci]? = some (Cn, T, N)) (hk : k0 < N) (hw : ∀ U, E.2.2.2.2.2 U → va_Nw (Cond.fieldLinkNest own index ref (T k0).2.1 (T k0).2.2.1 host) U) (hr : (T k0).1 = ref) (hfin : (T k0).2.2.2 = false) (ht : parseFieldDescriptor (T k0).2.2.1 = some ty) (hn : narrow ty (.int x) = .int x) (hfit : fits ty (.int x) = true) (hlen : k0 < fs.length) (hd : decode cc pc = .ok (.putfield index, 3)) (hf : st K q0 k0 x f = some u) (k : ∀ K2, f K2 = some u → jW E G K2 (pc + 3) lv stk) : jW E G K (pc) lv (.int x :: .ref a :: stk) := by
  obtain ⟨l, D, w, AA, tys, NW⟩ := E
  obtain ⟨p, e, R, s, m, args, below, meth, c, nL, Q⟩ := G
  obtain ⟨⟨hx, hb, hml, hown, hts⟩, hK, hN, hR, hn0, hO⟩ := C
  intro H locs ls hP hD hS hl
  subst hr
  exact va_putN hx hb hts hin ty0 hty hnm hown hK hP hD hS q0 he hc k0 hk (va_Nw.use rfl (hw _ hN)) (fun _ h => h) hfin ht hn hfit hlen hd (fun H1 locs1 p1 d1 s1 => k _ hf H1 locs1 ls (cP hset p1) (cD hset d1) s1 hl)
theorem j_iald (C : jC E G cc own Ts rm n0) {α : Type} {X : Option α} {u : α} {a q0 n : Nat} {cA : ClassId} {f : Nat → Int32} {i : Int32} (t0 : Nat) (he : (E.2.2.1 K)[q0]? = some (a, .inl (cA, n, .inl f))) (ht : E.2.2.2.2.1[t0]? = some (cA, .int)) (hd : decode cc pc = .ok (.iaload, 1)) (hf : (if inb i n = true then X else none) = some u) (k : X = some u → jW E G K (pc + 1) lv (.int (f (ix i)) :: stk)) : jW E G K (pc) lv (.int i :: .ref a :: stk) := by
  refine j_chk hf (fun hi hf => ?_)
  have k := k hf
  obtain ⟨l, D, w, AA, tys, NW⟩ := E
  obtain ⟨p, e, R, s, m, args, below, meth, c, nL, Q⟩ := G
  obtain ⟨⟨hx, hb, hml, hown, hts⟩, hK, hN, hR, hn0, hO⟩ := C
  intro H locs ls hP hD hS hl
  exact va_iald hx hb hK hP q0 t0 he ht (inb_in hi) hd (k H locs ls hP hD hS hl)
theorem j_zald (C : jC E G cc own Ts rm n0) {α : Type} {X : Option α} {u : α} {a q0 n : Nat} {cA : ClassId} {f : Nat → Int32} {i : Int32} (t0 : Nat) (he : (E.2.2.1 K)[q0]? = some (a, .inl (cA, n, .inl f))) (ht : E.2.2.2.2.1[t0]? = some (cA, .boolean)) (hd : decode cc pc = .ok (.baload, 1)) (hf : (if inb i n = true then X else none) = some u) (k : X = some u → jW E G K (pc + 1) lv (.int (f (ix i)) :: stk)) : jW E G K (pc) lv (.int i :: .ref a :: stk) := by
  refine j_chk hf (fun hi hf => ?_)
  have k := k hf
  obtain ⟨l, D, w, AA, tys, NW⟩ := E
  obtain ⟨p, e, R, s, m, args, below, meth, c, nL, Q⟩ := G
  obtain ⟨⟨hx, hb, hml, hown, hts⟩, hK, hN, hR, hn0, hO⟩ := C
  intro H locs ls hP hD hS hl
  exact va_zald hx hb hK hP q0 t0 he ht (inb_in hi) hd (k H locs ls hP hD hS hl)
theorem j_sald (C : jC E G cc own Ts rm n0) {α : Type} {X : Option α} {u : α} {a q0 n : Nat} {cA : ClassId} {f : Nat → Int32} {i : Int32} (t0 : Nat) (he : (E.2.2.1 K)[q0]? = some (a, .inl (cA, n, .inl f))) (ht : E.2.2.2.2.1[t0]? = some (cA, .short)) (hd : decode cc pc = .ok (.saload, 1)) (hf : (if inb i n = true then X else none) = some u) (k : X = some u → jW E G K (pc + 1) lv (.int (f (ix i)) :: stk)) : jW E G K (pc) lv (.int i :: .ref a :: stk) := by
  refine j_chk hf (fun hi hf => ?_)
  have k := k hf
  obtain ⟨l, D, w, AA, tys, NW⟩ := E
  obtain ⟨p, e, R, s, m, args, below, meth, c, nL, Q⟩ := G
  obtain ⟨⟨hx, hb, hml, hown, hts⟩, hK, hN, hR, hn0, hO⟩ := C
  intro H locs ls hP hD hS hl
  exact va_sald hx hb hK hP q0 t0 he ht (inb_in hi) hd (k H locs ls hP hD hS hl)
theorem j_iast (C : jC E G cc own Ts rm n0) {α : Type} {g : Mem → Option α} {u : α} {a q0 n : Nat} {cA : ClassId} {f : Nat → Int32} {i x : Int32} (t0 : Nat) (he : (E.2.2.1 K)[q0]? = some (a, .inl (cA, n, .inl f))) (hset : (E.2.2.1 K).set q0 (a, .inl (cA, n, .inl (upd f (ix i) x))) = E.2.2.1 (ks K q0 (ix i) x)) (ht : E.2.2.2.2.1[t0]? = some (cA, .int)) (hd : decode cc pc = .ok (.iastore, 1)) (hf : (if inb i n = true then st K q0 (ix i) x g else none) = some u) (k : ∀ K2, g K2 = some u → jW E G K2 (pc + 1) lv stk) : jW E G K (pc) lv (.int x :: .int i :: .ref a :: stk) := by
  refine j_chk hf (fun hi hf => ?_)
  obtain ⟨l, D, w, AA, tys, NW⟩ := E
  obtain ⟨p, e, R, s, m, args, below, meth, c, nL, Q⟩ := G
  obtain ⟨⟨hx, hb, hml, hown, hts⟩, hK, hN, hR, hn0, hO⟩ := C
  intro H locs ls hP hD hS hl
  exact va_iast hx hb hK hP hD hS q0 t0 he ht (inb_in hi) hd (fun H1 locs1 p1 d1 s1 => k _ hf H1 locs1 ls (cP hset p1) (cD hset d1) s1 hl)
theorem j_zast (C : jC E G cc own Ts rm n0) {α : Type} {g : Mem → Option α} {u : α} {a q0 n : Nat} {cA : ClassId} {f : Nat → Int32} {i x : Int32} (t0 : Nat) (he : (E.2.2.1 K)[q0]? = some (a, .inl (cA, n, .inl f))) (hset : (E.2.2.1 K).set q0 (a, .inl (cA, n, .inl (upd f (ix i) (vp_nar .boolean x)))) = E.2.2.1 (ks K q0 (ix i) (vp_nar .boolean x))) (ht : E.2.2.2.2.1[t0]? = some (cA, .boolean)) (hd : decode cc pc = .ok (.bastore, 1)) (hf : (if inb i n = true then st K q0 (ix i) (vp_nar .boolean x) g else none) = some u) (k : ∀ K2, g K2 = some u → jW E G K2 (pc + 1) lv stk) : jW E G K (pc) lv (.int x :: .int i :: .ref a :: stk) := by
  refine j_chk hf (fun hi hf => ?_)
  obtain ⟨l, D, w, AA, tys, NW⟩ := E
  obtain ⟨p, e, R, s, m, args, below, meth, c, nL, Q⟩ := G
  obtain ⟨⟨hx, hb, hml, hown, hts⟩, hK, hN, hR, hn0, hO⟩ := C
  intro H locs ls hP hD hS hl
  exact va_zast hx hb hK hP hD hS q0 t0 he ht (inb_in hi) hd (fun H1 locs1 p1 d1 s1 => k _ hf H1 locs1 ls (cP hset p1) (cD hset d1) s1 hl)
theorem j_sast (C : jC E G cc own Ts rm n0) {α : Type} {g : Mem → Option α} {u : α} {a q0 n : Nat} {cA : ClassId} {f : Nat → Int32} {i x : Int32} (t0 : Nat) (he : (E.2.2.1 K)[q0]? = some (a, .inl (cA, n, .inl f))) (hset : (E.2.2.1 K).set q0 (a, .inl (cA, n, .inl (upd f (ix i) (vp_nar .short x)))) = E.2.2.1 (ks K q0 (ix i) (vp_nar .short x))) (ht : E.2.2.2.2.1[t0]? = some (cA, .short)) (hd : decode cc pc = .ok (.sastore, 1)) (hf : (if inb i n = true then st K q0 (ix i) (vp_nar .short x) g else none) = some u) (k : ∀ K2, g K2 = some u → jW E G K2 (pc + 1) lv stk) : jW E G K (pc) lv (.int x :: .int i :: .ref a :: stk) := by
  refine j_chk hf (fun hi hf => ?_)
  obtain ⟨l, D, w, AA, tys, NW⟩ := E
  obtain ⟨p, e, R, s, m, args, below, meth, c, nL, Q⟩ := G
  obtain ⟨⟨hx, hb, hml, hown, hts⟩, hK, hN, hR, hn0, hO⟩ := C
  intro H locs ls hP hD hS hl
  exact va_sast hx hb hK hP hD hS q0 t0 he ht (inb_in hi) hd (fun H1 locs1 p1 d1 s1 => k _ hf H1 locs1 ls (cP hset p1) (cD hset d1) s1 hl)
theorem j_fald (C : jC E G cc own Ts rm n0) {α : Type} {X : Option α} {u : α} {a q0 n : Nat} {cA : ClassId} {f : Nat → UInt32} {i : Int32} (t0 : Nat) (he : (E.2.2.1 K)[q0]? = some (a, .inl (cA, n, .inr (.inr (.inl f))))) (ht : E.2.2.2.2.1[t0]? = some (cA, .float)) (hd : decode cc pc = .ok (.faload, 1)) (hf : (if inb i n = true then X else none) = some u) (k : X = some u → jW E G K (pc + 1) lv (.float (f (ix i)) :: stk)) : jW E G K (pc) lv (.int i :: .ref a :: stk) := by
  refine j_chk hf (fun hi hf => ?_)
  have k := k hf
  obtain ⟨l, D, w, AA, tys, NW⟩ := E
  obtain ⟨p, e, R, s, m, args, below, meth, c, nL, Q⟩ := G
  obtain ⟨⟨hx, hb, hml, hown, hts⟩, hK, hN, hR, hn0, hO⟩ := C
  intro H locs ls hP hD hS hl
  exact va_fald hx hb hK hP q0 t0 he ht (inb_in hi) hd (k H locs ls hP hD hS hl)
theorem j_fast (C : jC E G cc own Ts rm n0) {α : Type} {g : Mem → Option α} {u : α} {a q0 n : Nat} {cA : ClassId} {f : Nat → UInt32} {i : Int32} {x : UInt32} (t0 : Nat) (he : (E.2.2.1 K)[q0]? = some (a, .inl (cA, n, .inr (.inr (.inl f))))) (hset : (E.2.2.1 K).set q0 (a, .inl (cA, n, .inr (.inr (.inl (vf_upd f (ix i) x))))) = E.2.2.1 (ks K q0 (ix i) x.toInt32)) (ht : E.2.2.2.2.1[t0]? = some (cA, .float)) (hd : decode cc pc = .ok (.fastore, 1)) (hf : (if inb i n = true then st K q0 (ix i) x.toInt32 g else none) = some u) (k : ∀ K2, g K2 = some u → jW E G K2 (pc + 1) lv stk) : jW E G K (pc) lv (.float x :: .int i :: .ref a :: stk) := by
  refine j_chk hf (fun hi hf => ?_)
  obtain ⟨l, D, w, AA, tys, NW⟩ := E
  obtain ⟨p, e, R, s, m, args, below, meth, c, nL, Q⟩ := G
  obtain ⟨⟨hx, hb, hml, hown, hts⟩, hK, hN, hR, hn0, hO⟩ := C
  intro H locs ls hP hD hS hl
  exact va_fast hx hb hK hP hD hS q0 t0 he ht (inb_in hi) hd (fun H1 locs1 p1 d1 s1 => k _ hf H1 locs1 ls (cP hset p1) (cD hset d1) s1 hl)
theorem j_alen (C : jC E G cc own Ts rm n0) {a q0 : Nat} {cA : ClassId} {y : vp_A} {ty : FieldType} {v : Int32} (t0 : Nat) (he : (E.2.2.1 K)[q0]? = some (a, .inl (cA, y))) (ht : E.2.2.2.2.1[t0]? = some (cA, ty)) (hv : Int32.ofNat y.1 = v) (hd : decode cc pc = .ok (.arraylength, 1)) (k : jW E G K (pc + 1) lv (.int v :: stk)) : jW E G K (pc) lv (.ref a :: stk) := by
  obtain ⟨l, D, w, AA, tys, NW⟩ := E
  obtain ⟨p, e, R, s, m, args, below, meth, c, nL, Q⟩ := G
  obtain ⟨⟨hx, hb, hml, hown, hts⟩, hK, hN, hR, hn0, hO⟩ := C
  intro H locs ls hP hD hS hl
  exact va_alen hx hb hK hP q0 t0 he ht hv hd (k H locs ls hP hD hS hl)
/-- a method's start: the arguments, the world's memory K -/
def jP (E : jE) (As : List Value) (K : Mem) (sz : Nat) : Array Value → State → Prop := va_Pc As (fun U => U.heap.size = sz ∧ va_P E.2.1 vwCl (E.2.2.1 K) U.heap ∧ va_K E.2.1 vwCl E.2.2.2.2.1 U ∧ va_D (E.2.2.2.1 sz) (E.2.2.1 K) ∧ E.2.2.2.2.2 U)
/-- the world behind it -/
def jB (E : jE) (sz : Nat) (K : Mem) (t : State) : Prop := va_P E.2.1 vwCl (E.2.2.1 K) t.heap ∧ va_D (E.2.2.2.1 sz) (E.2.2.1 K)
/-- answers r1, memory K1 behind it -/
def cI (E : jE) (y : MethodName) (ws : List Cond) (rm : Room) (As : List Value) (K : Mem) (r1 : Int32) (K1 : Mem) : Prop := ∀ sz, Met E.1 y ws rm (jP E As K sz) (va_Qi (fun r u => r = r1 ∧ u = K1) (jB E sz) (E.2.2.2.1 sz)) 0 0 (E.2.2.2.1 sz)
def cF (E : jE) (y : MethodName) (ws : List Cond) (rm : Room) (As : List Value) (K : Mem) (r1 : UInt32) (K1 : Mem) : Prop := ∀ sz, Met E.1 y ws rm (jP E As K sz) (va_Qf (fun r u => r = r1 ∧ u = K1) (jB E sz) (E.2.2.2.1 sz)) 0 0 (E.2.2.2.1 sz)
def cV (E : jE) (y : MethodName) (ws : List Cond) (rm : Room) (As : List Value) (K : Mem) (K1 : Mem) : Prop := ∀ sz, Met E.1 y ws rm (jP E As K sz) (va_Qv (fun u => u = K1) (jB E sz) (E.2.2.2.1 sz)) 0 0 (E.2.2.2.1 sz)
/-- answers a reference, or null -/
def cQ (E : jE) (y : MethodName) (ws : List Cond) (rm : Room) (As : List Value) (K : Mem) (r1 : Option Nat) (K1 : Mem) : Prop := ∀ sz, Met E.1 y ws rm (jP E As K sz) (va_Qq (fun r u => r = r1 ∧ u = K1) (jB E sz) (E.2.2.2.1 sz)) 0 0 (E.2.2.2.1 sz)
theorem jP_blind {E : jE} (hO : jOK E) {As : List Value} {K : Mem} {sz : Nat} : FrameBlind (jP E As K sz) := by
  obtain ⟨l, D, w, AA, tys, NW⟩ := E
  intro a U g mk q
  obtain ⟨q0, q1, qP, qK, qD, qN⟩ := q
  exact ⟨q0, q1, qP, va_K.moved (u := U) (U := U.calling g mk a) (Vm.Alike.refl U.vm) qK, qD, hO.2.2.2.2 U _ rfl qN⟩
theorem jP_of {l : Launch} {D : va_G} {w : Mem → va_W} {AA : Nat → Nat → Prop} {tys : List (ClassId × FieldType)} {NW : State → Prop} (hO : jOK (l, D, w, AA, tys, NW)) {s : State} {H : Heap} {K : Mem} {X : Nat → Prop} {As : List Value} (hP : va_P D vwCl (w K) H) (hD : va_D X (w K)) (hK : va_K D vwCl tys s) (hN : NW s) : ∀ U : State, U.heap = H → s.WarmedH U.vm → jP (l, D, w, AA, tys, NW) As K H.size As.toArray U := fun U hU hW => ⟨rfl, by rw [hU], by rw [hU]; exact hP, va_K.moved hW.alike hK, hO.2.2.1 _ _ _ _ hD, hO.2.2.2.1 _ _ hW hN⟩
section Ent
variable {y : MethodName} {ws ws' : List Cond} {As : List Value} {maxL : Nat} {K1 : Mem}
/-- the entry of a method that answers an int: what is left is the walk; 'ret' ends it -/
theorem j_entI (hO : jOK E) {r1 : Int32} {ty : FieldType} (hty : ty = .int ∨ ty = .boolean) (hy : plainName y.cls = true) (hw : ws = Cond.code y cc maxL (some ty) :: ws') (hlen : (lg_sl As).length ≤ maxL)
    (body : ∀ G : jG, jC E G cc y.cls ws rm maxL → (∀ (pc : Nat) (lv : List (Nat × Value)), decode cc pc = .ok (.ireturn, 1) → (ty = FieldType.boolean → bb r1 = true) → jW E G K1 pc lv [.int r1]) → jW E G K 0 (lv_args 0 As) []) : cI E y ws rm As K r1 K1 := by
  obtain ⟨l, D, w, AA, tys, NW⟩ := E
  intro sz
  refine Met.ofW (cc := cc) (maxL := maxL) (ret := some ty) hy hw ?_
  intro p e s m args below meth c s₁ B hml hv
  obtain ⟨rfl, hsz, hP, hK, hD, hN⟩ := hv
  subst hsz
  have hx := B.exec
  have hb := B.bytes
  have hr := B.returns
  have hts := atoms_spec (ws := ws) B.pre
  have hown : s.vm.findClass y.cls = some m.cls := findClass_of_methodNamed B.named
  have hlocks := B.notSynchronized
  have hl := lv_entry As (n := maxL) hlen
  rw [lg_entry_eq]
  refine body (p, e, rm, s, m, As.toArray, below, meth, c, maxL, MQ below (va_Qi (fun r u => r = r1 ∧ u = K1) (jB (l, D, w, AA, tys, NW) s.heap.size) (AA s.heap.size)) As.toArray s 0 0 (AA s.heap.size)) ⟨⟨hx, hb, hml, hown, hts⟩, hK, hN, rfl, rfl, hO⟩ ?_ s.heap [] _ hP hD va_S.rf hl
  intro pc lv hd hbb H locs ls hP hD hS hl
  have hq : ∀ t : State, t.heap = H → s.WarmedH t.vm → va_Qi (fun r u => r = r1 ∧ u = K1) (jB (l, D, w, AA, tys, NW) s.heap.size) (AA s.heap.size) As.toArray s (.returned (some (.int r1))) t := fun t ht hW => ⟨⟨r1, K1, rfl, ⟨rfl, rfl⟩, by rw [ht]; exact hP, hD⟩, hS.F ht⟩
  rcases hty with rfl | rfl
  · exact W.iret hx hb hr hq hS.2.2 hd
  · exact W.zret hx hb hr (bb_nar (hbb rfl)) hq hS.2.2 hd
theorem j_entV (hO : jOK E) (hy : plainName y.cls = true) (hw : ws = Cond.code y cc maxL none :: ws') (hlen : (lg_sl As).length ≤ maxL)
    (body : ∀ G : jG, jC E G cc y.cls ws rm maxL → (∀ (pc : Nat) (lv : List (Nat × Value)), decode cc pc = .ok (.return_, 1) → jW E G K1 pc lv []) → jW E G K 0 (lv_args 0 As) []) : cV E y ws rm As K K1 := by
  obtain ⟨l, D, w, AA, tys, NW⟩ := E
  intro sz
  refine Met.ofW (cc := cc) (maxL := maxL) (ret := none) hy hw ?_
  intro p e s m args below meth c s₁ B hml hv
  obtain ⟨rfl, hsz, hP, hK, hD, hN⟩ := hv
  subst hsz
  have hx := B.exec
  have hb := B.bytes
  have hr := B.returns
  have hts := atoms_spec (ws := ws) B.pre
  have hown : s.vm.findClass y.cls = some m.cls := findClass_of_methodNamed B.named
  have hlocks := B.notSynchronized
  have hl := lv_entry As (n := maxL) hlen
  rw [lg_entry_eq]
  refine body (p, e, rm, s, m, As.toArray, below, meth, c, maxL, MQ below (va_Qv (fun u => u = K1) (jB (l, D, w, AA, tys, NW) s.heap.size) (AA s.heap.size)) As.toArray s 0 0 (AA s.heap.size)) ⟨⟨hx, hb, hml, hown, hts⟩, hK, hN, rfl, rfl, hO⟩ ?_ s.heap [] _ hP hD va_S.rf hl
  intro pc lv hd H locs ls hP hD hS hl
  exact W.vret hx hb hr (fun t ht hW => ⟨⟨K1, rfl, rfl, by rw [ht]; exact hP, hD⟩, hS.F ht⟩) hS.2.2 hd
theorem j_entF (hO : jOK E) {r1 : UInt32} (hy : plainName y.cls = true) (hw : ws = Cond.code y cc maxL (some .float) :: ws') (hlen : (lg_sl As).length ≤ maxL)
    (body : ∀ G : jG, jC E G cc y.cls ws rm maxL → (∀ (pc : Nat) (lv : List (Nat × Value)), decode cc pc = .ok (.freturn, 1) → jW E G K1 pc lv [.float r1]) → jW E G K 0 (lv_args 0 As) []) : cF E y ws rm As K r1 K1 := by
  obtain ⟨l, D, w, AA, tys, NW⟩ := E
  intro sz
  refine Met.ofW (cc := cc) (maxL := maxL) (ret := some .float) hy hw ?_
  intro p e s m args below meth c s₁ B hml hv
  obtain ⟨rfl, hsz, hP, hK, hD, hN⟩ := hv
  subst hsz
  have hx := B.exec
  have hb := B.bytes
  have hr := B.returns
  have hts := atoms_spec (ws := ws) B.pre
  have hown : s.vm.findClass y.cls = some m.cls := findClass_of_methodNamed B.named
  have hlocks := B.notSynchronized
  have hl := lv_entry As (n := maxL) hlen
  rw [lg_entry_eq]
  refine body (p, e, rm, s, m, As.toArray, below, meth, c, maxL, MQ below (va_Qf (fun r u => r = r1 ∧ u = K1) (jB (l, D, w, AA, tys, NW) s.heap.size) (AA s.heap.size)) As.toArray s 0 0 (AA s.heap.size)) ⟨⟨hx, hb, hml, hown, hts⟩, hK, hN, rfl, rfl, hO⟩ ?_ s.heap [] _ hP hD va_S.rf hl
  intro pc lv hd H locs ls hP hD hS hl
  exact W.fret hx hb hr (fun t ht hW => ⟨⟨r1, K1, rfl, ⟨rfl, rfl⟩, by rw [ht]; exact hP, hD⟩, hS.F ht⟩) hS.2.2 hd hlocks
theorem j_entQ (hO : jOK E) {r1 : Option Nat} {cn : String} (hy : plainName y.cls = true) (hw : ws = Cond.code y cc maxL (some (.object cn)) :: ws') (hlen : (lg_sl As).length ≤ maxL)
    (body : ∀ G : jG, jC E G cc y.cls ws rm maxL → (∀ (pc : Nat) (lv : List (Nat × Value)), decode cc pc = .ok (.areturn, 1) → jW E G K1 pc lv [va_rf r1]) → jW E G K 0 (lv_args 0 As) []) : cQ E y ws rm As K r1 K1 := by
  obtain ⟨l, D, w, AA, tys, NW⟩ := E
  intro sz
  refine Met.ofW (cc := cc) (maxL := maxL) (ret := some (.object cn)) hy hw ?_
  intro p e s m args below meth c s₁ B hml hv
  obtain ⟨rfl, hsz, hP, hK, hD, hN⟩ := hv
  subst hsz
  have hx := B.exec
  have hb := B.bytes
  have hr := B.returns
  have hts := atoms_spec (ws := ws) B.pre
  have hown : s.vm.findClass y.cls = some m.cls := findClass_of_methodNamed B.named
  have hlocks := B.notSynchronized
  have hl := lv_entry As (n := maxL) hlen
  rw [lg_entry_eq]
  refine body (p, e, rm, s, m, As.toArray, below, meth, c, maxL, MQ below (va_Qq (fun r u => r = r1 ∧ u = K1) (jB (l, D, w, AA, tys, NW) s.heap.size) (AA s.heap.size)) As.toArray s 0 0 (AA s.heap.size)) ⟨⟨hx, hb, hml, hown, hts⟩, hK, hN, rfl, rfl, hO⟩ ?_ s.heap [] _ hP hD va_S.rf hl
  intro pc lv hd H locs ls hP hD hS hl
  exact W.aret hx hb hr (Or.inl ⟨_, rfl⟩) (by cases r1 <;> simp [va_rf]) (fun t ht hW => ⟨⟨r1, K1, rfl, ⟨rfl, rfl⟩, by rw [ht]; exact hP, hD⟩, hS.F ht⟩) hS.2.2 hd
end Ent
theorem j_cVI (C : jC E G cc own Ts rm n0) {y : MethodName} {bytes : ByteArray} {maxL n index : Nat} {ret : Option FieldType} {ws ws' : List Cond} {rm1 : Room} {K1 : Mem} {r1 : Int32} {a q0 ci : Nat} {qc : vw_C} {fs : List Value} (As : List Value) (hg : GoodIn Ts (wsV own index qc.1 y ws)) (hw : ws = Cond.code y bytes maxL ret :: ws') (hdd : y.cls = qc.1 ∧ y.cls ≠ "java/lang/invoke/MethodHandle" ∧ y.cls ≠ "java/lang/invoke/VarHandle" ∧ (parseMethodDescriptor y.desc).map (fun d => d.parameters.length) = some n) (hR : (rm1.cells = 0 ∧ rm1.slots = 0) ∧ rm1.frames + 1 ≤ rm.frames ∧ 8 + (maxL + 11) + rm1.locals ≤ rm.locals) (hn : As.length = n) (he : (E.2.2.1 K)[q0]? = some (a, .inr (ci, fs))) (hc : vwCl[ci]? = some qc) (hM : cI E y ws rm1 (.ref a :: As) K r1 K1) (hd : decode cc pc = .ok (.invokevirtual index, 3)) {stk0 : List Value} (hst : stk0 = As.reverse ++ .ref a :: stk) (hcat : (stk.map fun v => v.category).sum ≤ 8) (k : jW E G K1 (pc + 3) lv (.int r1 :: stk)) : jW E G K pc lv stk0 := by
  obtain ⟨l, D, w, AA, tys, NW⟩ := E
  obtain ⟨p, e, R, s, m, args, below, meth, c, nL, Q⟩ := G
  obtain ⟨⟨hx, hb, hml, hown, hts⟩, hK, hN, hR0, hn0, hO⟩ := C
  intro H locs ls hP hD hS hl
  subst hst
  subst hR0
  refine va_calli (va_runV (As := As) (rest := stk) ⟨hx, hb, hml, hown, hts⟩ (hM H.size) (cwV n hts hg hw hR.1.1 hR.1.2 hdd hR.2) ⟨jP_blind hO, va_recv hK hP hc he, jP_of hO hP hD hK hN⟩ rfl hn (hl.1) rfl (lv_room hcat) hd ⟨Nat.zero_le _, Nat.zero_le _⟩) hS (fun q _ h => hO.2.1 _ _ q hS.1 h) (fun q h => hO.2.1 _ _ q hS.1 h) (fun r u t H1 locs1 ht hvm hw hB hz1 hk1 hS1 => ?_)
  obtain ⟨rfl, rfl⟩ := hw
  exact k H1 locs1 ls (by rw [← ht]; exact hB.1) (hO.2.2.1 _ _ _ _ hB.2) hS1 hl
theorem j_cSI (C : jC E G cc own Ts rm n0) {y : MethodName} {bytes : ByteArray} {maxL n index : Nat} {ret : Option FieldType} {ws ws' : List Cond} {rm1 : Room} {K1 : Mem} {r1 : Int32} (As : List Value) (hg : GoodIn Ts (va_wsS own index y ws)) (hw : ws = Cond.code y bytes maxL ret :: ws') (hdd : y.cls ≠ "java/lang/invoke/MethodHandle" ∧ y.cls ≠ "java/lang/invoke/VarHandle" ∧ (parseMethodDescriptor y.desc).map (fun d => d.parameters.length) = some n) (hR : (rm1.cells = 0 ∧ rm1.slots = 0) ∧ rm1.frames + 1 ≤ rm.frames ∧ 8 + (maxL + 11) + rm1.locals ≤ rm.locals) (hn : As.length = n) (hM : cI E y ws rm1 As K r1 K1) (hd : decode cc pc = .ok (.invokestatic index, 3)) {stk0 : List Value} (hst : stk0 = As.reverse ++ stk) (hcat : (stk.map fun v => v.category).sum ≤ 8) (k : jW E G K1 (pc + 3) lv (.int r1 :: stk)) : jW E G K pc lv stk0 := by
  obtain ⟨l, D, w, AA, tys, NW⟩ := E
  obtain ⟨p, e, R, s, m, args, below, meth, c, nL, Q⟩ := G
  obtain ⟨⟨hx, hb, hml, hown, hts⟩, hK, hN, hR0, hn0, hO⟩ := C
  intro H locs ls hP hD hS hl
  subst hst
  subst hR0
  refine va_calli (va_runS (As := As) (rest := stk) ⟨hx, hb, hml, hown, hts⟩ (hM H.size) (va_cwS n hts hg hw hR.1.1 hR.1.2 hdd hR.2) ⟨jP_blind hO, jP_of hO hP hD hK hN⟩ rfl hn (hl.1) rfl (lv_room hcat) hd ⟨Nat.zero_le _, Nat.zero_le _⟩) hS (fun q _ h => hO.2.1 _ _ q hS.1 h) (fun q h => hO.2.1 _ _ q hS.1 h) (fun r u t H1 locs1 ht hvm hw hB hz1 hk1 hS1 => ?_)
  obtain ⟨rfl, rfl⟩ := hw
  exact k H1 locs1 ls (by rw [← ht]; exact hB.1) (hO.2.2.1 _ _ _ _ hB.2) hS1 hl
theorem j_cNI (C : jC E G cc own Ts rm n0) {y : MethodName} {bytes : ByteArray} {maxL n index : Nat} {ret : Option FieldType} {ws ws' : List Cond} {rm1 : Room} {K1 : Mem} {r1 : Int32} {host : String} (As : List Value) (hg : GoodIn Ts ws) (hw : ws = Cond.code y bytes maxL ret :: ws') (hnw : ∀ U, E.2.2.2.2.2 U → va_Nw (.methodLinkNest own index y host) U) (hini : Cond.initialized y.cls ∈ Ts) (hsta : Cond.static y ∈ Ts) (hdd : y.cls ≠ "java/lang/invoke/MethodHandle" ∧ y.cls ≠ "java/lang/invoke/VarHandle" ∧ (parseMethodDescriptor y.desc).map (fun d => d.parameters.length) = some n) (hR : (rm1.cells = 0 ∧ rm1.slots = 0) ∧ rm1.frames + 1 ≤ rm.frames ∧ 8 + (maxL + 11) + rm1.locals ≤ rm.locals) (hn : As.length = n) (hM : cI E y ws rm1 As K r1 K1) (hd : decode cc pc = .ok (.invokestatic index, 3)) {stk0 : List Value} (hst : stk0 = As.reverse ++ stk) (hcat : (stk.map fun v => v.category).sum ≤ 8) (k : jW E G K1 (pc + 3) lv (.int r1 :: stk)) : jW E G K pc lv stk0 := by
  obtain ⟨l, D, w, AA, tys, NW⟩ := E
  obtain ⟨p, e, R, s, m, args, below, meth, c, nL, Q⟩ := G
  obtain ⟨⟨hx, hb, hml, hown, hts⟩, hK, hN, hR0, hn0, hO⟩ := C
  intro H locs ls hP hD hS hl
  subst hst
  subst hR0
  refine va_calli (va_runSN (host := host) (As := As) (rest := stk) ⟨hx, hb, hml, hown, hts⟩ (hM H.size) ⟨va_cnB n hts hg hw hR.1.1 hR.1.2 (hnw _ hN) (hts _ hini) hdd hR.2, hts _ hsta, trivial⟩ ⟨jP_blind hO, jP_of hO hP hD hK hN⟩ rfl hn (hl.1) rfl (lv_room hcat) hd ⟨Nat.zero_le _, Nat.zero_le _⟩) hS (fun q _ h => hO.2.1 _ _ q hS.1 h) (fun q h => hO.2.1 _ _ q hS.1 h) (fun r u t H1 locs1 ht hvm hw hB hz1 hk1 hS1 => ?_)
  obtain ⟨rfl, rfl⟩ := hw
  exact k H1 locs1 ls (by rw [← ht]; exact hB.1) (hO.2.2.1 _ _ _ _ hB.2) hS1 hl
theorem j_cVF (C : jC E G cc own Ts rm n0) {y : MethodName} {bytes : ByteArray} {maxL n index : Nat} {ret : Option FieldType} {ws ws' : List Cond} {rm1 : Room} {K1 : Mem} {r1 : UInt32} {a q0 ci : Nat} {qc : vw_C} {fs : List Value} (As : List Value) (hg : GoodIn Ts (wsV own index qc.1 y ws)) (hw : ws = Cond.code y bytes maxL ret :: ws') (hdd : y.cls = qc.1 ∧ y.cls ≠ "java/lang/invoke/MethodHandle" ∧ y.cls ≠ "java/lang/invoke/VarHandle" ∧ (parseMethodDescriptor y.desc).map (fun d => d.parameters.length) = some n) (hR : (rm1.cells = 0 ∧ rm1.slots = 0) ∧ rm1.frames + 1 ≤ rm.frames ∧ 8 + (maxL + 11) + rm1.locals ≤ rm.locals) (hn : As.length = n) (he : (E.2.2.1 K)[q0]? = some (a, .inr (ci, fs))) (hc : vwCl[ci]? = some qc) (hM : cF E y ws rm1 (.ref a :: As) K r1 K1) (hd : decode cc pc = .ok (.invokevirtual index, 3)) {stk0 : List Value} (hst : stk0 = As.reverse ++ .ref a :: stk) (hcat : (stk.map fun v => v.category).sum ≤ 8) (k : jW E G K1 (pc + 3) lv (.float r1 :: stk)) : jW E G K pc lv stk0 := by
  obtain ⟨l, D, w, AA, tys, NW⟩ := E
  obtain ⟨p, e, R, s, m, args, below, meth, c, nL, Q⟩ := G
  obtain ⟨⟨hx, hb, hml, hown, hts⟩, hK, hN, hR0, hn0, hO⟩ := C
  intro H locs ls hP hD hS hl
  subst hst
  subst hR0
  refine va_callf (va_runV (As := As) (rest := stk) ⟨hx, hb, hml, hown, hts⟩ (hM H.size) (cwV n hts hg hw hR.1.1 hR.1.2 hdd hR.2) ⟨jP_blind hO, va_recv hK hP hc he, jP_of hO hP hD hK hN⟩ rfl hn (hl.1) rfl (lv_room hcat) hd ⟨Nat.zero_le _, Nat.zero_le _⟩) hS (fun q _ h => hO.2.1 _ _ q hS.1 h) (fun q h => hO.2.1 _ _ q hS.1 h) (fun r u t H1 locs1 ht hvm hw hB hz1 hk1 hS1 => ?_)
  obtain ⟨rfl, rfl⟩ := hw
  exact k H1 locs1 ls (by rw [← ht]; exact hB.1) (hO.2.2.1 _ _ _ _ hB.2) hS1 hl
theorem j_cSF (C : jC E G cc own Ts rm n0) {y : MethodName} {bytes : ByteArray} {maxL n index : Nat} {ret : Option FieldType} {ws ws' : List Cond} {rm1 : Room} {K1 : Mem} {r1 : UInt32} (As : List Value) (hg : GoodIn Ts (va_wsS own index y ws)) (hw : ws = Cond.code y bytes maxL ret :: ws') (hdd : y.cls ≠ "java/lang/invoke/MethodHandle" ∧ y.cls ≠ "java/lang/invoke/VarHandle" ∧ (parseMethodDescriptor y.desc).map (fun d => d.parameters.length) = some n) (hR : (rm1.cells = 0 ∧ rm1.slots = 0) ∧ rm1.frames + 1 ≤ rm.frames ∧ 8 + (maxL + 11) + rm1.locals ≤ rm.locals) (hn : As.length = n) (hM : cF E y ws rm1 As K r1 K1) (hd : decode cc pc = .ok (.invokestatic index, 3)) {stk0 : List Value} (hst : stk0 = As.reverse ++ stk) (hcat : (stk.map fun v => v.category).sum ≤ 8) (k : jW E G K1 (pc + 3) lv (.float r1 :: stk)) : jW E G K pc lv stk0 := by
  obtain ⟨l, D, w, AA, tys, NW⟩ := E
  obtain ⟨p, e, R, s, m, args, below, meth, c, nL, Q⟩ := G
  obtain ⟨⟨hx, hb, hml, hown, hts⟩, hK, hN, hR0, hn0, hO⟩ := C
  intro H locs ls hP hD hS hl
  subst hst
  subst hR0
  refine va_callf (va_runS (As := As) (rest := stk) ⟨hx, hb, hml, hown, hts⟩ (hM H.size) (va_cwS n hts hg hw hR.1.1 hR.1.2 hdd hR.2) ⟨jP_blind hO, jP_of hO hP hD hK hN⟩ rfl hn (hl.1) rfl (lv_room hcat) hd ⟨Nat.zero_le _, Nat.zero_le _⟩) hS (fun q _ h => hO.2.1 _ _ q hS.1 h) (fun q h => hO.2.1 _ _ q hS.1 h) (fun r u t H1 locs1 ht hvm hw hB hz1 hk1 hS1 => ?_)
  obtain ⟨rfl, rfl⟩ := hw
  exact k H1 locs1 ls (by rw [← ht]; exact hB.1) (hO.2.2.1 _ _ _ _ hB.2) hS1 hl
theorem j_cNF (C : jC E G cc own Ts rm n0) {y : MethodName} {bytes : ByteArray} {maxL n index : Nat} {ret : Option FieldType} {ws ws' : List Cond} {rm1 : Room} {K1 : Mem} {r1 : UInt32} {host : String} (As : List Value) (hg : GoodIn Ts ws) (hw : ws = Cond.code y bytes maxL ret :: ws') (hnw : ∀ U, E.2.2.2.2.2 U → va_Nw (.methodLinkNest own index y host) U) (hini : Cond.initialized y.cls ∈ Ts) (hsta : Cond.static y ∈ Ts) (hdd : y.cls ≠ "java/lang/invoke/MethodHandle" ∧ y.cls ≠ "java/lang/invoke/VarHandle" ∧ (parseMethodDescriptor y.desc).map (fun d => d.parameters.length) = some n) (hR : (rm1.cells = 0 ∧ rm1.slots = 0) ∧ rm1.frames + 1 ≤ rm.frames ∧ 8 + (maxL + 11) + rm1.locals ≤ rm.locals) (hn : As.length = n) (hM : cF E y ws rm1 As K r1 K1) (hd : decode cc pc = .ok (.invokestatic index, 3)) {stk0 : List Value} (hst : stk0 = As.reverse ++ stk) (hcat : (stk.map fun v => v.category).sum ≤ 8) (k : jW E G K1 (pc + 3) lv (.float r1 :: stk)) : jW E G K pc lv stk0 := by
  obtain ⟨l, D, w, AA, tys, NW⟩ := E
  obtain ⟨p, e, R, s, m, args, below, meth, c, nL, Q⟩ := G
  obtain ⟨⟨hx, hb, hml, hown, hts⟩, hK, hN, hR0, hn0, hO⟩ := C
  intro H locs ls hP hD hS hl
  subst hst
  subst hR0
  refine va_callf (va_runSN (host := host) (As := As) (rest := stk) ⟨hx, hb, hml, hown, hts⟩ (hM H.size) ⟨va_cnB n hts hg hw hR.1.1 hR.1.2 (hnw _ hN) (hts _ hini) hdd hR.2, hts _ hsta, trivial⟩ ⟨jP_blind hO, jP_of hO hP hD hK hN⟩ rfl hn (hl.1) rfl (lv_room hcat) hd ⟨Nat.zero_le _, Nat.zero_le _⟩) hS (fun q _ h => hO.2.1 _ _ q hS.1 h) (fun q h => hO.2.1 _ _ q hS.1 h) (fun r u t H1 locs1 ht hvm hw hB hz1 hk1 hS1 => ?_)
  obtain ⟨rfl, rfl⟩ := hw
  exact k H1 locs1 ls (by rw [← ht]; exact hB.1) (hO.2.2.1 _ _ _ _ hB.2) hS1 hl
theorem j_cVQ (C : jC E G cc own Ts rm n0) {y : MethodName} {bytes : ByteArray} {maxL n index : Nat} {ret : Option FieldType} {ws ws' : List Cond} {rm1 : Room} {K1 : Mem} {r1 : Option Nat} {a q0 ci : Nat} {qc : vw_C} {fs : List Value} (As : List Value) (hg : GoodIn Ts (wsV own index qc.1 y ws)) (hw : ws = Cond.code y bytes maxL ret :: ws') (hdd : y.cls = qc.1 ∧ y.cls ≠ "java/lang/invoke/MethodHandle" ∧ y.cls ≠ "java/lang/invoke/VarHandle" ∧ (parseMethodDescriptor y.desc).map (fun d => d.parameters.length) = some n) (hR : (rm1.cells = 0 ∧ rm1.slots = 0) ∧ rm1.frames + 1 ≤ rm.frames ∧ 8 + (maxL + 11) + rm1.locals ≤ rm.locals) (hn : As.length = n) (he : (E.2.2.1 K)[q0]? = some (a, .inr (ci, fs))) (hc : vwCl[ci]? = some qc) (hM : cQ E y ws rm1 (.ref a :: As) K r1 K1) (hd : decode cc pc = .ok (.invokevirtual index, 3)) {stk0 : List Value} (hst : stk0 = As.reverse ++ .ref a :: stk) (hcat : (stk.map fun v => v.category).sum ≤ 8) (k : jW E G K1 (pc + 3) lv (va_rf r1 :: stk)) : jW E G K pc lv stk0 := by
  obtain ⟨l, D, w, AA, tys, NW⟩ := E
  obtain ⟨p, e, R, s, m, args, below, meth, c, nL, Q⟩ := G
  obtain ⟨⟨hx, hb, hml, hown, hts⟩, hK, hN, hR0, hn0, hO⟩ := C
  intro H locs ls hP hD hS hl
  subst hst
  subst hR0
  refine va_callq (va_runV (As := As) (rest := stk) ⟨hx, hb, hml, hown, hts⟩ (hM H.size) (cwV n hts hg hw hR.1.1 hR.1.2 hdd hR.2) ⟨jP_blind hO, va_recv hK hP hc he, jP_of hO hP hD hK hN⟩ rfl hn (hl.1) rfl (lv_room hcat) hd ⟨Nat.zero_le _, Nat.zero_le _⟩) hS (fun q _ h => hO.2.1 _ _ q hS.1 h) (fun q h => hO.2.1 _ _ q hS.1 h) (fun r u t H1 locs1 ht hvm hw hB hz1 hk1 hS1 => ?_)
  obtain ⟨rfl, rfl⟩ := hw
  exact k H1 locs1 ls (by rw [← ht]; exact hB.1) (hO.2.2.1 _ _ _ _ hB.2) hS1 hl
theorem j_cSQ (C : jC E G cc own Ts rm n0) {y : MethodName} {bytes : ByteArray} {maxL n index : Nat} {ret : Option FieldType} {ws ws' : List Cond} {rm1 : Room} {K1 : Mem} {r1 : Option Nat} (As : List Value) (hg : GoodIn Ts (va_wsS own index y ws)) (hw : ws = Cond.code y bytes maxL ret :: ws') (hdd : y.cls ≠ "java/lang/invoke/MethodHandle" ∧ y.cls ≠ "java/lang/invoke/VarHandle" ∧ (parseMethodDescriptor y.desc).map (fun d => d.parameters.length) = some n) (hR : (rm1.cells = 0 ∧ rm1.slots = 0) ∧ rm1.frames + 1 ≤ rm.frames ∧ 8 + (maxL + 11) + rm1.locals ≤ rm.locals) (hn : As.length = n) (hM : cQ E y ws rm1 As K r1 K1) (hd : decode cc pc = .ok (.invokestatic index, 3)) {stk0 : List Value} (hst : stk0 = As.reverse ++ stk) (hcat : (stk.map fun v => v.category).sum ≤ 8) (k : jW E G K1 (pc + 3) lv (va_rf r1 :: stk)) : jW E G K pc lv stk0 := by
  obtain ⟨l, D, w, AA, tys, NW⟩ := E
  obtain ⟨p, e, R, s, m, args, below, meth, c, nL, Q⟩ := G
  obtain ⟨⟨hx, hb, hml, hown, hts⟩, hK, hN, hR0, hn0, hO⟩ := C
  intro H locs ls hP hD hS hl
  subst hst
  subst hR0
  refine va_callq (va_runS (As := As) (rest := stk) ⟨hx, hb, hml, hown, hts⟩ (hM H.size) (va_cwS n hts hg hw hR.1.1 hR.1.2 hdd hR.2) ⟨jP_blind hO, jP_of hO hP hD hK hN⟩ rfl hn (hl.1) rfl (lv_room hcat) hd ⟨Nat.zero_le _, Nat.zero_le _⟩) hS (fun q _ h => hO.2.1 _ _ q hS.1 h) (fun q h => hO.2.1 _ _ q hS.1 h) (fun r u t H1 locs1 ht hvm hw hB hz1 hk1 hS1 => ?_)
  obtain ⟨rfl, rfl⟩ := hw
  exact k H1 locs1 ls (by rw [← ht]; exact hB.1) (hO.2.2.1 _ _ _ _ hB.2) hS1 hl
theorem j_cNQ (C : jC E G cc own Ts rm n0) {y : MethodName} {bytes : ByteArray} {maxL n index : Nat} {ret : Option FieldType} {ws ws' : List Cond} {rm1 : Room} {K1 : Mem} {r1 : Option Nat} {host : String} (As : List Value) (hg : GoodIn Ts ws) (hw : ws = Cond.code y bytes maxL ret :: ws') (hnw : ∀ U, E.2.2.2.2.2 U → va_Nw (.methodLinkNest own index y host) U) (hini : Cond.initialized y.cls ∈ Ts) (hsta : Cond.static y ∈ Ts) (hdd : y.cls ≠ "java/lang/invoke/MethodHandle" ∧ y.cls ≠ "java/lang/invoke/VarHandle" ∧ (parseMethodDescriptor y.desc).map (fun d => d.parameters.length) = some n) (hR : (rm1.cells = 0 ∧ rm1.slots = 0) ∧ rm1.frames + 1 ≤ rm.frames ∧ 8 + (maxL + 11) + rm1.locals ≤ rm.locals) (hn : As.length = n) (hM : cQ E y ws rm1 As K r1 K1) (hd : decode cc pc = .ok (.invokestatic index, 3)) {stk0 : List Value} (hst : stk0 = As.reverse ++ stk) (hcat : (stk.map fun v => v.category).sum ≤ 8) (k : jW E G K1 (pc + 3) lv (va_rf r1 :: stk)) : jW E G K pc lv stk0 := by
  obtain ⟨l, D, w, AA, tys, NW⟩ := E
  obtain ⟨p, e, R, s, m, args, below, meth, c, nL, Q⟩ := G
  obtain ⟨⟨hx, hb, hml, hown, hts⟩, hK, hN, hR0, hn0, hO⟩ := C
  intro H locs ls hP hD hS hl
  subst hst
  subst hR0
  refine va_callq (va_runSN (host := host) (As := As) (rest := stk) ⟨hx, hb, hml, hown, hts⟩ (hM H.size) ⟨va_cnB n hts hg hw hR.1.1 hR.1.2 (hnw _ hN) (hts _ hini) hdd hR.2, hts _ hsta, trivial⟩ ⟨jP_blind hO, jP_of hO hP hD hK hN⟩ rfl hn (hl.1) rfl (lv_room hcat) hd ⟨Nat.zero_le _, Nat.zero_le _⟩) hS (fun q _ h => hO.2.1 _ _ q hS.1 h) (fun q h => hO.2.1 _ _ q hS.1 h) (fun r u t H1 locs1 ht hvm hw hB hz1 hk1 hS1 => ?_)
  obtain ⟨rfl, rfl⟩ := hw
  exact k H1 locs1 ls (by rw [← ht]; exact hB.1) (hO.2.2.1 _ _ _ _ hB.2) hS1 hl
theorem j_cVR (C : jC E G cc own Ts rm n0) {y : MethodName} {bytes : ByteArray} {maxL n index : Nat} {ret : Option FieldType} {ws ws' : List Cond} {rm1 : Room} {K1 : Mem} {r1 : Nat} {a q0 ci : Nat} {qc : vw_C} {fs : List Value} (As : List Value) (hg : GoodIn Ts (wsV own index qc.1 y ws)) (hw : ws = Cond.code y bytes maxL ret :: ws') (hdd : y.cls = qc.1 ∧ y.cls ≠ "java/lang/invoke/MethodHandle" ∧ y.cls ≠ "java/lang/invoke/VarHandle" ∧ (parseMethodDescriptor y.desc).map (fun d => d.parameters.length) = some n) (hR : (rm1.cells = 0 ∧ rm1.slots = 0) ∧ rm1.frames + 1 ≤ rm.frames ∧ 8 + (maxL + 11) + rm1.locals ≤ rm.locals) (hn : As.length = n) (he : (E.2.2.1 K)[q0]? = some (a, .inr (ci, fs))) (hc : vwCl[ci]? = some qc) (hM : cQ E y ws rm1 (.ref a :: As) K (some r1) K1) (hd : decode cc pc = .ok (.invokevirtual index, 3)) {stk0 : List Value} (hst : stk0 = As.reverse ++ .ref a :: stk) (hcat : (stk.map fun v => v.category).sum ≤ 8) (k : jW E G K1 (pc + 3) lv (.ref r1 :: stk)) : jW E G K pc lv stk0 := by
  obtain ⟨l, D, w, AA, tys, NW⟩ := E
  obtain ⟨p, e, R, s, m, args, below, meth, c, nL, Q⟩ := G
  obtain ⟨⟨hx, hb, hml, hown, hts⟩, hK, hN, hR0, hn0, hO⟩ := C
  intro H locs ls hP hD hS hl
  subst hst
  subst hR0
  refine va_callq (va_runV (As := As) (rest := stk) ⟨hx, hb, hml, hown, hts⟩ (hM H.size) (cwV n hts hg hw hR.1.1 hR.1.2 hdd hR.2) ⟨jP_blind hO, va_recv hK hP hc he, jP_of hO hP hD hK hN⟩ rfl hn (hl.1) rfl (lv_room hcat) hd ⟨Nat.zero_le _, Nat.zero_le _⟩) hS (fun q _ h => hO.2.1 _ _ q hS.1 h) (fun q h => hO.2.1 _ _ q hS.1 h) (fun r u t H1 locs1 ht hvm hw hB hz1 hk1 hS1 => ?_)
  obtain ⟨rfl, rfl⟩ := hw
  exact k H1 locs1 ls (by rw [← ht]; exact hB.1) (hO.2.2.1 _ _ _ _ hB.2) hS1 hl
theorem j_cSR (C : jC E G cc own Ts rm n0) {y : MethodName} {bytes : ByteArray} {maxL n index : Nat} {ret : Option FieldType} {ws ws' : List Cond} {rm1 : Room} {K1 : Mem} {r1 : Nat} (As : List Value) (hg : GoodIn Ts (va_wsS own index y ws)) (hw : ws = Cond.code y bytes maxL ret :: ws') (hdd : y.cls ≠ "java/lang/invoke/MethodHandle" ∧ y.cls ≠ "java/lang/invoke/VarHandle" ∧ (parseMethodDescriptor y.desc).map (fun d => d.parameters.length) = some n) (hR : (rm1.cells = 0 ∧ rm1.slots = 0) ∧ rm1.frames + 1 ≤ rm.frames ∧ 8 + (maxL + 11) + rm1.locals ≤ rm.locals) (hn : As.length = n) (hM : cQ E y ws rm1 As K (some r1) K1) (hd : decode cc pc = .ok (.invokestatic index, 3)) {stk0 : List Value} (hst : stk0 = As.reverse ++ stk) (hcat : (stk.map fun v => v.category).sum ≤ 8) (k : jW E G K1 (pc + 3) lv (.ref r1 :: stk)) : jW E G K pc lv stk0 := by
  obtain ⟨l, D, w, AA, tys, NW⟩ := E
  obtain ⟨p, e, R, s, m, args, below, meth, c, nL, Q⟩ := G
  obtain ⟨⟨hx, hb, hml, hown, hts⟩, hK, hN, hR0, hn0, hO⟩ := C
  intro H locs ls hP hD hS hl
  subst hst
  subst hR0
  refine va_callq (va_runS (As := As) (rest := stk) ⟨hx, hb, hml, hown, hts⟩ (hM H.size) (va_cwS n hts hg hw hR.1.1 hR.1.2 hdd hR.2) ⟨jP_blind hO, jP_of hO hP hD hK hN⟩ rfl hn (hl.1) rfl (lv_room hcat) hd ⟨Nat.zero_le _, Nat.zero_le _⟩) hS (fun q _ h => hO.2.1 _ _ q hS.1 h) (fun q h => hO.2.1 _ _ q hS.1 h) (fun r u t H1 locs1 ht hvm hw hB hz1 hk1 hS1 => ?_)
  obtain ⟨rfl, rfl⟩ := hw
  exact k H1 locs1 ls (by rw [← ht]; exact hB.1) (hO.2.2.1 _ _ _ _ hB.2) hS1 hl
theorem j_cNR (C : jC E G cc own Ts rm n0) {y : MethodName} {bytes : ByteArray} {maxL n index : Nat} {ret : Option FieldType} {ws ws' : List Cond} {rm1 : Room} {K1 : Mem} {r1 : Nat} {host : String} (As : List Value) (hg : GoodIn Ts ws) (hw : ws = Cond.code y bytes maxL ret :: ws') (hnw : ∀ U, E.2.2.2.2.2 U → va_Nw (.methodLinkNest own index y host) U) (hini : Cond.initialized y.cls ∈ Ts) (hsta : Cond.static y ∈ Ts) (hdd : y.cls ≠ "java/lang/invoke/MethodHandle" ∧ y.cls ≠ "java/lang/invoke/VarHandle" ∧ (parseMethodDescriptor y.desc).map (fun d => d.parameters.length) = some n) (hR : (rm1.cells = 0 ∧ rm1.slots = 0) ∧ rm1.frames + 1 ≤ rm.frames ∧ 8 + (maxL + 11) + rm1.locals ≤ rm.locals) (hn : As.length = n) (hM : cQ E y ws rm1 As K (some r1) K1) (hd : decode cc pc = .ok (.invokestatic index, 3)) {stk0 : List Value} (hst : stk0 = As.reverse ++ stk) (hcat : (stk.map fun v => v.category).sum ≤ 8) (k : jW E G K1 (pc + 3) lv (.ref r1 :: stk)) : jW E G K pc lv stk0 := by
  obtain ⟨l, D, w, AA, tys, NW⟩ := E
  obtain ⟨p, e, R, s, m, args, below, meth, c, nL, Q⟩ := G
  obtain ⟨⟨hx, hb, hml, hown, hts⟩, hK, hN, hR0, hn0, hO⟩ := C
  intro H locs ls hP hD hS hl
  subst hst
  subst hR0
  refine va_callq (va_runSN (host := host) (As := As) (rest := stk) ⟨hx, hb, hml, hown, hts⟩ (hM H.size) ⟨va_cnB n hts hg hw hR.1.1 hR.1.2 (hnw _ hN) (hts _ hini) hdd hR.2, hts _ hsta, trivial⟩ ⟨jP_blind hO, jP_of hO hP hD hK hN⟩ rfl hn (hl.1) rfl (lv_room hcat) hd ⟨Nat.zero_le _, Nat.zero_le _⟩) hS (fun q _ h => hO.2.1 _ _ q hS.1 h) (fun q h => hO.2.1 _ _ q hS.1 h) (fun r u t H1 locs1 ht hvm hw hB hz1 hk1 hS1 => ?_)
  obtain ⟨rfl, rfl⟩ := hw
  exact k H1 locs1 ls (by rw [← ht]; exact hB.1) (hO.2.2.1 _ _ _ _ hB.2) hS1 hl
theorem j_cVV (C : jC E G cc own Ts rm n0) {y : MethodName} {bytes : ByteArray} {maxL n index : Nat} {ret : Option FieldType} {ws ws' : List Cond} {rm1 : Room} {K1 : Mem}  {a q0 ci : Nat} {qc : vw_C} {fs : List Value} (As : List Value) (hg : GoodIn Ts (wsV own index qc.1 y ws)) (hw : ws = Cond.code y bytes maxL ret :: ws') (hdd : y.cls = qc.1 ∧ y.cls ≠ "java/lang/invoke/MethodHandle" ∧ y.cls ≠ "java/lang/invoke/VarHandle" ∧ (parseMethodDescriptor y.desc).map (fun d => d.parameters.length) = some n) (hR : (rm1.cells = 0 ∧ rm1.slots = 0) ∧ rm1.frames + 1 ≤ rm.frames ∧ 8 + (maxL + 11) + rm1.locals ≤ rm.locals) (hn : As.length = n) (he : (E.2.2.1 K)[q0]? = some (a, .inr (ci, fs))) (hc : vwCl[ci]? = some qc) (hM : cV E y ws rm1 (.ref a :: As) K K1) (hd : decode cc pc = .ok (.invokevirtual index, 3)) {stk0 : List Value} (hst : stk0 = As.reverse ++ .ref a :: stk) (hcat : (stk.map fun v => v.category).sum ≤ 8) (k : jW E G K1 (pc + 3) lv (stk)) : jW E G K pc lv stk0 := by
  obtain ⟨l, D, w, AA, tys, NW⟩ := E
  obtain ⟨p, e, R, s, m, args, below, meth, c, nL, Q⟩ := G
  obtain ⟨⟨hx, hb, hml, hown, hts⟩, hK, hN, hR0, hn0, hO⟩ := C
  intro H locs ls hP hD hS hl
  subst hst
  subst hR0
  refine va_callv (va_runV (As := As) (rest := stk) ⟨hx, hb, hml, hown, hts⟩ (hM H.size) (cwV n hts hg hw hR.1.1 hR.1.2 hdd hR.2) ⟨jP_blind hO, va_recv hK hP hc he, jP_of hO hP hD hK hN⟩ rfl hn (hl.1) rfl (lv_room hcat) hd ⟨Nat.zero_le _, Nat.zero_le _⟩) hS (fun q _ h => hO.2.1 _ _ q hS.1 h) (fun q h => hO.2.1 _ _ q hS.1 h) (fun u t H1 locs1 ht hvm hw hB hz1 hk1 hS1 => ?_)
  obtain rfl := hw
  exact k H1 locs1 ls (by rw [← ht]; exact hB.1) (hO.2.2.1 _ _ _ _ hB.2) hS1 hl
theorem j_cSV (C : jC E G cc own Ts rm n0) {y : MethodName} {bytes : ByteArray} {maxL n index : Nat} {ret : Option FieldType} {ws ws' : List Cond} {rm1 : Room} {K1 : Mem}  (As : List Value) (hg : GoodIn Ts (va_wsS own index y ws)) (hw : ws = Cond.code y bytes maxL ret :: ws') (hdd : y.cls ≠ "java/lang/invoke/MethodHandle" ∧ y.cls ≠ "java/lang/invoke/VarHandle" ∧ (parseMethodDescriptor y.desc).map (fun d => d.parameters.length) = some n) (hR : (rm1.cells = 0 ∧ rm1.slots = 0) ∧ rm1.frames + 1 ≤ rm.frames ∧ 8 + (maxL + 11) + rm1.locals ≤ rm.locals) (hn : As.length = n) (hM : cV E y ws rm1 As K K1) (hd : decode cc pc = .ok (.invokestatic index, 3)) {stk0 : List Value} (hst : stk0 = As.reverse ++ stk) (hcat : (stk.map fun v => v.category).sum ≤ 8) (k : jW E G K1 (pc + 3) lv (stk)) : jW E G K pc lv stk0 := by
  obtain ⟨l, D, w, AA, tys, NW⟩ := E
  obtain ⟨p, e, R, s, m, args, below, meth, c, nL, Q⟩ := G
  obtain ⟨⟨hx, hb, hml, hown, hts⟩, hK, hN, hR0, hn0, hO⟩ := C
  intro H locs ls hP hD hS hl
  subst hst
  subst hR0
  refine va_callv (va_runS (As := As) (rest := stk) ⟨hx, hb, hml, hown, hts⟩ (hM H.size) (va_cwS n hts hg hw hR.1.1 hR.1.2 hdd hR.2) ⟨jP_blind hO, jP_of hO hP hD hK hN⟩ rfl hn (hl.1) rfl (lv_room hcat) hd ⟨Nat.zero_le _, Nat.zero_le _⟩) hS (fun q _ h => hO.2.1 _ _ q hS.1 h) (fun q h => hO.2.1 _ _ q hS.1 h) (fun u t H1 locs1 ht hvm hw hB hz1 hk1 hS1 => ?_)
  obtain rfl := hw
  exact k H1 locs1 ls (by rw [← ht]; exact hB.1) (hO.2.2.1 _ _ _ _ hB.2) hS1 hl
theorem j_cNV (C : jC E G cc own Ts rm n0) {y : MethodName} {bytes : ByteArray} {maxL n index : Nat} {ret : Option FieldType} {ws ws' : List Cond} {rm1 : Room} {K1 : Mem}  {host : String} (As : List Value) (hg : GoodIn Ts ws) (hw : ws = Cond.code y bytes maxL ret :: ws') (hnw : ∀ U, E.2.2.2.2.2 U → va_Nw (.methodLinkNest own index y host) U) (hini : Cond.initialized y.cls ∈ Ts) (hsta : Cond.static y ∈ Ts) (hdd : y.cls ≠ "java/lang/invoke/MethodHandle" ∧ y.cls ≠ "java/lang/invoke/VarHandle" ∧ (parseMethodDescriptor y.desc).map (fun d => d.parameters.length) = some n) (hR : (rm1.cells = 0 ∧ rm1.slots = 0) ∧ rm1.frames + 1 ≤ rm.frames ∧ 8 + (maxL + 11) + rm1.locals ≤ rm.locals) (hn : As.length = n) (hM : cV E y ws rm1 As K K1) (hd : decode cc pc = .ok (.invokestatic index, 3)) {stk0 : List Value} (hst : stk0 = As.reverse ++ stk) (hcat : (stk.map fun v => v.category).sum ≤ 8) (k : jW E G K1 (pc + 3) lv (stk)) : jW E G K pc lv stk0 := by
  obtain ⟨l, D, w, AA, tys, NW⟩ := E
  obtain ⟨p, e, R, s, m, args, below, meth, c, nL, Q⟩ := G
  obtain ⟨⟨hx, hb, hml, hown, hts⟩, hK, hN, hR0, hn0, hO⟩ := C
  intro H locs ls hP hD hS hl
  subst hst
  subst hR0
  refine va_callv (va_runSN (host := host) (As := As) (rest := stk) ⟨hx, hb, hml, hown, hts⟩ (hM H.size) ⟨va_cnB n hts hg hw hR.1.1 hR.1.2 (hnw _ hN) (hts _ hini) hdd hR.2, hts _ hsta, trivial⟩ ⟨jP_blind hO, jP_of hO hP hD hK hN⟩ rfl hn (hl.1) rfl (lv_room hcat) hd ⟨Nat.zero_le _, Nat.zero_le _⟩) hS (fun q _ h => hO.2.1 _ _ q hS.1 h) (fun q h => hO.2.1 _ _ q hS.1 h) (fun u t H1 locs1 ht hvm hw hB hz1 hk1 hS1 => ?_)
  obtain rfl := hw
  exact k H1 locs1 ls (by rw [← ht]; exact hB.1) (hO.2.2.1 _ _ _ _ hB.2) hS1 hl
def jmin (x y : Int32) : Int32 := if y < x then y else x
theorem j_mmin (C : jC E G cc own Ts rm n0) {x y : Int32} {index : Nat} (h1 : Cond.methodLink own index Lib.Math.min.name ∈ Ts) (h2 : Cond.static Lib.Math.min.name ∈ Ts) (h3 : Cond.initialized "java/lang/Math" ∈ Ts) (h4 : Cond.code Lib.Math.min.name Lib.Math.min.code 2 (some .int) ∈ Ts) (h5 : 1 ≤ rm.frames) (h6 : (stk.map fun v => v.category).sum + 13 ≤ rm.locals) (hd : decode cc pc = .ok (.invokestatic index, 3)) (k : jW E G K (pc + 3) lv (.int (jmin x y) :: stk)) : jW E G K (pc) lv (.int y :: .int x :: stk) := by
  obtain ⟨l, D, w, AA, tys, NW⟩ := E
  obtain ⟨p, e, R, s, m, args, below, meth, c, nL, Q⟩ := G
  obtain ⟨⟨hx, hb, hml, hown, hts⟩, hK, hN, hR, hn0, hO⟩ := C
  intro H locs ls hP hD hS hl
  subst hR
  exact va_mmin hx hb (hml.trans hl.1.symm) hown (hts _ h1) (hts _ h2) (hts _ h3) (hts _ h4) h5 h6 (Nat.zero_le _) (Nat.zero_le _) hd (k H locs ls hP hD hS hl)
/-- a row of ints copied over another, from 0 to 0 -/
theorem j_copy (C : jC E G cc own Ts rm n0) {α : Type} {F : Mem → Option α} {u : α} {index q0 q1 a0 a n0 n1 : Nat} {c0 c1 : ClassId} {f g : Nat → Int32} {n : Int32} (t0 : Nat) (KK : Mem) (h1 : Cond.methodLink own index arraycopyName ∈ Ts) (h2 : Cond.native arraycopyName ∈ Ts) (h3 : Cond.static arraycopyName ∈ Ts) (h4 : Cond.initialized "java/lang/System" ∈ Ts) (he0 : (E.2.2.1 K)[q0]? = some (a0, .inl (c0, n0, .inl f))) (he1 : (E.2.2.1 K)[q1]? = some (a, .inl (c1, n1, .inl g))) (ht0 : E.2.2.2.2.1[t0]? = some (c0, .int)) (ht1 : E.2.2.2.2.1[t0]? = some (c1, .int)) (hn : ¬ n < 0) (hn0 : n.toNatClampNeg ≤ n0) (hn1 : n.toNatClampNeg ≤ n1) (hset : (E.2.2.1 K).set q1 (a, .inl (c1, n1, .inl (va_cpy f g 0 0 n.toNatClampNeg))) = E.2.2.1 KK) (h5 : 1 ≤ rm.frames) (h6 : (stk.map fun v => v.category).sum + (nativeFrameWords "java/lang/System" "arraycopy" 5 + 11) ≤ rm.locals) (hd : decode cc pc = .ok (.invokestatic index, 3)) (hf : F KK = some u) (k : ∀ K2, F K2 = some u → jW E G K2 (pc + 3) lv stk) : jW E G K (pc) lv (.int n :: .int 0 :: .ref a :: .int 0 :: .ref a0 :: stk) := by
  obtain ⟨l, D, w, AA, tys, NW⟩ := E
  obtain ⟨p, e, R, s, m, args, below, meth, c, nL, Q⟩ := G
  obtain ⟨⟨hx, hb, hml, hown, hts⟩, hK, hN, hR, hnn, hO⟩ := C
  intro H locs ls hP hD hS hl
  subst hR
  refine va_copyi hx hb (hml.trans hl.1.symm) hown (hts _ h1) (hts _ h2) (hts _ h3) (hts _ h4) hK hP hD hS q0 q1 t0 t0 he0 he1 ht0 ht1 rfl (by decide) (by decide) hn ?_ ?_ (fun _ _ => rfl) h5 h6 hd (fun H1 locs1 p1 d1 s1 => k _ hf H1 locs1 ls (cP hset p1) (cD hset d1) s1 hl)
  · show 0 + _ ≤ _
    omega
  · show 0 + _ ≤ _
    omega
theorem j_sub (ps : List Nat) {lv2 : List (Nat × Value)} (h : lv_pick lv ps = lv2) (k : jW E G K pc lv2 stk) : jW E G K pc lv stk := by
  obtain ⟨l, D, w, AA, tys, NW⟩ := E
  obtain ⟨p, e, R, s, m, args, below, meth, c, nL, Q⟩ := G
  intro H locs ls hP hD hS hl
  exact k H locs ls hP hD hS (lv_sub hl ps h)
abbrev oc {α : Type} (u : Option Nat) (a : α) (f : Nat → α) : α := match u with
  | none => a
  | some b => f b
theorem oc_n {α : Type} {a r : α} {f : Nat → α} (h : oc none a f = r) : a = r := h
theorem oc_s {α : Type} {a r : α} {f : Nat → α} {b : Nat} (h : oc (some b) a f = r) : f b = r := h
end JR
end
section
/-! THE WORLDS. wC: the class's cells (0 the object; 1 Plans, 2 cycles, 3 offsets, 4 splits; a Controller at b = 5 or 24: b+1 written, b+2 its row, b+3 table, b+4 its row, b+5 Detectors, b+6 onTimes, b+7 occupancies, b+8 Link, b+9 Inputs, b+10 on, b+11 targets, b+12 Monitor, b+13 shown, b+14 shownBefore, b+15 yellowTicks, b+16 ring0, b+17 ring1, b+18 faults). wM: the reference's (0 the object, k-1 the row of its field k). -/
abbrev eI (c : ClassId) (n : Nat) (f : Nat → Int32) : va_E := .inl (c, n, .inl f)
abbrev eF (c : ClassId) (n : Nat) (f : Nat → Int32) : va_E := .inl (c, n, .inr (.inr (.inl (fun j => (f j).toUInt32))))
abbrev e0 (ad : Nat → Nat) (f : Nat → Int32) : va_E := .inr (8, [.ref (ad 1), .ref (ad 5), .ref (ad 24), .int (f 3)])
abbrev e1 (ad : Nat → Nat) : va_E := .inr (5, [.ref (ad 2), .ref (ad 3), .ref (ad 4)])
abbrev eCt (ad : Nat → Nat) (b : Nat) (f : Nat → Int32) : va_E := .inr (0, [.ref (ad (b + 1)), .ref (ad (b + 3)), .ref (ad (b + 5)), .ref (ad (b + 8)), .ref (ad (b + 9)), .ref (ad (b + 12)), .ref (ad (b + 16)), .ref (ad (b + 17)), .ref (ad (b + 18)), .int (f 9), .int (f 10), .int (f 11), .int (f 12), .int (f 13), .int (f 14), .int (f 15)])
abbrev eTb (ad : Nat → Nat) (i : Nat) : va_E := .inr (7, [.ref (ad (i + 1))])
abbrev eDt (ad : Nat → Nat) (i : Nat) (f : Nat → Int32) : va_E := .inr (1, [.ref (ad (i + 1)), .ref (ad (i + 2)), .int (f 2), .int (f 3)])
abbrev eLk (f : Nat → Int32) : va_E := .inr (3, [.int (f 0), .int (f 1), .int (f 2), .int (f 3)])
abbrev eIn (ad : Nat → Nat) (i : Nat) : va_E := .inr (2, [.ref (ad (i + 1)), .ref (ad (i + 2))])
abbrev eMn (ad : Nat → Nat) (i : Nat) (f : Nat → Int32) : va_E := .inr (4, [.ref (ad (i + 1)), .ref (ad (i + 2)), .ref (ad (i + 3)), .int (f 3)])
abbrev eRg (f : Nat → Int32) : va_E := .inr (6, [.int (f 0), .int (f 1), .int (f 2), .int (f 3), .int (f 4), .int (f 5), .int (f 6), .int (f 7), .int (f 8), .int (f 9)])
def wC (ad : Nat → Nat) (aI aZ aF : ClassId) (K : Mem) : va_W := [(ad 0, e0 ad (K 0)), (ad 1, e1 ad), (ad 2, eI aI 4 (K 2)), (ad 3, eI aI 4 (K 3)), (ad 4, eI aI 4 (K 4)), (ad 5, eCt ad 5 (K 5)), (ad 6, eTb ad 6), (ad 7, eI aI 64 (K 7)), (ad 8, eTb ad 8), (ad 9, eI aI 64 (K 9)), (ad 10, eDt ad 10 (K 10)), (ad 11, eI aI 8 (K 11)), (ad 12, eF aF 8 (K 12)), (ad 13, eLk (K 13)), (ad 14, eIn ad 14), (ad 15, eI aZ 2 (K 15)), (ad 16, eI aI 2 (K 16)), (ad 17, eMn ad 17 (K 17)), (ad 18, eI aI 8 (K 18)), (ad 19, eI aI 8 (K 19)), (ad 20, eI aI 8 (K 20)), (ad 21, eRg (K 21)), (ad 22, eRg (K 22)), (ad 23, eI aI 8 (K 23)), (ad 24, eCt ad 24 (K 24)), (ad 25, eTb ad 25), (ad 26, eI aI 64 (K 26)), (ad 27, eTb ad 27), (ad 28, eI aI 64 (K 28)), (ad 29, eDt ad 29 (K 29)), (ad 30, eI aI 8 (K 30)), (ad 31, eF aF 8 (K 31)), (ad 32, eLk (K 32)), (ad 33, eIn ad 33), (ad 34, eI aZ 2 (K 34)), (ad 35, eI aI 2 (K 35)), (ad 36, eMn ad 36 (K 36)), (ad 37, eI aI 8 (K 37)), (ad 38, eI aI 8 (K 38)), (ad 39, eI aI 8 (K 39)), (ad 40, eRg (K 40)), (ad 41, eRg (K 41)), (ad 42, eI aI 8 (K 42))]
def isC (b : Nat) : Prop := b = 5 ∨ b = 24
def isT (i : Nat) : Prop := i = 6 ∨ i = 8 ∨ i = 25 ∨ i = 27
def isD (i : Nat) : Prop := i = 10 ∨ i = 29
def isL (i : Nat) : Prop := i = 13 ∨ i = 32
def isN (i : Nat) : Prop := i = 14 ∨ i = 33
def isM (i : Nat) : Prop := i = 17 ∨ i = 36
def isR (i : Nat) : Prop := i = 21 ∨ i = 22 ∨ i = 40 ∨ i = 41
theorem isC_T1 {b : Nat} (h : isC b) : isT (b + 1) := by rcases h with rfl | rfl <;> simp [isT]
theorem isC_T3 {b : Nat} (h : isC b) : isT (b + 3) := by rcases h with rfl | rfl <;> simp [isT]
theorem isC_D {b : Nat} (h : isC b) : isD (b + 5) := by rcases h with rfl | rfl <;> simp [isD]
theorem isC_L {b : Nat} (h : isC b) : isL (b + 8) := by rcases h with rfl | rfl <;> simp [isL]
theorem isC_N {b : Nat} (h : isC b) : isN (b + 9) := by rcases h with rfl | rfl <;> simp [isN]
theorem isC_M {b : Nat} (h : isC b) : isM (b + 12) := by rcases h with rfl | rfl <;> simp [isM]
theorem isC_R0 {b : Nat} (h : isC b) : isR (b + 16) := by rcases h with rfl | rfl <;> simp [isR]
theorem isC_R1 {b : Nat} (h : isC b) : isR (b + 17) := by rcases h with rfl | rfl <;> simp [isR]
theorem isC_5 : isC 5 := Or.inl rfl
theorem isC_24 : isC 24 := Or.inr rfl
section WC
variable {ad : Nat → Nat} {aI aZ aF : ClassId} {K : Mem}
theorem g_0 : (wC ad aI aZ aF K)[0]? = some (ad 0, e0 ad (K 0)) := rfl
theorem g_1 : (wC ad aI aZ aF K)[1]? = some (ad 1, e1 ad) := rfl
theorem g_2 : (wC ad aI aZ aF K)[2]? = some (ad 2, eI aI 4 (K 2)) := rfl
theorem g_3 : (wC ad aI aZ aF K)[3]? = some (ad 3, eI aI 4 (K 3)) := rfl
theorem g_4 : (wC ad aI aZ aF K)[4]? = some (ad 4, eI aI 4 (K 4)) := rfl
theorem g_C {i : Nat} (h : isC i) : (wC ad aI aZ aF K)[i]? = some (ad (i), eCt ad i (K i)) := by rcases h with rfl | rfl <;> rfl
theorem g_T {i : Nat} (h : isT i) : (wC ad aI aZ aF K)[i]? = some (ad (i), eTb ad i) := by rcases h with rfl | rfl | rfl | rfl <;> rfl
theorem g_Ta {i : Nat} (h : isT i) : (wC ad aI aZ aF K)[i + 1]? = some (ad (i + 1), eI aI 64 (K (i + 1))) := by rcases h with rfl | rfl | rfl | rfl <;> rfl
theorem g_D {i : Nat} (h : isD i) : (wC ad aI aZ aF K)[i]? = some (ad (i), eDt ad i (K i)) := by rcases h with rfl | rfl <;> rfl
theorem g_D1 {i : Nat} (h : isD i) : (wC ad aI aZ aF K)[i + 1]? = some (ad (i + 1), eI aI 8 (K (i + 1))) := by rcases h with rfl | rfl <;> rfl
theorem g_D2 {i : Nat} (h : isD i) : (wC ad aI aZ aF K)[i + 2]? = some (ad (i + 2), eF aF 8 (K (i + 2))) := by rcases h with rfl | rfl <;> rfl
theorem g_L {i : Nat} (h : isL i) : (wC ad aI aZ aF K)[i]? = some (ad (i), eLk (K i)) := by rcases h with rfl | rfl <;> rfl
theorem g_N {i : Nat} (h : isN i) : (wC ad aI aZ aF K)[i]? = some (ad (i), eIn ad i) := by rcases h with rfl | rfl <;> rfl
theorem g_N1 {i : Nat} (h : isN i) : (wC ad aI aZ aF K)[i + 1]? = some (ad (i + 1), eI aZ 2 (K (i + 1))) := by rcases h with rfl | rfl <;> rfl
theorem g_N2 {i : Nat} (h : isN i) : (wC ad aI aZ aF K)[i + 2]? = some (ad (i + 2), eI aI 2 (K (i + 2))) := by rcases h with rfl | rfl <;> rfl
theorem g_M {i : Nat} (h : isM i) : (wC ad aI aZ aF K)[i]? = some (ad (i), eMn ad i (K i)) := by rcases h with rfl | rfl <;> rfl
theorem g_M1 {i : Nat} (h : isM i) : (wC ad aI aZ aF K)[i + 1]? = some (ad (i + 1), eI aI 8 (K (i + 1))) := by rcases h with rfl | rfl <;> rfl
theorem g_M2 {i : Nat} (h : isM i) : (wC ad aI aZ aF K)[i + 2]? = some (ad (i + 2), eI aI 8 (K (i + 2))) := by rcases h with rfl | rfl <;> rfl
theorem g_M3 {i : Nat} (h : isM i) : (wC ad aI aZ aF K)[i + 3]? = some (ad (i + 3), eI aI 8 (K (i + 3))) := by rcases h with rfl | rfl <;> rfl
theorem g_R {i : Nat} (h : isR i) : (wC ad aI aZ aF K)[i]? = some (ad (i), eRg (K i)) := by rcases h with rfl | rfl | rfl | rfl <;> rfl
theorem g_Cf {i : Nat} (h : isC i) : (wC ad aI aZ aF K)[i + 18]? = some (ad (i + 18), eI aI 8 (K (i + 18))) := by rcases h with rfl | rfl <;> rfl
theorem s_C_9 {i : Nat} (h : isC i) (x : Int32) : (wC ad aI aZ aF K).set (i) (ad (i), .inr (0, ([.ref (ad (i + 1)), .ref (ad (i + 3)), .ref (ad (i + 5)), .ref (ad (i + 8)), .ref (ad (i + 9)), .ref (ad (i + 12)), .ref (ad (i + 16)), .ref (ad (i + 17)), .ref (ad (i + 18)), .int (K i 9), .int (K i 10), .int (K i 11), .int (K i 12), .int (K i 13), .int (K i 14), .int (K i 15)] : List Value).set 9 (.int x))) = wC ad aI aZ aF (ks K (i) 9 x) := by rcases h with rfl | rfl <;> rfl
theorem s_C_10 {i : Nat} (h : isC i) (x : Int32) : (wC ad aI aZ aF K).set (i) (ad (i), .inr (0, ([.ref (ad (i + 1)), .ref (ad (i + 3)), .ref (ad (i + 5)), .ref (ad (i + 8)), .ref (ad (i + 9)), .ref (ad (i + 12)), .ref (ad (i + 16)), .ref (ad (i + 17)), .ref (ad (i + 18)), .int (K i 9), .int (K i 10), .int (K i 11), .int (K i 12), .int (K i 13), .int (K i 14), .int (K i 15)] : List Value).set 10 (.int x))) = wC ad aI aZ aF (ks K (i) 10 x) := by rcases h with rfl | rfl <;> rfl
theorem s_C_11 {i : Nat} (h : isC i) (x : Int32) : (wC ad aI aZ aF K).set (i) (ad (i), .inr (0, ([.ref (ad (i + 1)), .ref (ad (i + 3)), .ref (ad (i + 5)), .ref (ad (i + 8)), .ref (ad (i + 9)), .ref (ad (i + 12)), .ref (ad (i + 16)), .ref (ad (i + 17)), .ref (ad (i + 18)), .int (K i 9), .int (K i 10), .int (K i 11), .int (K i 12), .int (K i 13), .int (K i 14), .int (K i 15)] : List Value).set 11 (.int x))) = wC ad aI aZ aF (ks K (i) 11 x) := by rcases h with rfl | rfl <;> rfl
theorem s_C_12 {i : Nat} (h : isC i) (x : Int32) : (wC ad aI aZ aF K).set (i) (ad (i), .inr (0, ([.ref (ad (i + 1)), .ref (ad (i + 3)), .ref (ad (i + 5)), .ref (ad (i + 8)), .ref (ad (i + 9)), .ref (ad (i + 12)), .ref (ad (i + 16)), .ref (ad (i + 17)), .ref (ad (i + 18)), .int (K i 9), .int (K i 10), .int (K i 11), .int (K i 12), .int (K i 13), .int (K i 14), .int (K i 15)] : List Value).set 12 (.int x))) = wC ad aI aZ aF (ks K (i) 12 x) := by rcases h with rfl | rfl <;> rfl
theorem s_C_13 {i : Nat} (h : isC i) (x : Int32) : (wC ad aI aZ aF K).set (i) (ad (i), .inr (0, ([.ref (ad (i + 1)), .ref (ad (i + 3)), .ref (ad (i + 5)), .ref (ad (i + 8)), .ref (ad (i + 9)), .ref (ad (i + 12)), .ref (ad (i + 16)), .ref (ad (i + 17)), .ref (ad (i + 18)), .int (K i 9), .int (K i 10), .int (K i 11), .int (K i 12), .int (K i 13), .int (K i 14), .int (K i 15)] : List Value).set 13 (.int x))) = wC ad aI aZ aF (ks K (i) 13 x) := by rcases h with rfl | rfl <;> rfl
theorem s_C_14 {i : Nat} (h : isC i) (x : Int32) : (wC ad aI aZ aF K).set (i) (ad (i), .inr (0, ([.ref (ad (i + 1)), .ref (ad (i + 3)), .ref (ad (i + 5)), .ref (ad (i + 8)), .ref (ad (i + 9)), .ref (ad (i + 12)), .ref (ad (i + 16)), .ref (ad (i + 17)), .ref (ad (i + 18)), .int (K i 9), .int (K i 10), .int (K i 11), .int (K i 12), .int (K i 13), .int (K i 14), .int (K i 15)] : List Value).set 14 (.int x))) = wC ad aI aZ aF (ks K (i) 14 x) := by rcases h with rfl | rfl <;> rfl
theorem s_C_15 {i : Nat} (h : isC i) (x : Int32) : (wC ad aI aZ aF K).set (i) (ad (i), .inr (0, ([.ref (ad (i + 1)), .ref (ad (i + 3)), .ref (ad (i + 5)), .ref (ad (i + 8)), .ref (ad (i + 9)), .ref (ad (i + 12)), .ref (ad (i + 16)), .ref (ad (i + 17)), .ref (ad (i + 18)), .int (K i 9), .int (K i 10), .int (K i 11), .int (K i 12), .int (K i 13), .int (K i 14), .int (K i 15)] : List Value).set 15 (.int x))) = wC ad aI aZ aF (ks K (i) 15 x) := by rcases h with rfl | rfl <;> rfl
theorem s_D_2 {i : Nat} (h : isD i) (x : Int32) : (wC ad aI aZ aF K).set (i) (ad (i), .inr (1, ([.ref (ad (i + 1)), .ref (ad (i + 2)), .int (K i 2), .int (K i 3)] : List Value).set 2 (.int x))) = wC ad aI aZ aF (ks K (i) 2 x) := by rcases h with rfl | rfl <;> rfl
theorem s_D_3 {i : Nat} (h : isD i) (x : Int32) : (wC ad aI aZ aF K).set (i) (ad (i), .inr (1, ([.ref (ad (i + 1)), .ref (ad (i + 2)), .int (K i 2), .int (K i 3)] : List Value).set 3 (.int x))) = wC ad aI aZ aF (ks K (i) 3 x) := by rcases h with rfl | rfl <;> rfl
theorem s_L_0 {i : Nat} (h : isL i) (x : Int32) : (wC ad aI aZ aF K).set (i) (ad (i), .inr (3, ([.int (K i 0), .int (K i 1), .int (K i 2), .int (K i 3)] : List Value).set 0 (.int x))) = wC ad aI aZ aF (ks K (i) 0 x) := by rcases h with rfl | rfl <;> rfl
theorem s_L_1 {i : Nat} (h : isL i) (x : Int32) : (wC ad aI aZ aF K).set (i) (ad (i), .inr (3, ([.int (K i 0), .int (K i 1), .int (K i 2), .int (K i 3)] : List Value).set 1 (.int x))) = wC ad aI aZ aF (ks K (i) 1 x) := by rcases h with rfl | rfl <;> rfl
theorem s_L_2 {i : Nat} (h : isL i) (x : Int32) : (wC ad aI aZ aF K).set (i) (ad (i), .inr (3, ([.int (K i 0), .int (K i 1), .int (K i 2), .int (K i 3)] : List Value).set 2 (.int x))) = wC ad aI aZ aF (ks K (i) 2 x) := by rcases h with rfl | rfl <;> rfl
theorem s_L_3 {i : Nat} (h : isL i) (x : Int32) : (wC ad aI aZ aF K).set (i) (ad (i), .inr (3, ([.int (K i 0), .int (K i 1), .int (K i 2), .int (K i 3)] : List Value).set 3 (.int x))) = wC ad aI aZ aF (ks K (i) 3 x) := by rcases h with rfl | rfl <;> rfl
theorem s_M_3 {i : Nat} (h : isM i) (x : Int32) : (wC ad aI aZ aF K).set (i) (ad (i), .inr (4, ([.ref (ad (i + 1)), .ref (ad (i + 2)), .ref (ad (i + 3)), .int (K i 3)] : List Value).set 3 (.int x))) = wC ad aI aZ aF (ks K (i) 3 x) := by rcases h with rfl | rfl <;> rfl
theorem s_R_0 {i : Nat} (h : isR i) (x : Int32) : (wC ad aI aZ aF K).set (i) (ad (i), .inr (6, ([.int (K i 0), .int (K i 1), .int (K i 2), .int (K i 3), .int (K i 4), .int (K i 5), .int (K i 6), .int (K i 7), .int (K i 8), .int (K i 9)] : List Value).set 0 (.int x))) = wC ad aI aZ aF (ks K (i) 0 x) := by rcases h with rfl | rfl | rfl | rfl <;> rfl
theorem s_R_1 {i : Nat} (h : isR i) (x : Int32) : (wC ad aI aZ aF K).set (i) (ad (i), .inr (6, ([.int (K i 0), .int (K i 1), .int (K i 2), .int (K i 3), .int (K i 4), .int (K i 5), .int (K i 6), .int (K i 7), .int (K i 8), .int (K i 9)] : List Value).set 1 (.int x))) = wC ad aI aZ aF (ks K (i) 1 x) := by rcases h with rfl | rfl | rfl | rfl <;> rfl
theorem s_R_2 {i : Nat} (h : isR i) (x : Int32) : (wC ad aI aZ aF K).set (i) (ad (i), .inr (6, ([.int (K i 0), .int (K i 1), .int (K i 2), .int (K i 3), .int (K i 4), .int (K i 5), .int (K i 6), .int (K i 7), .int (K i 8), .int (K i 9)] : List Value).set 2 (.int x))) = wC ad aI aZ aF (ks K (i) 2 x) := by rcases h with rfl | rfl | rfl | rfl <;> rfl
theorem s_R_3 {i : Nat} (h : isR i) (x : Int32) : (wC ad aI aZ aF K).set (i) (ad (i), .inr (6, ([.int (K i 0), .int (K i 1), .int (K i 2), .int (K i 3), .int (K i 4), .int (K i 5), .int (K i 6), .int (K i 7), .int (K i 8), .int (K i 9)] : List Value).set 3 (.int x))) = wC ad aI aZ aF (ks K (i) 3 x) := by rcases h with rfl | rfl | rfl | rfl <;> rfl
theorem s_R_4 {i : Nat} (h : isR i) (x : Int32) : (wC ad aI aZ aF K).set (i) (ad (i), .inr (6, ([.int (K i 0), .int (K i 1), .int (K i 2), .int (K i 3), .int (K i 4), .int (K i 5), .int (K i 6), .int (K i 7), .int (K i 8), .int (K i 9)] : List Value).set 4 (.int x))) = wC ad aI aZ aF (ks K (i) 4 x) := by rcases h with rfl | rfl | rfl | rfl <;> rfl
theorem s_R_5 {i : Nat} (h : isR i) (x : Int32) : (wC ad aI aZ aF K).set (i) (ad (i), .inr (6, ([.int (K i 0), .int (K i 1), .int (K i 2), .int (K i 3), .int (K i 4), .int (K i 5), .int (K i 6), .int (K i 7), .int (K i 8), .int (K i 9)] : List Value).set 5 (.int x))) = wC ad aI aZ aF (ks K (i) 5 x) := by rcases h with rfl | rfl | rfl | rfl <;> rfl
theorem s_R_6 {i : Nat} (h : isR i) (x : Int32) : (wC ad aI aZ aF K).set (i) (ad (i), .inr (6, ([.int (K i 0), .int (K i 1), .int (K i 2), .int (K i 3), .int (K i 4), .int (K i 5), .int (K i 6), .int (K i 7), .int (K i 8), .int (K i 9)] : List Value).set 6 (.int x))) = wC ad aI aZ aF (ks K (i) 6 x) := by rcases h with rfl | rfl | rfl | rfl <;> rfl
theorem s_R_7 {i : Nat} (h : isR i) (x : Int32) : (wC ad aI aZ aF K).set (i) (ad (i), .inr (6, ([.int (K i 0), .int (K i 1), .int (K i 2), .int (K i 3), .int (K i 4), .int (K i 5), .int (K i 6), .int (K i 7), .int (K i 8), .int (K i 9)] : List Value).set 7 (.int x))) = wC ad aI aZ aF (ks K (i) 7 x) := by rcases h with rfl | rfl | rfl | rfl <;> rfl
theorem s_R_8 {i : Nat} (h : isR i) (x : Int32) : (wC ad aI aZ aF K).set (i) (ad (i), .inr (6, ([.int (K i 0), .int (K i 1), .int (K i 2), .int (K i 3), .int (K i 4), .int (K i 5), .int (K i 6), .int (K i 7), .int (K i 8), .int (K i 9)] : List Value).set 8 (.int x))) = wC ad aI aZ aF (ks K (i) 8 x) := by rcases h with rfl | rfl | rfl | rfl <;> rfl
theorem s_R_9 {i : Nat} (h : isR i) (x : Int32) : (wC ad aI aZ aF K).set (i) (ad (i), .inr (6, ([.int (K i 0), .int (K i 1), .int (K i 2), .int (K i 3), .int (K i 4), .int (K i 5), .int (K i 6), .int (K i 7), .int (K i 8), .int (K i 9)] : List Value).set 9 (.int x))) = wC ad aI aZ aF (ks K (i) 9 x) := by rcases h with rfl | rfl | rfl | rfl <;> rfl
theorem s_0_3 (x : Int32) : (wC ad aI aZ aF K).set (0) (ad (0), .inr (8, ([.ref (ad 1), .ref (ad 5), .ref (ad 24), .int (K 0 3)] : List Value).set 3 (.int x))) = wC ad aI aZ aF (ks K (0) 3 x) := rfl
theorem s_2 (k : Nat) (x : Int32) : (wC ad aI aZ aF K).set (2) (ad (2), .inl (aI, 4, .inl (upd (K (2)) k x))) = wC ad aI aZ aF (ks K (2) k x) := rfl
theorem s_3 (k : Nat) (x : Int32) : (wC ad aI aZ aF K).set (3) (ad (3), .inl (aI, 4, .inl (upd (K (3)) k x))) = wC ad aI aZ aF (ks K (3) k x) := rfl
theorem s_4 (k : Nat) (x : Int32) : (wC ad aI aZ aF K).set (4) (ad (4), .inl (aI, 4, .inl (upd (K (4)) k x))) = wC ad aI aZ aF (ks K (4) k x) := rfl
theorem s_Ta {i : Nat} (h : isT i) (k : Nat) (x : Int32) : (wC ad aI aZ aF K).set (i + 1) (ad (i + 1), .inl (aI, 64, .inl (upd (K (i + 1)) k x))) = wC ad aI aZ aF (ks K (i + 1) k x) := by rcases h with rfl | rfl | rfl | rfl <;> rfl
theorem s_D1 {i : Nat} (h : isD i) (k : Nat) (x : Int32) : (wC ad aI aZ aF K).set (i + 1) (ad (i + 1), .inl (aI, 8, .inl (upd (K (i + 1)) k x))) = wC ad aI aZ aF (ks K (i + 1) k x) := by rcases h with rfl | rfl <;> rfl
theorem s_N1 {i : Nat} (h : isN i) (k : Nat) (x : Int32) : (wC ad aI aZ aF K).set (i + 1) (ad (i + 1), .inl (aZ, 2, .inl (upd (K (i + 1)) k x))) = wC ad aI aZ aF (ks K (i + 1) k x) := by rcases h with rfl | rfl <;> rfl
theorem s_N2 {i : Nat} (h : isN i) (k : Nat) (x : Int32) : (wC ad aI aZ aF K).set (i + 2) (ad (i + 2), .inl (aI, 2, .inl (upd (K (i + 2)) k x))) = wC ad aI aZ aF (ks K (i + 2) k x) := by rcases h with rfl | rfl <;> rfl
theorem s_M1 {i : Nat} (h : isM i) (k : Nat) (x : Int32) : (wC ad aI aZ aF K).set (i + 1) (ad (i + 1), .inl (aI, 8, .inl (upd (K (i + 1)) k x))) = wC ad aI aZ aF (ks K (i + 1) k x) := by rcases h with rfl | rfl <;> rfl
theorem s_M2 {i : Nat} (h : isM i) (k : Nat) (x : Int32) : (wC ad aI aZ aF K).set (i + 2) (ad (i + 2), .inl (aI, 8, .inl (upd (K (i + 2)) k x))) = wC ad aI aZ aF (ks K (i + 2) k x) := by rcases h with rfl | rfl <;> rfl
theorem s_M3 {i : Nat} (h : isM i) (k : Nat) (x : Int32) : (wC ad aI aZ aF K).set (i + 3) (ad (i + 3), .inl (aI, 8, .inl (upd (K (i + 3)) k x))) = wC ad aI aZ aF (ks K (i + 3) k x) := by rcases h with rfl | rfl <;> rfl
theorem s_Cf {i : Nat} (h : isC i) (k : Nat) (x : Int32) : (wC ad aI aZ aF K).set (i + 18) (ad (i + 18), .inl (aI, 8, .inl (upd (K (i + 18)) k x))) = wC ad aI aZ aF (ks K (i + 18) k x) := by rcases h with rfl | rfl <;> rfl
theorem vf_up (f : Nat → Int32) (k : Nat) (x : UInt32) : vf_upd (fun j => (f j).toUInt32) k x = fun j => (upd f k x.toInt32 j).toUInt32 := by
  funext j
  by_cases h : j = k <;> simp [vf_upd, upd, h]
theorem s_D2 {i : Nat} (h : isD i) (k : Nat) (x : UInt32) : (wC ad aI aZ aF K).set (i + 2) (ad (i + 2), .inl (aF, 8, .inr (.inr (.inl (vf_upd (fun j => (K (i + 2) j).toUInt32) k x))))) = wC ad aI aZ aF (ks K (i + 2) k x.toInt32) := by
  rw [vf_up]
  rcases h with rfl | rfl <;> rfl
/-- a row of 64, as a whole -/
def kr (K : Mem) (i : Nat) (f : Nat → Int32) : Mem := fun a b => if a = i then f b else K a b
theorem r_Ta {i : Nat} (h : isT i) (f : Nat → Int32) : (wC ad aI aZ aF K).set (i + 1) (ad (i + 1), .inl (aI, 64, .inl f)) = wC ad aI aZ aF (kr K (i + 1) f) := by rcases h with rfl | rfl | rfl | rfl <;> rfl
end WC
/-- apartness is of the addresses alone -/
theorem D_of {ws ws' : va_W} {X A : Nat → Prop} (h : ws.map (fun q => q.1) = ws'.map (fun q => q.1)) (hA : ∀ q ∈ ws', A q.1) (hD : va_D X ws) : va_D A ws' := by
  have at' : ∀ (i : Nat) (q : Nat × va_E), ws'[i]? = some q → ∃ e, ws[i]? = some (q.1, e) := by
    intro i q hq
    have h1 : (ws'.map (fun q => q.1))[i]? = some q.1 := by rw [List.getElem?_map, hq]; rfl
    rw [← h, List.getElem?_map] at h1
    cases hw : ws[i]? with
    | none => rw [hw] at h1; cases h1
    | some x =>
      rw [hw] at h1
      have h2 : x.1 = q.1 := Option.some.inj h1
      exact ⟨x.2, by rw [← h2]⟩
  refine ⟨fun i j a b ha hb hab => ?_, fun k q hq => hA q (List.mem_of_getElem? hq)⟩
  obtain ⟨e, h1⟩ := at' i a ha
  obtain ⟨e', h2⟩ := at' j b hb
  exact hD.1 i j _ _ h1 h2 hab
def AAof (n : Nat) (ad : Nat → Nat) : Nat → Nat → Prop := fun sz q => (∃ i, i < n ∧ q = ad i) ∨ sz ≤ q
def nestF : List (String × Nat × String × String × String × String) := [("BarrierLights", 107, "BarrierLights$Controller", "link", "LBarrierLights$Link;", "BarrierLights"), ("BarrierLights", 128, "BarrierLights$Controller", "faults", "[I", "BarrierLights"), ("BarrierLights", 132, "BarrierLights$Controller", "whyFlashing", "I", "BarrierLights"), ("BarrierLights", 150, "BarrierLights$Controller", "side", "I", "BarrierLights"), ("BarrierLights", 157, "BarrierLights$Link", "plan", "I", "BarrierLights"), ("BarrierLights", 163, "BarrierLights$Controller", "ring0", "LBarrierLights$Ring;", "BarrierLights"), ("BarrierLights", 167, "BarrierLights$Ring", "phase", "I", "BarrierLights"), ("BarrierLights", 172, "BarrierLights$Controller", "ring1", "LBarrierLights$Ring;", "BarrierLights"), ("BarrierLights", 175, "BarrierLights$Detectors", "occupancies", "[F", "BarrierLights"), ("BarrierLights", 38, "BarrierLights$Controller", "written", "LBarrierLights$Table;", "BarrierLights"), ("BarrierLights", 64, "BarrierLights$Controller", "used", "I", "BarrierLights"), ("BarrierLights", 73, "BarrierLights$Controller", "wrongPlace", "I", "BarrierLights"), ("BarrierLights", 76, "BarrierLights$Controller", "detectors", "LBarrierLights$Detectors;", "BarrierLights"), ("BarrierLights", 92, "BarrierLights$Controller", "inputs", "LBarrierLights$Inputs;", "BarrierLights"), ("BarrierLights$Controller", 157, "BarrierLights$Ring", "phase", "I", "BarrierLights"), ("BarrierLights$Controller", 170, "BarrierLights$Ring", "gap", "I", "BarrierLights"), ("BarrierLights$Controller", 178, "BarrierLights$Ring", "age", "I", "BarrierLights"), ("BarrierLights$Controller", 192, "BarrierLights$Ring", "wanted", "Z", "BarrierLights"), ("BarrierLights$Controller", 195, "BarrierLights$Ring", "against", "I", "BarrierLights"), ("BarrierLights$Controller", 198, "BarrierLights$Ring", "lamps", "I", "BarrierLights"), ("BarrierLights$Controller", 216, "BarrierLights$Ring", "forward", "I", "BarrierLights"), ("BarrierLights$Controller", 219, "BarrierLights$Ring", "next", "I", "BarrierLights"), ("BarrierLights$Controller", 249, "BarrierLights$Ring", "walkSign", "I", "BarrierLights"), ("BarrierLights$Controller", 293, "BarrierLights$Detectors", "failed", "I", "BarrierLights"), ("BarrierLights$Controller", 296, "BarrierLights$Link", "plan", "I", "BarrierLights")]
def nestM : List (String × Nat × MethodName × String) := [("BarrierLights", 18, ⟨"BarrierLights$Controller", "<init>", "()V"⟩, "BarrierLights"), ("BarrierLights", 9, ⟨"BarrierLights$Plans", "<init>", "()V"⟩, "BarrierLights"), ("BarrierLights$Controller", 104, ⟨"BarrierLights", "bit", "(I)I"⟩, "BarrierLights"), ("BarrierLights$Controller", 11, ⟨"BarrierLights$Table", "<init>", "()V"⟩, "BarrierLights"), ("BarrierLights$Controller", 147, ⟨"BarrierLights", "ringOf", "(I)I"⟩, "BarrierLights"), ("BarrierLights$Controller", 210, ⟨"BarrierLights", "phasesOfSide", "(I)I"⟩, "BarrierLights"), ("BarrierLights$Controller", 23, ⟨"BarrierLights$Detectors", "<init>", "()V"⟩, "BarrierLights"), ("BarrierLights$Controller", 264, ⟨"BarrierLights", "sideOf", "(I)I"⟩, "BarrierLights"), ("BarrierLights$Controller", 290, ⟨"BarrierLights", "isPhase", "(I)Z"⟩, "BarrierLights"), ("BarrierLights$Controller", 30, ⟨"BarrierLights$Link", "<init>", "()V"⟩, "BarrierLights"), ("BarrierLights$Controller", 37, ⟨"BarrierLights$Inputs", "<init>", "()V"⟩, "BarrierLights"), ("BarrierLights$Controller", 44, ⟨"BarrierLights$Monitor", "<init>", "()V"⟩, "BarrierLights"), ("BarrierLights$Controller", 51, ⟨"BarrierLights$Ring", "<init>", "()V"⟩, "BarrierLights"), ("BarrierLights$Detectors", 26, ⟨"BarrierLights", "bit", "(I)I"⟩, "BarrierLights"), ("BarrierLights$Inputs", 19, ⟨"BarrierLights", "isInput", "(I)Z"⟩, "BarrierLights"), ("BarrierLights$Inputs", 23, ⟨"BarrierLights", "bit", "(I)I"⟩, "BarrierLights"), ("BarrierLights$Link", 24, ⟨"BarrierLights", "wrap", "(II)I"⟩, "BarrierLights"), ("BarrierLights$Monitor", 25, ⟨"BarrierLights", "isPhase", "(I)Z"⟩, "BarrierLights"), ("BarrierLights$Monitor", 41, ⟨"BarrierLights", "bit", "(I)I"⟩, "BarrierLights"), ("BarrierLights$Monitor", 52, ⟨"BarrierLights", "ringOf", "(I)I"⟩, "BarrierLights"), ("BarrierLights$Monitor", 55, ⟨"BarrierLights", "sideOf", "(I)I"⟩, "BarrierLights"), ("BarrierLights$Ring", 43, ⟨"BarrierLights", "bit", "(I)I"⟩, "BarrierLights"), ("BarrierLights$Table", 29, ⟨"BarrierLights", "bit", "(I)I"⟩, "BarrierLights")]
def NWC (U : State) : Prop := (∀ q ∈ nestF, va_Nw (.fieldLinkNest q.1 q.2.1 q.2.2.1 q.2.2.2.1 q.2.2.2.2.1 q.2.2.2.2.2) U) ∧ ∀ q ∈ nestM, va_Nw (.methodLinkNest q.1 q.2.1 q.2.2.1 q.2.2.2) U
theorem NWC_warm (s U : State) (hW : s.WarmedH U.vm) (h : NWC s) : NWC U := ⟨fun q hq => va_Nw.warmF hW (h.1 q hq), fun q hq => va_Nw.warmM hW (h.2 q hq)⟩
theorem NWC_same (U U' : State) (hv : U'.vm = U.vm) (h : NWC U) : NWC U' := ⟨fun q hq => va_Nw.same rfl hv.symm (h.1 q hq), fun q hq => va_Nw.same rfl hv.symm (h.2 q hq)⟩
theorem nf_RX8_107 (U : State) (h : NWC U) : va_Nw (.fieldLinkNest "BarrierLights" 107 "BarrierLights$Controller" "link" "LBarrierLights$Link;" "BarrierLights") U := h.1 ("BarrierLights", 107, "BarrierLights$Controller", "link", "LBarrierLights$Link;", "BarrierLights") (List.mem_of_getElem? (i := 0) rfl)
theorem nf_RX8_128 (U : State) (h : NWC U) : va_Nw (.fieldLinkNest "BarrierLights" 128 "BarrierLights$Controller" "faults" "[I" "BarrierLights") U := h.1 ("BarrierLights", 128, "BarrierLights$Controller", "faults", "[I", "BarrierLights") (List.mem_of_getElem? (i := 1) rfl)
theorem nf_RX8_132 (U : State) (h : NWC U) : va_Nw (.fieldLinkNest "BarrierLights" 132 "BarrierLights$Controller" "whyFlashing" "I" "BarrierLights") U := h.1 ("BarrierLights", 132, "BarrierLights$Controller", "whyFlashing", "I", "BarrierLights") (List.mem_of_getElem? (i := 2) rfl)
theorem nf_RX8_150 (U : State) (h : NWC U) : va_Nw (.fieldLinkNest "BarrierLights" 150 "BarrierLights$Controller" "side" "I" "BarrierLights") U := h.1 ("BarrierLights", 150, "BarrierLights$Controller", "side", "I", "BarrierLights") (List.mem_of_getElem? (i := 3) rfl)
theorem nf_RX8_157 (U : State) (h : NWC U) : va_Nw (.fieldLinkNest "BarrierLights" 157 "BarrierLights$Link" "plan" "I" "BarrierLights") U := h.1 ("BarrierLights", 157, "BarrierLights$Link", "plan", "I", "BarrierLights") (List.mem_of_getElem? (i := 4) rfl)
theorem nf_RX8_163 (U : State) (h : NWC U) : va_Nw (.fieldLinkNest "BarrierLights" 163 "BarrierLights$Controller" "ring0" "LBarrierLights$Ring;" "BarrierLights") U := h.1 ("BarrierLights", 163, "BarrierLights$Controller", "ring0", "LBarrierLights$Ring;", "BarrierLights") (List.mem_of_getElem? (i := 5) rfl)
theorem nf_RX8_167 (U : State) (h : NWC U) : va_Nw (.fieldLinkNest "BarrierLights" 167 "BarrierLights$Ring" "phase" "I" "BarrierLights") U := h.1 ("BarrierLights", 167, "BarrierLights$Ring", "phase", "I", "BarrierLights") (List.mem_of_getElem? (i := 6) rfl)
theorem nf_RX8_172 (U : State) (h : NWC U) : va_Nw (.fieldLinkNest "BarrierLights" 172 "BarrierLights$Controller" "ring1" "LBarrierLights$Ring;" "BarrierLights") U := h.1 ("BarrierLights", 172, "BarrierLights$Controller", "ring1", "LBarrierLights$Ring;", "BarrierLights") (List.mem_of_getElem? (i := 7) rfl)
theorem nf_RX8_175 (U : State) (h : NWC U) : va_Nw (.fieldLinkNest "BarrierLights" 175 "BarrierLights$Detectors" "occupancies" "[F" "BarrierLights") U := h.1 ("BarrierLights", 175, "BarrierLights$Detectors", "occupancies", "[F", "BarrierLights") (List.mem_of_getElem? (i := 8) rfl)
theorem nf_RX8_38 (U : State) (h : NWC U) : va_Nw (.fieldLinkNest "BarrierLights" 38 "BarrierLights$Controller" "written" "LBarrierLights$Table;" "BarrierLights") U := h.1 ("BarrierLights", 38, "BarrierLights$Controller", "written", "LBarrierLights$Table;", "BarrierLights") (List.mem_of_getElem? (i := 9) rfl)
theorem nf_RX8_64 (U : State) (h : NWC U) : va_Nw (.fieldLinkNest "BarrierLights" 64 "BarrierLights$Controller" "used" "I" "BarrierLights") U := h.1 ("BarrierLights", 64, "BarrierLights$Controller", "used", "I", "BarrierLights") (List.mem_of_getElem? (i := 10) rfl)
theorem nf_RX8_73 (U : State) (h : NWC U) : va_Nw (.fieldLinkNest "BarrierLights" 73 "BarrierLights$Controller" "wrongPlace" "I" "BarrierLights") U := h.1 ("BarrierLights", 73, "BarrierLights$Controller", "wrongPlace", "I", "BarrierLights") (List.mem_of_getElem? (i := 11) rfl)
theorem nf_RX8_76 (U : State) (h : NWC U) : va_Nw (.fieldLinkNest "BarrierLights" 76 "BarrierLights$Controller" "detectors" "LBarrierLights$Detectors;" "BarrierLights") U := h.1 ("BarrierLights", 76, "BarrierLights$Controller", "detectors", "LBarrierLights$Detectors;", "BarrierLights") (List.mem_of_getElem? (i := 12) rfl)
theorem nf_RX8_92 (U : State) (h : NWC U) : va_Nw (.fieldLinkNest "BarrierLights" 92 "BarrierLights$Controller" "inputs" "LBarrierLights$Inputs;" "BarrierLights") U := h.1 ("BarrierLights", 92, "BarrierLights$Controller", "inputs", "LBarrierLights$Inputs;", "BarrierLights") (List.mem_of_getElem? (i := 13) rfl)
theorem nf_RX0_157 (U : State) (h : NWC U) : va_Nw (.fieldLinkNest "BarrierLights$Controller" 157 "BarrierLights$Ring" "phase" "I" "BarrierLights") U := h.1 ("BarrierLights$Controller", 157, "BarrierLights$Ring", "phase", "I", "BarrierLights") (List.mem_of_getElem? (i := 14) rfl)
theorem nf_RX0_170 (U : State) (h : NWC U) : va_Nw (.fieldLinkNest "BarrierLights$Controller" 170 "BarrierLights$Ring" "gap" "I" "BarrierLights") U := h.1 ("BarrierLights$Controller", 170, "BarrierLights$Ring", "gap", "I", "BarrierLights") (List.mem_of_getElem? (i := 15) rfl)
theorem nf_RX0_178 (U : State) (h : NWC U) : va_Nw (.fieldLinkNest "BarrierLights$Controller" 178 "BarrierLights$Ring" "age" "I" "BarrierLights") U := h.1 ("BarrierLights$Controller", 178, "BarrierLights$Ring", "age", "I", "BarrierLights") (List.mem_of_getElem? (i := 16) rfl)
theorem nf_RX0_192 (U : State) (h : NWC U) : va_Nw (.fieldLinkNest "BarrierLights$Controller" 192 "BarrierLights$Ring" "wanted" "Z" "BarrierLights") U := h.1 ("BarrierLights$Controller", 192, "BarrierLights$Ring", "wanted", "Z", "BarrierLights") (List.mem_of_getElem? (i := 17) rfl)
theorem nf_RX0_195 (U : State) (h : NWC U) : va_Nw (.fieldLinkNest "BarrierLights$Controller" 195 "BarrierLights$Ring" "against" "I" "BarrierLights") U := h.1 ("BarrierLights$Controller", 195, "BarrierLights$Ring", "against", "I", "BarrierLights") (List.mem_of_getElem? (i := 18) rfl)
theorem nf_RX0_198 (U : State) (h : NWC U) : va_Nw (.fieldLinkNest "BarrierLights$Controller" 198 "BarrierLights$Ring" "lamps" "I" "BarrierLights") U := h.1 ("BarrierLights$Controller", 198, "BarrierLights$Ring", "lamps", "I", "BarrierLights") (List.mem_of_getElem? (i := 19) rfl)
theorem nf_RX0_216 (U : State) (h : NWC U) : va_Nw (.fieldLinkNest "BarrierLights$Controller" 216 "BarrierLights$Ring" "forward" "I" "BarrierLights") U := h.1 ("BarrierLights$Controller", 216, "BarrierLights$Ring", "forward", "I", "BarrierLights") (List.mem_of_getElem? (i := 20) rfl)
theorem nf_RX0_219 (U : State) (h : NWC U) : va_Nw (.fieldLinkNest "BarrierLights$Controller" 219 "BarrierLights$Ring" "next" "I" "BarrierLights") U := h.1 ("BarrierLights$Controller", 219, "BarrierLights$Ring", "next", "I", "BarrierLights") (List.mem_of_getElem? (i := 21) rfl)
theorem nf_RX0_249 (U : State) (h : NWC U) : va_Nw (.fieldLinkNest "BarrierLights$Controller" 249 "BarrierLights$Ring" "walkSign" "I" "BarrierLights") U := h.1 ("BarrierLights$Controller", 249, "BarrierLights$Ring", "walkSign", "I", "BarrierLights") (List.mem_of_getElem? (i := 22) rfl)
theorem nf_RX0_293 (U : State) (h : NWC U) : va_Nw (.fieldLinkNest "BarrierLights$Controller" 293 "BarrierLights$Detectors" "failed" "I" "BarrierLights") U := h.1 ("BarrierLights$Controller", 293, "BarrierLights$Detectors", "failed", "I", "BarrierLights") (List.mem_of_getElem? (i := 23) rfl)
theorem nf_RX0_296 (U : State) (h : NWC U) : va_Nw (.fieldLinkNest "BarrierLights$Controller" 296 "BarrierLights$Link" "plan" "I" "BarrierLights") U := h.1 ("BarrierLights$Controller", 296, "BarrierLights$Link", "plan", "I", "BarrierLights") (List.mem_of_getElem? (i := 24) rfl)
theorem nm_RX8_18 (U : State) (h : NWC U) : va_Nw (.methodLinkNest "BarrierLights" 18 ⟨"BarrierLights$Controller", "<init>", "()V"⟩ "BarrierLights") U := h.2 ("BarrierLights", 18, ⟨"BarrierLights$Controller", "<init>", "()V"⟩, "BarrierLights") (List.mem_of_getElem? (i := 0) rfl)
theorem nm_RX8_9 (U : State) (h : NWC U) : va_Nw (.methodLinkNest "BarrierLights" 9 ⟨"BarrierLights$Plans", "<init>", "()V"⟩ "BarrierLights") U := h.2 ("BarrierLights", 9, ⟨"BarrierLights$Plans", "<init>", "()V"⟩, "BarrierLights") (List.mem_of_getElem? (i := 1) rfl)
theorem nm_RX0_104 (U : State) (h : NWC U) : va_Nw (.methodLinkNest "BarrierLights$Controller" 104 ⟨"BarrierLights", "bit", "(I)I"⟩ "BarrierLights") U := h.2 ("BarrierLights$Controller", 104, ⟨"BarrierLights", "bit", "(I)I"⟩, "BarrierLights") (List.mem_of_getElem? (i := 2) rfl)
theorem nm_RX0_11 (U : State) (h : NWC U) : va_Nw (.methodLinkNest "BarrierLights$Controller" 11 ⟨"BarrierLights$Table", "<init>", "()V"⟩ "BarrierLights") U := h.2 ("BarrierLights$Controller", 11, ⟨"BarrierLights$Table", "<init>", "()V"⟩, "BarrierLights") (List.mem_of_getElem? (i := 3) rfl)
theorem nm_RX0_147 (U : State) (h : NWC U) : va_Nw (.methodLinkNest "BarrierLights$Controller" 147 ⟨"BarrierLights", "ringOf", "(I)I"⟩ "BarrierLights") U := h.2 ("BarrierLights$Controller", 147, ⟨"BarrierLights", "ringOf", "(I)I"⟩, "BarrierLights") (List.mem_of_getElem? (i := 4) rfl)
theorem nm_RX0_210 (U : State) (h : NWC U) : va_Nw (.methodLinkNest "BarrierLights$Controller" 210 ⟨"BarrierLights", "phasesOfSide", "(I)I"⟩ "BarrierLights") U := h.2 ("BarrierLights$Controller", 210, ⟨"BarrierLights", "phasesOfSide", "(I)I"⟩, "BarrierLights") (List.mem_of_getElem? (i := 5) rfl)
theorem nm_RX0_23 (U : State) (h : NWC U) : va_Nw (.methodLinkNest "BarrierLights$Controller" 23 ⟨"BarrierLights$Detectors", "<init>", "()V"⟩ "BarrierLights") U := h.2 ("BarrierLights$Controller", 23, ⟨"BarrierLights$Detectors", "<init>", "()V"⟩, "BarrierLights") (List.mem_of_getElem? (i := 6) rfl)
theorem nm_RX0_264 (U : State) (h : NWC U) : va_Nw (.methodLinkNest "BarrierLights$Controller" 264 ⟨"BarrierLights", "sideOf", "(I)I"⟩ "BarrierLights") U := h.2 ("BarrierLights$Controller", 264, ⟨"BarrierLights", "sideOf", "(I)I"⟩, "BarrierLights") (List.mem_of_getElem? (i := 7) rfl)
theorem nm_RX0_290 (U : State) (h : NWC U) : va_Nw (.methodLinkNest "BarrierLights$Controller" 290 ⟨"BarrierLights", "isPhase", "(I)Z"⟩ "BarrierLights") U := h.2 ("BarrierLights$Controller", 290, ⟨"BarrierLights", "isPhase", "(I)Z"⟩, "BarrierLights") (List.mem_of_getElem? (i := 8) rfl)
theorem nm_RX0_30 (U : State) (h : NWC U) : va_Nw (.methodLinkNest "BarrierLights$Controller" 30 ⟨"BarrierLights$Link", "<init>", "()V"⟩ "BarrierLights") U := h.2 ("BarrierLights$Controller", 30, ⟨"BarrierLights$Link", "<init>", "()V"⟩, "BarrierLights") (List.mem_of_getElem? (i := 9) rfl)
theorem nm_RX0_37 (U : State) (h : NWC U) : va_Nw (.methodLinkNest "BarrierLights$Controller" 37 ⟨"BarrierLights$Inputs", "<init>", "()V"⟩ "BarrierLights") U := h.2 ("BarrierLights$Controller", 37, ⟨"BarrierLights$Inputs", "<init>", "()V"⟩, "BarrierLights") (List.mem_of_getElem? (i := 10) rfl)
theorem nm_RX0_44 (U : State) (h : NWC U) : va_Nw (.methodLinkNest "BarrierLights$Controller" 44 ⟨"BarrierLights$Monitor", "<init>", "()V"⟩ "BarrierLights") U := h.2 ("BarrierLights$Controller", 44, ⟨"BarrierLights$Monitor", "<init>", "()V"⟩, "BarrierLights") (List.mem_of_getElem? (i := 11) rfl)
theorem nm_RX0_51 (U : State) (h : NWC U) : va_Nw (.methodLinkNest "BarrierLights$Controller" 51 ⟨"BarrierLights$Ring", "<init>", "()V"⟩ "BarrierLights") U := h.2 ("BarrierLights$Controller", 51, ⟨"BarrierLights$Ring", "<init>", "()V"⟩, "BarrierLights") (List.mem_of_getElem? (i := 12) rfl)
theorem nm_RX1_26 (U : State) (h : NWC U) : va_Nw (.methodLinkNest "BarrierLights$Detectors" 26 ⟨"BarrierLights", "bit", "(I)I"⟩ "BarrierLights") U := h.2 ("BarrierLights$Detectors", 26, ⟨"BarrierLights", "bit", "(I)I"⟩, "BarrierLights") (List.mem_of_getElem? (i := 13) rfl)
theorem nm_RX2_19 (U : State) (h : NWC U) : va_Nw (.methodLinkNest "BarrierLights$Inputs" 19 ⟨"BarrierLights", "isInput", "(I)Z"⟩ "BarrierLights") U := h.2 ("BarrierLights$Inputs", 19, ⟨"BarrierLights", "isInput", "(I)Z"⟩, "BarrierLights") (List.mem_of_getElem? (i := 14) rfl)
theorem nm_RX2_23 (U : State) (h : NWC U) : va_Nw (.methodLinkNest "BarrierLights$Inputs" 23 ⟨"BarrierLights", "bit", "(I)I"⟩ "BarrierLights") U := h.2 ("BarrierLights$Inputs", 23, ⟨"BarrierLights", "bit", "(I)I"⟩, "BarrierLights") (List.mem_of_getElem? (i := 15) rfl)
theorem nm_RX3_24 (U : State) (h : NWC U) : va_Nw (.methodLinkNest "BarrierLights$Link" 24 ⟨"BarrierLights", "wrap", "(II)I"⟩ "BarrierLights") U := h.2 ("BarrierLights$Link", 24, ⟨"BarrierLights", "wrap", "(II)I"⟩, "BarrierLights") (List.mem_of_getElem? (i := 16) rfl)
theorem nm_RX4_25 (U : State) (h : NWC U) : va_Nw (.methodLinkNest "BarrierLights$Monitor" 25 ⟨"BarrierLights", "isPhase", "(I)Z"⟩ "BarrierLights") U := h.2 ("BarrierLights$Monitor", 25, ⟨"BarrierLights", "isPhase", "(I)Z"⟩, "BarrierLights") (List.mem_of_getElem? (i := 17) rfl)
theorem nm_RX4_41 (U : State) (h : NWC U) : va_Nw (.methodLinkNest "BarrierLights$Monitor" 41 ⟨"BarrierLights", "bit", "(I)I"⟩ "BarrierLights") U := h.2 ("BarrierLights$Monitor", 41, ⟨"BarrierLights", "bit", "(I)I"⟩, "BarrierLights") (List.mem_of_getElem? (i := 18) rfl)
theorem nm_RX4_52 (U : State) (h : NWC U) : va_Nw (.methodLinkNest "BarrierLights$Monitor" 52 ⟨"BarrierLights", "ringOf", "(I)I"⟩ "BarrierLights") U := h.2 ("BarrierLights$Monitor", 52, ⟨"BarrierLights", "ringOf", "(I)I"⟩, "BarrierLights") (List.mem_of_getElem? (i := 19) rfl)
theorem nm_RX4_55 (U : State) (h : NWC U) : va_Nw (.methodLinkNest "BarrierLights$Monitor" 55 ⟨"BarrierLights", "sideOf", "(I)I"⟩ "BarrierLights") U := h.2 ("BarrierLights$Monitor", 55, ⟨"BarrierLights", "sideOf", "(I)I"⟩, "BarrierLights") (List.mem_of_getElem? (i := 20) rfl)
theorem nm_RX6_43 (U : State) (h : NWC U) : va_Nw (.methodLinkNest "BarrierLights$Ring" 43 ⟨"BarrierLights", "bit", "(I)I"⟩ "BarrierLights") U := h.2 ("BarrierLights$Ring", 43, ⟨"BarrierLights", "bit", "(I)I"⟩, "BarrierLights") (List.mem_of_getElem? (i := 21) rfl)
theorem nm_RX7_29 (U : State) (h : NWC U) : va_Nw (.methodLinkNest "BarrierLights$Table" 29 ⟨"BarrierLights", "bit", "(I)I"⟩ "BarrierLights") U := h.2 ("BarrierLights$Table", 29, ⟨"BarrierLights", "bit", "(I)I"⟩, "BarrierLights") (List.mem_of_getElem? (i := 22) rfl)
abbrev EC (l : Launch) (D : va_G) (ad : Nat → Nat) (aI aZ aF : ClassId) : jE := (l, D, wC ad aI aZ aF, AAof 43 ad, [(aI, .int), (aZ, .boolean), (aF, .float)], NWC)
theorem AA_ok (n : Nat) (ad : Nat → Nat) : (∀ sz q, sz ≤ q → AAof n ad sz q) ∧ ∀ sz sz' q, sz ≤ sz' → AAof n ad sz' q → AAof n ad sz q := ⟨fun _ _ h => Or.inr h, fun _ _ _ h1 h2 => h2.imp id (fun h => Nat.le_trans h1 h)⟩
theorem EC_ok (l : Launch) (D : va_G) (ad : Nat → Nat) (aI aZ aF : ClassId) : jOK (EC l D ad aI aZ aF) := by
  refine ⟨(AA_ok 43 ad).1, (AA_ok 43 ad).2, fun X K K' sz hD => D_of (ws := wC ad aI aZ aF K) rfl (fun q hq => ?_) hD, NWC_warm, NWC_same⟩
  have h1 : q.1 ∈ (wC ad aI aZ aF K').map (fun q => q.1) := List.mem_map_of_mem hq
  have h2 : (wC ad aI aZ aF K').map (fun q => q.1) = (List.range 43).map ad := rfl
  rw [h2] at h1
  obtain ⟨i, hi, he⟩ := List.mem_map.mp h1
  exact Or.inl ⟨i, List.mem_range.mp hi, he.symm⟩
abbrev m0 (ad : Nat → Nat) (f : Nat → Int32) : va_E := .inr (9, [.int (f 0), .int (f 1), .ref (ad 1), .ref (ad 2), .ref (ad 3), .ref (ad 4), .ref (ad 5), .ref (ad 6), .ref (ad 7), .ref (ad 8), .ref (ad 9), .ref (ad 10), .ref (ad 11), .ref (ad 12), .ref (ad 13), .ref (ad 14), .ref (ad 15), .ref (ad 16), .ref (ad 17), .ref (ad 18), .ref (ad 19), .ref (ad 20), .ref (ad 21), .ref (ad 22), .ref (ad 23), .ref (ad 24), .ref (ad 25), .ref (ad 26), .ref (ad 27), .ref (ad 28), .ref (ad 29), .ref (ad 30), .ref (ad 31), .ref (ad 32), .ref (ad 33), .ref (ad 34), .ref (ad 35)])
def wM (ad : Nat → Nat) (aI aZ aS aF : ClassId) (K : Mem) : va_W := [(ad 0, m0 ad (K 0)), (ad 1, eI aS 128 (K 1)), (ad 2, eI aS 128 (K 2)), (ad 3, eI aI 2 (K 3)), (ad 4, eI aZ 2 (K 4)), (ad 5, eI aI 2 (K 5)), (ad 6, eI aI 2 (K 6)), (ad 7, eI aZ 2 (K 7)), (ad 8, eI aZ 16 (K 8)), (ad 9, eI aZ 16 (K 9)), (ad 10, eI aZ 16 (K 10)), (ad 11, eI aZ 16 (K 11)), (ad 12, eI aS 16 (K 12)), (ad 13, eF aF 16 (K 13)), (ad 14, eI aI 16 (K 14)), (ad 15, eI aI 16 (K 15)), (ad 16, eI aI 16 (K 16)), (ad 17, eI aZ 16 (K 17)), (ad 18, eI aI 16 (K 18)), (ad 19, eI aI 4 (K 19)), (ad 20, eI aI 4 (K 20)), (ad 21, eI aI 4 (K 21)), (ad 22, eI aI 4 (K 22)), (ad 23, eI aI 4 (K 23)), (ad 24, eI aI 4 (K 24)), (ad 25, eI aI 4 (K 25)), (ad 26, eI aI 4 (K 26)), (ad 27, eI aI 4 (K 27)), (ad 28, eI aZ 4 (K 28)), (ad 29, eI aI 4 (K 29)), (ad 30, eI aI 4 (K 30)), (ad 31, eI aI 4 (K 31)), (ad 32, eI aI 2 (K 32)), (ad 33, eI aI 2 (K 33)), (ad 34, eI aI 2 (K 34)), (ad 35, eI aI 2 (K 35))]
section WM
variable {ad : Nat → Nat} {aI aZ aS aF : ClassId} {K : Mem}
theorem h_0 : (wM ad aI aZ aS aF K)[0]? = some (ad 0, m0 ad (K 0)) := rfl
theorem t_0_0 (x : Int32) : (wM ad aI aZ aS aF K).set 0 (ad 0, .inr (9, ([.int (K 0 0), .int (K 0 1), .ref (ad 1), .ref (ad 2), .ref (ad 3), .ref (ad 4), .ref (ad 5), .ref (ad 6), .ref (ad 7), .ref (ad 8), .ref (ad 9), .ref (ad 10), .ref (ad 11), .ref (ad 12), .ref (ad 13), .ref (ad 14), .ref (ad 15), .ref (ad 16), .ref (ad 17), .ref (ad 18), .ref (ad 19), .ref (ad 20), .ref (ad 21), .ref (ad 22), .ref (ad 23), .ref (ad 24), .ref (ad 25), .ref (ad 26), .ref (ad 27), .ref (ad 28), .ref (ad 29), .ref (ad 30), .ref (ad 31), .ref (ad 32), .ref (ad 33), .ref (ad 34), .ref (ad 35)] : List Value).set 0 (.int x))) = wM ad aI aZ aS aF (ks K 0 0 x) := rfl
theorem t_0_1 (x : Int32) : (wM ad aI aZ aS aF K).set 0 (ad 0, .inr (9, ([.int (K 0 0), .int (K 0 1), .ref (ad 1), .ref (ad 2), .ref (ad 3), .ref (ad 4), .ref (ad 5), .ref (ad 6), .ref (ad 7), .ref (ad 8), .ref (ad 9), .ref (ad 10), .ref (ad 11), .ref (ad 12), .ref (ad 13), .ref (ad 14), .ref (ad 15), .ref (ad 16), .ref (ad 17), .ref (ad 18), .ref (ad 19), .ref (ad 20), .ref (ad 21), .ref (ad 22), .ref (ad 23), .ref (ad 24), .ref (ad 25), .ref (ad 26), .ref (ad 27), .ref (ad 28), .ref (ad 29), .ref (ad 30), .ref (ad 31), .ref (ad 32), .ref (ad 33), .ref (ad 34), .ref (ad 35)] : List Value).set 1 (.int x))) = wM ad aI aZ aS aF (ks K 0 1 x) := rfl
theorem h_1 : (wM ad aI aZ aS aF K)[1]? = some (ad 1, eI aS 128 (K 1)) := rfl
theorem t_1 (k : Nat) (x : Int32) : (wM ad aI aZ aS aF K).set 1 (ad 1, .inl (aS, 128, .inl (upd (K 1) k x))) = wM ad aI aZ aS aF (ks K 1 k x) := rfl
theorem h_2 : (wM ad aI aZ aS aF K)[2]? = some (ad 2, eI aS 128 (K 2)) := rfl
theorem t_2 (k : Nat) (x : Int32) : (wM ad aI aZ aS aF K).set 2 (ad 2, .inl (aS, 128, .inl (upd (K 2) k x))) = wM ad aI aZ aS aF (ks K 2 k x) := rfl
theorem h_3 : (wM ad aI aZ aS aF K)[3]? = some (ad 3, eI aI 2 (K 3)) := rfl
theorem t_3 (k : Nat) (x : Int32) : (wM ad aI aZ aS aF K).set 3 (ad 3, .inl (aI, 2, .inl (upd (K 3) k x))) = wM ad aI aZ aS aF (ks K 3 k x) := rfl
theorem h_4 : (wM ad aI aZ aS aF K)[4]? = some (ad 4, eI aZ 2 (K 4)) := rfl
theorem t_4 (k : Nat) (x : Int32) : (wM ad aI aZ aS aF K).set 4 (ad 4, .inl (aZ, 2, .inl (upd (K 4) k x))) = wM ad aI aZ aS aF (ks K 4 k x) := rfl
theorem h_5 : (wM ad aI aZ aS aF K)[5]? = some (ad 5, eI aI 2 (K 5)) := rfl
theorem t_5 (k : Nat) (x : Int32) : (wM ad aI aZ aS aF K).set 5 (ad 5, .inl (aI, 2, .inl (upd (K 5) k x))) = wM ad aI aZ aS aF (ks K 5 k x) := rfl
theorem h_6 : (wM ad aI aZ aS aF K)[6]? = some (ad 6, eI aI 2 (K 6)) := rfl
theorem t_6 (k : Nat) (x : Int32) : (wM ad aI aZ aS aF K).set 6 (ad 6, .inl (aI, 2, .inl (upd (K 6) k x))) = wM ad aI aZ aS aF (ks K 6 k x) := rfl
theorem h_7 : (wM ad aI aZ aS aF K)[7]? = some (ad 7, eI aZ 2 (K 7)) := rfl
theorem t_7 (k : Nat) (x : Int32) : (wM ad aI aZ aS aF K).set 7 (ad 7, .inl (aZ, 2, .inl (upd (K 7) k x))) = wM ad aI aZ aS aF (ks K 7 k x) := rfl
theorem h_8 : (wM ad aI aZ aS aF K)[8]? = some (ad 8, eI aZ 16 (K 8)) := rfl
theorem t_8 (k : Nat) (x : Int32) : (wM ad aI aZ aS aF K).set 8 (ad 8, .inl (aZ, 16, .inl (upd (K 8) k x))) = wM ad aI aZ aS aF (ks K 8 k x) := rfl
theorem h_9 : (wM ad aI aZ aS aF K)[9]? = some (ad 9, eI aZ 16 (K 9)) := rfl
theorem t_9 (k : Nat) (x : Int32) : (wM ad aI aZ aS aF K).set 9 (ad 9, .inl (aZ, 16, .inl (upd (K 9) k x))) = wM ad aI aZ aS aF (ks K 9 k x) := rfl
theorem h_10 : (wM ad aI aZ aS aF K)[10]? = some (ad 10, eI aZ 16 (K 10)) := rfl
theorem t_10 (k : Nat) (x : Int32) : (wM ad aI aZ aS aF K).set 10 (ad 10, .inl (aZ, 16, .inl (upd (K 10) k x))) = wM ad aI aZ aS aF (ks K 10 k x) := rfl
theorem h_11 : (wM ad aI aZ aS aF K)[11]? = some (ad 11, eI aZ 16 (K 11)) := rfl
theorem t_11 (k : Nat) (x : Int32) : (wM ad aI aZ aS aF K).set 11 (ad 11, .inl (aZ, 16, .inl (upd (K 11) k x))) = wM ad aI aZ aS aF (ks K 11 k x) := rfl
theorem h_12 : (wM ad aI aZ aS aF K)[12]? = some (ad 12, eI aS 16 (K 12)) := rfl
theorem t_12 (k : Nat) (x : Int32) : (wM ad aI aZ aS aF K).set 12 (ad 12, .inl (aS, 16, .inl (upd (K 12) k x))) = wM ad aI aZ aS aF (ks K 12 k x) := rfl
theorem h_13 : (wM ad aI aZ aS aF K)[13]? = some (ad 13, eF aF 16 (K 13)) := rfl
theorem t_13 (k : Nat) (x : UInt32) : (wM ad aI aZ aS aF K).set 13 (ad 13, .inl (aF, 16, .inr (.inr (.inl (vf_upd (fun j => (K 13 j).toUInt32) k x))))) = wM ad aI aZ aS aF (ks K 13 k x.toInt32) := by
  rw [vf_up]
  rfl
theorem h_14 : (wM ad aI aZ aS aF K)[14]? = some (ad 14, eI aI 16 (K 14)) := rfl
theorem t_14 (k : Nat) (x : Int32) : (wM ad aI aZ aS aF K).set 14 (ad 14, .inl (aI, 16, .inl (upd (K 14) k x))) = wM ad aI aZ aS aF (ks K 14 k x) := rfl
theorem h_15 : (wM ad aI aZ aS aF K)[15]? = some (ad 15, eI aI 16 (K 15)) := rfl
theorem t_15 (k : Nat) (x : Int32) : (wM ad aI aZ aS aF K).set 15 (ad 15, .inl (aI, 16, .inl (upd (K 15) k x))) = wM ad aI aZ aS aF (ks K 15 k x) := rfl
theorem h_16 : (wM ad aI aZ aS aF K)[16]? = some (ad 16, eI aI 16 (K 16)) := rfl
theorem t_16 (k : Nat) (x : Int32) : (wM ad aI aZ aS aF K).set 16 (ad 16, .inl (aI, 16, .inl (upd (K 16) k x))) = wM ad aI aZ aS aF (ks K 16 k x) := rfl
theorem h_17 : (wM ad aI aZ aS aF K)[17]? = some (ad 17, eI aZ 16 (K 17)) := rfl
theorem t_17 (k : Nat) (x : Int32) : (wM ad aI aZ aS aF K).set 17 (ad 17, .inl (aZ, 16, .inl (upd (K 17) k x))) = wM ad aI aZ aS aF (ks K 17 k x) := rfl
theorem h_18 : (wM ad aI aZ aS aF K)[18]? = some (ad 18, eI aI 16 (K 18)) := rfl
theorem t_18 (k : Nat) (x : Int32) : (wM ad aI aZ aS aF K).set 18 (ad 18, .inl (aI, 16, .inl (upd (K 18) k x))) = wM ad aI aZ aS aF (ks K 18 k x) := rfl
theorem h_19 : (wM ad aI aZ aS aF K)[19]? = some (ad 19, eI aI 4 (K 19)) := rfl
theorem t_19 (k : Nat) (x : Int32) : (wM ad aI aZ aS aF K).set 19 (ad 19, .inl (aI, 4, .inl (upd (K 19) k x))) = wM ad aI aZ aS aF (ks K 19 k x) := rfl
theorem h_20 : (wM ad aI aZ aS aF K)[20]? = some (ad 20, eI aI 4 (K 20)) := rfl
theorem t_20 (k : Nat) (x : Int32) : (wM ad aI aZ aS aF K).set 20 (ad 20, .inl (aI, 4, .inl (upd (K 20) k x))) = wM ad aI aZ aS aF (ks K 20 k x) := rfl
theorem h_21 : (wM ad aI aZ aS aF K)[21]? = some (ad 21, eI aI 4 (K 21)) := rfl
theorem t_21 (k : Nat) (x : Int32) : (wM ad aI aZ aS aF K).set 21 (ad 21, .inl (aI, 4, .inl (upd (K 21) k x))) = wM ad aI aZ aS aF (ks K 21 k x) := rfl
theorem h_22 : (wM ad aI aZ aS aF K)[22]? = some (ad 22, eI aI 4 (K 22)) := rfl
theorem t_22 (k : Nat) (x : Int32) : (wM ad aI aZ aS aF K).set 22 (ad 22, .inl (aI, 4, .inl (upd (K 22) k x))) = wM ad aI aZ aS aF (ks K 22 k x) := rfl
theorem h_23 : (wM ad aI aZ aS aF K)[23]? = some (ad 23, eI aI 4 (K 23)) := rfl
theorem t_23 (k : Nat) (x : Int32) : (wM ad aI aZ aS aF K).set 23 (ad 23, .inl (aI, 4, .inl (upd (K 23) k x))) = wM ad aI aZ aS aF (ks K 23 k x) := rfl
theorem h_24 : (wM ad aI aZ aS aF K)[24]? = some (ad 24, eI aI 4 (K 24)) := rfl
theorem t_24 (k : Nat) (x : Int32) : (wM ad aI aZ aS aF K).set 24 (ad 24, .inl (aI, 4, .inl (upd (K 24) k x))) = wM ad aI aZ aS aF (ks K 24 k x) := rfl
theorem h_25 : (wM ad aI aZ aS aF K)[25]? = some (ad 25, eI aI 4 (K 25)) := rfl
theorem t_25 (k : Nat) (x : Int32) : (wM ad aI aZ aS aF K).set 25 (ad 25, .inl (aI, 4, .inl (upd (K 25) k x))) = wM ad aI aZ aS aF (ks K 25 k x) := rfl
theorem h_26 : (wM ad aI aZ aS aF K)[26]? = some (ad 26, eI aI 4 (K 26)) := rfl
theorem t_26 (k : Nat) (x : Int32) : (wM ad aI aZ aS aF K).set 26 (ad 26, .inl (aI, 4, .inl (upd (K 26) k x))) = wM ad aI aZ aS aF (ks K 26 k x) := rfl
theorem h_27 : (wM ad aI aZ aS aF K)[27]? = some (ad 27, eI aI 4 (K 27)) := rfl
theorem t_27 (k : Nat) (x : Int32) : (wM ad aI aZ aS aF K).set 27 (ad 27, .inl (aI, 4, .inl (upd (K 27) k x))) = wM ad aI aZ aS aF (ks K 27 k x) := rfl
theorem h_28 : (wM ad aI aZ aS aF K)[28]? = some (ad 28, eI aZ 4 (K 28)) := rfl
theorem t_28 (k : Nat) (x : Int32) : (wM ad aI aZ aS aF K).set 28 (ad 28, .inl (aZ, 4, .inl (upd (K 28) k x))) = wM ad aI aZ aS aF (ks K 28 k x) := rfl
theorem h_29 : (wM ad aI aZ aS aF K)[29]? = some (ad 29, eI aI 4 (K 29)) := rfl
theorem t_29 (k : Nat) (x : Int32) : (wM ad aI aZ aS aF K).set 29 (ad 29, .inl (aI, 4, .inl (upd (K 29) k x))) = wM ad aI aZ aS aF (ks K 29 k x) := rfl
theorem h_30 : (wM ad aI aZ aS aF K)[30]? = some (ad 30, eI aI 4 (K 30)) := rfl
theorem t_30 (k : Nat) (x : Int32) : (wM ad aI aZ aS aF K).set 30 (ad 30, .inl (aI, 4, .inl (upd (K 30) k x))) = wM ad aI aZ aS aF (ks K 30 k x) := rfl
theorem h_31 : (wM ad aI aZ aS aF K)[31]? = some (ad 31, eI aI 4 (K 31)) := rfl
theorem t_31 (k : Nat) (x : Int32) : (wM ad aI aZ aS aF K).set 31 (ad 31, .inl (aI, 4, .inl (upd (K 31) k x))) = wM ad aI aZ aS aF (ks K 31 k x) := rfl
theorem h_32 : (wM ad aI aZ aS aF K)[32]? = some (ad 32, eI aI 2 (K 32)) := rfl
theorem t_32 (k : Nat) (x : Int32) : (wM ad aI aZ aS aF K).set 32 (ad 32, .inl (aI, 2, .inl (upd (K 32) k x))) = wM ad aI aZ aS aF (ks K 32 k x) := rfl
theorem h_33 : (wM ad aI aZ aS aF K)[33]? = some (ad 33, eI aI 2 (K 33)) := rfl
theorem t_33 (k : Nat) (x : Int32) : (wM ad aI aZ aS aF K).set 33 (ad 33, .inl (aI, 2, .inl (upd (K 33) k x))) = wM ad aI aZ aS aF (ks K 33 k x) := rfl
theorem h_34 : (wM ad aI aZ aS aF K)[34]? = some (ad 34, eI aI 2 (K 34)) := rfl
theorem t_34 (k : Nat) (x : Int32) : (wM ad aI aZ aS aF K).set 34 (ad 34, .inl (aI, 2, .inl (upd (K 34) k x))) = wM ad aI aZ aS aF (ks K 34 k x) := rfl
theorem h_35 : (wM ad aI aZ aS aF K)[35]? = some (ad 35, eI aI 2 (K 35)) := rfl
theorem t_35 (k : Nat) (x : Int32) : (wM ad aI aZ aS aF K).set 35 (ad 35, .inl (aI, 2, .inl (upd (K 35) k x))) = wM ad aI aZ aS aF (ks K 35 k x) := rfl
end WM
abbrev EM (l : Launch) (D : va_G) (ad : Nat → Nat) (aI aZ aS aF : ClassId) : jE := (l, D, wM ad aI aZ aS aF, AAof 36 ad, [(aI, .int), (aZ, .boolean), (aS, .short), (aF, .float)], fun _ => True)
theorem EM_ok (l : Launch) (D : va_G) (ad : Nat → Nat) (aI aZ aS aF : ClassId) : jOK (EM l D ad aI aZ aS aF) := by
  refine ⟨(AA_ok 36 ad).1, (AA_ok 36 ad).2, fun X K K' sz hD => D_of (ws := wM ad aI aZ aS aF K) rfl (fun q hq => ?_) hD, fun _ _ _ _ => trivial, fun _ _ _ _ => trivial⟩
  have h1 : q.1 ∈ (wM ad aI aZ aS aF K').map (fun q => q.1) := List.mem_map_of_mem hq
  have h2 : (wM ad aI aZ aS aF K').map (fun q => q.1) = (List.range 36).map ad := rfl
  rw [h2] at h1
  obtain ⟨i, hi, he⟩ := List.mem_map.mp h1
  exact Or.inl ⟨i, List.mem_range.mp hi, he.symm⟩
end
section
/-- BarrierLights$Ring.waits()Z -/
def f_X6_waits (b : Nat) (K : Mem) : Option (Int32) := if (K b 0) = (-1) then (some 1) else (some 0)
abbrev rmX6_waits : Room := { frames := 0, cells := 0, slots := 0, locals := 0 }
theorem iX6_waits_X6 : ∀ w ∈ u_ws RX6 TX6 10, w ∈ wsX6_waits := fun _ h => List.mem_cons_of_mem _ (List.mem_append_right _ h)
theorem mX6_waits_f9 : Cond.fieldLink RX6 9 "BarrierLights$Ring" "phase" "I" ∈ wsX6_waits := by decide +kernel
set_option maxRecDepth 100000 in
set_option maxHeartbeats 4000000 in
theorem k_X6_waits {l : Launch} {D : va_G} {ad : Nat → Nat} {aI aZ aF : ClassId} {b : Nat} (hb : isR b) {K : Mem} {u : Int32} (hf : f_X6_waits b K = some u) : cI (EC l D ad aI aZ aF) yX6_waits wsX6_waits rmX6_waits [.ref (ad b)] K u K := by
  rw [f_X6_waits] at hf
  refine j_entI (cc := cX6_waits) (maxL := 1) (EC_ok l D ad aI aZ aF) (Or.inr rfl) (by decide) rfl (Nat.le_of_ble_eq_true rfl) (fun G C ret => ?_)
  refine j_sub [0] (lv2 := [(0, .ref (ad b))]) rfl ?_
  refine j_aload_n C 0 dX6_waits_0 rfl rfl ?_
  refine j_get C 0 iX6_waits_X6 (g_R hb) rfl (by decide) mX6_waits_f9 rfl rfl dX6_waits_1 ?_
  refine j_iconst C (v := (-1)) dX6_waits_4 (by decide) ?_
  refine j_icmp_ne C 12 dX6_waits_5 (by decide) hf (fun hf => ?_) (fun hf => ?_)
  · refine j_iconst C (v := 1) dX6_waits_8 (by decide) ?_
    refine j_goto C 13 dX6_waits_9 (by decide) ?_
    cases hf
    exact ret _ _ dX6_waits_13 (fun _ => rfl)
  · refine j_iconst C (v := 0) dX6_waits_12 (by decide) ?_
    cases hf
    exact ret _ _ dX6_waits_13 (fun _ => rfl)
/-- BarrierLights$Ring.isGreen()Z -/
def f_X6_isGreen (b : Nat) (K : Mem) : Option (Int32) := if (K b 4) = 4 then (some 1) else (some 0)
abbrev rmX6_isGreen : Room := { frames := 0, cells := 0, slots := 0, locals := 0 }
theorem iX6_isGreen_X6 : ∀ w ∈ u_ws RX6 TX6 10, w ∈ wsX6_isGreen := fun _ h => List.mem_cons_of_mem _ (List.mem_append_right _ h)
theorem mX6_isGreen_f25 : Cond.fieldLink RX6 25 "BarrierLights$Ring" "lamps" "I" ∈ wsX6_isGreen := by decide +kernel
set_option maxRecDepth 100000 in
set_option maxHeartbeats 4000000 in
theorem k_X6_isGreen {l : Launch} {D : va_G} {ad : Nat → Nat} {aI aZ aF : ClassId} {b : Nat} (hb : isR b) {K : Mem} {u : Int32} (hf : f_X6_isGreen b K = some u) : cI (EC l D ad aI aZ aF) yX6_isGreen wsX6_isGreen rmX6_isGreen [.ref (ad b)] K u K := by
  rw [f_X6_isGreen] at hf
  refine j_entI (cc := cX6_isGreen) (maxL := 1) (EC_ok l D ad aI aZ aF) (Or.inr rfl) (by decide) rfl (Nat.le_of_ble_eq_true rfl) (fun G C ret => ?_)
  refine j_sub [0] (lv2 := [(0, .ref (ad b))]) rfl ?_
  refine j_aload_n C 0 dX6_isGreen_0 rfl rfl ?_
  refine j_get C 4 iX6_isGreen_X6 (g_R hb) rfl (by decide) mX6_isGreen_f25 rfl rfl dX6_isGreen_1 ?_
  refine j_iconst C (v := 4) dX6_isGreen_4 (by decide) ?_
  refine j_icmp_ne C 12 dX6_isGreen_5 (by decide) hf (fun hf => ?_) (fun hf => ?_)
  · refine j_iconst C (v := 1) dX6_isGreen_8 (by decide) ?_
    refine j_goto C 13 dX6_isGreen_9 (by decide) ?_
    cases hf
    exact ret _ _ dX6_isGreen_13 (fun _ => rfl)
  · refine j_iconst C (v := 0) dX6_isGreen_12 (by decide) ?_
    cases hf
    exact ret _ _ dX6_isGreen_13 (fun _ => rfl)
/-- BarrierLights$Ring.mayEnd(I)Z -/
def f_X6_mayEnd (b : Nat) (p1 : Int32) (K : Mem) : Option (Int32) := if (K b 4) = 4 then (if (K b 8) = 0 then (if (K b 5) < p1 then (some 0) else (some 1)) else (some 0)) else (some 0)
abbrev rmX6_mayEnd : Room := { frames := 0, cells := 0, slots := 0, locals := 0 }
theorem iX6_mayEnd_X6 : ∀ w ∈ u_ws RX6 TX6 10, w ∈ wsX6_mayEnd := fun _ h => List.mem_cons_of_mem _ (List.mem_append_right _ h)
theorem mX6_mayEnd_f25 : Cond.fieldLink RX6 25 "BarrierLights$Ring" "lamps" "I" ∈ wsX6_mayEnd := by decide +kernel
theorem mX6_mayEnd_f37 : Cond.fieldLink RX6 37 "BarrierLights$Ring" "walkSign" "I" ∈ wsX6_mayEnd := by decide +kernel
theorem mX6_mayEnd_f28 : Cond.fieldLink RX6 28 "BarrierLights$Ring" "age" "I" ∈ wsX6_mayEnd := by decide +kernel
set_option maxRecDepth 100000 in
set_option maxHeartbeats 4000000 in
theorem k_X6_mayEnd {l : Launch} {D : va_G} {ad : Nat → Nat} {aI aZ aF : ClassId} {b : Nat} {p1 : Int32} (hb : isR b) {K : Mem} {u : Int32} (hf : f_X6_mayEnd b p1 K = some u) : cI (EC l D ad aI aZ aF) yX6_mayEnd wsX6_mayEnd rmX6_mayEnd [.ref (ad b), .int p1] K u K := by
  rw [f_X6_mayEnd] at hf
  refine j_entI (cc := cX6_mayEnd) (maxL := 2) (EC_ok l D ad aI aZ aF) (Or.inr rfl) (by decide) rfl (Nat.le_of_ble_eq_true rfl) (fun G C ret => ?_)
  refine j_sub [0, 1] (lv2 := [(0, .ref (ad b)), (1, .int p1)]) rfl ?_
  refine j_aload_n C 0 dX6_mayEnd_0 rfl rfl ?_
  refine j_get C 4 iX6_mayEnd_X6 (g_R hb) rfl (by decide) mX6_mayEnd_f25 rfl rfl dX6_mayEnd_1 ?_
  refine j_iconst C (v := 4) dX6_mayEnd_4 (by decide) ?_
  refine j_icmp_ne C 27 dX6_mayEnd_5 (by decide) hf (fun hf => ?_) (fun hf => ?_)
  · refine j_aload_n C 0 dX6_mayEnd_8 rfl rfl ?_
    refine j_get C 8 iX6_mayEnd_X6 (g_R hb) rfl (by decide) mX6_mayEnd_f37 rfl rfl dX6_mayEnd_9 ?_
    refine j_if_ne C 27 dX6_mayEnd_12 (by decide) hf (fun hf => ?_) (fun hf => ?_)
    · refine j_aload_n C 0 dX6_mayEnd_15 rfl rfl ?_
      refine j_get C 5 iX6_mayEnd_X6 (g_R hb) rfl (by decide) mX6_mayEnd_f28 rfl rfl dX6_mayEnd_16 ?_
      refine j_iload_n C 1 dX6_mayEnd_19 rfl rfl ?_
      refine j_icmp_lt C 27 dX6_mayEnd_20 (by decide) hf (fun hf => ?_) (fun hf => ?_)
      · refine j_iconst C (v := 0) dX6_mayEnd_27 (by decide) ?_
        cases hf
        exact ret _ _ dX6_mayEnd_28 (fun _ => rfl)
      · refine j_iconst C (v := 1) dX6_mayEnd_23 (by decide) ?_
        refine j_goto C 28 dX6_mayEnd_24 (by decide) ?_
        cases hf
        exact ret _ _ dX6_mayEnd_28 (fun _ => rfl)
    · refine j_iconst C (v := 0) dX6_mayEnd_27 (by decide) ?_
      cases hf
      exact ret _ _ dX6_mayEnd_28 (fun _ => rfl)
  · refine j_iconst C (v := 0) dX6_mayEnd_27 (by decide) ?_
    cases hf
    exact ret _ _ dX6_mayEnd_28 (fun _ => rfl)
/-- BarrierLights$Ring.show(I)V -/
def f_X6_show (b : Nat) (p1 : Int32) (K : Mem) : Option (Mem) := st K b 4 p1 fun K1 => st K1 b 5 0 fun K2 => some K2
abbrev rmX6_show : Room := { frames := 0, cells := 0, slots := 0, locals := 0 }
theorem iX6_show_X6 : ∀ w ∈ u_ws RX6 TX6 10, w ∈ wsX6_show := fun _ h => List.mem_cons_of_mem _ (List.mem_append_right _ h)
theorem mX6_show_f25 : Cond.fieldLink RX6 25 "BarrierLights$Ring" "lamps" "I" ∈ wsX6_show := by decide +kernel
theorem mX6_show_f28 : Cond.fieldLink RX6 28 "BarrierLights$Ring" "age" "I" ∈ wsX6_show := by decide +kernel
set_option maxRecDepth 100000 in
set_option maxHeartbeats 4000000 in
theorem k_X6_show {l : Launch} {D : va_G} {ad : Nat → Nat} {aI aZ aF : ClassId} {b : Nat} {p1 : Int32} (hb : isR b) {K : Mem} {u : Mem} (hf : f_X6_show b p1 K = some u) : cV (EC l D ad aI aZ aF) yX6_show wsX6_show rmX6_show [.ref (ad b), .int p1] K u := by
  rw [f_X6_show] at hf
  refine j_entV (cc := cX6_show) (maxL := 2) (EC_ok l D ad aI aZ aF) (by decide) rfl (Nat.le_of_ble_eq_true rfl) (fun G C ret => ?_)
  refine j_sub [0, 1] (lv2 := [(0, .ref (ad b)), (1, .int p1)]) rfl ?_
  refine j_aload_n C 0 dX6_show_0 rfl rfl ?_
  refine j_iload_n C 1 dX6_show_1 rfl rfl ?_
  refine j_put C (ty := .int) 4 iX6_show_X6 tyX6 tyX6_ok nmX6 (g_R hb) (s_R_4 hb _) rfl (by decide) mX6_show_f25 rfl rfl (by decide +kernel) rfl rfl (Nat.le_of_ble_eq_true rfl) dX6_show_2 hf (fun K1 hf => ?_)
  refine j_aload_n C 0 dX6_show_5 rfl rfl ?_
  refine j_iconst C (v := 0) dX6_show_6 (by decide) ?_
  refine j_put C (ty := .int) 5 iX6_show_X6 tyX6 tyX6_ok nmX6 (g_R hb) (s_R_5 hb _) rfl (by decide) mX6_show_f28 rfl rfl (by decide +kernel) rfl rfl (Nat.le_of_ble_eq_true rfl) dX6_show_7 hf (fun K2 hf => ?_)
  cases hf
  exact ret _ _ dX6_show_10
/-- BarrierLights$Ring.rest()V -/
def f_X6_rest (b : Nat) (K : Mem) : Option (Mem) := st K b 0 (-1) fun K1 => st K1 b 1 (-1) fun K2 => st K2 b 4 0 fun K3 => st K3 b 8 0 fun K4 => some K4
abbrev rmX6_rest : Room := { frames := 0, cells := 0, slots := 0, locals := 0 }
theorem iX6_rest_X6 : ∀ w ∈ u_ws RX6 TX6 10, w ∈ wsX6_rest := fun _ h => List.mem_cons_of_mem _ (List.mem_append_right _ h)
theorem mX6_rest_f9 : Cond.fieldLink RX6 9 "BarrierLights$Ring" "phase" "I" ∈ wsX6_rest := by decide +kernel
theorem mX6_rest_f15 : Cond.fieldLink RX6 15 "BarrierLights$Ring" "next" "I" ∈ wsX6_rest := by decide +kernel
theorem mX6_rest_f25 : Cond.fieldLink RX6 25 "BarrierLights$Ring" "lamps" "I" ∈ wsX6_rest := by decide +kernel
theorem mX6_rest_f37 : Cond.fieldLink RX6 37 "BarrierLights$Ring" "walkSign" "I" ∈ wsX6_rest := by decide +kernel
set_option maxRecDepth 100000 in
set_option maxHeartbeats 4000000 in
theorem k_X6_rest {l : Launch} {D : va_G} {ad : Nat → Nat} {aI aZ aF : ClassId} {b : Nat} (hb : isR b) {K : Mem} {u : Mem} (hf : f_X6_rest b K = some u) : cV (EC l D ad aI aZ aF) yX6_rest wsX6_rest rmX6_rest [.ref (ad b)] K u := by
  rw [f_X6_rest] at hf
  refine j_entV (cc := cX6_rest) (maxL := 1) (EC_ok l D ad aI aZ aF) (by decide) rfl (Nat.le_of_ble_eq_true rfl) (fun G C ret => ?_)
  refine j_sub [0] (lv2 := [(0, .ref (ad b))]) rfl ?_
  refine j_aload_n C 0 dX6_rest_0 rfl rfl ?_
  refine j_iconst C (v := (-1)) dX6_rest_1 (by decide) ?_
  refine j_put C (ty := .int) 0 iX6_rest_X6 tyX6 tyX6_ok nmX6 (g_R hb) (s_R_0 hb _) rfl (by decide) mX6_rest_f9 rfl rfl (by decide +kernel) rfl rfl (Nat.le_of_ble_eq_true rfl) dX6_rest_2 hf (fun K1 hf => ?_)
  refine j_aload_n C 0 dX6_rest_5 rfl rfl ?_
  refine j_iconst C (v := (-1)) dX6_rest_6 (by decide) ?_
  refine j_put C (ty := .int) 1 iX6_rest_X6 tyX6 tyX6_ok nmX6 (g_R hb) (s_R_1 hb _) rfl (by decide) mX6_rest_f15 rfl rfl (by decide +kernel) rfl rfl (Nat.le_of_ble_eq_true rfl) dX6_rest_7 hf (fun K2 hf => ?_)
  refine j_aload_n C 0 dX6_rest_10 rfl rfl ?_
  refine j_iconst C (v := 0) dX6_rest_11 (by decide) ?_
  refine j_put C (ty := .int) 4 iX6_rest_X6 tyX6 tyX6_ok nmX6 (g_R hb) (s_R_4 hb _) rfl (by decide) mX6_rest_f25 rfl rfl (by decide +kernel) rfl rfl (Nat.le_of_ble_eq_true rfl) dX6_rest_12 hf (fun K3 hf => ?_)
  refine j_aload_n C 0 dX6_rest_15 rfl rfl ?_
  refine j_iconst C (v := 0) dX6_rest_16 (by decide) ?_
  refine j_put C (ty := .int) 8 iX6_rest_X6 tyX6 tyX6_ok nmX6 (g_R hb) (s_R_8 hb _) rfl (by decide) mX6_rest_f37 rfl rfl (by decide +kernel) rfl rfl (Nat.le_of_ble_eq_true rfl) dX6_rest_17 hf (fun K4 hf => ?_)
  cases hf
  exact ret _ _ dX6_rest_20
/-- BarrierLights$Table.at(II)I -/
def f_X7_at (b : Nat) (p1 : Int32) (p2 : Int32) (K : Mem) : Option (Int32) := lt ((p1 * 8) + p2) fun x1 => if x1 < 0 then (some 0) else (if 64 ≤ x1 then (some 0) else (if inb x1 64 = true then (some (K (b + 1) (ix x1))) else none))
abbrev rmX7_at : Room := { frames := 0, cells := 0, slots := 0, locals := 0 }
theorem iX7_at_X7 : ∀ w ∈ u_ws RX7 TX7 1, w ∈ wsX7_at := fun _ h => List.mem_cons_of_mem _ (List.mem_append_right _ h)
theorem mX7_at_f9 : Cond.fieldLink RX7 9 "BarrierLights$Table" "entries" "[I" ∈ wsX7_at := by decide +kernel
set_option maxRecDepth 100000 in
set_option maxHeartbeats 4000000 in
theorem k_X7_at {l : Launch} {D : va_G} {ad : Nat → Nat} {aI aZ aF : ClassId} {b : Nat} {p1 : Int32} {p2 : Int32} (hb : isT b) {K : Mem} {u : Int32} (hf : f_X7_at b p1 p2 K = some u) : cI (EC l D ad aI aZ aF) yX7_at wsX7_at rmX7_at [.ref (ad b), .int p1, .int p2] K u K := by
  rw [f_X7_at] at hf
  refine j_entI (cc := cX7_at) (maxL := 4) (EC_ok l D ad aI aZ aF) (Or.inl rfl) (by decide) rfl (Nat.le_of_ble_eq_true rfl) (fun G C ret => ?_)
  refine j_sub [0, 1, 2] (lv2 := [(0, .ref (ad b)), (1, .int p1), (2, .int p2)]) rfl ?_
  refine j_iload_n C 1 dX7_at_0 rfl rfl ?_
  refine j_bipush C (v := 8) dX7_at_1 (by decide) ?_
  refine j_imul C dX7_at_3 ?_
  refine j_iload_n C 2 dX7_at_4 rfl rfl ?_
  refine j_iadd C dX7_at_5 ?_
  refine j_istore_n C (fun y => [(3, .int y), (0, .ref (ad b)), (1, .int p1), (2, .int p2)]) dX7_at_6 rfl (by decide) (fun _ => rfl) hf (fun x1 hf => ?_)
  refine j_iload_n C 0 dX7_at_7 rfl rfl ?_
  refine j_if_lt C 29 dX7_at_8 (by decide) hf (fun hf => ?_) (fun hf => ?_)
  · refine j_iconst C (v := 0) dX7_at_29 (by decide) ?_
    cases hf
    exact ret _ _ dX7_at_30 (fun h => by cases h)
  · refine j_iload_n C 0 dX7_at_11 rfl rfl ?_
    refine j_aload_n C 1 dX7_at_12 rfl rfl ?_
    refine j_get C 0 iX7_at_X7 (g_T hb) rfl (by decide) mX7_at_f9 rfl rfl dX7_at_13 ?_
    refine j_alen C (v := 64) 0 (g_Ta hb) rfl rfl dX7_at_16 ?_
    refine j_icmp_ge C 29 dX7_at_17 (by decide) hf (fun hf => ?_) (fun hf => ?_)
    · refine j_iconst C (v := 0) dX7_at_29 (by decide) ?_
      cases hf
      exact ret _ _ dX7_at_30 (fun h => by cases h)
    · refine j_aload_n C 1 dX7_at_20 rfl rfl ?_
      refine j_get C 0 iX7_at_X7 (g_T hb) rfl (by decide) mX7_at_f9 rfl rfl dX7_at_21 ?_
      refine j_iload_n C 0 dX7_at_24 rfl rfl ?_
      refine j_iald C 0 (g_Ta hb) rfl dX7_at_25 hf (fun hf => ?_)
      refine j_goto C 30 dX7_at_26 (by decide) ?_
      cases hf
      exact ret _ _ dX7_at_30 (fun h => by cases h)
/-- BarrierLights.bit(I)I -/
def f_X8_bit (p0 : Int32) (K : Mem) : Option (Int32) := if p0 < 0 then (some 0) else (if 8 ≤ p0 then (some 0) else (some (jshl 1 p0)))
abbrev rmX8_bit : Room := { frames := 0, cells := 0, slots := 0, locals := 0 }
set_option maxRecDepth 100000 in
set_option maxHeartbeats 4000000 in
theorem k_X8_bit {l : Launch} {D : va_G} {ad : Nat → Nat} {aI aZ aF : ClassId} {p0 : Int32} {K : Mem} {u : Int32} (hf : f_X8_bit p0 K = some u) : cI (EC l D ad aI aZ aF) yX8_bit wsX8_bit rmX8_bit [.int p0] K u K := by
  rw [f_X8_bit] at hf
  refine j_entI (cc := cX8_bit) (maxL := 1) (EC_ok l D ad aI aZ aF) (Or.inl rfl) (by decide) rfl (Nat.le_of_ble_eq_true rfl) (fun G C ret => ?_)
  refine j_sub [0] (lv2 := [(0, .int p0)]) rfl ?_
  refine j_iload_n C 0 dX8_bit_0 rfl rfl ?_
  refine j_if_lt C 16 dX8_bit_1 (by decide) hf (fun hf => ?_) (fun hf => ?_)
  · refine j_iconst C (v := 0) dX8_bit_16 (by decide) ?_
    cases hf
    exact ret _ _ dX8_bit_17 (fun h => by cases h)
  · refine j_iload_n C 0 dX8_bit_4 rfl rfl ?_
    refine j_bipush C (v := 8) dX8_bit_5 (by decide) ?_
    refine j_icmp_ge C 16 dX8_bit_7 (by decide) hf (fun hf => ?_) (fun hf => ?_)
    · refine j_iconst C (v := 0) dX8_bit_16 (by decide) ?_
      cases hf
      exact ret _ _ dX8_bit_17 (fun h => by cases h)
    · refine j_iconst C (v := 1) dX8_bit_10 (by decide) ?_
      refine j_iload_n C 0 dX8_bit_11 rfl rfl ?_
      refine j_ishl C dX8_bit_12 ?_
      refine j_goto C 17 dX8_bit_13 (by decide) ?_
      cases hf
      exact ret _ _ dX8_bit_17 (fun h => by cases h)
/-- BarrierLights.isPhase(I)Z -/
def f_X8_isPhase (p0 : Int32) (K : Mem) : Option (Int32) := if p0 < 0 then (some 0) else (if 8 ≤ p0 then (some 0) else (some 1))
abbrev rmX8_isPhase : Room := { frames := 0, cells := 0, slots := 0, locals := 0 }
set_option maxRecDepth 100000 in
set_option maxHeartbeats 4000000 in
theorem k_X8_isPhase {l : Launch} {D : va_G} {ad : Nat → Nat} {aI aZ aF : ClassId} {p0 : Int32} {K : Mem} {u : Int32} (hf : f_X8_isPhase p0 K = some u) : cI (EC l D ad aI aZ aF) yX8_isPhase wsX8_isPhase rmX8_isPhase [.int p0] K u K := by
  rw [f_X8_isPhase] at hf
  refine j_entI (cc := cX8_isPhase) (maxL := 1) (EC_ok l D ad aI aZ aF) (Or.inr rfl) (by decide) rfl (Nat.le_of_ble_eq_true rfl) (fun G C ret => ?_)
  refine j_sub [0] (lv2 := [(0, .int p0)]) rfl ?_
  refine j_iload_n C 0 dX8_isPhase_0 rfl rfl ?_
  refine j_if_lt C 14 dX8_isPhase_1 (by decide) hf (fun hf => ?_) (fun hf => ?_)
  · refine j_iconst C (v := 0) dX8_isPhase_14 (by decide) ?_
    cases hf
    exact ret _ _ dX8_isPhase_15 (fun _ => rfl)
  · refine j_iload_n C 0 dX8_isPhase_4 rfl rfl ?_
    refine j_bipush C (v := 8) dX8_isPhase_5 (by decide) ?_
    refine j_icmp_ge C 14 dX8_isPhase_7 (by decide) hf (fun hf => ?_) (fun hf => ?_)
    · refine j_iconst C (v := 0) dX8_isPhase_14 (by decide) ?_
      cases hf
      exact ret _ _ dX8_isPhase_15 (fun _ => rfl)
    · refine j_iconst C (v := 1) dX8_isPhase_10 (by decide) ?_
      refine j_goto C 15 dX8_isPhase_11 (by decide) ?_
      cases hf
      exact ret _ _ dX8_isPhase_15 (fun _ => rfl)
end
section
set_option maxRecDepth 20000 in
theorem ggX0_goByCalls_X0_greenPhases : GoodIn wsX0_goByCalls wsX0_greenPhases := goodIn_r _ [11, 5, 6, 12, 13, 14, 15, 16, 17, 18, 19, 20, 21, 127, 128, 129, 130, 131, 132, 133, 134, 135, 136, 137, 138, 139, 140, 141, 142, 143, 144, 145, 146, 147, 148, 149, 150, 151, 152] rfl (by decide +kernel)
set_option maxRecDepth 20000 in
theorem gX0_goByCalls_X0_greenPhases : GoodIn wsX0_goByCalls (wsV RX0 232 RX0 yX0_greenPhases wsX0_greenPhases) := goodIn_app (goodIn_of _ (by decide +kernel)) ggX0_goByCalls_X0_greenPhases
set_option maxRecDepth 20000 in
theorem ggX0_goByCalls_X0_countingCalls : GoodIn wsX0_goByCalls wsX0_countingCalls := goodIn_r _ [25, 3, 26, 7, 8, 9, 10, 11, 5, 6, 12, 13, 14, 15, 16, 17, 18, 19, 20, 21, 127, 128, 129, 130, 131, 132, 133, 134, 135, 136, 137, 138, 139, 140, 141, 142, 143, 144, 145, 146, 147, 148, 149, 150, 151, 152] rfl (by decide +kernel)
set_option maxRecDepth 20000 in
theorem gX0_goByCalls_X0_countingCalls : GoodIn wsX0_goByCalls (wsV RX0 185 RX0 yX0_countingCalls wsX0_countingCalls) := goodIn_app (goodIn_of _ (by decide +kernel)) ggX0_goByCalls_X0_countingCalls
set_option maxRecDepth 20000 in
theorem ggX0_goByCalls_X0_weigh : GoodIn wsX0_goByCalls wsX0_weigh := goodIn_r _ [30, 5, 6, 1, 31, 32, 33, 15, 34, 18, 35, 36, 37, 38, 19, 20, 21, 39, 40, 41, 42, 43, 44, 127, 128, 129, 130, 131, 132, 133, 134, 135, 136, 137, 138, 139, 140, 141, 142, 143, 144, 145, 146, 147, 148, 149, 150, 151, 152] rfl (by decide +kernel)
set_option maxRecDepth 20000 in
theorem gX0_goByCalls_X0_weigh : GoodIn wsX0_goByCalls (wsV RX0 188 RX0 yX0_weigh wsX0_weigh) := goodIn_app (goodIn_of _ (by decide +kernel)) ggX0_goByCalls_X0_weigh
set_option maxRecDepth 20000 in
theorem ggX0_goByCalls_X0_goOn : GoodIn wsX0_goByCalls wsX0_goOn := goodIn_r _ [48, 26, 49, 50, 51, 15, 52, 17, 19, 20, 21, 53, 54, 55, 10, 56, 57, 58, 59, 60, 61, 62, 63, 64, 65, 66, 67, 68, 69, 70, 71, 72, 73, 74, 75, 76, 77, 78, 79, 80, 81, 82, 83, 84, 85, 86, 87, 143, 144, 145, 146, 147, 148, 149, 150, 151, 152, 127, 128, 129, 130, 131, 132, 133, 134, 135, 136, 137, 138, 139, 140, 141, 142, 153] rfl (by decide +kernel)
set_option maxRecDepth 20000 in
theorem gX0_goByCalls_X0_goOn : GoodIn wsX0_goByCalls (wsV RX0 235 RX0 yX0_goOn wsX0_goOn) := goodIn_app (goodIn_of _ (by decide +kernel)) ggX0_goByCalls_X0_goOn
set_option maxRecDepth 20000 in
theorem ggX0_goByCalls_X0_mayLeave : GoodIn wsX0_goByCalls wsX0_mayLeave := goodIn_r _ [91, 92, 36, 37, 15, 38, 18, 63, 64, 65, 10, 66, 67, 68, 69, 70, 71, 72, 73, 74, 75, 76, 77, 17, 61, 78, 143, 144, 145, 146, 147, 148, 149, 150, 151, 152, 127, 128, 129, 130, 131, 132, 133, 134, 135, 136, 137, 138, 139, 140, 141, 142, 153] rfl (by decide +kernel)
set_option maxRecDepth 20000 in
theorem gX0_goByCalls_X0_mayLeave : GoodIn wsX0_goByCalls (wsV RX0 239 RX0 yX0_mayLeave wsX0_mayLeave) := goodIn_app (goodIn_of _ (by decide +kernel)) ggX0_goByCalls_X0_mayLeave
set_option maxRecDepth 20000 in
theorem ggX0_goByCalls_X0_leaveSide : GoodIn wsX0_goByCalls wsX0_leaveSide := goodIn_r _ [96, 97, 98, 99, 10, 100, 5, 6, 49, 50, 51, 15, 52, 17, 79, 80, 81, 82, 83, 84, 85, 86, 87, 78, 127, 128, 129, 130, 131, 132, 133, 134, 135, 136, 137, 138, 139, 140, 141, 142, 143, 144, 145, 146, 147, 148, 149, 150, 151, 152] rfl (by decide +kernel)
set_option maxRecDepth 20000 in
theorem gX0_goByCalls_X0_leaveSide : GoodIn wsX0_goByCalls (wsV RX0 243 RX0 yX0_leaveSide wsX0_leaveSide) := goodIn_app (goodIn_of _ (by decide +kernel)) ggX0_goByCalls_X0_leaveSide
set_option maxRecDepth 20000 in
theorem ggX0_goByCalls_X6_waits : GoodIn wsX0_goByCalls wsX6_waits := goodIn_r _ [38, 18, 143, 144, 145, 146, 147, 148, 149, 150, 151, 152] rfl (by decide +kernel)
set_option maxRecDepth 20000 in
theorem gX0_goByCalls_X6_waits : GoodIn wsX0_goByCalls (wsV RX0 175 RX6 yX6_waits wsX6_waits) := goodIn_app (goodIn_of _ (by decide +kernel)) ggX0_goByCalls_X6_waits
set_option maxRecDepth 20000 in
theorem ggX0_goByCalls_X0_cross : GoodIn wsX0_goByCalls wsX0_cross := goodIn_r _ [104, 1, 4, 39, 20, 40, 105, 106, 107, 10, 108, 19, 21, 97, 98, 99, 100, 5, 6, 109, 110, 111, 112, 113, 67, 3, 26, 114, 115, 116, 117, 118, 119, 120, 68, 69, 70, 71, 72, 73, 121, 122, 123, 15, 124, 18, 83, 125, 126, 61, 84, 85, 86, 87, 17, 78, 53, 54, 55, 56, 57, 58, 59, 60, 62, 127, 128, 129, 130, 131, 132, 133, 134, 135, 136, 137, 138, 139, 140, 141, 142, 154, 155, 156, 157, 153, 143, 144, 145, 146, 147, 148, 149, 150, 151, 152] rfl (by decide +kernel)
set_option maxRecDepth 20000 in
theorem gX0_goByCalls_X0_cross : GoodIn wsX0_goByCalls (wsV RX0 246 RX0 yX0_cross wsX0_cross) := goodIn_app (goodIn_of _ (by decide +kernel)) ggX0_goByCalls_X0_cross
set_option maxRecDepth 20000 in
theorem ggX0_goOn_X6_isGreen : GoodIn wsX0_goOn wsX6_isGreen := goodIn_r _ [6, 7, 47, 48, 49, 50, 51, 52, 53, 54, 55, 56] rfl (by decide +kernel)
set_option maxRecDepth 20000 in
theorem gX0_goOn_X6_isGreen : GoodIn wsX0_goOn (wsV RX0 154 RX6 yX6_isGreen wsX6_isGreen) := goodIn_app (goodIn_of _ (by decide +kernel)) ggX0_goOn_X6_isGreen
set_option maxRecDepth 20000 in
theorem ggX0_goOn_X8_bit : GoodIn wsX0_goOn wsX8_bit := goodIn_r _ [10] rfl (by decide +kernel)
set_option maxRecDepth 20000 in
theorem gX0_goOn_X8_bit_n104 : GoodIn wsX0_goOn (wsX8_bit) := ggX0_goOn_X8_bit
set_option maxRecDepth 20000 in
theorem ggX0_goOn_X0_beginWalk : GoodIn wsX0_goOn wsX0_beginWalk := goodIn_r _ [15, 1, 16, 17, 18, 5, 19, 20, 21, 8, 9, 10, 57, 58, 59, 60, 61, 62, 63, 64, 65, 66, 67, 68, 69, 70, 71, 72, 47, 48, 49, 50, 51, 52, 53, 54, 55, 56] rfl (by decide +kernel)
set_option maxRecDepth 20000 in
theorem gX0_goOn_X0_beginWalk : GoodIn wsX0_goOn (wsV RX0 227 RX0 yX0_beginWalk wsX0_beginWalk) := goodIn_app (goodIn_of _ (by decide +kernel)) ggX0_goOn_X0_beginWalk
set_option maxRecDepth 20000 in
theorem ggX0_goOn_X0_isDone : GoodIn wsX0_goOn wsX0_isDone := goodIn_r _ [25, 26, 27, 28, 29, 30, 31, 32, 33, 34, 35, 5, 36, 7, 20, 37, 47, 48, 49, 50, 51, 52, 53, 54, 55, 56, 57, 58, 59, 60, 61, 62, 63, 64, 65, 66, 67, 68, 69, 70, 71, 72, 73] rfl (by decide +kernel)
set_option maxRecDepth 20000 in
theorem gX0_goOn_X0_isDone : GoodIn wsX0_goOn (wsV RX0 252 RX0 yX0_isDone wsX0_isDone) := goodIn_app (goodIn_of _ (by decide +kernel)) ggX0_goOn_X0_isDone
set_option maxRecDepth 20000 in
theorem ggX0_goOn_X6_turnYellow : GoodIn wsX0_goOn wsX6_turnYellow := goodIn_r _ [41, 42, 43, 44, 45, 5, 46, 7, 37, 47, 48, 49, 50, 51, 52, 53, 54, 55, 56] rfl (by decide +kernel)
set_option maxRecDepth 20000 in
theorem gX0_goOn_X6_turnYellow : GoodIn wsX0_goOn (wsV RX0 255 RX6 yX6_turnYellow wsX6_turnYellow) := goodIn_app (goodIn_of _ (by decide +kernel)) ggX0_goOn_X6_turnYellow
set_option maxRecDepth 20000 in
theorem ggX0_mayLeave_X6_waits : GoodIn wsX0_mayLeave wsX6_waits := goodIn_r _ [5, 6, 26, 27, 28, 29, 30, 31, 32, 33, 34, 35] rfl (by decide +kernel)
set_option maxRecDepth 20000 in
theorem gX0_mayLeave_X6_waits : GoodIn wsX0_mayLeave (wsV RX0 175 RX6 yX6_waits wsX6_waits) := goodIn_app (goodIn_of _ (by decide +kernel)) ggX0_mayLeave_X6_waits
set_option maxRecDepth 20000 in
theorem ggX0_mayLeave_X0_isDone : GoodIn wsX0_mayLeave wsX0_isDone := goodIn_r _ [11, 12, 13, 14, 15, 16, 17, 18, 19, 20, 21, 4, 22, 23, 24, 25, 26, 27, 28, 29, 30, 31, 32, 33, 34, 35, 36, 37, 38, 39, 40, 41, 42, 43, 44, 45, 46, 47, 48, 49, 50, 51, 52] rfl (by decide +kernel)
set_option maxRecDepth 20000 in
theorem gX0_mayLeave_X0_isDone : GoodIn wsX0_mayLeave (wsV RX0 252 RX0 yX0_isDone wsX0_isDone) := goodIn_app (goodIn_of _ (by decide +kernel)) ggX0_mayLeave_X0_isDone
set_option maxRecDepth 20000 in
theorem ggX0_isDone_X7_at : GoodIn wsX0_isDone wsX7_at := goodIn_r _ [6, 7, 42] rfl (by decide +kernel)
set_option maxRecDepth 20000 in
theorem gX0_isDone_X7_at : GoodIn wsX0_isDone (wsV RX0 108 RX7 yX7_at wsX7_at) := goodIn_app (goodIn_of _ (by decide +kernel)) ggX0_isDone_X7_at
set_option maxRecDepth 20000 in
theorem ggX0_isDone_X6_mayEnd : GoodIn wsX0_isDone wsX6_mayEnd := goodIn_r _ [12, 13, 14, 15, 16, 17, 18, 19, 20, 21, 22, 23, 24, 25] rfl (by decide +kernel)
set_option maxRecDepth 20000 in
theorem gX0_isDone_X6_mayEnd : GoodIn wsX0_isDone (wsV RX0 258 RX6 yX6_mayEnd wsX6_mayEnd) := goodIn_app (goodIn_of _ (by decide +kernel)) ggX0_isDone_X6_mayEnd
set_option maxRecDepth 20000 in
theorem ggX0_leaveSide_X0_ring : GoodIn wsX0_leaveSide wsX0_ring := goodIn_r _ [5, 6, 7, 24, 25, 26, 27, 28, 29, 30, 31, 32, 33, 34, 35, 36, 37, 38, 39] rfl (by decide +kernel)
set_option maxRecDepth 20000 in
theorem gX0_leaveSide_X0_ring : GoodIn wsX0_leaveSide (wsV RX0 150 RX0 yX0_ring wsX0_ring) := goodIn_app (goodIn_of _ (by decide +kernel)) ggX0_leaveSide_X0_ring
set_option maxRecDepth 20000 in
theorem ggX0_leaveSide_X6_isGreen : GoodIn wsX0_leaveSide wsX6_isGreen := goodIn_r _ [12, 13, 40, 41, 42, 43, 44, 45, 46, 47, 48, 49] rfl (by decide +kernel)
set_option maxRecDepth 20000 in
theorem gX0_leaveSide_X6_isGreen : GoodIn wsX0_leaveSide (wsV RX0 154 RX6 yX6_isGreen wsX6_isGreen) := goodIn_app (goodIn_of _ (by decide +kernel)) ggX0_leaveSide_X6_isGreen
set_option maxRecDepth 20000 in
theorem ggX0_leaveSide_X6_turnYellow : GoodIn wsX0_leaveSide wsX6_turnYellow := goodIn_r _ [17, 18, 19, 20, 21, 11, 22, 13, 23, 40, 41, 42, 43, 44, 45, 46, 47, 48, 49] rfl (by decide +kernel)
set_option maxRecDepth 20000 in
theorem gX0_leaveSide_X6_turnYellow : GoodIn wsX0_leaveSide (wsV RX0 255 RX6 yX6_turnYellow wsX6_turnYellow) := goodIn_app (goodIn_of _ (by decide +kernel)) ggX0_leaveSide_X6_turnYellow
set_option maxRecDepth 20000 in
theorem ggX0_cross_X8_phasesOfSide : GoodIn wsX0_cross wsX8_phasesOfSide := goodIn_r _ [5] rfl (by decide +kernel)
set_option maxRecDepth 20000 in
theorem gX0_cross_X8_phasesOfSide_n210 : GoodIn wsX0_cross (wsX8_phasesOfSide) := ggX0_cross_X8_phasesOfSide
set_option maxRecDepth 20000 in
theorem ggX0_cross_X0_firstOfSide : GoodIn wsX0_cross wsX0_firstOfSide := goodIn_r _ [10, 1, 11, 4, 12, 65, 66, 67, 68, 69, 70, 71, 72, 73, 74, 75, 76, 77, 78, 79, 80] rfl (by decide +kernel)
set_option maxRecDepth 20000 in
theorem gX0_cross_X0_firstOfSide : GoodIn wsX0_cross (wsV RX0 261 RX0 yX0_firstOfSide wsX0_firstOfSide) := goodIn_app (goodIn_of _ (by decide +kernel)) ggX0_cross_X0_firstOfSide
set_option maxRecDepth 20000 in
theorem ggX0_cross_X0_ring : GoodIn wsX0_cross wsX0_ring := goodIn_r _ [16, 17, 18, 65, 66, 67, 68, 69, 70, 71, 72, 73, 74, 75, 76, 77, 78, 79, 80] rfl (by decide +kernel)
set_option maxRecDepth 20000 in
theorem gX0_cross_X0_ring : GoodIn wsX0_cross (wsV RX0 150 RX0 yX0_ring wsX0_ring) := goodIn_app (goodIn_of _ (by decide +kernel)) ggX0_cross_X0_ring
set_option maxRecDepth 20000 in
theorem ggX0_cross_X0_begin : GoodIn wsX0_cross wsX0_begin := goodIn_r _ [22, 23, 24, 25, 26, 27, 28, 29, 30, 31, 32, 33, 11, 4, 12, 34, 35, 36, 37, 38, 39, 40, 41, 42, 43, 44, 45, 46, 47, 48, 49, 50, 51, 52, 53, 54, 55, 56, 57, 58, 9, 59, 60, 61, 62, 63, 64, 65, 66, 67, 68, 69, 70, 71, 72, 73, 74, 75, 76, 77, 78, 79, 80, 81, 82, 83, 84, 85, 86, 87, 88, 89, 90, 91, 92, 93, 94, 95] rfl (by decide +kernel)
set_option maxRecDepth 20000 in
theorem gX0_cross_X0_begin : GoodIn wsX0_cross (wsV RX0 222 RX0 yX0_begin wsX0_begin) := goodIn_app (goodIn_of _ (by decide +kernel)) ggX0_cross_X0_begin
set_option maxRecDepth 20000 in
theorem ggX0_firstOfSide_X8_bit : GoodIn wsX0_firstOfSide wsX8_bit := goodIn_r _ [4] rfl (by decide +kernel)
set_option maxRecDepth 20000 in
theorem gX0_firstOfSide_X8_bit_n104 : GoodIn wsX0_firstOfSide (wsX8_bit) := ggX0_firstOfSide_X8_bit
set_option maxRecDepth 20000 in
theorem ggX0_goByInput_X8_sideOf : GoodIn wsX0_goByInput wsX8_sideOf := goodIn_r _ [7] rfl (by decide +kernel)
set_option maxRecDepth 20000 in
theorem gX0_goByInput_X8_sideOf_n264 : GoodIn wsX0_goByInput (wsX8_sideOf) := ggX0_goByInput_X8_sideOf
set_option maxRecDepth 20000 in
theorem ggX0_goByInput_X0_ring : GoodIn wsX0_goByInput wsX0_ring := goodIn_r _ [12, 3, 4, 100, 101, 102, 103, 104, 105, 106, 107, 108, 109, 110, 111, 112, 113, 114, 115] rfl (by decide +kernel)
set_option maxRecDepth 20000 in
theorem gX0_goByInput_X0_ring : GoodIn wsX0_goByInput (wsV RX0 150 RX0 yX0_ring wsX0_ring) := goodIn_app (goodIn_of _ (by decide +kernel)) ggX0_goByInput_X0_ring
set_option maxRecDepth 20000 in
theorem ggX0_goByInput_X0_goalOf : GoodIn wsX0_goByInput wsX0_goalOf := goodIn_r _ [16, 17, 18, 6, 19, 20, 21, 100, 101, 102, 103, 104, 105, 106, 107, 108, 109, 110, 111, 112, 113, 114, 115] rfl (by decide +kernel)
set_option maxRecDepth 20000 in
theorem gX0_goByInput_X0_goalOf : GoodIn wsX0_goByInput (wsV RX0 267 RX0 yX0_goalOf wsX0_goalOf) := goodIn_app (goodIn_of _ (by decide +kernel)) ggX0_goByInput_X0_goalOf
set_option maxRecDepth 20000 in
theorem ggX0_goByInput_X0_giveWay : GoodIn wsX0_goByInput wsX0_giveWay := goodIn_r _ [25, 26, 27, 28, 29, 30, 31, 32, 33, 34, 35, 36, 37, 38, 39, 40, 41, 42, 43, 44, 45, 46, 47, 48, 49, 50, 51, 52, 53, 54, 116, 117, 118, 119, 120, 121, 122, 123, 124, 125, 100, 101, 102, 103, 104, 105, 106, 107, 108, 109, 110, 111, 112, 113, 114, 115, 126] rfl (by decide +kernel)
set_option maxRecDepth 20000 in
theorem gX0_goByInput_X0_giveWay : GoodIn wsX0_goByInput (wsV RX0 270 RX0 yX0_giveWay wsX0_giveWay) := goodIn_app (goodIn_of _ (by decide +kernel)) ggX0_goByInput_X0_giveWay
set_option maxRecDepth 20000 in
theorem ggX0_goByInput_X0_mayLeaveByInput : GoodIn wsX0_goByInput wsX0_mayLeaveByInput := goodIn_r _ [58, 26, 59, 60, 61, 30, 62, 63, 34, 35, 36, 37, 38, 39, 40, 41, 42, 43, 44, 32, 45, 100, 101, 102, 103, 104, 105, 106, 107, 108, 109, 110, 111, 112, 113, 114, 115, 116, 117, 118, 119, 120, 121, 122, 123, 124, 125, 126] rfl (by decide +kernel)
set_option maxRecDepth 20000 in
theorem gX0_goByInput_X0_mayLeaveByInput : GoodIn wsX0_goByInput (wsV RX0 274 RX0 yX0_mayLeaveByInput wsX0_mayLeaveByInput) := goodIn_app (goodIn_of _ (by decide +kernel)) ggX0_goByInput_X0_mayLeaveByInput
set_option maxRecDepth 20000 in
theorem ggX0_goByInput_X0_leaveSide : GoodIn wsX0_goByInput wsX0_leaveSide := goodIn_r _ [67, 8, 9, 10, 11, 12, 3, 4, 68, 69, 70, 30, 71, 44, 46, 47, 48, 49, 50, 51, 52, 53, 54, 45, 100, 101, 102, 103, 104, 105, 106, 107, 108, 109, 110, 111, 112, 113, 114, 115, 116, 117, 118, 119, 120, 121, 122, 123, 124, 125] rfl (by decide +kernel)
set_option maxRecDepth 20000 in
theorem gX0_goByInput_X0_leaveSide : GoodIn wsX0_goByInput (wsV RX0 243 RX0 yX0_leaveSide wsX0_leaveSide) := goodIn_app (goodIn_of _ (by decide +kernel)) ggX0_goByInput_X0_leaveSide
set_option maxRecDepth 20000 in
theorem ggX0_goByInput_X6_waits : GoodIn wsX0_goByInput wsX6_waits := goodIn_r _ [62, 63, 116, 117, 118, 119, 120, 121, 122, 123, 124, 125] rfl (by decide +kernel)
set_option maxRecDepth 20000 in
theorem gX0_goByInput_X6_waits : GoodIn wsX0_goByInput (wsV RX0 175 RX6 yX6_waits wsX6_waits) := goodIn_app (goodIn_of _ (by decide +kernel)) ggX0_goByInput_X6_waits
set_option maxRecDepth 20000 in
theorem ggX0_goByInput_X0_begin : GoodIn wsX0_goByInput wsX0_begin := goodIn_r _ [75, 76, 26, 77, 78, 79, 80, 81, 82, 83, 84, 85, 20, 6, 21, 34, 35, 36, 37, 38, 39, 86, 87, 88, 30, 89, 63, 50, 90, 91, 32, 51, 52, 53, 54, 44, 45, 92, 93, 94, 11, 95, 96, 97, 98, 99, 33, 100, 101, 102, 103, 104, 105, 106, 107, 108, 109, 110, 111, 112, 113, 114, 115, 127, 128, 129, 130, 126, 116, 117, 118, 119, 120, 121, 122, 123, 124, 125] rfl (by decide +kernel)
set_option maxRecDepth 20000 in
theorem gX0_goByInput_X0_begin : GoodIn wsX0_goByInput (wsV RX0 222 RX0 yX0_begin wsX0_begin) := goodIn_app (goodIn_of _ (by decide +kernel)) ggX0_goByInput_X0_begin
set_option maxRecDepth 20000 in
theorem ggX0_giveWay_X6_beginClear : GoodIn wsX0_giveWay wsX6_beginClear := goodIn_r _ [6, 7, 8, 30, 31, 32, 33, 34, 35, 36, 37, 38, 39] rfl (by decide +kernel)
set_option maxRecDepth 20000 in
theorem gX0_giveWay_X6_beginClear : GoodIn wsX0_giveWay (wsV RX0 278 RX6 yX6_beginClear wsX6_beginClear) := goodIn_app (goodIn_of _ (by decide +kernel)) ggX0_giveWay_X6_beginClear
set_option maxRecDepth 20000 in
theorem ggX0_giveWay_X7_at : GoodIn wsX0_giveWay wsX7_at := goodIn_r _ [13, 14, 56] rfl (by decide +kernel)
set_option maxRecDepth 20000 in
theorem gX0_giveWay_X7_at : GoodIn wsX0_giveWay (wsV RX0 108 RX7 yX7_at wsX7_at) := goodIn_app (goodIn_of _ (by decide +kernel)) ggX0_giveWay_X7_at
set_option maxRecDepth 20000 in
theorem ggX0_giveWay_X6_mayEnd : GoodIn wsX0_giveWay wsX6_mayEnd := goodIn_r _ [18, 19, 7, 20, 30, 31, 32, 33, 34, 35, 36, 37, 38, 39] rfl (by decide +kernel)
set_option maxRecDepth 20000 in
theorem gX0_giveWay_X6_mayEnd : GoodIn wsX0_giveWay (wsV RX0 258 RX6 yX6_mayEnd wsX6_mayEnd) := goodIn_app (goodIn_of _ (by decide +kernel)) ggX0_giveWay_X6_mayEnd
set_option maxRecDepth 20000 in
theorem ggX0_giveWay_X6_turnYellow : GoodIn wsX0_giveWay wsX6_turnYellow := goodIn_r _ [24, 25, 26, 27, 28, 5, 29, 19, 20, 30, 31, 32, 33, 34, 35, 36, 37, 38, 39] rfl (by decide +kernel)
set_option maxRecDepth 20000 in
theorem gX0_giveWay_X6_turnYellow : GoodIn wsX0_giveWay (wsV RX0 255 RX6 yX6_turnYellow wsX6_turnYellow) := goodIn_app (goodIn_of _ (by decide +kernel)) ggX0_giveWay_X6_turnYellow
set_option maxRecDepth 20000 in
theorem ggX0_mayLeaveByInput_X6_waits : GoodIn wsX0_mayLeaveByInput wsX6_waits := goodIn_r _ [6, 7, 37, 38, 39, 40, 41, 42, 43, 44, 45, 46] rfl (by decide +kernel)
set_option maxRecDepth 20000 in
theorem gX0_mayLeaveByInput_X6_waits : GoodIn wsX0_mayLeaveByInput (wsV RX0 175 RX6 yX6_waits wsX6_waits) := goodIn_app (goodIn_of _ (by decide +kernel)) ggX0_mayLeaveByInput_X6_waits
set_option maxRecDepth 20000 in
theorem ggX0_mayLeaveByInput_X7_at : GoodIn wsX0_mayLeaveByInput wsX7_at := goodIn_r _ [12, 13, 47] rfl (by decide +kernel)
set_option maxRecDepth 20000 in
theorem gX0_mayLeaveByInput_X7_at : GoodIn wsX0_mayLeaveByInput (wsV RX0 108 RX7 yX7_at wsX7_at) := goodIn_app (goodIn_of _ (by decide +kernel)) ggX0_mayLeaveByInput_X7_at
set_option maxRecDepth 20000 in
theorem ggX0_mayLeaveByInput_X6_mayEnd : GoodIn wsX0_mayLeaveByInput wsX6_mayEnd := goodIn_r _ [17, 18, 19, 20, 37, 38, 39, 40, 41, 42, 43, 44, 45, 46] rfl (by decide +kernel)
set_option maxRecDepth 20000 in
theorem gX0_mayLeaveByInput_X6_mayEnd : GoodIn wsX0_mayLeaveByInput (wsV RX0 258 RX6 yX6_mayEnd wsX6_mayEnd) := goodIn_app (goodIn_of _ (by decide +kernel)) ggX0_mayLeaveByInput_X6_mayEnd
set_option maxRecDepth 20000 in
theorem ggX0_goalOf_X8_ringOf : GoodIn wsX0_goalOf wsX8_ringOf := goodIn_r _ [4] rfl (by decide +kernel)
set_option maxRecDepth 20000 in
theorem gX0_goalOf_X8_ringOf_n147 : GoodIn wsX0_goalOf (wsX8_ringOf) := ggX0_goalOf_X8_ringOf
set_option maxRecDepth 20000 in
theorem ggX0_goalOf_X8_bit : GoodIn wsX0_goalOf wsX8_bit := goodIn_r _ [6] rfl (by decide +kernel)
set_option maxRecDepth 20000 in
theorem gX0_goalOf_X8_bit_n104 : GoodIn wsX0_goalOf (wsX8_bit) := ggX0_goalOf_X8_bit
set_option maxRecDepth 20000 in
theorem ggX0_watch_X0_lampsOf : GoodIn wsX0_watch wsX0_lampsOf := goodIn_r _ [12, 2, 3, 13, 14, 15, 16, 17, 18, 19, 20, 21, 22, 23, 11, 24, 4, 5, 71, 72, 73, 74, 75, 76, 77, 78, 79, 80, 81, 82, 83, 84, 85, 86, 87, 88, 89, 90, 91, 92, 93, 94, 95, 96] rfl (by decide +kernel)
set_option maxRecDepth 20000 in
theorem gX0_watch_X0_lampsOf : GoodIn wsX0_watch (wsV RX0 281 RX0 yX0_lampsOf wsX0_lampsOf) := goodIn_app (goodIn_of _ (by decide +kernel)) ggX0_watch_X0_lampsOf
set_option maxRecDepth 20000 in
theorem ggX0_watch_X4_see : GoodIn wsX0_watch wsX4_see := goodIn_r _ [29, 30, 14, 15, 16, 97, 98, 99, 100] rfl (by decide +kernel)
set_option maxRecDepth 20000 in
theorem gX0_watch_X4_see : GoodIn wsX0_watch (wsV RX0 284 RX4 yX4_see wsX4_see) := goodIn_app (goodIn_of _ (by decide +kernel)) ggX0_watch_X4_see
set_option maxRecDepth 20000 in
theorem ggX0_watch_X4_look : GoodIn wsX0_watch wsX4_look := goodIn_r _ [34, 35, 36, 37, 28, 38, 30, 17, 15, 18, 39, 40, 41, 42, 43, 44, 19, 20, 45, 46, 47, 48, 49, 50, 51, 52, 53, 54, 55, 56, 57, 58, 59, 60, 61, 97, 98, 99, 100] rfl (by decide +kernel)
set_option maxRecDepth 20000 in
theorem gX0_watch_X4_look : GoodIn wsX0_watch (wsV RX0 287 RX4 yX4_look wsX4_look) := goodIn_app (goodIn_of _ (by decide +kernel)) ggX0_watch_X4_look
set_option maxRecDepth 20000 in
theorem ggX0_watch_X6_rest : GoodIn wsX0_watch wsX6_rest := goodIn_r _ [66, 67, 68, 69, 70, 87, 88, 89, 90, 91, 92, 93, 94, 95, 96] rfl (by decide +kernel)
set_option maxRecDepth 20000 in
theorem gX0_watch_X6_rest : GoodIn wsX0_watch (wsV RX0 98 RX6 yX6_rest wsX6_rest) := goodIn_app (goodIn_of _ (by decide +kernel)) ggX0_watch_X6_rest
set_option maxRecDepth 20000 in
theorem ggX0_lampsOf_X8_isPhase : GoodIn wsX0_lampsOf wsX8_isPhase := goodIn_r _ [6] rfl (by decide +kernel)
set_option maxRecDepth 20000 in
theorem gX0_lampsOf_X8_isPhase_n290 : GoodIn wsX0_lampsOf (wsX8_isPhase) := ggX0_lampsOf_X8_isPhase
set_option maxRecDepth 20000 in
theorem ggX0_lampsOf_X8_bit : GoodIn wsX0_lampsOf wsX8_bit := goodIn_r _ [8] rfl (by decide +kernel)
set_option maxRecDepth 20000 in
theorem gX0_lampsOf_X8_bit_n104 : GoodIn wsX0_lampsOf (wsX8_bit) := ggX0_lampsOf_X8_bit
set_option maxRecDepth 20000 in
theorem ggX0_lampsOf_X8_ringOf : GoodIn wsX0_lampsOf wsX8_ringOf := goodIn_r _ [10] rfl (by decide +kernel)
set_option maxRecDepth 20000 in
theorem gX0_lampsOf_X8_ringOf_n147 : GoodIn wsX0_lampsOf (wsX8_ringOf) := ggX0_lampsOf_X8_ringOf
set_option maxRecDepth 20000 in
theorem ggX0_lampsOf_X0_ring : GoodIn wsX0_lampsOf wsX0_ring := goodIn_r _ [15, 16, 17, 18, 19, 20, 21, 22, 23, 24, 25, 26, 27, 28, 29, 30, 31, 32, 33] rfl (by decide +kernel)
set_option maxRecDepth 20000 in
theorem gX0_lampsOf_X0_ring : GoodIn wsX0_lampsOf (wsV RX0 150 RX0 yX0_ring wsX0_ring) := goodIn_app (goodIn_of _ (by decide +kernel)) ggX0_lampsOf_X0_ring
set_option maxRecDepth 20000 in
theorem ggX0_signsOf_X8_ringOf : GoodIn wsX0_signsOf wsX8_ringOf := goodIn_r _ [6] rfl (by decide +kernel)
set_option maxRecDepth 20000 in
theorem gX0_signsOf_X8_ringOf_n147 : GoodIn wsX0_signsOf (wsX8_ringOf) := ggX0_signsOf_X8_ringOf
set_option maxRecDepth 20000 in
theorem ggX0_signsOf_X0_ring : GoodIn wsX0_signsOf wsX0_ring := goodIn_r _ [11, 12, 13, 26, 27, 28, 29, 30, 31, 32, 33, 34, 35, 36, 37, 38, 39, 40, 41] rfl (by decide +kernel)
set_option maxRecDepth 20000 in
theorem gX0_signsOf_X0_ring : GoodIn wsX0_signsOf (wsV RX0 150 RX0 yX0_ring wsX0_ring) := goodIn_app (goodIn_of _ (by decide +kernel)) ggX0_signsOf_X0_ring
set_option maxRecDepth 20000 in
theorem ggX0_signsOf_X8_bit : GoodIn wsX0_signsOf wsX8_bit := goodIn_r _ [15] rfl (by decide +kernel)
set_option maxRecDepth 20000 in
theorem gX0_signsOf_X8_bit_n104 : GoodIn wsX0_signsOf (wsX8_bit) := ggX0_signsOf_X8_bit
set_option maxRecDepth 20000 in
theorem ggX0_way_X0_isOff : GoodIn wsX0_way wsX0_isOff := goodIn_r _ [9, 3, 20, 21, 22, 23, 24, 25, 26, 27, 28, 29, 30, 31, 32, 33, 34, 35] rfl (by decide +kernel)
set_option maxRecDepth 20000 in
theorem gX0_way_X0_isOff : GoodIn wsX0_way (wsV RX0 118 RX0 yX0_isOff wsX0_isOff) := goodIn_app (goodIn_of _ (by decide +kernel)) ggX0_way_X0_isOff
set_option maxRecDepth 20000 in
theorem ggX0_way_X2_targetInForce : GoodIn wsX0_way wsX2_targetInForce := goodIn_r _ [14, 15, 16, 17, 18, 19, 40, 41] rfl (by decide +kernel)
set_option maxRecDepth 20000 in
theorem gX0_way_X2_targetInForce : GoodIn wsX0_way (wsV RX0 129 RX2 yX2_targetInForce wsX2_targetInForce) := goodIn_app (goodIn_of _ (by decide +kernel)) ggX0_way_X2_targetInForce
set_option maxRecDepth 20000 in
theorem ggX0_countingCalls_X0_greenPhases : GoodIn wsX0_countingCalls wsX0_greenPhases := goodIn_r _ [7, 8, 9, 10, 11, 12, 13, 14, 15, 16, 17, 18, 19, 20, 21, 22, 23, 24, 25, 26, 27, 28, 29, 30, 31, 32, 33, 34, 35, 36, 37, 38, 39, 40, 41, 42, 43, 44, 45] rfl (by decide +kernel)
set_option maxRecDepth 20000 in
theorem gX0_countingCalls_X0_greenPhases : GoodIn wsX0_countingCalls (wsV RX0 232 RX0 yX0_greenPhases wsX0_greenPhases) := goodIn_app (goodIn_of _ (by decide +kernel)) ggX0_countingCalls_X0_greenPhases
set_option maxRecDepth 20000 in
theorem ggX0_greenPhases_X6_greenPhase : GoodIn wsX0_greenPhases wsX6_greenPhase := goodIn_r _ [7, 8, 9, 10, 11, 12, 29, 30, 31, 32, 33, 34, 35, 36, 37, 38] rfl (by decide +kernel)
set_option maxRecDepth 20000 in
theorem gX0_greenPhases_X6_greenPhase : GoodIn wsX0_greenPhases (wsV RX0 299 RX6 yX6_greenPhase wsX6_greenPhase) := goodIn_app (goodIn_of _ (by decide +kernel)) ggX0_greenPhases_X6_greenPhase
end
