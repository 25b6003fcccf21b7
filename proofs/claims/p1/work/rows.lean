section
-- ===== PART A: goes FIRST, ahead of the names: the tables' words, and 'selects' of the private methods out of them =====
/-- a private method of a class that the tables say can be made, by its rows of tables_1 -/
def lw_okq (q : MethodName × Nat) : Prop := (q.1.cls ≠ "java/lang/invoke/MethodHandle" ∧ q.1.cls ≠ "java/lang/invoke/VarHandle") ∧ Cond.instantiable q.1.cls q.2 ∈ tables_1 ∧ Cond.privateMethod q.1 ∈ tables_1 ∧ Cond.instanceMethod q.1 ∈ tables_1
theorem lw_p0 : lw_okq (⟨"DryIceLane$Hold", "changeTemperature", "(IILDryIceLane$Settings;)V"⟩, 7) := ⟨⟨by decide +kernel, by decide +kernel⟩, List.mem_of_getElem? (i := 91) (by decide +kernel), List.mem_of_getElem? (i := 414) (by decide +kernel), List.mem_of_getElem? (i := 415) (by decide +kernel)⟩
theorem lw_p1 : lw_okq (⟨"DryIceLane$Hold", "loseGas", "(LDryIceLane$Settings;)V"⟩, 7) := ⟨⟨by decide +kernel, by decide +kernel⟩, List.mem_of_getElem? (i := 91) (by decide +kernel), List.mem_of_getElem? (i := 422) (by decide +kernel), List.mem_of_getElem? (i := 423) (by decide +kernel)⟩
theorem lw_p2 : lw_okq (⟨"DryIceLane$Hold", "moveVent", "(JLDryIceLane$Settings;)V"⟩, 7) := ⟨⟨by decide +kernel, by decide +kernel⟩, List.mem_of_getElem? (i := 91) (by decide +kernel), List.mem_of_getElem? (i := 432) (by decide +kernel), List.mem_of_getElem? (i := 433) (by decide +kernel)⟩
theorem lw_p3 : lw_okq (⟨"DryIceLane$Hold", "keepToMode", "()V"⟩, 7) := ⟨⟨by decide +kernel, by decide +kernel⟩, List.mem_of_getElem? (i := 91) (by decide +kernel), List.mem_of_getElem? (i := 436) (by decide +kernel), List.mem_of_getElem? (i := 437) (by decide +kernel)⟩
theorem lw_p4 : lw_okq (⟨"DryIceLane$Hold", "shutVent", "()V"⟩, 7) := ⟨⟨by decide +kernel, by decide +kernel⟩, List.mem_of_getElem? (i := 91) (by decide +kernel), List.mem_of_getElem? (i := 444) (by decide +kernel), List.mem_of_getElem? (i := 445) (by decide +kernel)⟩
theorem lw_p5 : lw_okq (⟨"DryIceLane", "iceLeftWithFront", "(III)I"⟩, 6) := ⟨⟨by decide +kernel, by decide +kernel⟩, List.mem_of_getElem? (i := 15) (by decide +kernel), List.mem_of_getElem? (i := 593) (by decide +kernel), List.mem_of_getElem? (i := 594) (by decide +kernel)⟩
theorem lw_p6 : lw_okq (⟨"DryIceLane$RouteReader", "takes", "(I)Z"⟩, 7) := ⟨⟨by decide +kernel, by decide +kernel⟩, List.mem_of_getElem? (i := 225) (by decide +kernel), List.mem_of_getElem? (i := 622) (by decide +kernel), List.mem_of_getElem? (i := 623) (by decide +kernel)⟩
theorem lw_p7 : lw_okq (⟨"DryIceLane$RouteReader", "startsNumber", "(IIII)Z"⟩, 7) := ⟨⟨by decide +kernel, by decide +kernel⟩, List.mem_of_getElem? (i := 225) (by decide +kernel), List.mem_of_getElem? (i := 626) (by decide +kernel), List.mem_of_getElem? (i := 627) (by decide +kernel)⟩
theorem lw_p8 : lw_okq (⟨"DryIceLane$RouteReader", "endsDuration", "()Z"⟩, 7) := ⟨⟨by decide +kernel, by decide +kernel⟩, List.mem_of_getElem? (i := 225) (by decide +kernel), List.mem_of_getElem? (i := 634) (by decide +kernel), List.mem_of_getElem? (i := 635) (by decide +kernel)⟩
theorem lw_p9 : lw_okq (⟨"DryIceLane$RouteReader", "continuesNumber", "(II)Z"⟩, 7) := ⟨⟨by decide +kernel, by decide +kernel⟩, List.mem_of_getElem? (i := 225) (by decide +kernel), List.mem_of_getElem? (i := 638) (by decide +kernel), List.mem_of_getElem? (i := 639) (by decide +kernel)⟩
theorem lw_p10 : lw_okq (⟨"DryIceLane$RouteReader", "startsDegrees", "(I)Z"⟩, 7) := ⟨⟨by decide +kernel, by decide +kernel⟩, List.mem_of_getElem? (i := 225) (by decide +kernel), List.mem_of_getElem? (i := 642) (by decide +kernel), List.mem_of_getElem? (i := 643) (by decide +kernel)⟩
theorem lw_p11 : lw_okq (⟨"DryIceLane$RouteReader", "mostDegrees", "()I"⟩, 7) := ⟨⟨by decide +kernel, by decide +kernel⟩, List.mem_of_getElem? (i := 225) (by decide +kernel), List.mem_of_getElem? (i := 646) (by decide +kernel), List.mem_of_getElem? (i := 647) (by decide +kernel)⟩
theorem lw_p12 : lw_okq (⟨"DryIceLane$RouteReader", "endLeg", "()Z"⟩, 7) := ⟨⟨by decide +kernel, by decide +kernel⟩, List.mem_of_getElem? (i := 225) (by decide +kernel), List.mem_of_getElem? (i := 650) (by decide +kernel), List.mem_of_getElem? (i := 651) (by decide +kernel)⟩
theorem lw_p13 : lw_okq (⟨"DryIceLane", "slotAt", "(I)LDryIceLane$Slot;"⟩, 6) := ⟨⟨by decide +kernel, by decide +kernel⟩, List.mem_of_getElem? (i := 15) (by decide +kernel), List.mem_of_getElem? (i := 670) (by decide +kernel), List.mem_of_getElem? (i := 671) (by decide +kernel)⟩
theorem lw_p14 : lw_okq (⟨"DryIceLaneModel", "boxes", "()I"⟩, 10) := ⟨⟨by decide +kernel, by decide +kernel⟩, List.mem_of_getElem? (i := 678) (by decide +kernel), List.mem_of_getElem? (i := 735) (by decide +kernel), List.mem_of_getElem? (i := 736) (by decide +kernel)⟩
theorem lw_p15 : lw_okq (⟨"DryIceLaneModel", "isDoorOpen", "()Z"⟩, 10) := ⟨⟨by decide +kernel, by decide +kernel⟩, List.mem_of_getElem? (i := 678) (by decide +kernel), List.mem_of_getElem? (i := 739) (by decide +kernel), List.mem_of_getElem? (i := 740) (by decide +kernel)⟩
def lw_privs_1 : List (MethodName × Nat) := [(⟨"DryIceLane$Hold", "changeTemperature", "(IILDryIceLane$Settings;)V"⟩, 7), (⟨"DryIceLane$Hold", "loseGas", "(LDryIceLane$Settings;)V"⟩, 7), (⟨"DryIceLane$Hold", "moveVent", "(JLDryIceLane$Settings;)V"⟩, 7), (⟨"DryIceLane$Hold", "keepToMode", "()V"⟩, 7), (⟨"DryIceLane$Hold", "shutVent", "()V"⟩, 7), (⟨"DryIceLane", "iceLeftWithFront", "(III)I"⟩, 6), (⟨"DryIceLane$RouteReader", "takes", "(I)Z"⟩, 7), (⟨"DryIceLane$RouteReader", "startsNumber", "(IIII)Z"⟩, 7), (⟨"DryIceLane$RouteReader", "endsDuration", "()Z"⟩, 7), (⟨"DryIceLane$RouteReader", "continuesNumber", "(II)Z"⟩, 7), (⟨"DryIceLane$RouteReader", "startsDegrees", "(I)Z"⟩, 7), (⟨"DryIceLane$RouteReader", "mostDegrees", "()I"⟩, 7), (⟨"DryIceLane$RouteReader", "endLeg", "()Z"⟩, 7), (⟨"DryIceLane", "slotAt", "(I)LDryIceLane$Slot;"⟩, 6), (⟨"DryIceLaneModel", "boxes", "()I"⟩, 10), (⟨"DryIceLaneModel", "isDoorOpen", "()Z"⟩, 10)]
theorem lw_r1 : ∀ q ∈ lw_privs_1, lw_okq q := List.forall_mem_cons.mpr ⟨lw_p0, List.forall_mem_cons.mpr ⟨lw_p1, List.forall_mem_cons.mpr ⟨lw_p2, List.forall_mem_cons.mpr ⟨lw_p3, List.forall_mem_cons.mpr ⟨lw_p4, List.forall_mem_cons.mpr ⟨lw_p5, List.forall_mem_cons.mpr ⟨lw_p6, List.forall_mem_cons.mpr ⟨lw_p7, List.forall_mem_cons.mpr ⟨lw_p8, List.forall_mem_cons.mpr ⟨lw_p9, List.forall_mem_cons.mpr ⟨lw_p10, List.forall_mem_cons.mpr ⟨lw_p11, List.forall_mem_cons.mpr ⟨lw_p12, List.forall_mem_cons.mpr ⟨lw_p13, List.forall_mem_cons.mpr ⟨lw_p14, List.forall_mem_cons.mpr ⟨lw_p15, fun _ h => absurd h List.not_mem_nil⟩⟩⟩⟩⟩⟩⟩⟩⟩⟩⟩⟩⟩⟩⟩⟩
theorem lw_p16 : lw_okq (⟨"DryIceLaneModel", "lay", "(IIJ)V"⟩, 10) := ⟨⟨by decide +kernel, by decide +kernel⟩, List.mem_of_getElem? (i := 678) (by decide +kernel), List.mem_of_getElem? (i := 743) (by decide +kernel), List.mem_of_getElem? (i := 744) (by decide +kernel)⟩
theorem lw_p17 : lw_okq (⟨"DryIceLaneModel", "isBox", "(I)Z"⟩, 10) := ⟨⟨by decide +kernel, by decide +kernel⟩, List.mem_of_getElem? (i := 678) (by decide +kernel), List.mem_of_getElem? (i := 751) (by decide +kernel), List.mem_of_getElem? (i := 752) (by decide +kernel)⟩
theorem lw_p18 : lw_okq (⟨"DryIceLaneModel", "of", "(II)J"⟩, 10) := ⟨⟨by decide +kernel, by decide +kernel⟩, List.mem_of_getElem? (i := 678) (by decide +kernel), List.mem_of_getElem? (i := 755) (by decide +kernel), List.mem_of_getElem? (i := 756) (by decide +kernel)⟩
theorem lw_p19 : lw_okq (⟨"DryIceLaneModel", "move", "(II)V"⟩, 10) := ⟨⟨by decide +kernel, by decide +kernel⟩, List.mem_of_getElem? (i := 678) (by decide +kernel), List.mem_of_getElem? (i := 763) (by decide +kernel), List.mem_of_getElem? (i := 764) (by decide +kernel)⟩
theorem lw_p20 : lw_okq (⟨"DryIceLaneModel", "swap", "(II)V"⟩, 10) := ⟨⟨by decide +kernel, by decide +kernel⟩, List.mem_of_getElem? (i := 678) (by decide +kernel), List.mem_of_getElem? (i := 767) (by decide +kernel), List.mem_of_getElem? (i := 768) (by decide +kernel)⟩
theorem lw_p21 : lw_okq (⟨"DryIceLaneModel", "legs", "()I"⟩, 10) := ⟨⟨by decide +kernel, by decide +kernel⟩, List.mem_of_getElem? (i := 678) (by decide +kernel), List.mem_of_getElem? (i := 789) (by decide +kernel), List.mem_of_getElem? (i := 790) (by decide +kernel)⟩
theorem lw_p22 : lw_okq (⟨"DryIceLaneModel", "isAway", "()Z"⟩, 10) := ⟨⟨by decide +kernel, by decide +kernel⟩, List.mem_of_getElem? (i := 678) (by decide +kernel), List.mem_of_getElem? (i := 801) (by decide +kernel), List.mem_of_getElem? (i := 802) (by decide +kernel)⟩
theorem lw_p23 : lw_okq (⟨"DryIceLaneModel", "hasNext", "()Z"⟩, 10) := ⟨⟨by decide +kernel, by decide +kernel⟩, List.mem_of_getElem? (i := 678) (by decide +kernel), List.mem_of_getElem? (i := 805) (by decide +kernel), List.mem_of_getElem? (i := 806) (by decide +kernel)⟩
theorem lw_p24 : lw_okq (⟨"DryIceLaneModel", "begin", "()V"⟩, 10) := ⟨⟨by decide +kernel, by decide +kernel⟩, List.mem_of_getElem? (i := 678) (by decide +kernel), List.mem_of_getElem? (i := 809) (by decide +kernel), List.mem_of_getElem? (i := 810) (by decide +kernel)⟩
theorem lw_p25 : lw_okq (⟨"DryIceLaneModel", "makeMinute", "()V"⟩, 10) := ⟨⟨by decide +kernel, by decide +kernel⟩, List.mem_of_getElem? (i := 678) (by decide +kernel), List.mem_of_getElem? (i := 817) (by decide +kernel), List.mem_of_getElem? (i := 818) (by decide +kernel)⟩
theorem lw_p26 : lw_okq (⟨"DryIceLaneModel", "goOff", "()J"⟩, 10) := ⟨⟨by decide +kernel, by decide +kernel⟩, List.mem_of_getElem? (i := 678) (by decide +kernel), List.mem_of_getElem? (i := 821) (by decide +kernel), List.mem_of_getElem? (i := 822) (by decide +kernel)⟩
theorem lw_p27 : lw_okq (⟨"DryIceLaneModel", "goesOff", "(I)J"⟩, 10) := ⟨⟨by decide +kernel, by decide +kernel⟩, List.mem_of_getElem? (i := 678) (by decide +kernel), List.mem_of_getElem? (i := 825) (by decide +kernel), List.mem_of_getElem? (i := 826) (by decide +kernel)⟩
theorem lw_p28 : lw_okq (⟨"DryIceLaneModel", "warm", "(J)V"⟩, 10) := ⟨⟨by decide +kernel, by decide +kernel⟩, List.mem_of_getElem? (i := 678) (by decide +kernel), List.mem_of_getElem? (i := 830) (by decide +kernel), List.mem_of_getElem? (i := 831) (by decide +kernel)⟩
theorem lw_p29 : lw_okq (⟨"DryIceLaneModel", "outside", "()J"⟩, 10) := ⟨⟨by decide +kernel, by decide +kernel⟩, List.mem_of_getElem? (i := 678) (by decide +kernel), List.mem_of_getElem? (i := 834) (by decide +kernel), List.mem_of_getElem? (i := 835) (by decide +kernel)⟩
theorem lw_p30 : lw_okq (⟨"DryIceLaneModel", "blow", "()V"⟩, 10) := ⟨⟨by decide +kernel, by decide +kernel⟩, List.mem_of_getElem? (i := 678) (by decide +kernel), List.mem_of_getElem? (i := 840) (by decide +kernel), List.mem_of_getElem? (i := 841) (by decide +kernel)⟩
theorem lw_p31 : lw_okq (⟨"DryIceLaneModel", "turnVent", "()V"⟩, 10) := ⟨⟨by decide +kernel, by decide +kernel⟩, List.mem_of_getElem? (i := 678) (by decide +kernel), List.mem_of_getElem? (i := 844) (by decide +kernel), List.mem_of_getElem? (i := 845) (by decide +kernel)⟩
def lw_privs_2 : List (MethodName × Nat) := [(⟨"DryIceLaneModel", "lay", "(IIJ)V"⟩, 10), (⟨"DryIceLaneModel", "isBox", "(I)Z"⟩, 10), (⟨"DryIceLaneModel", "of", "(II)J"⟩, 10), (⟨"DryIceLaneModel", "move", "(II)V"⟩, 10), (⟨"DryIceLaneModel", "swap", "(II)V"⟩, 10), (⟨"DryIceLaneModel", "legs", "()I"⟩, 10), (⟨"DryIceLaneModel", "isAway", "()Z"⟩, 10), (⟨"DryIceLaneModel", "hasNext", "()Z"⟩, 10), (⟨"DryIceLaneModel", "begin", "()V"⟩, 10), (⟨"DryIceLaneModel", "makeMinute", "()V"⟩, 10), (⟨"DryIceLaneModel", "goOff", "()J"⟩, 10), (⟨"DryIceLaneModel", "goesOff", "(I)J"⟩, 10), (⟨"DryIceLaneModel", "warm", "(J)V"⟩, 10), (⟨"DryIceLaneModel", "outside", "()J"⟩, 10), (⟨"DryIceLaneModel", "blow", "()V"⟩, 10), (⟨"DryIceLaneModel", "turnVent", "()V"⟩, 10)]
theorem lw_r2 : ∀ q ∈ lw_privs_2, lw_okq q := List.forall_mem_cons.mpr ⟨lw_p16, List.forall_mem_cons.mpr ⟨lw_p17, List.forall_mem_cons.mpr ⟨lw_p18, List.forall_mem_cons.mpr ⟨lw_p19, List.forall_mem_cons.mpr ⟨lw_p20, List.forall_mem_cons.mpr ⟨lw_p21, List.forall_mem_cons.mpr ⟨lw_p22, List.forall_mem_cons.mpr ⟨lw_p23, List.forall_mem_cons.mpr ⟨lw_p24, List.forall_mem_cons.mpr ⟨lw_p25, List.forall_mem_cons.mpr ⟨lw_p26, List.forall_mem_cons.mpr ⟨lw_p27, List.forall_mem_cons.mpr ⟨lw_p28, List.forall_mem_cons.mpr ⟨lw_p29, List.forall_mem_cons.mpr ⟨lw_p30, List.forall_mem_cons.mpr ⟨lw_p31, fun _ h => absurd h List.not_mem_nil⟩⟩⟩⟩⟩⟩⟩⟩⟩⟩⟩⟩⟩⟩⟩⟩
theorem lw_p32 : lw_okq (⟨"DryIceLaneModel", "concentration", "()I"⟩, 10) := ⟨⟨by decide +kernel, by decide +kernel⟩, List.mem_of_getElem? (i := 678) (by decide +kernel), List.mem_of_getElem? (i := 848) (by decide +kernel), List.mem_of_getElem? (i := 849) (by decide +kernel)⟩
theorem lw_p33 : lw_okq (⟨"DryIceLaneModel", "shutVent", "()V"⟩, 10) := ⟨⟨by decide +kernel, by decide +kernel⟩, List.mem_of_getElem? (i := 678) (by decide +kernel), List.mem_of_getElem? (i := 853) (by decide +kernel), List.mem_of_getElem? (i := 854) (by decide +kernel)⟩
theorem lw_p34 : lw_okq (⟨"DryIceLaneModel", "openVent", "()V"⟩, 10) := ⟨⟨by decide +kernel, by decide +kernel⟩, List.mem_of_getElem? (i := 678) (by decide +kernel), List.mem_of_getElem? (i := 857) (by decide +kernel), List.mem_of_getElem? (i := 858) (by decide +kernel)⟩
theorem lw_p35 : lw_okq (⟨"DryIceLaneModel", "setMode", "(I)V"⟩, 10) := ⟨⟨by decide +kernel, by decide +kernel⟩, List.mem_of_getElem? (i := 678) (by decide +kernel), List.mem_of_getElem? (i := 865) (by decide +kernel), List.mem_of_getElem? (i := 866) (by decide +kernel)⟩
theorem lw_p36 : lw_okq (⟨"DryIceLaneModel", "allIce", "()J"⟩, 10) := ⟨⟨by decide +kernel, by decide +kernel⟩, List.mem_of_getElem? (i := 678) (by decide +kernel), List.mem_of_getElem? (i := 882) (by decide +kernel), List.mem_of_getElem? (i := 883) (by decide +kernel)⟩
theorem lw_p37 : lw_okq (⟨"DryIceLaneModel", "take", "(J)I"⟩, 10) := ⟨⟨by decide +kernel, by decide +kernel⟩, List.mem_of_getElem? (i := 678) (by decide +kernel), List.mem_of_getElem? (i := 886) (by decide +kernel), List.mem_of_getElem? (i := 887) (by decide +kernel)⟩
theorem lw_p38 : lw_okq (⟨"DryIceLaneModel", "minutesLeft", "()I"⟩, 10) := ⟨⟨by decide +kernel, by decide +kernel⟩, List.mem_of_getElem? (i := 678) (by decide +kernel), List.mem_of_getElem? (i := 916) (by decide +kernel), List.mem_of_getElem? (i := 917) (by decide +kernel)⟩
theorem lw_p39 : lw_okq (⟨"DryIceLaneModel", "putAside", "()V"⟩, 10) := ⟨⟨by decide +kernel, by decide +kernel⟩, List.mem_of_getElem? (i := 678) (by decide +kernel), List.mem_of_getElem? (i := 934) (by decide +kernel), List.mem_of_getElem? (i := 935) (by decide +kernel)⟩
theorem lw_p40 : lw_okq (⟨"DryIceLaneModel", "goToStop", "()V"⟩, 10) := ⟨⟨by decide +kernel, by decide +kernel⟩, List.mem_of_getElem? (i := 678) (by decide +kernel), List.mem_of_getElem? (i := 938) (by decide +kernel), List.mem_of_getElem? (i := 939) (by decide +kernel)⟩
theorem lw_p41 : lw_okq (⟨"DryIceLaneModel", "stay", "(I)V"⟩, 10) := ⟨⟨by decide +kernel, by decide +kernel⟩, List.mem_of_getElem? (i := 678) (by decide +kernel), List.mem_of_getElem? (i := 942) (by decide +kernel), List.mem_of_getElem? (i := 943) (by decide +kernel)⟩
theorem lw_p42 : lw_okq (⟨"DryIceLaneModel", "putBack", "()V"⟩, 10) := ⟨⟨by decide +kernel, by decide +kernel⟩, List.mem_of_getElem? (i := 678) (by decide +kernel), List.mem_of_getElem? (i := 946) (by decide +kernel), List.mem_of_getElem? (i := 947) (by decide +kernel)⟩
theorem lw_p43 : lw_okq (⟨"DryIceLaneModel", "takeLeg", "()V"⟩, 10) := ⟨⟨by decide +kernel, by decide +kernel⟩, List.mem_of_getElem? (i := 678) (by decide +kernel), List.mem_of_getElem? (i := 976) (by decide +kernel), List.mem_of_getElem? (i := 977) (by decide +kernel)⟩
theorem lw_p44 : lw_okq (⟨"DryIceLaneModel", "takeNumber", "(II)I"⟩, 10) := ⟨⟨by decide +kernel, by decide +kernel⟩, List.mem_of_getElem? (i := 678) (by decide +kernel), List.mem_of_getElem? (i := 980) (by decide +kernel), List.mem_of_getElem? (i := 981) (by decide +kernel)⟩
theorem lw_p45 : lw_okq (⟨"DryIceLaneModel", "next", "()I"⟩, 10) := ⟨⟨by decide +kernel, by decide +kernel⟩, List.mem_of_getElem? (i := 678) (by decide +kernel), List.mem_of_getElem? (i := 984) (by decide +kernel), List.mem_of_getElem? (i := 985) (by decide +kernel)⟩
theorem lw_p46 : lw_okq (⟨"DryIceLaneModel", "need", "(I)V"⟩, 10) := ⟨⟨by decide +kernel, by decide +kernel⟩, List.mem_of_getElem? (i := 678) (by decide +kernel), List.mem_of_getElem? (i := 990) (by decide +kernel), List.mem_of_getElem? (i := 991) (by decide +kernel)⟩
def lw_privs_3 : List (MethodName × Nat) := [(⟨"DryIceLaneModel", "concentration", "()I"⟩, 10), (⟨"DryIceLaneModel", "shutVent", "()V"⟩, 10), (⟨"DryIceLaneModel", "openVent", "()V"⟩, 10), (⟨"DryIceLaneModel", "setMode", "(I)V"⟩, 10), (⟨"DryIceLaneModel", "allIce", "()J"⟩, 10), (⟨"DryIceLaneModel", "take", "(J)I"⟩, 10), (⟨"DryIceLaneModel", "minutesLeft", "()I"⟩, 10), (⟨"DryIceLaneModel", "putAside", "()V"⟩, 10), (⟨"DryIceLaneModel", "goToStop", "()V"⟩, 10), (⟨"DryIceLaneModel", "stay", "(I)V"⟩, 10), (⟨"DryIceLaneModel", "putBack", "()V"⟩, 10), (⟨"DryIceLaneModel", "takeLeg", "()V"⟩, 10), (⟨"DryIceLaneModel", "takeNumber", "(II)I"⟩, 10), (⟨"DryIceLaneModel", "next", "()I"⟩, 10), (⟨"DryIceLaneModel", "need", "(I)V"⟩, 10)]
theorem lw_r3 : ∀ q ∈ lw_privs_3, lw_okq q := List.forall_mem_cons.mpr ⟨lw_p32, List.forall_mem_cons.mpr ⟨lw_p33, List.forall_mem_cons.mpr ⟨lw_p34, List.forall_mem_cons.mpr ⟨lw_p35, List.forall_mem_cons.mpr ⟨lw_p36, List.forall_mem_cons.mpr ⟨lw_p37, List.forall_mem_cons.mpr ⟨lw_p38, List.forall_mem_cons.mpr ⟨lw_p39, List.forall_mem_cons.mpr ⟨lw_p40, List.forall_mem_cons.mpr ⟨lw_p41, List.forall_mem_cons.mpr ⟨lw_p42, List.forall_mem_cons.mpr ⟨lw_p43, List.forall_mem_cons.mpr ⟨lw_p44, List.forall_mem_cons.mpr ⟨lw_p45, List.forall_mem_cons.mpr ⟨lw_p46, fun _ h => absurd h List.not_mem_nil⟩⟩⟩⟩⟩⟩⟩⟩⟩⟩⟩⟩⟩⟩⟩
def lw_privs : List (MethodName × Nat) := lw_privs_1 ++ (lw_privs_2 ++ (lw_privs_3))
def lw_tbl : List Cond := k2_sels lw_privs ++ tables_1
theorem lw_privs_ok : ∀ q ∈ lw_privs, lw_okq q := by
  show ∀ q ∈ lw_privs_1 ++ (lw_privs_2 ++ (lw_privs_3)), lw_okq q
  exact List.forall_mem_append.mpr ⟨lw_r1, List.forall_mem_append.mpr ⟨lw_r2, lw_r3⟩⟩
-- ===== end of PART A; then your names; then what follows =====
end
section
/-! ===== BEGIN words of one list among another's, by their places ===== -/
theorem goodIn_r {big : List Cond} (ws : List Cond) (ps : List Nat) (hp : ws = ps.filterMap (fun i => big[i]?)) (h : ws.all goodWord = true) : GoodIn big ws := by
  intro w hw
  have h1 := List.all_eq_true.mp h w hw
  rw [hp] at hw
  obtain ⟨i, -, hi⟩ := List.mem_filterMap.mp hw
  have hm : w ∈ big := by first | exact List.mem_of_getElem? hi | exact List.getElem?_mem hi
  exact ⟨hm, good_of_word h1⟩
theorem goodIn_app {big a b : List Cond} (ha : GoodIn big a) (hb : GoodIn big b) : GoodIn big (a ++ b) := fun w h => (List.mem_append.mp h).elim (ha w) (hb w)
theorem goodIn_ca {big a b : List Cond} {c : Cond} (ha : GoodIn big (c :: a)) (hb : GoodIn big b) : GoodIn big (c :: (a ++ b)) := fun w h => (List.mem_cons.mp h).elim (fun e => ha w (List.mem_cons.mpr (Or.inl e))) (fun h => (List.mem_append.mp h).elim (fun h => ha w (List.mem_cons.mpr (Or.inr h))) (hb w))
theorem goodIn_sub {big ws : List Cond} (hm : ∀ w ∈ ws, w ∈ big) (h : ws.all goodWord = true) : GoodIn big ws := fun w hw => ⟨hm w hw, good_of_word (List.all_eq_true.mp h w hw)⟩
/-! ===== END ===== -/

/-! ===== BEGIN printed: names, fields, word lists, decode rows ===== -/
def RX0 : String := "DryIceLane$Box"
def TX0 : u_T := fun k => match k with
  | 0 => ("DryIceLane$Box", "insulation", "I", false)
  | 1 => ("DryIceLane$Box", "tare", "I", false)
  | 2 => ("DryIceLane$Box", "ice", "I", false)
  | _ => ("DryIceLane$Box", "paper", "I", false)
def tyX0 : Nat → FieldType := fun k => match k with
  | 0 => .int
  | 1 => .int
  | 2 => .int
  | _ => .int
abbrev wsX00 : List Cond := u_ws RX0 TX0 4
theorem nmX0 : ∀ a, a < 4 → ∀ b, b < 4 → a ≠ b → (TX0 a).2.1 ≠ (TX0 b).2.1 := by decide +kernel
theorem tyX0_ok : ∀ k, k < 4 → parseFieldDescriptor (TX0 k).2.2.1 = some (tyX0 k) := by decide +kernel
abbrev cX0_init : ByteArray := prog_2_method_1_code
def yX0_init : MethodName := ⟨RX0, "<init>", "()V"⟩
abbrev cX0_becomeLike : ByteArray := prog_2_method_2_code
def yX0_becomeLike : MethodName := ⟨RX0, "becomeLike", "(LDryIceLane$Box;)V"⟩
abbrev cX0_goingOff : ByteArray := prog_2_method_3_code
def yX0_goingOff : MethodName := ⟨RX0, "goingOff", "(II)I"⟩
abbrev cX0_take : ByteArray := prog_2_method_4_code
def yX0_take : MethodName := ⟨RX0, "take", "(I)V"⟩
def RX1 : String := "DryIceLane$Hold"
def TX1 : u_T := fun k => match k with
  | 0 => ("DryIceLane$Hold", "temperature", "I", false)
  | 1 => ("DryIceLane$Hold", "gas", "J", false)
  | 2 => ("DryIceLane$Hold", "ventMode", "I", false)
  | 3 => ("DryIceLane$Hold", "ventOpen", "Z", false)
  | 4 => ("DryIceLane$Hold", "ventMinutes", "I", false)
  | 5 => ("DryIceLane$Hold", "doorOpen", "Z", false)
  | _ => ("DryIceLane$Hold", "alarms", "I", false)
def tyX1 : Nat → FieldType := fun k => match k with
  | 0 => .int
  | 1 => .long
  | 2 => .int
  | 3 => .boolean
  | 4 => .int
  | 5 => .boolean
  | _ => .int
abbrev wsX10 : List Cond := u_ws RX1 TX1 7
theorem nmX1 : ∀ a, a < 7 → ∀ b, b < 7 → a ≠ b → (TX1 a).2.1 ≠ (TX1 b).2.1 := by decide +kernel
theorem tyX1_ok : ∀ k, k < 7 → parseFieldDescriptor (TX1 k).2.2.1 = some (tyX1 k) := by decide +kernel
abbrev cX1_init : ByteArray := prog_3_method_1_code
def yX1_init : MethodName := ⟨RX1, "<init>", "()V"⟩
abbrev cX1_becomeLike : ByteArray := prog_3_method_2_code
def yX1_becomeLike : MethodName := ⟨RX1, "becomeLike", "(LDryIceLane$Hold;)V"⟩
abbrev cX1_concentration : ByteArray := prog_3_method_3_code
def yX1_concentration : MethodName := ⟨RX1, "concentration", "(LDryIceLane$Settings;)J"⟩
abbrev cX1_setVentMode : ByteArray := prog_3_method_4_code
def yX1_setVentMode : MethodName := ⟨RX1, "setVentMode", "(I)V"⟩
abbrev cX1_keepToMode : ByteArray := prog_3_method_5_code
def yX1_keepToMode : MethodName := ⟨RX1, "keepToMode", "()V"⟩
abbrev cX1_openVent : ByteArray := prog_3_method_6_code
def yX1_openVent : MethodName := ⟨RX1, "openVent", "()V"⟩
abbrev cX1_shutVent : ByteArray := prog_3_method_7_code
def yX1_shutVent : MethodName := ⟨RX1, "shutVent", "()V"⟩
abbrev cX1_letMinutePass : ByteArray := prog_3_method_8_code
def yX1_letMinutePass : MethodName := ⟨RX1, "letMinutePass", "(IILDryIceLane$Settings;)V"⟩
abbrev cX1_changeTemperature : ByteArray := prog_3_method_9_code
def yX1_changeTemperature : MethodName := ⟨RX1, "changeTemperature", "(IILDryIceLane$Settings;)V"⟩
abbrev cX1_loseGas : ByteArray := prog_3_method_10_code
def yX1_loseGas : MethodName := ⟨RX1, "loseGas", "(LDryIceLane$Settings;)V"⟩
abbrev cX1_moveVent : ByteArray := prog_3_method_11_code
def yX1_moveVent : MethodName := ⟨RX1, "moveVent", "(JLDryIceLane$Settings;)V"⟩
def RX2 : String := "DryIceLane$Lane"
def TX2 : u_T := fun k => match k with
  | 0 => ("DryIceLane$Lane", "boxes", "[LDryIceLane$Box;", true)
  | _ => ("DryIceLane$Lane", "count", "I", false)
def tyX2 : Nat → FieldType := fun k => match k with
  | 0 => .array (.object "DryIceLane$Box")
  | _ => .int
abbrev wsX20 : List Cond := u_ws RX2 TX2 2
theorem nmX2 : ∀ a, a < 2 → ∀ b, b < 2 → a ≠ b → (TX2 a).2.1 ≠ (TX2 b).2.1 := by decide +kernel
theorem tyX2_ok : ∀ k, k < 2 → parseFieldDescriptor (TX2 k).2.2.1 = some (tyX2 k) := by decide +kernel
abbrev cX2_init : ByteArray := prog_4_method_1_code
def yX2_init : MethodName := ⟨RX2, "<init>", "()V"⟩
abbrev cX2_becomeLike : ByteArray := prog_4_method_2_code
def yX2_becomeLike : MethodName := ⟨RX2, "becomeLike", "(LDryIceLane$Lane;)V"⟩
abbrev cX2_boxAt : ByteArray := prog_4_method_3_code
def yX2_boxAt : MethodName := ⟨RX2, "boxAt", "(I)LDryIceLane$Box;"⟩
abbrev cX2_append : ByteArray := prog_4_method_4_code
def yX2_append : MethodName := ⟨RX2, "append", "(III)V"⟩
abbrev cX2_takeOut : ByteArray := prog_4_method_5_code
def yX2_takeOut : MethodName := ⟨RX2, "takeOut", "(I)V"⟩
abbrev cX2_move : ByteArray := prog_4_method_6_code
def yX2_move : MethodName := ⟨RX2, "move", "(II)V"⟩
abbrev cX2_iceOfAll : ByteArray := prog_4_method_7_code
def yX2_iceOfAll : MethodName := ⟨RX2, "iceOfAll", "()I"⟩
abbrev cX2_takeFromFront : ByteArray := prog_4_method_8_code
def yX2_takeFromFront : MethodName := ⟨RX2, "takeFromFront", "(I)I"⟩
abbrev cX2_letGoOff : ByteArray := prog_4_method_9_code
def yX2_letGoOff : MethodName := ⟨RX2, "letGoOff", "(II)I"⟩
def RX3 : String := "DryIceLane$Pad"
def TX3 : u_T := fun k => match k with
  | 0 => ("DryIceLane$Pad", "codes", "[I", true)
  | _ => ("DryIceLane$Pad", "length", "I", false)
def tyX3 : Nat → FieldType := fun k => match k with
  | 0 => .array .int
  | _ => .int
abbrev wsX30 : List Cond := u_ws RX3 TX3 2
theorem nmX3 : ∀ a, a < 2 → ∀ b, b < 2 → a ≠ b → (TX3 a).2.1 ≠ (TX3 b).2.1 := by decide +kernel
theorem tyX3_ok : ∀ k, k < 2 → parseFieldDescriptor (TX3 k).2.2.1 = some (tyX3 k) := by decide +kernel
abbrev cX3_init : ByteArray := prog_5_method_1_code
def yX3_init : MethodName := ⟨RX3, "<init>", "()V"⟩
abbrev cX3_append : ByteArray := prog_5_method_2_code
def yX3_append : MethodName := ⟨RX3, "append", "(I)V"⟩
abbrev cX3_codeAt : ByteArray := prog_5_method_3_code
def yX3_codeAt : MethodName := ⟨RX3, "codeAt", "(I)I"⟩
def RX4 : String := "DryIceLane$Route"
def TX4 : u_T := fun k => match k with
  | 0 => ("DryIceLane$Route", "durations", "[I", true)
  | 1 => ("DryIceLane$Route", "outsides", "[I", true)
  | 2 => ("DryIceLane$Route", "count", "I", false)
  | 3 => ("DryIceLane$Route", "latest", "I", false)
  | _ => ("DryIceLane$Route", "minutesLeft", "I", false)
def tyX4 : Nat → FieldType := fun k => match k with
  | 0 => .array .int
  | 1 => .array .int
  | 2 => .int
  | 3 => .int
  | _ => .int
abbrev wsX40 : List Cond := u_ws RX4 TX4 5
theorem nmX4 : ∀ a, a < 5 → ∀ b, b < 5 → a ≠ b → (TX4 a).2.1 ≠ (TX4 b).2.1 := by decide +kernel
theorem tyX4_ok : ∀ k, k < 5 → parseFieldDescriptor (TX4 k).2.2.1 = some (tyX4 k) := by decide +kernel
abbrev cX4_init : ByteArray := prog_6_method_1_code
def yX4_init : MethodName := ⟨RX4, "<init>", "()V"⟩
abbrev cX4_becomeLike : ByteArray := prog_6_method_2_code
def yX4_becomeLike : MethodName := ⟨RX4, "becomeLike", "(LDryIceLane$Route;)V"⟩
abbrev cX4_hasLeg : ByteArray := prog_6_method_3_code
def yX4_hasLeg : MethodName := ⟨RX4, "hasLeg", "(I)Z"⟩
abbrev cX4_hasNextLeg : ByteArray := prog_6_method_4_code
def yX4_hasNextLeg : MethodName := ⟨RX4, "hasNextLeg", "()Z"⟩
abbrev cX4_isOnTheWay : ByteArray := prog_6_method_5_code
def yX4_isOnTheWay : MethodName := ⟨RX4, "isOnTheWay", "()Z"⟩
abbrev cX4_durationOf : ByteArray := prog_6_method_6_code
def yX4_durationOf : MethodName := ⟨RX4, "durationOf", "(I)I"⟩
abbrev cX4_outsideOf : ByteArray := prog_6_method_7_code
def yX4_outsideOf : MethodName := ⟨RX4, "outsideOf", "(I)I"⟩
abbrev cX4_outsideNow : ByteArray := prog_6_method_8_code
def yX4_outsideNow : MethodName := ⟨RX4, "outsideNow", "()I"⟩
abbrev cX4_append : ByteArray := prog_6_method_9_code
def yX4_append : MethodName := ⟨RX4, "append", "(II)V"⟩
abbrev cX4_beginNextLeg : ByteArray := prog_6_method_10_code
def yX4_beginNextLeg : MethodName := ⟨RX4, "beginNextLeg", "()V"⟩
abbrev cX4_letMinutePass : ByteArray := prog_6_method_11_code
def yX4_letMinutePass : MethodName := ⟨RX4, "letMinutePass", "()V"⟩
def RX5 : String := "DryIceLane$RouteReader"
def TX5 : u_T := fun k => match k with
  | 0 => ("DryIceLane$RouteReader", "durations", "[I", true)
  | 1 => ("DryIceLane$RouteReader", "outsides", "[I", true)
  | 2 => ("DryIceLane$RouteReader", "legs", "I", false)
  | 3 => ("DryIceLane$RouteReader", "state", "I", false)
  | 4 => ("DryIceLane$RouteReader", "number", "I", false)
  | 5 => ("DryIceLane$RouteReader", "duration", "I", false)
  | _ => ("DryIceLane$RouteReader", "below", "Z", false)
def tyX5 : Nat → FieldType := fun k => match k with
  | 0 => .array .int
  | 1 => .array .int
  | 2 => .int
  | 3 => .int
  | 4 => .int
  | 5 => .int
  | _ => .boolean
abbrev wsX50 : List Cond := u_ws RX5 TX5 7
theorem nmX5 : ∀ a, a < 7 → ∀ b, b < 7 → a ≠ b → (TX5 a).2.1 ≠ (TX5 b).2.1 := by decide +kernel
theorem tyX5_ok : ∀ k, k < 7 → parseFieldDescriptor (TX5 k).2.2.1 = some (tyX5 k) := by decide +kernel
abbrev cX5_init : ByteArray := prog_7_method_1_code
def yX5_init : MethodName := ⟨RX5, "<init>", "()V"⟩
abbrev cX5_faultOf : ByteArray := prog_7_method_2_code
def yX5_faultOf : MethodName := ⟨RX5, "faultOf", "(LDryIceLane$Pad;)I"⟩
abbrev cX5_durationOf : ByteArray := prog_7_method_3_code
def yX5_durationOf : MethodName := ⟨RX5, "durationOf", "(I)I"⟩
abbrev cX5_outsideOf : ByteArray := prog_7_method_4_code
def yX5_outsideOf : MethodName := ⟨RX5, "outsideOf", "(I)I"⟩
abbrev cX5_takes : ByteArray := prog_7_method_5_code
def yX5_takes : MethodName := ⟨RX5, "takes", "(I)Z"⟩
abbrev cX5_startsNumber : ByteArray := prog_7_method_6_code
def yX5_startsNumber : MethodName := ⟨RX5, "startsNumber", "(IIII)Z"⟩
abbrev cX5_continuesNumber : ByteArray := prog_7_method_7_code
def yX5_continuesNumber : MethodName := ⟨RX5, "continuesNumber", "(II)Z"⟩
abbrev cX5_endsDuration : ByteArray := prog_7_method_8_code
def yX5_endsDuration : MethodName := ⟨RX5, "endsDuration", "()Z"⟩
abbrev cX5_startsDegrees : ByteArray := prog_7_method_9_code
def yX5_startsDegrees : MethodName := ⟨RX5, "startsDegrees", "(I)Z"⟩
abbrev cX5_mostDegrees : ByteArray := prog_7_method_10_code
def yX5_mostDegrees : MethodName := ⟨RX5, "mostDegrees", "()I"⟩
abbrev cX5_endLeg : ByteArray := prog_7_method_11_code
def yX5_endLeg : MethodName := ⟨RX5, "endLeg", "()Z"⟩
abbrev cX5_isDigit : ByteArray := prog_7_method_12_code
def yX5_isDigit : MethodName := ⟨RX5, "isDigit", "(I)Z"⟩
def RX6 : String := "DryIceLane$Settings"
def TX6 : u_T := fun k => match k with
  | _ => ("DryIceLane$Settings", "values", "[I", true)
def tyX6 : Nat → FieldType := fun k => match k with
  | _ => .array .int
abbrev wsX60 : List Cond := u_ws RX6 TX6 1
theorem nmX6 : ∀ a, a < 1 → ∀ b, b < 1 → a ≠ b → (TX6 a).2.1 ≠ (TX6 b).2.1 := by decide +kernel
theorem tyX6_ok : ∀ k, k < 1 → parseFieldDescriptor (TX6 k).2.2.1 = some (tyX6 k) := by decide +kernel
abbrev cX6_init : ByteArray := prog_8_method_1_code
def yX6_init : MethodName := ⟨RX6, "<init>", "()V"⟩
abbrev cX6_becomeLike : ByteArray := prog_8_method_2_code
def yX6_becomeLike : MethodName := ⟨RX6, "becomeLike", "(LDryIceLane$Settings;)V"⟩
abbrev cX6_allows : ByteArray := prog_8_method_3_code
def yX6_allows : MethodName := ⟨RX6, "allows", "(II)Z"⟩
abbrev cX6_value : ByteArray := prog_8_method_4_code
def yX6_value : MethodName := ⟨RX6, "value", "(I)I"⟩
abbrev cX6_change : ByteArray := prog_8_method_5_code
def yX6_change : MethodName := ⟨RX6, "change", "(II)I"⟩
def RX7 : String := "DryIceLane$Slot"
def TX7 : u_T := fun k => match k with
  | 0 => ("DryIceLane$Slot", "kept", "LDryIceLane$Van;", true)
  | _ => ("DryIceLane$Slot", "filled", "Z", false)
def tyX7 : Nat → FieldType := fun k => match k with
  | 0 => .object "DryIceLane$Van"
  | _ => .boolean
abbrev wsX70 : List Cond := u_ws RX7 TX7 2
theorem nmX7 : ∀ a, a < 2 → ∀ b, b < 2 → a ≠ b → (TX7 a).2.1 ≠ (TX7 b).2.1 := by decide +kernel
theorem tyX7_ok : ∀ k, k < 2 → parseFieldDescriptor (TX7 k).2.2.1 = some (tyX7 k) := by decide +kernel
abbrev cX7_init : ByteArray := prog_9_method_1_code
def yX7_init : MethodName := ⟨RX7, "<init>", "()V"⟩
def RX8 : String := "DryIceLane$Van"
def TX8 : u_T := fun k => match k with
  | 0 => ("DryIceLane$Van", "settings", "LDryIceLane$Settings;", true)
  | 1 => ("DryIceLane$Van", "lane", "LDryIceLane$Lane;", true)
  | 2 => ("DryIceLane$Van", "hold", "LDryIceLane$Hold;", true)
  | 3 => ("DryIceLane$Van", "route", "LDryIceLane$Route;", true)
  | 4 => ("DryIceLane$Van", "time", "I", false)
  | 5 => ("DryIceLane$Van", "putIn", "J", false)
  | 6 => ("DryIceLane$Van", "takenOut", "J", false)
  | 7 => ("DryIceLane$Van", "wentOff", "J", false)
  | 8 => ("DryIceLane$Van", "sold", "J", false)
  | _ => ("DryIceLane$Van", "spilled", "J", false)
def tyX8 : Nat → FieldType := fun k => match k with
  | 0 => .object "DryIceLane$Settings"
  | 1 => .object "DryIceLane$Lane"
  | 2 => .object "DryIceLane$Hold"
  | 3 => .object "DryIceLane$Route"
  | 4 => .int
  | 5 => .long
  | 6 => .long
  | 7 => .long
  | 8 => .long
  | _ => .long
abbrev wsX80 : List Cond := u_ws RX8 TX8 10
theorem nmX8 : ∀ a, a < 10 → ∀ b, b < 10 → a ≠ b → (TX8 a).2.1 ≠ (TX8 b).2.1 := by decide +kernel
theorem tyX8_ok : ∀ k, k < 10 → parseFieldDescriptor (TX8 k).2.2.1 = some (tyX8 k) := by decide +kernel
abbrev cX8_init : ByteArray := prog_10_method_1_code
def yX8_init : MethodName := ⟨RX8, "<init>", "()V"⟩
abbrev cX8_becomeLike : ByteArray := prog_10_method_2_code
def yX8_becomeLike : MethodName := ⟨RX8, "becomeLike", "(LDryIceLane$Van;)V"⟩
abbrev cX8_concentration : ByteArray := prog_10_method_3_code
def yX8_concentration : MethodName := ⟨RX8, "concentration", "()J"⟩
abbrev cX8_isSafe : ByteArray := prog_10_method_4_code
def yX8_isSafe : MethodName := ⟨RX8, "isSafe", "()Z"⟩
abbrev cX8_letPass : ByteArray := prog_10_method_5_code
def yX8_letPass : MethodName := ⟨RX8, "letPass", "(I)V"⟩
abbrev cX8_letMinutePass : ByteArray := prog_10_method_6_code
def yX8_letMinutePass : MethodName := ⟨RX8, "letMinutePass", "()V"⟩
abbrev cX8_driveToEnd : ByteArray := prog_10_method_7_code
def yX8_driveToEnd : MethodName := ⟨RX8, "driveToEnd", "(I)V"⟩
def RX9 : String := "DryIceLane"
def TX9 : u_T := fun k => match k with
  | 0 => ("DryIceLane", "now", "LDryIceLane$Van;", true)
  | 1 => ("DryIceLane", "copy", "LDryIceLane$Van;", true)
  | 2 => ("DryIceLane", "slot0", "LDryIceLane$Slot;", true)
  | 3 => ("DryIceLane", "slot1", "LDryIceLane$Slot;", true)
  | 4 => ("DryIceLane", "pad", "LDryIceLane$Pad;", true)
  | _ => ("DryIceLane", "reader", "LDryIceLane$RouteReader;", true)
def tyX9 : Nat → FieldType := fun k => match k with
  | 0 => .object "DryIceLane$Van"
  | 1 => .object "DryIceLane$Van"
  | 2 => .object "DryIceLane$Slot"
  | 3 => .object "DryIceLane$Slot"
  | 4 => .object "DryIceLane$Pad"
  | _ => .object "DryIceLane$RouteReader"
abbrev wsX90 : List Cond := u_ws RX9 TX9 6
theorem nmX9 : ∀ a, a < 6 → ∀ b, b < 6 → a ≠ b → (TX9 a).2.1 ≠ (TX9 b).2.1 := by decide +kernel
theorem tyX9_ok : ∀ k, k < 6 → parseFieldDescriptor (TX9 k).2.2.1 = some (tyX9 k) := by decide +kernel
abbrev cX9_init : ByteArray := prog_1_method_1_code
def yX9_init : MethodName := ⟨RX9, "<init>", "()V"⟩
abbrev cX9_load : ByteArray := prog_1_method_2_code
def yX9_load : MethodName := ⟨RX9, "load", "(III)I"⟩
abbrev cX9_unload : ByteArray := prog_1_method_3_code
def yX9_unload : MethodName := ⟨RX9, "unload", "(I)I"⟩
abbrev cX9_shift : ByteArray := prog_1_method_4_code
def yX9_shift : MethodName := ⟨RX9, "shift", "(II)I"⟩
abbrev cX9_set : ByteArray := prog_1_method_5_code
def yX9_set : MethodName := ⟨RX9, "set", "(II)I"⟩
abbrev cX9_leg : ByteArray := prog_1_method_6_code
def yX9_leg : MethodName := ⟨RX9, "leg", "(II)I"⟩
abbrev cX9_cut : ByteArray := prog_1_method_7_code
def yX9_cut : MethodName := ⟨RX9, "cut", "()I"⟩
abbrev cX9_depart : ByteArray := prog_1_method_8_code
def yX9_depart : MethodName := ⟨RX9, "depart", "()I"⟩
abbrev cX9_pass : ByteArray := prog_1_method_9_code
def yX9_pass : MethodName := ⟨RX9, "pass", "(I)I"⟩
abbrev cX9_vent : ByteArray := prog_1_method_10_code
def yX9_vent : MethodName := ⟨RX9, "vent", "(I)I"⟩
abbrev cX9_open : ByteArray := prog_1_method_11_code
def yX9_open : MethodName := ⟨RX9, "open", "()I"⟩
abbrev cX9_shut : ByteArray := prog_1_method_12_code
def yX9_shut : MethodName := ⟨RX9, "shut", "()I"⟩
abbrev cX9_sell : ByteArray := prog_1_method_13_code
def yX9_sell : MethodName := ⟨RX9, "sell", "(I)I"⟩
abbrev cX9_spill : ByteArray := prog_1_method_14_code
def yX9_spill : MethodName := ⟨RX9, "spill", "(II)I"⟩
abbrev cX9_weigh : ByteArray := prog_1_method_15_code
def yX9_weigh : MethodName := ⟨RX9, "weigh", "(I)I"⟩
abbrev cX9_check : ByteArray := prog_1_method_16_code
def yX9_check : MethodName := ⟨RX9, "check", "(I)I"⟩
abbrev cX9_box : ByteArray := prog_1_method_17_code
def yX9_box : MethodName := ⟨RX9, "box", "(II)I"⟩
abbrev cX9_van : ByteArray := prog_1_method_18_code
def yX9_van : MethodName := ⟨RX9, "van", "(I)I"⟩
abbrev cX9_way : ByteArray := prog_1_method_19_code
def yX9_way : MethodName := ⟨RX9, "way", "(II)I"⟩
abbrev cX9_account : ByteArray := prog_1_method_20_code
def yX9_account : MethodName := ⟨RX9, "account", "(I)J"⟩
abbrev cX9_atEnd : ByteArray := prog_1_method_21_code
def yX9_atEnd : MethodName := ⟨RX9, "atEnd", "(II)I"⟩
abbrev cX9_worst : ByteArray := prog_1_method_22_code
def yX9_worst : MethodName := ⟨RX9, "worst", "(I)I"⟩
abbrev cX9_purge : ByteArray := prog_1_method_23_code
def yX9_purge : MethodName := ⟨RX9, "purge", "(I)I"⟩
abbrev cX9_front : ByteArray := prog_1_method_24_code
def yX9_front : MethodName := ⟨RX9, "front", "(II)I"⟩
abbrev cX9_iceLeftWithFront : ByteArray := prog_1_method_25_code
def yX9_iceLeftWithFront : MethodName := ⟨RX9, "iceLeftWithFront", "(III)I"⟩
abbrev cX9_say : ByteArray := prog_1_method_26_code
def yX9_say : MethodName := ⟨RX9, "say", "(I)I"⟩
abbrev cX9_wipe : ByteArray := prog_1_method_27_code
def yX9_wipe : MethodName := ⟨RX9, "wipe", "()I"⟩
abbrev cX9_fault : ByteArray := prog_1_method_28_code
def yX9_fault : MethodName := ⟨RX9, "fault", "()I"⟩
abbrev cX9_read : ByteArray := prog_1_method_29_code
def yX9_read : MethodName := ⟨RX9, "read", "()I"⟩
abbrev cX9_save : ByteArray := prog_1_method_30_code
def yX9_save : MethodName := ⟨RX9, "save", "(I)I"⟩
abbrev cX9_restore : ByteArray := prog_1_method_31_code
def yX9_restore : MethodName := ⟨RX9, "restore", "(I)I"⟩
abbrev cX9_slotAt : ByteArray := prog_1_method_32_code
def yX9_slotAt : MethodName := ⟨RX9, "slotAt", "(I)LDryIceLane$Slot;"⟩
abbrev cX9_within : ByteArray := prog_1_method_33_code
def yX9_within : MethodName := ⟨RX9, "within", "(III)Z"⟩
abbrev cX9_quotient : ByteArray := prog_1_method_34_code
def yX9_quotient : MethodName := ⟨RX9, "quotient", "(JJ)J"⟩
def RX10 : String := "DryIceLaneModel"
def TX10 : u_T := fun k => match k with
  | 0 => ("DryIceLaneModel", "at", "[J", true)
  | 1 => ("DryIceLaneModel", "aside", "[J", true)
  | 2 => ("DryIceLaneModel", "slots", "[J", true)
  | 3 => ("DryIceLaneModel", "isSaved", "[Z", true)
  | 4 => ("DryIceLaneModel", "pad", "[I", true)
  | 5 => ("DryIceLaneModel", "padMany", "I", false)
  | 6 => ("DryIceLaneModel", "spot", "I", false)
  | 7 => ("DryIceLaneModel", "isWrong", "Z", false)
  | 8 => ("DryIceLaneModel", "read", "[I", true)
  | _ => ("DryIceLaneModel", "readMany", "I", false)
def tyX10 : Nat → FieldType := fun k => match k with
  | 0 => .array .long
  | 1 => .array .long
  | 2 => .array .long
  | 3 => .array .boolean
  | 4 => .array .int
  | 5 => .int
  | 6 => .int
  | 7 => .boolean
  | 8 => .array .int
  | _ => .int
abbrev wsX100 : List Cond := u_ws RX10 TX10 10
theorem nmX10 : ∀ a, a < 10 → ∀ b, b < 10 → a ≠ b → (TX10 a).2.1 ≠ (TX10 b).2.1 := by decide +kernel
theorem tyX10_ok : ∀ k, k < 10 → parseFieldDescriptor (TX10 k).2.2.1 = some (tyX10 k) := by decide +kernel
abbrev cX10_init : ByteArray := prog_12_method_1_code
def yX10_init : MethodName := ⟨RX10, "<init>", "()V"⟩
abbrev cX10_in : ByteArray := prog_12_method_2_code
def yX10_in : MethodName := ⟨RX10, "in", "(JJJ)Z"⟩
abbrev cX10_of : ByteArray := prog_12_method_3_code
def yX10_of : MethodName := ⟨RX10, "of", "(II)J"⟩
abbrev cX10_lay : ByteArray := prog_12_method_4_code
def yX10_lay : MethodName := ⟨RX10, "lay", "(IIJ)V"⟩
abbrev cX10_boxes : ByteArray := prog_12_method_5_code
def yX10_boxes : MethodName := ⟨RX10, "boxes", "()I"⟩
abbrev cX10_legs : ByteArray := prog_12_method_6_code
def yX10_legs : MethodName := ⟨RX10, "legs", "()I"⟩
abbrev cX10_isBox : ByteArray := prog_12_method_7_code
def yX10_isBox : MethodName := ⟨RX10, "isBox", "(I)Z"⟩
abbrev cX10_isDoorOpen : ByteArray := prog_12_method_8_code
def yX10_isDoorOpen : MethodName := ⟨RX10, "isDoorOpen", "()Z"⟩
abbrev cX10_isAway : ByteArray := prog_12_method_9_code
def yX10_isAway : MethodName := ⟨RX10, "isAway", "()Z"⟩
abbrev cX10_putAside : ByteArray := prog_12_method_10_code
def yX10_putAside : MethodName := ⟨RX10, "putAside", "()V"⟩
abbrev cX10_putBack : ByteArray := prog_12_method_11_code
def yX10_putBack : MethodName := ⟨RX10, "putBack", "()V"⟩
abbrev cX10_concentration : ByteArray := prog_12_method_12_code
def yX10_concentration : MethodName := ⟨RX10, "concentration", "()I"⟩
abbrev cX10_load : ByteArray := prog_12_method_13_code
def yX10_load : MethodName := ⟨RX10, "load", "(III)I"⟩
abbrev cX10_unload : ByteArray := prog_12_method_14_code
def yX10_unload : MethodName := ⟨RX10, "unload", "(I)I"⟩
abbrev cX10_swap : ByteArray := prog_12_method_15_code
def yX10_swap : MethodName := ⟨RX10, "swap", "(II)V"⟩
abbrev cX10_move : ByteArray := prog_12_method_16_code
def yX10_move : MethodName := ⟨RX10, "move", "(II)V"⟩
abbrev cX10_shift : ByteArray := prog_12_method_17_code
def yX10_shift : MethodName := ⟨RX10, "shift", "(II)I"⟩
abbrev cX10_takes : ByteArray := prog_12_method_18_code
def yX10_takes : MethodName := ⟨RX10, "takes", "(II)Z"⟩
abbrev cX10_set : ByteArray := prog_12_method_19_code
def yX10_set : MethodName := ⟨RX10, "set", "(II)I"⟩
abbrev cX10_leg : ByteArray := prog_12_method_20_code
def yX10_leg : MethodName := ⟨RX10, "leg", "(II)I"⟩
abbrev cX10_cut : ByteArray := prog_12_method_21_code
def yX10_cut : MethodName := ⟨RX10, "cut", "()I"⟩
abbrev cX10_hasNext : ByteArray := prog_12_method_22_code
def yX10_hasNext : MethodName := ⟨RX10, "hasNext", "()Z"⟩
abbrev cX10_begin : ByteArray := prog_12_method_23_code
def yX10_begin : MethodName := ⟨RX10, "begin", "()V"⟩
abbrev cX10_depart : ByteArray := prog_12_method_24_code
def yX10_depart : MethodName := ⟨RX10, "depart", "()I"⟩
abbrev cX10_outside : ByteArray := prog_12_method_25_code
def yX10_outside : MethodName := ⟨RX10, "outside", "()J"⟩
abbrev cX10_goesOff : ByteArray := prog_12_method_26_code
def yX10_goesOff : MethodName := ⟨RX10, "goesOff", "(I)J"⟩
abbrev cX10_goOff : ByteArray := prog_12_method_27_code
def yX10_goOff : MethodName := ⟨RX10, "goOff", "()J"⟩
abbrev cX10_warm : ByteArray := prog_12_method_28_code
def yX10_warm : MethodName := ⟨RX10, "warm", "(J)V"⟩
abbrev cX10_blow : ByteArray := prog_12_method_29_code
def yX10_blow : MethodName := ⟨RX10, "blow", "()V"⟩
abbrev cX10_openVent : ByteArray := prog_12_method_30_code
def yX10_openVent : MethodName := ⟨RX10, "openVent", "()V"⟩
abbrev cX10_shutVent : ByteArray := prog_12_method_31_code
def yX10_shutVent : MethodName := ⟨RX10, "shutVent", "()V"⟩
abbrev cX10_turnVent : ByteArray := prog_12_method_32_code
def yX10_turnVent : MethodName := ⟨RX10, "turnVent", "()V"⟩
abbrev cX10_makeMinute : ByteArray := prog_12_method_33_code
def yX10_makeMinute : MethodName := ⟨RX10, "makeMinute", "()V"⟩
abbrev cX10_pass : ByteArray := prog_12_method_34_code
def yX10_pass : MethodName := ⟨RX10, "pass", "(I)I"⟩
abbrev cX10_setMode : ByteArray := prog_12_method_35_code
def yX10_setMode : MethodName := ⟨RX10, "setMode", "(I)V"⟩
abbrev cX10_vent : ByteArray := prog_12_method_36_code
def yX10_vent : MethodName := ⟨RX10, "vent", "(I)I"⟩
abbrev cX10_open : ByteArray := prog_12_method_37_code
def yX10_open : MethodName := ⟨RX10, "open", "()I"⟩
abbrev cX10_shut : ByteArray := prog_12_method_38_code
def yX10_shut : MethodName := ⟨RX10, "shut", "()I"⟩
abbrev cX10_allIce : ByteArray := prog_12_method_39_code
def yX10_allIce : MethodName := ⟨RX10, "allIce", "()J"⟩
abbrev cX10_take : ByteArray := prog_12_method_40_code
def yX10_take : MethodName := ⟨RX10, "take", "(J)I"⟩
abbrev cX10_sell : ByteArray := prog_12_method_41_code
def yX10_sell : MethodName := ⟨RX10, "sell", "(I)I"⟩
abbrev cX10_spill : ByteArray := prog_12_method_42_code
def yX10_spill : MethodName := ⟨RX10, "spill", "(II)I"⟩
abbrev cX10_weigh : ByteArray := prog_12_method_43_code
def yX10_weigh : MethodName := ⟨RX10, "weigh", "(I)I"⟩
abbrev cX10_check : ByteArray := prog_12_method_44_code
def yX10_check : MethodName := ⟨RX10, "check", "(I)I"⟩
abbrev cX10_box : ByteArray := prog_12_method_45_code
def yX10_box : MethodName := ⟨RX10, "box", "(II)I"⟩
abbrev cX10_minutesLeft : ByteArray := prog_12_method_46_code
def yX10_minutesLeft : MethodName := ⟨RX10, "minutesLeft", "()I"⟩
abbrev cX10_van : ByteArray := prog_12_method_47_code
def yX10_van : MethodName := ⟨RX10, "van", "(I)I"⟩
abbrev cX10_way : ByteArray := prog_12_method_48_code
def yX10_way : MethodName := ⟨RX10, "way", "(II)I"⟩
abbrev cX10_account : ByteArray := prog_12_method_49_code
def yX10_account : MethodName := ⟨RX10, "account", "(I)J"⟩
abbrev cX10_goToStop : ByteArray := prog_12_method_50_code
def yX10_goToStop : MethodName := ⟨RX10, "goToStop", "()V"⟩
abbrev cX10_stay : ByteArray := prog_12_method_51_code
def yX10_stay : MethodName := ⟨RX10, "stay", "(I)V"⟩
abbrev cX10_atEnd : ByteArray := prog_12_method_52_code
def yX10_atEnd : MethodName := ⟨RX10, "atEnd", "(II)I"⟩
abbrev cX10_worst : ByteArray := prog_12_method_53_code
def yX10_worst : MethodName := ⟨RX10, "worst", "(I)I"⟩
abbrev cX10_purge : ByteArray := prog_12_method_54_code
def yX10_purge : MethodName := ⟨RX10, "purge", "(I)I"⟩
abbrev cX10_front : ByteArray := prog_12_method_55_code
def yX10_front : MethodName := ⟨RX10, "front", "(II)I"⟩
abbrev cX10_say : ByteArray := prog_12_method_56_code
def yX10_say : MethodName := ⟨RX10, "say", "(I)I"⟩
abbrev cX10_wipe : ByteArray := prog_12_method_57_code
def yX10_wipe : MethodName := ⟨RX10, "wipe", "()I"⟩
abbrev cX10_next : ByteArray := prog_12_method_58_code
def yX10_next : MethodName := ⟨RX10, "next", "()I"⟩
abbrev cX10_takeNumber : ByteArray := prog_12_method_59_code
def yX10_takeNumber : MethodName := ⟨RX10, "takeNumber", "(II)I"⟩
abbrev cX10_need : ByteArray := prog_12_method_60_code
def yX10_need : MethodName := ⟨RX10, "need", "(I)V"⟩
abbrev cX10_takeLeg : ByteArray := prog_12_method_61_code
def yX10_takeLeg : MethodName := ⟨RX10, "takeLeg", "()V"⟩
abbrev cX10_fault : ByteArray := prog_12_method_62_code
def yX10_fault : MethodName := ⟨RX10, "fault", "()I"⟩
abbrev cX10_read : ByteArray := prog_12_method_63_code
def yX10_read : MethodName := ⟨RX10, "read", "()I"⟩
abbrev cX10_save : ByteArray := prog_12_method_64_code
def yX10_save : MethodName := ⟨RX10, "save", "(I)I"⟩
abbrev cX10_restore : ByteArray := prog_12_method_65_code
def yX10_restore : MethodName := ⟨RX10, "restore", "(I)I"⟩
def RJx8e188 : String := "java/lang/Cloneable"
def TJx8e188 : u_T := fun k => match k with
  | _ => ("", "", "", false)
def tyJx8e188 : Nat → FieldType := fun k => match k with
  | _ => .int
abbrev wsJx8e1880 : List Cond := u_ws RJx8e188 TJx8e188 0
theorem nmJx8e188 : ∀ a, a < 0 → ∀ b, b < 0 → a ≠ b → (TJx8e188 a).2.1 ≠ (TJx8e188 b).2.1 := by decide +kernel
theorem tyJx8e188_ok : ∀ k, k < 0 → parseFieldDescriptor (TJx8e188 k).2.2.1 = some (tyJx8e188 k) := by decide +kernel
def RJ9 : String := "java/lang/Math"
def TJ9 : u_T := fun k => match k with
  | _ => ("", "", "", false)
def tyJ9 : Nat → FieldType := fun k => match k with
  | _ => .int
abbrev wsJ90 : List Cond := u_ws RJ9 TJ9 0
theorem nmJ9 : ∀ a, a < 0 → ∀ b, b < 0 → a ≠ b → (TJ9 a).2.1 ≠ (TJ9 b).2.1 := by decide +kernel
theorem tyJ9_ok : ∀ k, k < 0 → parseFieldDescriptor (TJ9 k).2.2.1 = some (tyJ9 k) := by decide +kernel
abbrev cJ9_max_7cf53 : ByteArray := prog_14_method_65_code
def yJ9_max_7cf53 : MethodName := ⟨RJ9, "max", "(II)I"⟩
abbrev cJ9_max_f86c9 : ByteArray := prog_14_method_66_code
def yJ9_max_f86c9 : MethodName := ⟨RJ9, "max", "(JJ)J"⟩
abbrev cJ9_min_7cf53 : ByteArray := prog_14_method_69_code
def yJ9_min_7cf53 : MethodName := ⟨RJ9, "min", "(II)I"⟩
abbrev cJ9_min_f86c9 : ByteArray := prog_14_method_70_code
def yJ9_min_f86c9 : MethodName := ⟨RJ9, "min", "(JJ)J"⟩
def RJ10 : String := "java/lang/System"
def TJ10 : u_T := fun k => match k with
  | _ => ("", "", "", false)
def tyJ10 : Nat → FieldType := fun k => match k with
  | _ => .int
abbrev wsJ100 : List Cond := u_ws RJ10 TJ10 0
theorem nmJ10 : ∀ a, a < 0 → ∀ b, b < 0 → a ≠ b → (TJ10 a).2.1 ≠ (TJ10 b).2.1 := by decide +kernel
theorem tyJ10_ok : ∀ k, k < 0 → parseFieldDescriptor (TJ10 k).2.2.1 = some (tyJ10 k) := by decide +kernel
def RL : String := "DryIceLaneLaw"
abbrev cL_law : ByteArray := code
def yL_law : MethodName := ⟨RL, "law", "([I)Z"⟩
def wsX0_init : List Cond := .code yX0_init cX0_init 1 none :: ([.methodLink RX0 3 objectInit, .instanceMethod objectInit, .code objectInit ⟨#[0xb1]⟩ 1 none])
def wsX0_becomeLike : List Cond := .code yX0_becomeLike cX0_becomeLike 2 none :: ([.fieldLink RX0 9 "DryIceLane$Box" "insulation" "I", .fieldLink RX0 15 "DryIceLane$Box" "tare" "I", .fieldLink RX0 18 "DryIceLane$Box" "ice" "I", .fieldLink RX0 21 "DryIceLane$Box" "paper" "I"] ++ wsX00)
def wsX9_quotient : List Cond := .code yX9_quotient cX9_quotient 4 (some .long) :: ([])
def wsX0_goingOff : List Cond := .code yX0_goingOff cX0_goingOff 5 (some .int) :: ([.constantLong RX0 24 (100), .fieldLink RX0 9 "DryIceLane$Box" "insulation" "I", .methodLink RX0 30 Lib.MathLoose.max_long.x, .static Lib.MathLoose.max_long.x, .initialized "java/lang/Math", .code Lib.MathLoose.max_long.x Lib.MathLoose.max_long.code 4 (some .long), .fieldLink RX0 18 "DryIceLane$Box" "ice" "I", .methodLink RX0 35 Lib.MathLoose.min_long.x, .static Lib.MathLoose.min_long.x, .code Lib.MathLoose.min_long.x Lib.MathLoose.min_long.code 4 (some .long), .static yX9_quotient, .initialized RX9, .code yX9_quotient cX9_quotient 4 (some .long)] ++ wsX00)
def wsX0_take : List Cond := .code yX0_take cX0_take 2 none :: ([.fieldLink RX0 18 "DryIceLane$Box" "ice" "I", .fieldLink RX0 21 "DryIceLane$Box" "paper" "I", .methodLink RX0 38 Lib.Math.max.name, .static Lib.Math.max.name, .initialized "java/lang/Math", .code Lib.Math.max.name Lib.Math.max.code 2 (some .int)] ++ wsX00)
def wsX1_init : List Cond := .code yX1_init cX1_init 1 none :: ([.methodLink RX1 3 objectInit, .instanceMethod objectInit, .code objectInit ⟨#[0xb1]⟩ 1 none, .fieldLink RX1 9 "DryIceLane$Hold" "temperature" "I", .fieldLink RX1 15 "DryIceLane$Hold" "ventMode" "I"] ++ wsX10)
def wsX1_becomeLike : List Cond := .code yX1_becomeLike cX1_becomeLike 2 none :: ([.fieldLink RX1 9 "DryIceLane$Hold" "temperature" "I", .fieldLink RX1 18 "DryIceLane$Hold" "gas" "J", .fieldLink RX1 15 "DryIceLane$Hold" "ventMode" "I", .fieldLink RX1 22 "DryIceLane$Hold" "ventOpen" "Z", .fieldLink RX1 26 "DryIceLane$Hold" "ventMinutes" "I", .fieldLink RX1 29 "DryIceLane$Hold" "doorOpen" "Z", .fieldLink RX1 32 "DryIceLane$Hold" "alarms" "I"] ++ wsX10)
def wsX9_within : List Cond := .code yX9_within cX9_within 3 (some .boolean) :: ([])
def wsX6_value : List Cond := .code yX6_value cX6_value 2 (some .int) :: ([.fieldLink RX6 18 "DryIceLane$Settings" "values" "[I", .static yX9_within, .initialized RX9, .code yX9_within cX9_within 3 (some .boolean)] ++ wsX60)
def wsX1_concentration : List Cond := .code yX1_concentration cX1_concentration 2 (some .long) :: ([.fieldLink RX1 18 "DryIceLane$Hold" "gas" "J", .constantLong RX1 35 (2), .methodLink RX1 37 yX6_value, .instanceMethod yX6_value, .selects RX6 yX6_value yX6_value, .initialized RX6, .code yX6_value cX6_value 2 (some .int), .fieldLink RX6 18 "DryIceLane$Settings" "values" "[I", .static yX9_within, .initialized RX9, .code yX9_within cX9_within 3 (some .boolean), .static yX9_quotient, .code yX9_quotient cX9_quotient 4 (some .long)] ++ wsX10 ++ wsX60)
def wsX1_openVent : List Cond := .code yX1_openVent cX1_openVent 1 none :: ([.fieldLink RX1 22 "DryIceLane$Hold" "ventOpen" "Z"] ++ wsX10)
def wsX1_shutVent : List Cond := .code yX1_shutVent cX1_shutVent 1 none :: ([.fieldLink RX1 22 "DryIceLane$Hold" "ventOpen" "Z", .fieldLink RX1 26 "DryIceLane$Hold" "ventMinutes" "I"] ++ wsX10)
def wsX1_keepToMode : List Cond := .code yX1_keepToMode cX1_keepToMode 1 none :: ([.fieldLink RX1 15 "DryIceLane$Hold" "ventMode" "I", .methodLink RX1 50 yX1_openVent, .instanceMethod yX1_openVent, .selects RX1 yX1_openVent yX1_openVent, .initialized RX1, .code yX1_openVent cX1_openVent 1 none, .fieldLink RX1 22 "DryIceLane$Hold" "ventOpen" "Z", .methodLink RX1 53 yX1_shutVent, .instanceMethod yX1_shutVent, .selects RX1 yX1_shutVent yX1_shutVent, .code yX1_shutVent cX1_shutVent 1 none, .fieldLink RX1 26 "DryIceLane$Hold" "ventMinutes" "I"] ++ wsX10)
def wsX1_setVentMode : List Cond := .code yX1_setVentMode cX1_setVentMode 2 none :: ([.fieldLink RX1 15 "DryIceLane$Hold" "ventMode" "I", .methodLink RX1 47 yX1_keepToMode, .instanceMethod yX1_keepToMode, .selects RX1 yX1_keepToMode yX1_keepToMode, .initialized RX1, .code yX1_keepToMode cX1_keepToMode 1 none, .methodLink RX1 50 yX1_openVent, .instanceMethod yX1_openVent, .selects RX1 yX1_openVent yX1_openVent, .code yX1_openVent cX1_openVent 1 none, .fieldLink RX1 22 "DryIceLane$Hold" "ventOpen" "Z", .methodLink RX1 53 yX1_shutVent, .instanceMethod yX1_shutVent, .selects RX1 yX1_shutVent yX1_shutVent, .code yX1_shutVent cX1_shutVent 1 none, .fieldLink RX1 26 "DryIceLane$Hold" "ventMinutes" "I"] ++ wsX10)
def wsX1_changeTemperature : List Cond := .code yX1_changeTemperature cX1_changeTemperature 6 none :: ([.fieldLink RX1 9 "DryIceLane$Hold" "temperature" "I", .fieldLink RX1 22 "DryIceLane$Hold" "ventOpen" "Z", .fieldLink RX1 29 "DryIceLane$Hold" "doorOpen" "Z", .methodLink RX1 72 Lib.Math.min.name, .static Lib.Math.min.name, .initialized "java/lang/Math", .code Lib.Math.min.name Lib.Math.min.code 2 (some .int), .methodLink RX1 78 Lib.Math.max.name, .static Lib.Math.max.name, .code Lib.Math.max.name Lib.Math.max.code 2 (some .int), .methodLink RX1 37 yX6_value, .instanceMethod yX6_value, .selects RX6 yX6_value yX6_value, .initialized RX6, .code yX6_value cX6_value 2 (some .int), .fieldLink RX6 18 "DryIceLane$Settings" "values" "[I", .static yX9_within, .initialized RX9, .code yX9_within cX9_within 3 (some .boolean), .static yX9_quotient, .code yX9_quotient cX9_quotient 4 (some .long)] ++ wsX10 ++ wsX60)
def wsX1_loseGas : List Cond := .code yX1_loseGas cX1_loseGas 2 none :: ([.fieldLink RX1 18 "DryIceLane$Hold" "gas" "J", .constantLong RX1 81 (1000), .fieldLink RX1 22 "DryIceLane$Hold" "ventOpen" "Z", .fieldLink RX1 29 "DryIceLane$Hold" "doorOpen" "Z", .methodLink RX1 37 yX6_value, .instanceMethod yX6_value, .selects RX6 yX6_value yX6_value, .initialized RX6, .code yX6_value cX6_value 2 (some .int), .fieldLink RX6 18 "DryIceLane$Settings" "values" "[I", .static yX9_within, .initialized RX9, .code yX9_within cX9_within 3 (some .boolean)] ++ wsX10 ++ wsX60)
def wsX1_moveVent_r1 : List Cond := [Cond.fieldLink RX1 15 "DryIceLane$Hold" "ventMode" "I", Cond.fieldLink RX1 22 "DryIceLane$Hold" "ventOpen" "Z", Cond.fieldLink RX1 26 "DryIceLane$Hold" "ventMinutes" "I", Cond.methodLink RX1 47 yX1_keepToMode, Cond.instanceMethod yX1_keepToMode, Cond.selects RX1 yX1_keepToMode yX1_keepToMode, Cond.initialized RX1, Cond.code yX1_keepToMode cX1_keepToMode 1 none, Cond.methodLink RX1 50 yX1_openVent, Cond.instanceMethod yX1_openVent, Cond.selects RX1 yX1_openVent yX1_openVent, Cond.code yX1_openVent cX1_openVent 1 none, Cond.methodLink RX1 53 yX1_shutVent, Cond.instanceMethod yX1_shutVent, Cond.selects RX1 yX1_shutVent yX1_shutVent, Cond.code yX1_shutVent cX1_shutVent 1 none, Cond.methodLink RX1 37 yX6_value, Cond.instanceMethod yX6_value, Cond.selects RX6 yX6_value yX6_value, Cond.initialized RX6, Cond.code yX6_value cX6_value 2 (some .int), Cond.fieldLink RX6 18 "DryIceLane$Settings" "values" "[I", Cond.static yX9_within, Cond.initialized RX9]
def wsX1_moveVent_r2 : List Cond := [Cond.code yX9_within cX9_within 3 (some .boolean)]
def wsX1_moveVent : List Cond := .code yX1_moveVent cX1_moveVent 4 none :: ((wsX1_moveVent_r1 ++ wsX1_moveVent_r2) ++ wsX10 ++ wsX60)
def wsX1_letMinutePass_r1 : List Cond := [Cond.fieldLink RX1 18 "DryIceLane$Hold" "gas" "J", Cond.fieldLink RX1 29 "DryIceLane$Hold" "doorOpen" "Z", Cond.fieldLink RX1 32 "DryIceLane$Hold" "alarms" "I", Cond.methodLink RX1 56 yX1_changeTemperature, Cond.instanceMethod yX1_changeTemperature, Cond.selects RX1 yX1_changeTemperature yX1_changeTemperature, Cond.initialized RX1, Cond.code yX1_changeTemperature cX1_changeTemperature 6 none, Cond.fieldLink RX1 9 "DryIceLane$Hold" "temperature" "I", Cond.fieldLink RX1 22 "DryIceLane$Hold" "ventOpen" "Z", Cond.methodLink RX1 72 Lib.Math.min.name, Cond.static Lib.Math.min.name, Cond.initialized "java/lang/Math", Cond.code Lib.Math.min.name Lib.Math.min.code 2 (some .int), Cond.methodLink RX1 78 Lib.Math.max.name, Cond.static Lib.Math.max.name, Cond.code Lib.Math.max.name Lib.Math.max.code 2 (some .int), Cond.methodLink RX1 37 yX6_value, Cond.instanceMethod yX6_value, Cond.selects RX6 yX6_value yX6_value, Cond.initialized RX6, Cond.code yX6_value cX6_value 2 (some .int), Cond.fieldLink RX6 18 "DryIceLane$Settings" "values" "[I", Cond.static yX9_within]
def wsX1_letMinutePass_r2 : List Cond := [Cond.initialized RX9, Cond.code yX9_within cX9_within 3 (some .boolean), Cond.static yX9_quotient, Cond.code yX9_quotient cX9_quotient 4 (some .long), Cond.methodLink RX1 60 yX1_loseGas, Cond.instanceMethod yX1_loseGas, Cond.selects RX1 yX1_loseGas yX1_loseGas, Cond.code yX1_loseGas cX1_loseGas 2 none, Cond.constantLong RX1 81 (1000), Cond.methodLink RX1 64 yX1_concentration, Cond.instanceMethod yX1_concentration, Cond.selects RX1 yX1_concentration yX1_concentration, Cond.code yX1_concentration cX1_concentration 2 (some .long), Cond.constantLong RX1 35 (2), Cond.methodLink RX1 68 yX1_moveVent, Cond.instanceMethod yX1_moveVent, Cond.selects RX1 yX1_moveVent yX1_moveVent, Cond.code yX1_moveVent cX1_moveVent 4 none, Cond.fieldLink RX1 15 "DryIceLane$Hold" "ventMode" "I", Cond.fieldLink RX1 26 "DryIceLane$Hold" "ventMinutes" "I", Cond.methodLink RX1 47 yX1_keepToMode, Cond.instanceMethod yX1_keepToMode, Cond.selects RX1 yX1_keepToMode yX1_keepToMode, Cond.code yX1_keepToMode cX1_keepToMode 1 none]
def wsX1_letMinutePass_r3 : List Cond := [Cond.methodLink RX1 50 yX1_openVent, Cond.instanceMethod yX1_openVent, Cond.selects RX1 yX1_openVent yX1_openVent, Cond.code yX1_openVent cX1_openVent 1 none, Cond.methodLink RX1 53 yX1_shutVent, Cond.instanceMethod yX1_shutVent, Cond.selects RX1 yX1_shutVent yX1_shutVent, Cond.code yX1_shutVent cX1_shutVent 1 none]
def wsX1_letMinutePass : List Cond := .code yX1_letMinutePass cX1_letMinutePass 6 none :: ((wsX1_letMinutePass_r1 ++ (wsX1_letMinutePass_r2 ++ wsX1_letMinutePass_r3)) ++ wsX10 ++ wsX60)
def wsX2_init : List Cond := .code yX2_init cX2_init 2 none :: ([.methodLink RX2 3 objectInit, .instanceMethod objectInit, .code objectInit ⟨#[0xb1]⟩ 1 none, .classLink RX2 9 RX0, .fieldLink RX2 11 "DryIceLane$Lane" "boxes" "[LDryIceLane$Box;", .instantiable RX0 4, .initialized RX0, .instanceMethod yX0_init, .code yX0_init cX0_init 1 none, .methodLink RX0 3 objectInit] ++ wsX20 ++ wsX00)
def wsX2_becomeLike : List Cond := .code yX2_becomeLike cX2_becomeLike 3 none :: ([.fieldLink RX2 18 "DryIceLane$Lane" "count" "I", .fieldLink RX2 11 "DryIceLane$Lane" "boxes" "[LDryIceLane$Box;", .methodLink RX2 22 yX0_becomeLike, .instanceMethod yX0_becomeLike, .selects RX0 yX0_becomeLike yX0_becomeLike, .initialized RX0, .code yX0_becomeLike cX0_becomeLike 2 none, .fieldLink RX0 9 "DryIceLane$Box" "insulation" "I", .fieldLink RX0 15 "DryIceLane$Box" "tare" "I", .fieldLink RX0 18 "DryIceLane$Box" "ice" "I", .fieldLink RX0 21 "DryIceLane$Box" "paper" "I"] ++ wsX20 ++ wsX00)
def wsX2_boxAt : List Cond := .code yX2_boxAt cX2_boxAt 2 (some (.object "DryIceLane$Box")) :: ([.fieldLink RX2 18 "DryIceLane$Lane" "count" "I", .fieldLink RX2 11 "DryIceLane$Lane" "boxes" "[LDryIceLane$Box;", .static yX9_within, .initialized RX9, .code yX9_within cX9_within 3 (some .boolean)] ++ wsX20)
def wsX2_append : List Cond := .code yX2_append cX2_append 5 none :: ([.fieldLink RX2 18 "DryIceLane$Lane" "count" "I", .fieldLink RX2 11 "DryIceLane$Lane" "boxes" "[LDryIceLane$Box;", .fieldLink RX2 30 "DryIceLane$Box" "insulation" "I", .fieldLink RX2 33 "DryIceLane$Box" "tare" "I", .fieldLink RX2 36 "DryIceLane$Box" "ice" "I", .fieldLink RX2 39 "DryIceLane$Box" "paper" "I"] ++ wsX20 ++ wsX00)
def wsX2_move : List Cond := .code yX2_move cX2_move 5 none :: ([.fieldLink RX2 18 "DryIceLane$Lane" "count" "I", .fieldLink RX2 11 "DryIceLane$Lane" "boxes" "[LDryIceLane$Box;", .static yX9_within, .initialized RX9, .code yX9_within cX9_within 3 (some .boolean)] ++ wsX20)
def wsX2_takeOut : List Cond := .code yX2_takeOut cX2_takeOut 2 none :: ([.fieldLink RX2 18 "DryIceLane$Lane" "count" "I", .static yX9_within, .initialized RX9, .code yX9_within cX9_within 3 (some .boolean), .methodLink RX2 42 yX2_move, .instanceMethod yX2_move, .selects RX2 yX2_move yX2_move, .initialized RX2, .code yX2_move cX2_move 5 none, .fieldLink RX2 11 "DryIceLane$Lane" "boxes" "[LDryIceLane$Box;"] ++ wsX20)
def wsX2_iceOfAll : List Cond := .code yX2_iceOfAll cX2_iceOfAll 3 (some .int) :: ([.fieldLink RX2 18 "DryIceLane$Lane" "count" "I", .fieldLink RX2 11 "DryIceLane$Lane" "boxes" "[LDryIceLane$Box;", .fieldLink RX2 36 "DryIceLane$Box" "ice" "I"] ++ wsX20 ++ wsX00)
def wsX2_takeFromFront : List Cond := .code yX2_takeFromFront cX2_takeFromFront 6 (some .int) :: ([.fieldLink RX2 18 "DryIceLane$Lane" "count" "I", .fieldLink RX2 11 "DryIceLane$Lane" "boxes" "[LDryIceLane$Box;", .fieldLink RX2 36 "DryIceLane$Box" "ice" "I", .methodLink RX2 46 Lib.Math.min.name, .static Lib.Math.min.name, .initialized "java/lang/Math", .code Lib.Math.min.name Lib.Math.min.code 2 (some .int), .methodLink RX2 52 yX0_take, .instanceMethod yX0_take, .selects RX0 yX0_take yX0_take, .initialized RX0, .code yX0_take cX0_take 2 none, .fieldLink RX0 18 "DryIceLane$Box" "ice" "I", .fieldLink RX0 21 "DryIceLane$Box" "paper" "I", .methodLink RX0 38 Lib.Math.max.name, .static Lib.Math.max.name, .code Lib.Math.max.name Lib.Math.max.code 2 (some .int)] ++ wsX20 ++ wsX00)
def wsX2_letGoOff_r1 : List Cond := [Cond.fieldLink RX2 18 "DryIceLane$Lane" "count" "I", Cond.fieldLink RX2 11 "DryIceLane$Lane" "boxes" "[LDryIceLane$Box;", Cond.methodLink RX2 56 yX0_goingOff, Cond.instanceMethod yX0_goingOff, Cond.selects RX0 yX0_goingOff yX0_goingOff, Cond.initialized RX0, Cond.code yX0_goingOff cX0_goingOff 5 (some .int), Cond.constantLong RX0 24 (100), Cond.fieldLink RX0 9 "DryIceLane$Box" "insulation" "I", Cond.methodLink RX0 30 Lib.MathLoose.max_long.x, Cond.static Lib.MathLoose.max_long.x, Cond.initialized "java/lang/Math", Cond.code Lib.MathLoose.max_long.x Lib.MathLoose.max_long.code 4 (some .long), Cond.fieldLink RX0 18 "DryIceLane$Box" "ice" "I", Cond.methodLink RX0 35 Lib.MathLoose.min_long.x, Cond.static Lib.MathLoose.min_long.x, Cond.code Lib.MathLoose.min_long.x Lib.MathLoose.min_long.code 4 (some .long), Cond.static yX9_quotient, Cond.initialized RX9, Cond.code yX9_quotient cX9_quotient 4 (some .long), Cond.methodLink RX2 52 yX0_take, Cond.instanceMethod yX0_take, Cond.selects RX0 yX0_take yX0_take, Cond.code yX0_take cX0_take 2 none]
def wsX2_letGoOff_r2 : List Cond := [Cond.fieldLink RX0 21 "DryIceLane$Box" "paper" "I", Cond.methodLink RX0 38 Lib.Math.max.name, Cond.static Lib.Math.max.name, Cond.code Lib.Math.max.name Lib.Math.max.code 2 (some .int)]
def wsX2_letGoOff : List Cond := .code yX2_letGoOff cX2_letGoOff 6 (some .int) :: ((wsX2_letGoOff_r1 ++ wsX2_letGoOff_r2) ++ wsX20 ++ wsX00)
def wsX3_init : List Cond := .code yX3_init cX3_init 1 none :: ([.methodLink RX3 3 objectInit, .instanceMethod objectInit, .code objectInit ⟨#[0xb1]⟩ 1 none, .arrayClass .int, .fieldLink RX3 9 "DryIceLane$Pad" "codes" "[I"] ++ wsX30)
def wsX3_append : List Cond := .code yX3_append cX3_append 2 none :: ([.fieldLink RX3 15 "DryIceLane$Pad" "length" "I", .fieldLink RX3 9 "DryIceLane$Pad" "codes" "[I"] ++ wsX30)
def wsX3_codeAt : List Cond := .code yX3_codeAt cX3_codeAt 2 (some .int) :: ([.fieldLink RX3 15 "DryIceLane$Pad" "length" "I", .fieldLink RX3 9 "DryIceLane$Pad" "codes" "[I", .static yX9_within, .initialized RX9, .code yX9_within cX9_within 3 (some .boolean)] ++ wsX30)
def wsX4_init : List Cond := .code yX4_init cX4_init 1 none :: ([.methodLink RX4 3 objectInit, .instanceMethod objectInit, .code objectInit ⟨#[0xb1]⟩ 1 none, .arrayClass .int, .fieldLink RX4 9 "DryIceLane$Route" "durations" "[I", .fieldLink RX4 15 "DryIceLane$Route" "outsides" "[I", .fieldLink RX4 18 "DryIceLane$Route" "latest" "I"] ++ wsX40)
def wsX4_becomeLike : List Cond := .code yX4_becomeLike cX4_becomeLike 2 none :: ([.fieldLink RX4 9 "DryIceLane$Route" "durations" "[I", .methodLink RX4 22 arraycopyName, .native arraycopyName, .static arraycopyName, .initialized "java/lang/System", .fieldLink RX4 15 "DryIceLane$Route" "outsides" "[I", .fieldLink RX4 28 "DryIceLane$Route" "count" "I", .fieldLink RX4 18 "DryIceLane$Route" "latest" "I", .fieldLink RX4 31 "DryIceLane$Route" "minutesLeft" "I"] ++ wsX40)
def wsX4_hasLeg : List Cond := .code yX4_hasLeg cX4_hasLeg 2 (some .boolean) :: ([.fieldLink RX4 28 "DryIceLane$Route" "count" "I", .static yX9_within, .initialized RX9, .code yX9_within cX9_within 3 (some .boolean)] ++ wsX40)
def wsX4_hasNextLeg : List Cond := .code yX4_hasNextLeg cX4_hasNextLeg 1 (some .boolean) :: ([.fieldLink RX4 18 "DryIceLane$Route" "latest" "I", .methodLink RX4 38 yX4_hasLeg, .instanceMethod yX4_hasLeg, .selects RX4 yX4_hasLeg yX4_hasLeg, .initialized RX4, .code yX4_hasLeg cX4_hasLeg 2 (some .boolean), .fieldLink RX4 28 "DryIceLane$Route" "count" "I", .static yX9_within, .initialized RX9, .code yX9_within cX9_within 3 (some .boolean)] ++ wsX40)
def wsX4_isOnTheWay : List Cond := .code yX4_isOnTheWay cX4_isOnTheWay 1 (some .boolean) :: ([.fieldLink RX4 31 "DryIceLane$Route" "minutesLeft" "I"] ++ wsX40)
def wsX4_durationOf : List Cond := .code yX4_durationOf cX4_durationOf 2 (some .int) :: ([.fieldLink RX4 9 "DryIceLane$Route" "durations" "[I", .methodLink RX4 38 yX4_hasLeg, .instanceMethod yX4_hasLeg, .selects RX4 yX4_hasLeg yX4_hasLeg, .initialized RX4, .code yX4_hasLeg cX4_hasLeg 2 (some .boolean), .fieldLink RX4 28 "DryIceLane$Route" "count" "I", .static yX9_within, .initialized RX9, .code yX9_within cX9_within 3 (some .boolean)] ++ wsX40)
def wsX4_outsideOf : List Cond := .code yX4_outsideOf cX4_outsideOf 2 (some .int) :: ([.fieldLink RX4 15 "DryIceLane$Route" "outsides" "[I", .methodLink RX4 38 yX4_hasLeg, .instanceMethod yX4_hasLeg, .selects RX4 yX4_hasLeg yX4_hasLeg, .initialized RX4, .code yX4_hasLeg cX4_hasLeg 2 (some .boolean), .fieldLink RX4 28 "DryIceLane$Route" "count" "I", .static yX9_within, .initialized RX9, .code yX9_within cX9_within 3 (some .boolean)] ++ wsX40)
def wsX4_outsideNow : List Cond := .code yX4_outsideNow cX4_outsideNow 1 (some .int) :: ([.fieldLink RX4 18 "DryIceLane$Route" "latest" "I", .fieldLink RX4 15 "DryIceLane$Route" "outsides" "[I", .methodLink RX4 38 yX4_hasLeg, .instanceMethod yX4_hasLeg, .selects RX4 yX4_hasLeg yX4_hasLeg, .initialized RX4, .code yX4_hasLeg cX4_hasLeg 2 (some .boolean), .fieldLink RX4 28 "DryIceLane$Route" "count" "I", .static yX9_within, .initialized RX9, .code yX9_within cX9_within 3 (some .boolean)] ++ wsX40)
def wsX4_append : List Cond := .code yX4_append cX4_append 3 none :: ([.fieldLink RX4 28 "DryIceLane$Route" "count" "I", .fieldLink RX4 9 "DryIceLane$Route" "durations" "[I", .fieldLink RX4 15 "DryIceLane$Route" "outsides" "[I"] ++ wsX40)
def wsX4_beginNextLeg : List Cond := .code yX4_beginNextLeg cX4_beginNextLeg 1 none :: ([.fieldLink RX4 18 "DryIceLane$Route" "latest" "I", .fieldLink RX4 9 "DryIceLane$Route" "durations" "[I", .fieldLink RX4 31 "DryIceLane$Route" "minutesLeft" "I", .methodLink RX4 42 yX4_hasNextLeg, .instanceMethod yX4_hasNextLeg, .selects RX4 yX4_hasNextLeg yX4_hasNextLeg, .initialized RX4, .code yX4_hasNextLeg cX4_hasNextLeg 1 (some .boolean), .methodLink RX4 38 yX4_hasLeg, .instanceMethod yX4_hasLeg, .selects RX4 yX4_hasLeg yX4_hasLeg, .code yX4_hasLeg cX4_hasLeg 2 (some .boolean), .fieldLink RX4 28 "DryIceLane$Route" "count" "I", .static yX9_within, .initialized RX9, .code yX9_within cX9_within 3 (some .boolean)] ++ wsX40)
def wsX4_letMinutePass : List Cond := .code yX4_letMinutePass cX4_letMinutePass 1 none :: ([.fieldLink RX4 31 "DryIceLane$Route" "minutesLeft" "I", .methodLink RX4 46 yX4_isOnTheWay, .instanceMethod yX4_isOnTheWay, .selects RX4 yX4_isOnTheWay yX4_isOnTheWay, .initialized RX4, .code yX4_isOnTheWay cX4_isOnTheWay 1 (some .boolean)] ++ wsX40)
def wsX5_init : List Cond := .code yX5_init cX5_init 1 none :: ([.methodLink RX5 3 objectInit, .instanceMethod objectInit, .code objectInit ⟨#[0xb1]⟩ 1 none, .arrayClass .int, .fieldLink RX5 11 "DryIceLane$RouteReader" "durations" "[I", .fieldLink RX5 15 "DryIceLane$RouteReader" "outsides" "[I"] ++ wsX50)
def wsX5_isDigit : List Cond := .code yX5_isDigit cX5_isDigit 1 (some .boolean) :: ([.static yX9_within, .initialized RX9, .code yX9_within cX9_within 3 (some .boolean)])
def wsX5_startsNumber : List Cond := .code yX5_startsNumber cX5_startsNumber 5 (some .boolean) :: ([.fieldLink RX5 64 "DryIceLane$RouteReader" "number" "I", .fieldLink RX5 22 "DryIceLane$RouteReader" "state" "I", .methodLink RX5 67 yX5_isDigit, .static yX5_isDigit, .initialized RX5, .code yX5_isDigit cX5_isDigit 1 (some .boolean), .static yX9_within, .initialized RX9, .code yX9_within cX9_within 3 (some .boolean)] ++ wsX50)
def wsX5_endsDuration : List Cond := .code yX5_endsDuration cX5_endsDuration 1 (some .boolean) :: ([.fieldLink RX5 64 "DryIceLane$RouteReader" "number" "I", .fieldLink RX5 70 "DryIceLane$RouteReader" "duration" "I", .fieldLink RX5 73 "DryIceLane$RouteReader" "below" "Z", .fieldLink RX5 22 "DryIceLane$RouteReader" "state" "I"] ++ wsX50)
def wsX5_continuesNumber : List Cond := .code yX5_continuesNumber cX5_continuesNumber 3 (some .boolean) :: ([.fieldLink RX5 64 "DryIceLane$RouteReader" "number" "I", .methodLink RX5 67 yX5_isDigit, .static yX5_isDigit, .initialized RX5, .code yX5_isDigit cX5_isDigit 1 (some .boolean), .static yX9_within, .initialized RX9, .code yX9_within cX9_within 3 (some .boolean)] ++ wsX50)
def wsX5_mostDegrees : List Cond := .code yX5_mostDegrees cX5_mostDegrees 1 (some .int) :: ([.fieldLink RX5 73 "DryIceLane$RouteReader" "below" "Z"] ++ wsX50)
def wsX5_startsDegrees : List Cond := .code yX5_startsDegrees cX5_startsDegrees 2 (some .boolean) :: ([.fieldLink RX5 73 "DryIceLane$RouteReader" "below" "Z", .fieldLink RX5 22 "DryIceLane$RouteReader" "state" "I", .methodLink RX5 60 yX5_mostDegrees, .instanceMethod yX5_mostDegrees, .selects RX5 yX5_mostDegrees yX5_mostDegrees, .initialized RX5, .code yX5_mostDegrees cX5_mostDegrees 1 (some .int), .methodLink RX5 46 yX5_startsNumber, .instanceMethod yX5_startsNumber, .selects RX5 yX5_startsNumber yX5_startsNumber, .code yX5_startsNumber cX5_startsNumber 5 (some .boolean), .fieldLink RX5 64 "DryIceLane$RouteReader" "number" "I", .methodLink RX5 67 yX5_isDigit, .static yX5_isDigit, .code yX5_isDigit cX5_isDigit 1 (some .boolean), .static yX9_within, .initialized RX9, .code yX9_within cX9_within 3 (some .boolean)] ++ wsX50)
def wsX5_endLeg : List Cond := .code yX5_endLeg cX5_endLeg 1 (some .boolean) :: ([.fieldLink RX5 18 "DryIceLane$RouteReader" "legs" "I", .fieldLink RX5 11 "DryIceLane$RouteReader" "durations" "[I", .fieldLink RX5 70 "DryIceLane$RouteReader" "duration" "I", .fieldLink RX5 15 "DryIceLane$RouteReader" "outsides" "[I", .fieldLink RX5 73 "DryIceLane$RouteReader" "below" "Z", .fieldLink RX5 64 "DryIceLane$RouteReader" "number" "I", .fieldLink RX5 22 "DryIceLane$RouteReader" "state" "I"] ++ wsX50)
def wsX5_takes_r1 : List Cond := [Cond.fieldLink RX5 22 "DryIceLane$RouteReader" "state" "I", Cond.methodLink RX5 46 yX5_startsNumber, Cond.instanceMethod yX5_startsNumber, Cond.selects RX5 yX5_startsNumber yX5_startsNumber, Cond.initialized RX5, Cond.code yX5_startsNumber cX5_startsNumber 5 (some .boolean), Cond.fieldLink RX5 64 "DryIceLane$RouteReader" "number" "I", Cond.methodLink RX5 67 yX5_isDigit, Cond.static yX5_isDigit, Cond.code yX5_isDigit cX5_isDigit 1 (some .boolean), Cond.static yX9_within, Cond.initialized RX9, Cond.code yX9_within cX9_within 3 (some .boolean), Cond.methodLink RX5 50 yX5_endsDuration, Cond.instanceMethod yX5_endsDuration, Cond.selects RX5 yX5_endsDuration yX5_endsDuration, Cond.code yX5_endsDuration cX5_endsDuration 1 (some .boolean), Cond.fieldLink RX5 70 "DryIceLane$RouteReader" "duration" "I", Cond.fieldLink RX5 73 "DryIceLane$RouteReader" "below" "Z", Cond.methodLink RX5 53 yX5_continuesNumber, Cond.instanceMethod yX5_continuesNumber, Cond.selects RX5 yX5_continuesNumber yX5_continuesNumber, Cond.code yX5_continuesNumber cX5_continuesNumber 3 (some .boolean), Cond.methodLink RX5 57 yX5_startsDegrees]
def wsX5_takes_r2 : List Cond := [Cond.instanceMethod yX5_startsDegrees, Cond.selects RX5 yX5_startsDegrees yX5_startsDegrees, Cond.code yX5_startsDegrees cX5_startsDegrees 2 (some .boolean), Cond.methodLink RX5 60 yX5_mostDegrees, Cond.instanceMethod yX5_mostDegrees, Cond.selects RX5 yX5_mostDegrees yX5_mostDegrees, Cond.code yX5_mostDegrees cX5_mostDegrees 1 (some .int), Cond.methodLink RX5 38 yX5_endLeg, Cond.instanceMethod yX5_endLeg, Cond.selects RX5 yX5_endLeg yX5_endLeg, Cond.code yX5_endLeg cX5_endLeg 1 (some .boolean), Cond.fieldLink RX5 18 "DryIceLane$RouteReader" "legs" "I", Cond.fieldLink RX5 11 "DryIceLane$RouteReader" "durations" "[I", Cond.fieldLink RX5 15 "DryIceLane$RouteReader" "outsides" "[I"]
def wsX5_takes : List Cond := .code yX5_takes cX5_takes 2 (some .boolean) :: ((wsX5_takes_r1 ++ wsX5_takes_r2) ++ wsX50)
def wsX5_faultOf_r1 : List Cond := [Cond.fieldLink RX5 18 "DryIceLane$RouteReader" "legs" "I", Cond.fieldLink RX5 22 "DryIceLane$RouteReader" "state" "I", Cond.fieldLink RX5 25 "DryIceLane$Pad" "length" "I", Cond.methodLink RX5 30 yX3_codeAt, Cond.instanceMethod yX3_codeAt, Cond.selects RX3 yX3_codeAt yX3_codeAt, Cond.initialized RX3, Cond.code yX3_codeAt cX3_codeAt 2 (some .int), Cond.fieldLink RX3 15 "DryIceLane$Pad" "length" "I", Cond.fieldLink RX3 9 "DryIceLane$Pad" "codes" "[I", Cond.static yX9_within, Cond.initialized RX9, Cond.code yX9_within cX9_within 3 (some .boolean), Cond.methodLink RX5 34 yX5_takes, Cond.instanceMethod yX5_takes, Cond.selects RX5 yX5_takes yX5_takes, Cond.initialized RX5, Cond.code yX5_takes cX5_takes 2 (some .boolean), Cond.methodLink RX5 46 yX5_startsNumber, Cond.instanceMethod yX5_startsNumber, Cond.selects RX5 yX5_startsNumber yX5_startsNumber, Cond.code yX5_startsNumber cX5_startsNumber 5 (some .boolean), Cond.fieldLink RX5 64 "DryIceLane$RouteReader" "number" "I", Cond.methodLink RX5 67 yX5_isDigit]
def wsX5_faultOf_r2 : List Cond := [Cond.static yX5_isDigit, Cond.code yX5_isDigit cX5_isDigit 1 (some .boolean), Cond.methodLink RX5 50 yX5_endsDuration, Cond.instanceMethod yX5_endsDuration, Cond.selects RX5 yX5_endsDuration yX5_endsDuration, Cond.code yX5_endsDuration cX5_endsDuration 1 (some .boolean), Cond.fieldLink RX5 70 "DryIceLane$RouteReader" "duration" "I", Cond.fieldLink RX5 73 "DryIceLane$RouteReader" "below" "Z", Cond.methodLink RX5 53 yX5_continuesNumber, Cond.instanceMethod yX5_continuesNumber, Cond.selects RX5 yX5_continuesNumber yX5_continuesNumber, Cond.code yX5_continuesNumber cX5_continuesNumber 3 (some .boolean), Cond.methodLink RX5 57 yX5_startsDegrees, Cond.instanceMethod yX5_startsDegrees, Cond.selects RX5 yX5_startsDegrees yX5_startsDegrees, Cond.code yX5_startsDegrees cX5_startsDegrees 2 (some .boolean), Cond.methodLink RX5 60 yX5_mostDegrees, Cond.instanceMethod yX5_mostDegrees, Cond.selects RX5 yX5_mostDegrees yX5_mostDegrees, Cond.code yX5_mostDegrees cX5_mostDegrees 1 (some .int), Cond.methodLink RX5 38 yX5_endLeg, Cond.instanceMethod yX5_endLeg, Cond.selects RX5 yX5_endLeg yX5_endLeg, Cond.code yX5_endLeg cX5_endLeg 1 (some .boolean)]
def wsX5_faultOf_r3 : List Cond := [Cond.fieldLink RX5 11 "DryIceLane$RouteReader" "durations" "[I", Cond.fieldLink RX5 15 "DryIceLane$RouteReader" "outsides" "[I"]
def wsX5_faultOf : List Cond := .code yX5_faultOf cX5_faultOf 3 (some .int) :: ((wsX5_faultOf_r1 ++ (wsX5_faultOf_r2 ++ wsX5_faultOf_r3)) ++ wsX50 ++ wsX30)
def wsX5_durationOf : List Cond := .code yX5_durationOf cX5_durationOf 2 (some .int) :: ([.fieldLink RX5 11 "DryIceLane$RouteReader" "durations" "[I", .static yX9_within, .initialized RX9, .code yX9_within cX9_within 3 (some .boolean)] ++ wsX50)
def wsX5_outsideOf : List Cond := .code yX5_outsideOf cX5_outsideOf 2 (some .int) :: ([.fieldLink RX5 15 "DryIceLane$RouteReader" "outsides" "[I", .static yX9_within, .initialized RX9, .code yX9_within cX9_within 3 (some .boolean)] ++ wsX50)
def wsX6_init : List Cond := .code yX6_init cX6_init 1 none :: ([.methodLink RX6 3 objectInit, .instanceMethod objectInit, .code objectInit ⟨#[0xb1]⟩ 1 none, .methodLink RX6 13 ⟨"[I", "clone", "()Ljava/lang/Object;"⟩, .sameMethod "[I" "java/lang/Object" "clone" "()Ljava/lang/Object;", .native ⟨"java/lang/Object", "clone", "()Ljava/lang/Object;"⟩, .instanceMethod ⟨"java/lang/Object", "clone", "()Ljava/lang/Object;"⟩, .selects "[I" ⟨"[I", "clone", "()Ljava/lang/Object;"⟩ ⟨"java/lang/Object", "clone", "()Ljava/lang/Object;"⟩, .classLink RX6 14 "[I", .fieldLink RX6 18 "DryIceLane$Settings" "values" "[I"] ++ wsX60)
def wsX6_becomeLike : List Cond := .code yX6_becomeLike cX6_becomeLike 2 none :: ([.fieldLink RX6 18 "DryIceLane$Settings" "values" "[I", .methodLink RX6 23 arraycopyName, .native arraycopyName, .static arraycopyName, .initialized "java/lang/System"] ++ wsX60)
def wsX6_allows : List Cond := .code yX6_allows cX6_allows 3 (some .boolean) :: ([.static yX9_within, .initialized RX9, .code yX9_within cX9_within 3 (some .boolean)])
def wsX6_change : List Cond := .code yX6_change cX6_change 4 (some .int) :: ([.fieldLink RX6 18 "DryIceLane$Settings" "values" "[I", .methodLink RX6 39 yX6_value, .instanceMethod yX6_value, .selects RX6 yX6_value yX6_value, .initialized RX6, .code yX6_value cX6_value 2 (some .int), .static yX9_within, .initialized RX9, .code yX9_within cX9_within 3 (some .boolean), .methodLink RX6 43 yX6_allows, .instanceMethod yX6_allows, .selects RX6 yX6_allows yX6_allows, .code yX6_allows cX6_allows 3 (some .boolean)] ++ wsX60)
def wsX8_init_r1 : List Cond := [Cond.methodLink RX8 3 objectInit, Cond.instanceMethod objectInit, Cond.code objectInit ⟨#[0xb1]⟩ 1 none, Cond.classLink RX8 9 RX6, Cond.instantiable RX6 1, Cond.initialized RX6, Cond.fieldLink RX8 12 "DryIceLane$Van" "settings" "LDryIceLane$Settings;", Cond.classLink RX8 18 RX2, Cond.instantiable RX2 2, Cond.initialized RX2, Cond.fieldLink RX8 21 "DryIceLane$Van" "lane" "LDryIceLane$Lane;", Cond.classLink RX8 25 RX1, Cond.instantiable RX1 7, Cond.initialized RX1, Cond.fieldLink RX8 28 "DryIceLane$Van" "hold" "LDryIceLane$Hold;", Cond.classLink RX8 32 RX4, Cond.instantiable RX4 5, Cond.initialized RX4, Cond.fieldLink RX8 35 "DryIceLane$Van" "route" "LDryIceLane$Route;", Cond.instanceMethod yX6_init, Cond.code yX6_init cX6_init 1 none, Cond.methodLink RX6 3 objectInit, Cond.methodLink RX6 13 ⟨"[I", "clone", "()Ljava/lang/Object;"⟩, Cond.sameMethod "[I" "java/lang/Object" "clone" "()Ljava/lang/Object;"]
def wsX8_init_r2 : List Cond := [Cond.native ⟨"java/lang/Object", "clone", "()Ljava/lang/Object;"⟩, Cond.instanceMethod ⟨"java/lang/Object", "clone", "()Ljava/lang/Object;"⟩, Cond.selects "[I" ⟨"[I", "clone", "()Ljava/lang/Object;"⟩ ⟨"java/lang/Object", "clone", "()Ljava/lang/Object;"⟩, Cond.classLink RX6 14 "[I", Cond.fieldLink RX6 18 "DryIceLane$Settings" "values" "[I", Cond.methodLink RX8 20 yX2_init, Cond.instanceMethod yX2_init, Cond.code yX2_init cX2_init 2 none, Cond.methodLink RX2 3 objectInit, Cond.classLink RX2 9 RX0, Cond.fieldLink RX2 11 "DryIceLane$Lane" "boxes" "[LDryIceLane$Box;", Cond.instantiable RX0 4, Cond.initialized RX0, Cond.instanceMethod yX0_init, Cond.code yX0_init cX0_init 1 none, Cond.methodLink RX0 3 objectInit, Cond.instanceMethod yX1_init, Cond.code yX1_init cX1_init 1 none, Cond.methodLink RX1 3 objectInit, Cond.fieldLink RX1 9 "DryIceLane$Hold" "temperature" "I", Cond.fieldLink RX1 15 "DryIceLane$Hold" "ventMode" "I", Cond.instanceMethod yX4_init, Cond.code yX4_init cX4_init 1 none, Cond.methodLink RX4 3 objectInit]
def wsX8_init_r3 : List Cond := [Cond.arrayClass .int, Cond.fieldLink RX4 9 "DryIceLane$Route" "durations" "[I", Cond.fieldLink RX4 15 "DryIceLane$Route" "outsides" "[I", Cond.fieldLink RX4 18 "DryIceLane$Route" "latest" "I"]
def wsX8_init : List Cond := .code yX8_init cX8_init 1 none :: ((wsX8_init_r1 ++ (wsX8_init_r2 ++ wsX8_init_r3)) ++ wsX60 ++ wsX80 ++ wsX20 ++ wsX10 ++ wsX40 ++ wsX00)
def wsX7_init_r1 : List Cond := [Cond.methodLink RX7 1 objectInit, Cond.instanceMethod objectInit, Cond.code objectInit ⟨#[0xb1]⟩ 1 none, Cond.classLink RX7 7 RX8, Cond.instantiable RX8 10, Cond.initialized RX8, Cond.fieldLink RX7 10 "DryIceLane$Slot" "kept" "LDryIceLane$Van;", Cond.instanceMethod yX8_init, Cond.code yX8_init cX8_init 1 none, Cond.methodLink RX8 3 objectInit, Cond.classLink RX8 9 RX6, Cond.instantiable RX6 1, Cond.initialized RX6, Cond.fieldLink RX8 12 "DryIceLane$Van" "settings" "LDryIceLane$Settings;", Cond.classLink RX8 18 RX2, Cond.instantiable RX2 2, Cond.initialized RX2, Cond.fieldLink RX8 21 "DryIceLane$Van" "lane" "LDryIceLane$Lane;", Cond.classLink RX8 25 RX1, Cond.instantiable RX1 7, Cond.initialized RX1, Cond.fieldLink RX8 28 "DryIceLane$Van" "hold" "LDryIceLane$Hold;", Cond.classLink RX8 32 RX4, Cond.instantiable RX4 5]
def wsX7_init_r2 : List Cond := [Cond.initialized RX4, Cond.fieldLink RX8 35 "DryIceLane$Van" "route" "LDryIceLane$Route;", Cond.instanceMethod yX6_init, Cond.code yX6_init cX6_init 1 none, Cond.methodLink RX6 3 objectInit, Cond.methodLink RX6 13 ⟨"[I", "clone", "()Ljava/lang/Object;"⟩, Cond.sameMethod "[I" "java/lang/Object" "clone" "()Ljava/lang/Object;", Cond.native ⟨"java/lang/Object", "clone", "()Ljava/lang/Object;"⟩, Cond.instanceMethod ⟨"java/lang/Object", "clone", "()Ljava/lang/Object;"⟩, Cond.selects "[I" ⟨"[I", "clone", "()Ljava/lang/Object;"⟩ ⟨"java/lang/Object", "clone", "()Ljava/lang/Object;"⟩, Cond.classLink RX6 14 "[I", Cond.fieldLink RX6 18 "DryIceLane$Settings" "values" "[I", Cond.methodLink RX8 20 yX2_init, Cond.instanceMethod yX2_init, Cond.code yX2_init cX2_init 2 none, Cond.methodLink RX2 3 objectInit, Cond.classLink RX2 9 RX0, Cond.fieldLink RX2 11 "DryIceLane$Lane" "boxes" "[LDryIceLane$Box;", Cond.instantiable RX0 4, Cond.initialized RX0, Cond.instanceMethod yX0_init, Cond.code yX0_init cX0_init 1 none, Cond.methodLink RX0 3 objectInit, Cond.instanceMethod yX1_init]
def wsX7_init_r3 : List Cond := [Cond.code yX1_init cX1_init 1 none, Cond.methodLink RX1 3 objectInit, Cond.fieldLink RX1 9 "DryIceLane$Hold" "temperature" "I", Cond.fieldLink RX1 15 "DryIceLane$Hold" "ventMode" "I", Cond.instanceMethod yX4_init, Cond.code yX4_init cX4_init 1 none, Cond.methodLink RX4 3 objectInit, Cond.arrayClass .int, Cond.fieldLink RX4 9 "DryIceLane$Route" "durations" "[I", Cond.fieldLink RX4 15 "DryIceLane$Route" "outsides" "[I", Cond.fieldLink RX4 18 "DryIceLane$Route" "latest" "I"]
def wsX7_init : List Cond := .code yX7_init cX7_init 1 none :: ((wsX7_init_r1 ++ (wsX7_init_r2 ++ wsX7_init_r3)) ++ wsX80 ++ wsX70 ++ wsX60 ++ wsX20 ++ wsX10 ++ wsX40 ++ wsX00)
def wsX8_becomeLike_r1 : List Cond := [Cond.fieldLink RX8 12 "DryIceLane$Van" "settings" "LDryIceLane$Settings;", Cond.fieldLink RX8 21 "DryIceLane$Van" "lane" "LDryIceLane$Lane;", Cond.fieldLink RX8 28 "DryIceLane$Van" "hold" "LDryIceLane$Hold;", Cond.fieldLink RX8 35 "DryIceLane$Van" "route" "LDryIceLane$Route;", Cond.fieldLink RX8 52 "DryIceLane$Van" "time" "I", Cond.fieldLink RX8 56 "DryIceLane$Van" "putIn" "J", Cond.fieldLink RX8 60 "DryIceLane$Van" "takenOut" "J", Cond.fieldLink RX8 63 "DryIceLane$Van" "wentOff" "J", Cond.fieldLink RX8 66 "DryIceLane$Van" "sold" "J", Cond.fieldLink RX8 69 "DryIceLane$Van" "spilled" "J", Cond.methodLink RX8 39 yX6_becomeLike, Cond.instanceMethod yX6_becomeLike, Cond.selects RX6 yX6_becomeLike yX6_becomeLike, Cond.initialized RX6, Cond.code yX6_becomeLike cX6_becomeLike 2 none, Cond.fieldLink RX6 18 "DryIceLane$Settings" "values" "[I", Cond.methodLink RX6 23 arraycopyName, Cond.native arraycopyName, Cond.static arraycopyName, Cond.initialized "java/lang/System", Cond.methodLink RX8 43 yX2_becomeLike, Cond.instanceMethod yX2_becomeLike, Cond.selects RX2 yX2_becomeLike yX2_becomeLike, Cond.initialized RX2]
def wsX8_becomeLike_r2 : List Cond := [Cond.code yX2_becomeLike cX2_becomeLike 3 none, Cond.fieldLink RX2 18 "DryIceLane$Lane" "count" "I", Cond.fieldLink RX2 11 "DryIceLane$Lane" "boxes" "[LDryIceLane$Box;", Cond.methodLink RX2 22 yX0_becomeLike, Cond.instanceMethod yX0_becomeLike, Cond.selects RX0 yX0_becomeLike yX0_becomeLike, Cond.initialized RX0, Cond.code yX0_becomeLike cX0_becomeLike 2 none, Cond.fieldLink RX0 9 "DryIceLane$Box" "insulation" "I", Cond.fieldLink RX0 15 "DryIceLane$Box" "tare" "I", Cond.fieldLink RX0 18 "DryIceLane$Box" "ice" "I", Cond.fieldLink RX0 21 "DryIceLane$Box" "paper" "I", Cond.methodLink RX8 46 yX1_becomeLike, Cond.instanceMethod yX1_becomeLike, Cond.selects RX1 yX1_becomeLike yX1_becomeLike, Cond.initialized RX1, Cond.code yX1_becomeLike cX1_becomeLike 2 none, Cond.fieldLink RX1 9 "DryIceLane$Hold" "temperature" "I", Cond.fieldLink RX1 18 "DryIceLane$Hold" "gas" "J", Cond.fieldLink RX1 15 "DryIceLane$Hold" "ventMode" "I", Cond.fieldLink RX1 22 "DryIceLane$Hold" "ventOpen" "Z", Cond.fieldLink RX1 26 "DryIceLane$Hold" "ventMinutes" "I", Cond.fieldLink RX1 29 "DryIceLane$Hold" "doorOpen" "Z", Cond.fieldLink RX1 32 "DryIceLane$Hold" "alarms" "I"]
def wsX8_becomeLike_r3 : List Cond := [Cond.methodLink RX8 49 yX4_becomeLike, Cond.instanceMethod yX4_becomeLike, Cond.selects RX4 yX4_becomeLike yX4_becomeLike, Cond.initialized RX4, Cond.code yX4_becomeLike cX4_becomeLike 2 none, Cond.fieldLink RX4 9 "DryIceLane$Route" "durations" "[I", Cond.methodLink RX4 22 arraycopyName, Cond.fieldLink RX4 15 "DryIceLane$Route" "outsides" "[I", Cond.fieldLink RX4 28 "DryIceLane$Route" "count" "I", Cond.fieldLink RX4 18 "DryIceLane$Route" "latest" "I", Cond.fieldLink RX4 31 "DryIceLane$Route" "minutesLeft" "I"]
def wsX8_becomeLike : List Cond := .code yX8_becomeLike cX8_becomeLike 2 none :: ((wsX8_becomeLike_r1 ++ (wsX8_becomeLike_r2 ++ wsX8_becomeLike_r3)) ++ wsX80 ++ wsX60 ++ wsX20 ++ wsX00 ++ wsX10 ++ wsX40)
def wsX8_concentration : List Cond := .code yX8_concentration cX8_concentration 1 (some .long) :: ([.fieldLink RX8 28 "DryIceLane$Van" "hold" "LDryIceLane$Hold;", .fieldLink RX8 12 "DryIceLane$Van" "settings" "LDryIceLane$Settings;", .methodLink RX8 72 yX1_concentration, .instanceMethod yX1_concentration, .selects RX1 yX1_concentration yX1_concentration, .initialized RX1, .code yX1_concentration cX1_concentration 2 (some .long), .fieldLink RX1 18 "DryIceLane$Hold" "gas" "J", .constantLong RX1 35 (2), .methodLink RX1 37 yX6_value, .instanceMethod yX6_value, .selects RX6 yX6_value yX6_value, .initialized RX6, .code yX6_value cX6_value 2 (some .int), .fieldLink RX6 18 "DryIceLane$Settings" "values" "[I", .static yX9_within, .initialized RX9, .code yX9_within cX9_within 3 (some .boolean), .static yX9_quotient, .code yX9_quotient cX9_quotient 4 (some .long)] ++ wsX80 ++ wsX10 ++ wsX60)
def wsX8_isSafe_r1 : List Cond := [Cond.fieldLink RX8 12 "DryIceLane$Van" "settings" "LDryIceLane$Settings;", Cond.methodLink RX8 76 yX8_concentration, Cond.instanceMethod yX8_concentration, Cond.selects RX8 yX8_concentration yX8_concentration, Cond.initialized RX8, Cond.code yX8_concentration cX8_concentration 1 (some .long), Cond.fieldLink RX8 28 "DryIceLane$Van" "hold" "LDryIceLane$Hold;", Cond.methodLink RX8 72 yX1_concentration, Cond.instanceMethod yX1_concentration, Cond.selects RX1 yX1_concentration yX1_concentration, Cond.initialized RX1, Cond.code yX1_concentration cX1_concentration 2 (some .long), Cond.fieldLink RX1 18 "DryIceLane$Hold" "gas" "J", Cond.constantLong RX1 35 (2), Cond.methodLink RX1 37 yX6_value, Cond.instanceMethod yX6_value, Cond.selects RX6 yX6_value yX6_value, Cond.initialized RX6, Cond.code yX6_value cX6_value 2 (some .int), Cond.fieldLink RX6 18 "DryIceLane$Settings" "values" "[I", Cond.static yX9_within, Cond.initialized RX9, Cond.code yX9_within cX9_within 3 (some .boolean), Cond.static yX9_quotient]
def wsX8_isSafe_r2 : List Cond := [Cond.code yX9_quotient cX9_quotient 4 (some .long), Cond.methodLink RX8 79 yX6_value]
def wsX8_isSafe : List Cond := .code yX8_isSafe cX8_isSafe 1 (some .boolean) :: ((wsX8_isSafe_r1 ++ wsX8_isSafe_r2) ++ wsX80 ++ wsX10 ++ wsX60)
def wsX8_letMinutePass_r1 : List Cond := [Cond.fieldLink RX8 21 "DryIceLane$Van" "lane" "LDryIceLane$Lane;", Cond.fieldLink RX8 28 "DryIceLane$Van" "hold" "LDryIceLane$Hold;", Cond.fieldLink RX8 86 "DryIceLane$Hold" "temperature" "I", Cond.fieldLink RX8 12 "DryIceLane$Van" "settings" "LDryIceLane$Settings;", Cond.fieldLink RX8 63 "DryIceLane$Van" "wentOff" "J", Cond.fieldLink RX8 35 "DryIceLane$Van" "route" "LDryIceLane$Route;", Cond.fieldLink RX8 52 "DryIceLane$Van" "time" "I", Cond.methodLink RX8 79 yX6_value, Cond.instanceMethod yX6_value, Cond.selects RX6 yX6_value yX6_value, Cond.initialized RX6, Cond.code yX6_value cX6_value 2 (some .int), Cond.fieldLink RX6 18 "DryIceLane$Settings" "values" "[I", Cond.static yX9_within, Cond.initialized RX9, Cond.code yX9_within cX9_within 3 (some .boolean), Cond.methodLink RX8 89 yX2_letGoOff, Cond.instanceMethod yX2_letGoOff, Cond.selects RX2 yX2_letGoOff yX2_letGoOff, Cond.initialized RX2, Cond.code yX2_letGoOff cX2_letGoOff 6 (some .int), Cond.fieldLink RX2 18 "DryIceLane$Lane" "count" "I", Cond.fieldLink RX2 11 "DryIceLane$Lane" "boxes" "[LDryIceLane$Box;", Cond.methodLink RX2 56 yX0_goingOff]
def wsX8_letMinutePass_r2 : List Cond := [Cond.instanceMethod yX0_goingOff, Cond.selects RX0 yX0_goingOff yX0_goingOff, Cond.initialized RX0, Cond.code yX0_goingOff cX0_goingOff 5 (some .int), Cond.constantLong RX0 24 (100), Cond.fieldLink RX0 9 "DryIceLane$Box" "insulation" "I", Cond.methodLink RX0 30 Lib.MathLoose.max_long.x, Cond.static Lib.MathLoose.max_long.x, Cond.initialized "java/lang/Math", Cond.code Lib.MathLoose.max_long.x Lib.MathLoose.max_long.code 4 (some .long), Cond.fieldLink RX0 18 "DryIceLane$Box" "ice" "I", Cond.methodLink RX0 35 Lib.MathLoose.min_long.x, Cond.static Lib.MathLoose.min_long.x, Cond.code Lib.MathLoose.min_long.x Lib.MathLoose.min_long.code 4 (some .long), Cond.static yX9_quotient, Cond.code yX9_quotient cX9_quotient 4 (some .long), Cond.methodLink RX2 52 yX0_take, Cond.instanceMethod yX0_take, Cond.selects RX0 yX0_take yX0_take, Cond.code yX0_take cX0_take 2 none, Cond.fieldLink RX0 21 "DryIceLane$Box" "paper" "I", Cond.methodLink RX0 38 Lib.Math.max.name, Cond.static Lib.Math.max.name, Cond.code Lib.Math.max.name Lib.Math.max.code 2 (some .int)]
def wsX8_letMinutePass_r3 : List Cond := [Cond.methodLink RX8 93 yX4_outsideNow, Cond.instanceMethod yX4_outsideNow, Cond.selects RX4 yX4_outsideNow yX4_outsideNow, Cond.initialized RX4, Cond.code yX4_outsideNow cX4_outsideNow 1 (some .int), Cond.fieldLink RX4 18 "DryIceLane$Route" "latest" "I", Cond.fieldLink RX4 15 "DryIceLane$Route" "outsides" "[I", Cond.methodLink RX4 38 yX4_hasLeg, Cond.instanceMethod yX4_hasLeg, Cond.selects RX4 yX4_hasLeg yX4_hasLeg, Cond.code yX4_hasLeg cX4_hasLeg 2 (some .boolean), Cond.fieldLink RX4 28 "DryIceLane$Route" "count" "I", Cond.methodLink RX8 97 yX1_letMinutePass, Cond.instanceMethod yX1_letMinutePass, Cond.selects RX1 yX1_letMinutePass yX1_letMinutePass, Cond.initialized RX1, Cond.code yX1_letMinutePass cX1_letMinutePass 6 none, Cond.fieldLink RX1 18 "DryIceLane$Hold" "gas" "J", Cond.fieldLink RX1 29 "DryIceLane$Hold" "doorOpen" "Z", Cond.fieldLink RX1 32 "DryIceLane$Hold" "alarms" "I", Cond.methodLink RX1 56 yX1_changeTemperature, Cond.instanceMethod yX1_changeTemperature, Cond.selects RX1 yX1_changeTemperature yX1_changeTemperature, Cond.code yX1_changeTemperature cX1_changeTemperature 6 none]
def wsX8_letMinutePass_r4 : List Cond := [Cond.fieldLink RX1 9 "DryIceLane$Hold" "temperature" "I", Cond.fieldLink RX1 22 "DryIceLane$Hold" "ventOpen" "Z", Cond.methodLink RX1 72 Lib.Math.min.name, Cond.static Lib.Math.min.name, Cond.code Lib.Math.min.name Lib.Math.min.code 2 (some .int), Cond.methodLink RX1 78 Lib.Math.max.name, Cond.methodLink RX1 37 yX6_value, Cond.methodLink RX1 60 yX1_loseGas, Cond.instanceMethod yX1_loseGas, Cond.selects RX1 yX1_loseGas yX1_loseGas, Cond.code yX1_loseGas cX1_loseGas 2 none, Cond.constantLong RX1 81 (1000), Cond.methodLink RX1 64 yX1_concentration, Cond.instanceMethod yX1_concentration, Cond.selects RX1 yX1_concentration yX1_concentration, Cond.code yX1_concentration cX1_concentration 2 (some .long), Cond.constantLong RX1 35 (2), Cond.methodLink RX1 68 yX1_moveVent, Cond.instanceMethod yX1_moveVent, Cond.selects RX1 yX1_moveVent yX1_moveVent, Cond.code yX1_moveVent cX1_moveVent 4 none, Cond.fieldLink RX1 15 "DryIceLane$Hold" "ventMode" "I", Cond.fieldLink RX1 26 "DryIceLane$Hold" "ventMinutes" "I", Cond.methodLink RX1 47 yX1_keepToMode]
def wsX8_letMinutePass_r5 : List Cond := [Cond.instanceMethod yX1_keepToMode, Cond.selects RX1 yX1_keepToMode yX1_keepToMode, Cond.code yX1_keepToMode cX1_keepToMode 1 none, Cond.methodLink RX1 50 yX1_openVent, Cond.instanceMethod yX1_openVent, Cond.selects RX1 yX1_openVent yX1_openVent, Cond.code yX1_openVent cX1_openVent 1 none, Cond.methodLink RX1 53 yX1_shutVent, Cond.instanceMethod yX1_shutVent, Cond.selects RX1 yX1_shutVent yX1_shutVent, Cond.code yX1_shutVent cX1_shutVent 1 none, Cond.methodLink RX8 100 yX4_letMinutePass, Cond.instanceMethod yX4_letMinutePass, Cond.selects RX4 yX4_letMinutePass yX4_letMinutePass, Cond.code yX4_letMinutePass cX4_letMinutePass 1 none, Cond.fieldLink RX4 31 "DryIceLane$Route" "minutesLeft" "I", Cond.methodLink RX4 46 yX4_isOnTheWay, Cond.instanceMethod yX4_isOnTheWay, Cond.selects RX4 yX4_isOnTheWay yX4_isOnTheWay, Cond.code yX4_isOnTheWay cX4_isOnTheWay 1 (some .boolean)]
def wsX8_letMinutePass : List Cond := .code yX8_letMinutePass cX8_letMinutePass 2 none :: ((wsX8_letMinutePass_r1 ++ (wsX8_letMinutePass_r2 ++ (wsX8_letMinutePass_r3 ++ (wsX8_letMinutePass_r4 ++ wsX8_letMinutePass_r5)))) ++ wsX80 ++ wsX10 ++ wsX60 ++ wsX20 ++ wsX00 ++ wsX40)
def wsX8_letPass_r1 : List Cond := [Cond.methodLink RX8 83 yX8_letMinutePass, Cond.instanceMethod yX8_letMinutePass, Cond.selects RX8 yX8_letMinutePass yX8_letMinutePass, Cond.initialized RX8, Cond.code yX8_letMinutePass cX8_letMinutePass 2 none, Cond.fieldLink RX8 21 "DryIceLane$Van" "lane" "LDryIceLane$Lane;", Cond.fieldLink RX8 28 "DryIceLane$Van" "hold" "LDryIceLane$Hold;", Cond.fieldLink RX8 86 "DryIceLane$Hold" "temperature" "I", Cond.fieldLink RX8 12 "DryIceLane$Van" "settings" "LDryIceLane$Settings;", Cond.fieldLink RX8 63 "DryIceLane$Van" "wentOff" "J", Cond.fieldLink RX8 35 "DryIceLane$Van" "route" "LDryIceLane$Route;", Cond.fieldLink RX8 52 "DryIceLane$Van" "time" "I", Cond.methodLink RX8 79 yX6_value, Cond.instanceMethod yX6_value, Cond.selects RX6 yX6_value yX6_value, Cond.initialized RX6, Cond.code yX6_value cX6_value 2 (some .int), Cond.fieldLink RX6 18 "DryIceLane$Settings" "values" "[I", Cond.static yX9_within, Cond.initialized RX9, Cond.code yX9_within cX9_within 3 (some .boolean), Cond.methodLink RX8 89 yX2_letGoOff, Cond.instanceMethod yX2_letGoOff, Cond.selects RX2 yX2_letGoOff yX2_letGoOff]
def wsX8_letPass_r2 : List Cond := [Cond.initialized RX2, Cond.code yX2_letGoOff cX2_letGoOff 6 (some .int), Cond.fieldLink RX2 18 "DryIceLane$Lane" "count" "I", Cond.fieldLink RX2 11 "DryIceLane$Lane" "boxes" "[LDryIceLane$Box;", Cond.methodLink RX2 56 yX0_goingOff, Cond.instanceMethod yX0_goingOff, Cond.selects RX0 yX0_goingOff yX0_goingOff, Cond.initialized RX0, Cond.code yX0_goingOff cX0_goingOff 5 (some .int), Cond.constantLong RX0 24 (100), Cond.fieldLink RX0 9 "DryIceLane$Box" "insulation" "I", Cond.methodLink RX0 30 Lib.MathLoose.max_long.x, Cond.static Lib.MathLoose.max_long.x, Cond.initialized "java/lang/Math", Cond.code Lib.MathLoose.max_long.x Lib.MathLoose.max_long.code 4 (some .long), Cond.fieldLink RX0 18 "DryIceLane$Box" "ice" "I", Cond.methodLink RX0 35 Lib.MathLoose.min_long.x, Cond.static Lib.MathLoose.min_long.x, Cond.code Lib.MathLoose.min_long.x Lib.MathLoose.min_long.code 4 (some .long), Cond.static yX9_quotient, Cond.code yX9_quotient cX9_quotient 4 (some .long), Cond.methodLink RX2 52 yX0_take, Cond.instanceMethod yX0_take, Cond.selects RX0 yX0_take yX0_take]
def wsX8_letPass_r3 : List Cond := [Cond.code yX0_take cX0_take 2 none, Cond.fieldLink RX0 21 "DryIceLane$Box" "paper" "I", Cond.methodLink RX0 38 Lib.Math.max.name, Cond.static Lib.Math.max.name, Cond.code Lib.Math.max.name Lib.Math.max.code 2 (some .int), Cond.methodLink RX8 93 yX4_outsideNow, Cond.instanceMethod yX4_outsideNow, Cond.selects RX4 yX4_outsideNow yX4_outsideNow, Cond.initialized RX4, Cond.code yX4_outsideNow cX4_outsideNow 1 (some .int), Cond.fieldLink RX4 18 "DryIceLane$Route" "latest" "I", Cond.fieldLink RX4 15 "DryIceLane$Route" "outsides" "[I", Cond.methodLink RX4 38 yX4_hasLeg, Cond.instanceMethod yX4_hasLeg, Cond.selects RX4 yX4_hasLeg yX4_hasLeg, Cond.code yX4_hasLeg cX4_hasLeg 2 (some .boolean), Cond.fieldLink RX4 28 "DryIceLane$Route" "count" "I", Cond.methodLink RX8 97 yX1_letMinutePass, Cond.instanceMethod yX1_letMinutePass, Cond.selects RX1 yX1_letMinutePass yX1_letMinutePass, Cond.initialized RX1, Cond.code yX1_letMinutePass cX1_letMinutePass 6 none, Cond.fieldLink RX1 18 "DryIceLane$Hold" "gas" "J", Cond.fieldLink RX1 29 "DryIceLane$Hold" "doorOpen" "Z"]
def wsX8_letPass_r4 : List Cond := [Cond.fieldLink RX1 32 "DryIceLane$Hold" "alarms" "I", Cond.methodLink RX1 56 yX1_changeTemperature, Cond.instanceMethod yX1_changeTemperature, Cond.selects RX1 yX1_changeTemperature yX1_changeTemperature, Cond.code yX1_changeTemperature cX1_changeTemperature 6 none, Cond.fieldLink RX1 9 "DryIceLane$Hold" "temperature" "I", Cond.fieldLink RX1 22 "DryIceLane$Hold" "ventOpen" "Z", Cond.methodLink RX1 72 Lib.Math.min.name, Cond.static Lib.Math.min.name, Cond.code Lib.Math.min.name Lib.Math.min.code 2 (some .int), Cond.methodLink RX1 78 Lib.Math.max.name, Cond.methodLink RX1 37 yX6_value, Cond.methodLink RX1 60 yX1_loseGas, Cond.instanceMethod yX1_loseGas, Cond.selects RX1 yX1_loseGas yX1_loseGas, Cond.code yX1_loseGas cX1_loseGas 2 none, Cond.constantLong RX1 81 (1000), Cond.methodLink RX1 64 yX1_concentration, Cond.instanceMethod yX1_concentration, Cond.selects RX1 yX1_concentration yX1_concentration, Cond.code yX1_concentration cX1_concentration 2 (some .long), Cond.constantLong RX1 35 (2), Cond.methodLink RX1 68 yX1_moveVent, Cond.instanceMethod yX1_moveVent]
def wsX8_letPass_r5 : List Cond := [Cond.selects RX1 yX1_moveVent yX1_moveVent, Cond.code yX1_moveVent cX1_moveVent 4 none, Cond.fieldLink RX1 15 "DryIceLane$Hold" "ventMode" "I", Cond.fieldLink RX1 26 "DryIceLane$Hold" "ventMinutes" "I", Cond.methodLink RX1 47 yX1_keepToMode, Cond.instanceMethod yX1_keepToMode, Cond.selects RX1 yX1_keepToMode yX1_keepToMode, Cond.code yX1_keepToMode cX1_keepToMode 1 none, Cond.methodLink RX1 50 yX1_openVent, Cond.instanceMethod yX1_openVent, Cond.selects RX1 yX1_openVent yX1_openVent, Cond.code yX1_openVent cX1_openVent 1 none, Cond.methodLink RX1 53 yX1_shutVent, Cond.instanceMethod yX1_shutVent, Cond.selects RX1 yX1_shutVent yX1_shutVent, Cond.code yX1_shutVent cX1_shutVent 1 none, Cond.methodLink RX8 100 yX4_letMinutePass, Cond.instanceMethod yX4_letMinutePass, Cond.selects RX4 yX4_letMinutePass yX4_letMinutePass, Cond.code yX4_letMinutePass cX4_letMinutePass 1 none, Cond.fieldLink RX4 31 "DryIceLane$Route" "minutesLeft" "I", Cond.methodLink RX4 46 yX4_isOnTheWay, Cond.instanceMethod yX4_isOnTheWay, Cond.selects RX4 yX4_isOnTheWay yX4_isOnTheWay]
def wsX8_letPass_r6 : List Cond := [Cond.code yX4_isOnTheWay cX4_isOnTheWay 1 (some .boolean)]
def wsX8_letPass : List Cond := .code yX8_letPass cX8_letPass 3 none :: ((wsX8_letPass_r1 ++ (wsX8_letPass_r2 ++ (wsX8_letPass_r3 ++ (wsX8_letPass_r4 ++ (wsX8_letPass_r5 ++ wsX8_letPass_r6))))) ++ wsX80 ++ wsX10 ++ wsX60 ++ wsX20 ++ wsX00 ++ wsX40)
def wsX8_driveToEnd_r1 : List Cond := [Cond.fieldLink RX8 35 "DryIceLane$Van" "route" "LDryIceLane$Route;", Cond.fieldLink RX8 105 "DryIceLane$Route" "minutesLeft" "I", Cond.methodLink RX8 101 yX4_isOnTheWay, Cond.instanceMethod yX4_isOnTheWay, Cond.selects RX4 yX4_isOnTheWay yX4_isOnTheWay, Cond.initialized RX4, Cond.code yX4_isOnTheWay cX4_isOnTheWay 1 (some .boolean), Cond.fieldLink RX4 31 "DryIceLane$Route" "minutesLeft" "I", Cond.methodLink RX8 108 yX8_letPass, Cond.instanceMethod yX8_letPass, Cond.selects RX8 yX8_letPass yX8_letPass, Cond.initialized RX8, Cond.code yX8_letPass cX8_letPass 3 none, Cond.methodLink RX8 83 yX8_letMinutePass, Cond.instanceMethod yX8_letMinutePass, Cond.selects RX8 yX8_letMinutePass yX8_letMinutePass, Cond.code yX8_letMinutePass cX8_letMinutePass 2 none, Cond.fieldLink RX8 21 "DryIceLane$Van" "lane" "LDryIceLane$Lane;", Cond.fieldLink RX8 28 "DryIceLane$Van" "hold" "LDryIceLane$Hold;", Cond.fieldLink RX8 86 "DryIceLane$Hold" "temperature" "I", Cond.fieldLink RX8 12 "DryIceLane$Van" "settings" "LDryIceLane$Settings;", Cond.fieldLink RX8 63 "DryIceLane$Van" "wentOff" "J", Cond.fieldLink RX8 52 "DryIceLane$Van" "time" "I", Cond.methodLink RX8 79 yX6_value]
def wsX8_driveToEnd_r2 : List Cond := [Cond.instanceMethod yX6_value, Cond.selects RX6 yX6_value yX6_value, Cond.initialized RX6, Cond.code yX6_value cX6_value 2 (some .int), Cond.fieldLink RX6 18 "DryIceLane$Settings" "values" "[I", Cond.static yX9_within, Cond.initialized RX9, Cond.code yX9_within cX9_within 3 (some .boolean), Cond.methodLink RX8 89 yX2_letGoOff, Cond.instanceMethod yX2_letGoOff, Cond.selects RX2 yX2_letGoOff yX2_letGoOff, Cond.initialized RX2, Cond.code yX2_letGoOff cX2_letGoOff 6 (some .int), Cond.fieldLink RX2 18 "DryIceLane$Lane" "count" "I", Cond.fieldLink RX2 11 "DryIceLane$Lane" "boxes" "[LDryIceLane$Box;", Cond.methodLink RX2 56 yX0_goingOff, Cond.instanceMethod yX0_goingOff, Cond.selects RX0 yX0_goingOff yX0_goingOff, Cond.initialized RX0, Cond.code yX0_goingOff cX0_goingOff 5 (some .int), Cond.constantLong RX0 24 (100), Cond.fieldLink RX0 9 "DryIceLane$Box" "insulation" "I", Cond.methodLink RX0 30 Lib.MathLoose.max_long.x, Cond.static Lib.MathLoose.max_long.x]
def wsX8_driveToEnd_r3 : List Cond := [Cond.initialized "java/lang/Math", Cond.code Lib.MathLoose.max_long.x Lib.MathLoose.max_long.code 4 (some .long), Cond.fieldLink RX0 18 "DryIceLane$Box" "ice" "I", Cond.methodLink RX0 35 Lib.MathLoose.min_long.x, Cond.static Lib.MathLoose.min_long.x, Cond.code Lib.MathLoose.min_long.x Lib.MathLoose.min_long.code 4 (some .long), Cond.static yX9_quotient, Cond.code yX9_quotient cX9_quotient 4 (some .long), Cond.methodLink RX2 52 yX0_take, Cond.instanceMethod yX0_take, Cond.selects RX0 yX0_take yX0_take, Cond.code yX0_take cX0_take 2 none, Cond.fieldLink RX0 21 "DryIceLane$Box" "paper" "I", Cond.methodLink RX0 38 Lib.Math.max.name, Cond.static Lib.Math.max.name, Cond.code Lib.Math.max.name Lib.Math.max.code 2 (some .int), Cond.methodLink RX8 93 yX4_outsideNow, Cond.instanceMethod yX4_outsideNow, Cond.selects RX4 yX4_outsideNow yX4_outsideNow, Cond.code yX4_outsideNow cX4_outsideNow 1 (some .int), Cond.fieldLink RX4 18 "DryIceLane$Route" "latest" "I", Cond.fieldLink RX4 15 "DryIceLane$Route" "outsides" "[I", Cond.methodLink RX4 38 yX4_hasLeg, Cond.instanceMethod yX4_hasLeg]
def wsX8_driveToEnd_r4 : List Cond := [Cond.selects RX4 yX4_hasLeg yX4_hasLeg, Cond.code yX4_hasLeg cX4_hasLeg 2 (some .boolean), Cond.fieldLink RX4 28 "DryIceLane$Route" "count" "I", Cond.methodLink RX8 97 yX1_letMinutePass, Cond.instanceMethod yX1_letMinutePass, Cond.selects RX1 yX1_letMinutePass yX1_letMinutePass, Cond.initialized RX1, Cond.code yX1_letMinutePass cX1_letMinutePass 6 none, Cond.fieldLink RX1 18 "DryIceLane$Hold" "gas" "J", Cond.fieldLink RX1 29 "DryIceLane$Hold" "doorOpen" "Z", Cond.fieldLink RX1 32 "DryIceLane$Hold" "alarms" "I", Cond.methodLink RX1 56 yX1_changeTemperature, Cond.instanceMethod yX1_changeTemperature, Cond.selects RX1 yX1_changeTemperature yX1_changeTemperature, Cond.code yX1_changeTemperature cX1_changeTemperature 6 none, Cond.fieldLink RX1 9 "DryIceLane$Hold" "temperature" "I", Cond.fieldLink RX1 22 "DryIceLane$Hold" "ventOpen" "Z", Cond.methodLink RX1 72 Lib.Math.min.name, Cond.static Lib.Math.min.name, Cond.code Lib.Math.min.name Lib.Math.min.code 2 (some .int), Cond.methodLink RX1 78 Lib.Math.max.name, Cond.methodLink RX1 37 yX6_value, Cond.methodLink RX1 60 yX1_loseGas, Cond.instanceMethod yX1_loseGas]
def wsX8_driveToEnd_r5 : List Cond := [Cond.selects RX1 yX1_loseGas yX1_loseGas, Cond.code yX1_loseGas cX1_loseGas 2 none, Cond.constantLong RX1 81 (1000), Cond.methodLink RX1 64 yX1_concentration, Cond.instanceMethod yX1_concentration, Cond.selects RX1 yX1_concentration yX1_concentration, Cond.code yX1_concentration cX1_concentration 2 (some .long), Cond.constantLong RX1 35 (2), Cond.methodLink RX1 68 yX1_moveVent, Cond.instanceMethod yX1_moveVent, Cond.selects RX1 yX1_moveVent yX1_moveVent, Cond.code yX1_moveVent cX1_moveVent 4 none, Cond.fieldLink RX1 15 "DryIceLane$Hold" "ventMode" "I", Cond.fieldLink RX1 26 "DryIceLane$Hold" "ventMinutes" "I", Cond.methodLink RX1 47 yX1_keepToMode, Cond.instanceMethod yX1_keepToMode, Cond.selects RX1 yX1_keepToMode yX1_keepToMode, Cond.code yX1_keepToMode cX1_keepToMode 1 none, Cond.methodLink RX1 50 yX1_openVent, Cond.instanceMethod yX1_openVent, Cond.selects RX1 yX1_openVent yX1_openVent, Cond.code yX1_openVent cX1_openVent 1 none, Cond.methodLink RX1 53 yX1_shutVent, Cond.instanceMethod yX1_shutVent]
def wsX8_driveToEnd_r6 : List Cond := [Cond.selects RX1 yX1_shutVent yX1_shutVent, Cond.code yX1_shutVent cX1_shutVent 1 none, Cond.methodLink RX8 100 yX4_letMinutePass, Cond.instanceMethod yX4_letMinutePass, Cond.selects RX4 yX4_letMinutePass yX4_letMinutePass, Cond.code yX4_letMinutePass cX4_letMinutePass 1 none, Cond.methodLink RX4 46 yX4_isOnTheWay, Cond.methodLink RX8 112 yX4_hasNextLeg, Cond.instanceMethod yX4_hasNextLeg, Cond.selects RX4 yX4_hasNextLeg yX4_hasNextLeg, Cond.code yX4_hasNextLeg cX4_hasNextLeg 1 (some .boolean), Cond.methodLink RX8 115 yX4_beginNextLeg, Cond.instanceMethod yX4_beginNextLeg, Cond.selects RX4 yX4_beginNextLeg yX4_beginNextLeg, Cond.code yX4_beginNextLeg cX4_beginNextLeg 1 none, Cond.fieldLink RX4 9 "DryIceLane$Route" "durations" "[I", Cond.methodLink RX4 42 yX4_hasNextLeg]
def wsX8_driveToEnd : List Cond := .code yX8_driveToEnd cX8_driveToEnd 4 none :: ((wsX8_driveToEnd_r1 ++ (wsX8_driveToEnd_r2 ++ (wsX8_driveToEnd_r3 ++ (wsX8_driveToEnd_r4 ++ (wsX8_driveToEnd_r5 ++ wsX8_driveToEnd_r6))))) ++ wsX80 ++ wsX40 ++ wsX10 ++ wsX60 ++ wsX20 ++ wsX00)
def wsX9_init_r1 : List Cond := [Cond.methodLink RX9 1 objectInit, Cond.instanceMethod objectInit, Cond.code objectInit ⟨#[0xb1]⟩ 1 none, Cond.classLink RX9 7 RX8, Cond.instantiable RX8 10, Cond.initialized RX8, Cond.fieldLink RX9 10 "DryIceLane" "now" "LDryIceLane$Van;", Cond.fieldLink RX9 16 "DryIceLane" "copy" "LDryIceLane$Van;", Cond.classLink RX9 19 RX7, Cond.instantiable RX7 2, Cond.initialized RX7, Cond.fieldLink RX9 22 "DryIceLane" "slot0" "LDryIceLane$Slot;", Cond.fieldLink RX9 26 "DryIceLane" "slot1" "LDryIceLane$Slot;", Cond.classLink RX9 29 RX3, Cond.instantiable RX3 2, Cond.initialized RX3, Cond.fieldLink RX9 32 "DryIceLane" "pad" "LDryIceLane$Pad;", Cond.classLink RX9 36 RX5, Cond.instantiable RX5 7, Cond.initialized RX5, Cond.fieldLink RX9 39 "DryIceLane" "reader" "LDryIceLane$RouteReader;", Cond.instanceMethod yX8_init, Cond.code yX8_init cX8_init 1 none, Cond.methodLink RX8 3 objectInit]
def wsX9_init_r2 : List Cond := [Cond.classLink RX8 9 RX6, Cond.instantiable RX6 1, Cond.initialized RX6, Cond.fieldLink RX8 12 "DryIceLane$Van" "settings" "LDryIceLane$Settings;", Cond.classLink RX8 18 RX2, Cond.instantiable RX2 2, Cond.initialized RX2, Cond.fieldLink RX8 21 "DryIceLane$Van" "lane" "LDryIceLane$Lane;", Cond.classLink RX8 25 RX1, Cond.instantiable RX1 7, Cond.initialized RX1, Cond.fieldLink RX8 28 "DryIceLane$Van" "hold" "LDryIceLane$Hold;", Cond.classLink RX8 32 RX4, Cond.instantiable RX4 5, Cond.initialized RX4, Cond.fieldLink RX8 35 "DryIceLane$Van" "route" "LDryIceLane$Route;", Cond.instanceMethod yX6_init, Cond.code yX6_init cX6_init 1 none, Cond.methodLink RX6 3 objectInit, Cond.methodLink RX6 13 ⟨"[I", "clone", "()Ljava/lang/Object;"⟩, Cond.sameMethod "[I" "java/lang/Object" "clone" "()Ljava/lang/Object;", Cond.native ⟨"java/lang/Object", "clone", "()Ljava/lang/Object;"⟩, Cond.instanceMethod ⟨"java/lang/Object", "clone", "()Ljava/lang/Object;"⟩, Cond.selects "[I" ⟨"[I", "clone", "()Ljava/lang/Object;"⟩ ⟨"java/lang/Object", "clone", "()Ljava/lang/Object;"⟩]
def wsX9_init_r3 : List Cond := [Cond.classLink RX6 14 "[I", Cond.fieldLink RX6 18 "DryIceLane$Settings" "values" "[I", Cond.methodLink RX8 20 yX2_init, Cond.instanceMethod yX2_init, Cond.code yX2_init cX2_init 2 none, Cond.methodLink RX2 3 objectInit, Cond.classLink RX2 9 RX0, Cond.fieldLink RX2 11 "DryIceLane$Lane" "boxes" "[LDryIceLane$Box;", Cond.instantiable RX0 4, Cond.initialized RX0, Cond.instanceMethod yX0_init, Cond.code yX0_init cX0_init 1 none, Cond.methodLink RX0 3 objectInit, Cond.instanceMethod yX1_init, Cond.code yX1_init cX1_init 1 none, Cond.methodLink RX1 3 objectInit, Cond.fieldLink RX1 9 "DryIceLane$Hold" "temperature" "I", Cond.fieldLink RX1 15 "DryIceLane$Hold" "ventMode" "I", Cond.instanceMethod yX4_init, Cond.code yX4_init cX4_init 1 none, Cond.methodLink RX4 3 objectInit, Cond.arrayClass .int, Cond.fieldLink RX4 9 "DryIceLane$Route" "durations" "[I", Cond.fieldLink RX4 15 "DryIceLane$Route" "outsides" "[I"]
def wsX9_init_r4 : List Cond := [Cond.fieldLink RX4 18 "DryIceLane$Route" "latest" "I", Cond.instanceMethod yX7_init, Cond.code yX7_init cX7_init 1 none, Cond.methodLink RX7 1 objectInit, Cond.classLink RX7 7 RX8, Cond.fieldLink RX7 10 "DryIceLane$Slot" "kept" "LDryIceLane$Van;", Cond.instanceMethod yX3_init, Cond.code yX3_init cX3_init 1 none, Cond.methodLink RX3 3 objectInit, Cond.fieldLink RX3 9 "DryIceLane$Pad" "codes" "[I", Cond.instanceMethod yX5_init, Cond.code yX5_init cX5_init 1 none, Cond.methodLink RX5 3 objectInit, Cond.fieldLink RX5 11 "DryIceLane$RouteReader" "durations" "[I", Cond.fieldLink RX5 15 "DryIceLane$RouteReader" "outsides" "[I"]
def wsX9_init : List Cond := .code yX9_init cX9_init 1 none :: ((wsX9_init_r1 ++ (wsX9_init_r2 ++ (wsX9_init_r3 ++ wsX9_init_r4))) ++ wsX80 ++ wsX90 ++ wsX70 ++ wsX30 ++ wsX50 ++ wsX60 ++ wsX20 ++ wsX10 ++ wsX40 ++ wsX00)
def wsX9_load : List Cond := .code yX9_load cX9_load 4 (some .int) :: ([.constant RX9 47 (5000000), .constant RX9 48 (20000000), .fieldLink RX9 10 "DryIceLane" "now" "LDryIceLane$Van;", .fieldLink RX9 49 "DryIceLane$Van" "lane" "LDryIceLane$Lane;", .fieldLink RX9 53 "DryIceLane$Lane" "count" "I", .fieldLink RX9 59 "DryIceLane$Van" "hold" "LDryIceLane$Hold;", .fieldLink RX9 63 "DryIceLane$Hold" "doorOpen" "Z", .fieldLink RX9 73 "DryIceLane$Van" "putIn" "J", .methodLink RX9 43 yX9_within, .static yX9_within, .initialized RX9, .code yX9_within cX9_within 3 (some .boolean), .methodLink RX9 69 yX2_append, .instanceMethod yX2_append, .selects RX2 yX2_append yX2_append, .initialized RX2, .code yX2_append cX2_append 5 none, .fieldLink RX2 18 "DryIceLane$Lane" "count" "I", .fieldLink RX2 11 "DryIceLane$Lane" "boxes" "[LDryIceLane$Box;", .fieldLink RX2 30 "DryIceLane$Box" "insulation" "I", .fieldLink RX2 33 "DryIceLane$Box" "tare" "I", .fieldLink RX2 36 "DryIceLane$Box" "ice" "I", .fieldLink RX2 39 "DryIceLane$Box" "paper" "I"] ++ wsX90 ++ wsX80 ++ wsX20 ++ wsX10 ++ wsX00)
def wsX9_unload : List Cond := .code yX9_unload cX9_unload 4 (some .int) :: ([.fieldLink RX9 10 "DryIceLane" "now" "LDryIceLane$Van;", .fieldLink RX9 49 "DryIceLane$Van" "lane" "LDryIceLane$Lane;", .fieldLink RX9 59 "DryIceLane$Van" "hold" "LDryIceLane$Hold;", .fieldLink RX9 63 "DryIceLane$Hold" "doorOpen" "Z", .fieldLink RX9 81 "DryIceLane$Box" "ice" "I", .fieldLink RX9 90 "DryIceLane$Van" "takenOut" "J", .methodLink RX9 77 yX2_boxAt, .instanceMethod yX2_boxAt, .selects RX2 yX2_boxAt yX2_boxAt, .initialized RX2, .code yX2_boxAt cX2_boxAt 2 (some (.object "DryIceLane$Box")), .fieldLink RX2 18 "DryIceLane$Lane" "count" "I", .fieldLink RX2 11 "DryIceLane$Lane" "boxes" "[LDryIceLane$Box;", .static yX9_within, .initialized RX9, .code yX9_within cX9_within 3 (some .boolean), .methodLink RX9 86 yX2_takeOut, .instanceMethod yX2_takeOut, .selects RX2 yX2_takeOut yX2_takeOut, .code yX2_takeOut cX2_takeOut 2 none, .methodLink RX2 42 yX2_move, .instanceMethod yX2_move, .selects RX2 yX2_move yX2_move, .code yX2_move cX2_move 5 none] ++ wsX90 ++ wsX80 ++ wsX10 ++ wsX00 ++ wsX20)
def wsX9_shift : List Cond := .code yX9_shift cX9_shift 4 (some .int) :: ([.fieldLink RX9 10 "DryIceLane" "now" "LDryIceLane$Van;", .fieldLink RX9 49 "DryIceLane$Van" "lane" "LDryIceLane$Lane;", .fieldLink RX9 81 "DryIceLane$Box" "ice" "I", .methodLink RX9 77 yX2_boxAt, .instanceMethod yX2_boxAt, .selects RX2 yX2_boxAt yX2_boxAt, .initialized RX2, .code yX2_boxAt cX2_boxAt 2 (some (.object "DryIceLane$Box")), .fieldLink RX2 18 "DryIceLane$Lane" "count" "I", .fieldLink RX2 11 "DryIceLane$Lane" "boxes" "[LDryIceLane$Box;", .static yX9_within, .initialized RX9, .code yX9_within cX9_within 3 (some .boolean), .methodLink RX9 93 yX2_move, .instanceMethod yX2_move, .selects RX2 yX2_move yX2_move, .code yX2_move cX2_move 5 none] ++ wsX90 ++ wsX80 ++ wsX00 ++ wsX20)
def wsX9_set : List Cond := .code yX9_set cX9_set 3 (some .int) :: ([.fieldLink RX9 10 "DryIceLane" "now" "LDryIceLane$Van;", .fieldLink RX9 97 "DryIceLane$Van" "settings" "LDryIceLane$Settings;", .methodLink RX9 101 yX6_allows, .instanceMethod yX6_allows, .selects RX6 yX6_allows yX6_allows, .initialized RX6, .code yX6_allows cX6_allows 3 (some .boolean), .static yX9_within, .initialized RX9, .code yX9_within cX9_within 3 (some .boolean), .methodLink RX9 107 yX6_change, .instanceMethod yX6_change, .selects RX6 yX6_change yX6_change, .code yX6_change cX6_change 4 (some .int), .fieldLink RX6 18 "DryIceLane$Settings" "values" "[I", .methodLink RX6 39 yX6_value, .instanceMethod yX6_value, .selects RX6 yX6_value yX6_value, .code yX6_value cX6_value 2 (some .int), .methodLink RX6 43 yX6_allows] ++ wsX90 ++ wsX80 ++ wsX60)
def wsX9_leg : List Cond := .code yX9_leg cX9_leg 3 (some .int) :: ([.fieldLink RX9 10 "DryIceLane" "now" "LDryIceLane$Van;", .fieldLink RX9 111 "DryIceLane$Van" "route" "LDryIceLane$Route;", .fieldLink RX9 115 "DryIceLane$Route" "count" "I", .methodLink RX9 43 yX9_within, .static yX9_within, .initialized RX9, .code yX9_within cX9_within 3 (some .boolean), .methodLink RX9 118 yX4_append, .instanceMethod yX4_append, .selects RX4 yX4_append yX4_append, .initialized RX4, .code yX4_append cX4_append 3 none, .fieldLink RX4 28 "DryIceLane$Route" "count" "I", .fieldLink RX4 9 "DryIceLane$Route" "durations" "[I", .fieldLink RX4 15 "DryIceLane$Route" "outsides" "[I"] ++ wsX90 ++ wsX80 ++ wsX40)
def wsX9_cut : List Cond := .code yX9_cut cX9_cut 1 (some .int) :: ([.fieldLink RX9 10 "DryIceLane" "now" "LDryIceLane$Van;", .fieldLink RX9 111 "DryIceLane$Van" "route" "LDryIceLane$Route;", .fieldLink RX9 115 "DryIceLane$Route" "count" "I", .methodLink RX9 120 yX4_hasNextLeg, .instanceMethod yX4_hasNextLeg, .selects RX4 yX4_hasNextLeg yX4_hasNextLeg, .initialized RX4, .code yX4_hasNextLeg cX4_hasNextLeg 1 (some .boolean), .fieldLink RX4 18 "DryIceLane$Route" "latest" "I", .methodLink RX4 38 yX4_hasLeg, .instanceMethod yX4_hasLeg, .selects RX4 yX4_hasLeg yX4_hasLeg, .code yX4_hasLeg cX4_hasLeg 2 (some .boolean), .fieldLink RX4 28 "DryIceLane$Route" "count" "I", .static yX9_within, .initialized RX9, .code yX9_within cX9_within 3 (some .boolean)] ++ wsX90 ++ wsX80 ++ wsX40)
def wsX9_depart_r1 : List Cond := [Cond.fieldLink RX9 10 "DryIceLane" "now" "LDryIceLane$Van;", Cond.fieldLink RX9 111 "DryIceLane$Van" "route" "LDryIceLane$Route;", Cond.fieldLink RX9 59 "DryIceLane$Van" "hold" "LDryIceLane$Hold;", Cond.fieldLink RX9 63 "DryIceLane$Hold" "doorOpen" "Z", Cond.fieldLink RX9 130 "DryIceLane$Route" "latest" "I", Cond.methodLink RX9 124 yX4_isOnTheWay, Cond.instanceMethod yX4_isOnTheWay, Cond.selects RX4 yX4_isOnTheWay yX4_isOnTheWay, Cond.initialized RX4, Cond.code yX4_isOnTheWay cX4_isOnTheWay 1 (some .boolean), Cond.fieldLink RX4 31 "DryIceLane$Route" "minutesLeft" "I", Cond.methodLink RX9 120 yX4_hasNextLeg, Cond.instanceMethod yX4_hasNextLeg, Cond.selects RX4 yX4_hasNextLeg yX4_hasNextLeg, Cond.code yX4_hasNextLeg cX4_hasNextLeg 1 (some .boolean), Cond.fieldLink RX4 18 "DryIceLane$Route" "latest" "I", Cond.methodLink RX4 38 yX4_hasLeg, Cond.instanceMethod yX4_hasLeg, Cond.selects RX4 yX4_hasLeg yX4_hasLeg, Cond.code yX4_hasLeg cX4_hasLeg 2 (some .boolean), Cond.fieldLink RX4 28 "DryIceLane$Route" "count" "I", Cond.static yX9_within, Cond.initialized RX9, Cond.code yX9_within cX9_within 3 (some .boolean)]
def wsX9_depart_r2 : List Cond := [Cond.methodLink RX9 127 yX4_beginNextLeg, Cond.instanceMethod yX4_beginNextLeg, Cond.selects RX4 yX4_beginNextLeg yX4_beginNextLeg, Cond.code yX4_beginNextLeg cX4_beginNextLeg 1 none, Cond.fieldLink RX4 9 "DryIceLane$Route" "durations" "[I", Cond.methodLink RX4 42 yX4_hasNextLeg]
def wsX9_depart : List Cond := .code yX9_depart cX9_depart 1 (some .int) :: ((wsX9_depart_r1 ++ wsX9_depart_r2) ++ wsX90 ++ wsX80 ++ wsX10 ++ wsX40)
def wsX9_pass_r1 : List Cond := [Cond.fieldLink RX9 10 "DryIceLane" "now" "LDryIceLane$Van;", Cond.fieldLink RX9 133 "DryIceLane$Van" "time" "I", Cond.constant RX9 136 (100000), Cond.fieldLink RX9 111 "DryIceLane$Van" "route" "LDryIceLane$Route;", Cond.fieldLink RX9 137 "DryIceLane$Route" "minutesLeft" "I", Cond.methodLink RX9 140 Lib.Math.min.name, Cond.static Lib.Math.min.name, Cond.initialized "java/lang/Math", Cond.code Lib.Math.min.name Lib.Math.min.code 2 (some .int), Cond.methodLink RX9 43 yX9_within, Cond.static yX9_within, Cond.initialized RX9, Cond.code yX9_within cX9_within 3 (some .boolean), Cond.methodLink RX9 145 yX8_letPass, Cond.instanceMethod yX8_letPass, Cond.selects RX8 yX8_letPass yX8_letPass, Cond.initialized RX8, Cond.code yX8_letPass cX8_letPass 3 none, Cond.methodLink RX8 83 yX8_letMinutePass, Cond.instanceMethod yX8_letMinutePass, Cond.selects RX8 yX8_letMinutePass yX8_letMinutePass, Cond.code yX8_letMinutePass cX8_letMinutePass 2 none, Cond.fieldLink RX8 21 "DryIceLane$Van" "lane" "LDryIceLane$Lane;", Cond.fieldLink RX8 28 "DryIceLane$Van" "hold" "LDryIceLane$Hold;"]
def wsX9_pass_r2 : List Cond := [Cond.fieldLink RX8 86 "DryIceLane$Hold" "temperature" "I", Cond.fieldLink RX8 12 "DryIceLane$Van" "settings" "LDryIceLane$Settings;", Cond.fieldLink RX8 63 "DryIceLane$Van" "wentOff" "J", Cond.fieldLink RX8 35 "DryIceLane$Van" "route" "LDryIceLane$Route;", Cond.fieldLink RX8 52 "DryIceLane$Van" "time" "I", Cond.methodLink RX8 79 yX6_value, Cond.instanceMethod yX6_value, Cond.selects RX6 yX6_value yX6_value, Cond.initialized RX6, Cond.code yX6_value cX6_value 2 (some .int), Cond.fieldLink RX6 18 "DryIceLane$Settings" "values" "[I", Cond.methodLink RX8 89 yX2_letGoOff, Cond.instanceMethod yX2_letGoOff, Cond.selects RX2 yX2_letGoOff yX2_letGoOff, Cond.initialized RX2, Cond.code yX2_letGoOff cX2_letGoOff 6 (some .int), Cond.fieldLink RX2 18 "DryIceLane$Lane" "count" "I", Cond.fieldLink RX2 11 "DryIceLane$Lane" "boxes" "[LDryIceLane$Box;", Cond.methodLink RX2 56 yX0_goingOff, Cond.instanceMethod yX0_goingOff, Cond.selects RX0 yX0_goingOff yX0_goingOff, Cond.initialized RX0, Cond.code yX0_goingOff cX0_goingOff 5 (some .int), Cond.constantLong RX0 24 (100)]
def wsX9_pass_r3 : List Cond := [Cond.fieldLink RX0 9 "DryIceLane$Box" "insulation" "I", Cond.methodLink RX0 30 Lib.MathLoose.max_long.x, Cond.static Lib.MathLoose.max_long.x, Cond.code Lib.MathLoose.max_long.x Lib.MathLoose.max_long.code 4 (some .long), Cond.fieldLink RX0 18 "DryIceLane$Box" "ice" "I", Cond.methodLink RX0 35 Lib.MathLoose.min_long.x, Cond.static Lib.MathLoose.min_long.x, Cond.code Lib.MathLoose.min_long.x Lib.MathLoose.min_long.code 4 (some .long), Cond.static yX9_quotient, Cond.code yX9_quotient cX9_quotient 4 (some .long), Cond.methodLink RX2 52 yX0_take, Cond.instanceMethod yX0_take, Cond.selects RX0 yX0_take yX0_take, Cond.code yX0_take cX0_take 2 none, Cond.fieldLink RX0 21 "DryIceLane$Box" "paper" "I", Cond.methodLink RX0 38 Lib.Math.max.name, Cond.static Lib.Math.max.name, Cond.code Lib.Math.max.name Lib.Math.max.code 2 (some .int), Cond.methodLink RX8 93 yX4_outsideNow, Cond.instanceMethod yX4_outsideNow, Cond.selects RX4 yX4_outsideNow yX4_outsideNow, Cond.initialized RX4, Cond.code yX4_outsideNow cX4_outsideNow 1 (some .int), Cond.fieldLink RX4 18 "DryIceLane$Route" "latest" "I"]
def wsX9_pass_r4 : List Cond := [Cond.fieldLink RX4 15 "DryIceLane$Route" "outsides" "[I", Cond.methodLink RX4 38 yX4_hasLeg, Cond.instanceMethod yX4_hasLeg, Cond.selects RX4 yX4_hasLeg yX4_hasLeg, Cond.code yX4_hasLeg cX4_hasLeg 2 (some .boolean), Cond.fieldLink RX4 28 "DryIceLane$Route" "count" "I", Cond.methodLink RX8 97 yX1_letMinutePass, Cond.instanceMethod yX1_letMinutePass, Cond.selects RX1 yX1_letMinutePass yX1_letMinutePass, Cond.initialized RX1, Cond.code yX1_letMinutePass cX1_letMinutePass 6 none, Cond.fieldLink RX1 18 "DryIceLane$Hold" "gas" "J", Cond.fieldLink RX1 29 "DryIceLane$Hold" "doorOpen" "Z", Cond.fieldLink RX1 32 "DryIceLane$Hold" "alarms" "I", Cond.methodLink RX1 56 yX1_changeTemperature, Cond.instanceMethod yX1_changeTemperature, Cond.selects RX1 yX1_changeTemperature yX1_changeTemperature, Cond.code yX1_changeTemperature cX1_changeTemperature 6 none, Cond.fieldLink RX1 9 "DryIceLane$Hold" "temperature" "I", Cond.fieldLink RX1 22 "DryIceLane$Hold" "ventOpen" "Z", Cond.methodLink RX1 72 Lib.Math.min.name, Cond.methodLink RX1 78 Lib.Math.max.name, Cond.methodLink RX1 37 yX6_value, Cond.methodLink RX1 60 yX1_loseGas]
def wsX9_pass_r5 : List Cond := [Cond.instanceMethod yX1_loseGas, Cond.selects RX1 yX1_loseGas yX1_loseGas, Cond.code yX1_loseGas cX1_loseGas 2 none, Cond.constantLong RX1 81 (1000), Cond.methodLink RX1 64 yX1_concentration, Cond.instanceMethod yX1_concentration, Cond.selects RX1 yX1_concentration yX1_concentration, Cond.code yX1_concentration cX1_concentration 2 (some .long), Cond.constantLong RX1 35 (2), Cond.methodLink RX1 68 yX1_moveVent, Cond.instanceMethod yX1_moveVent, Cond.selects RX1 yX1_moveVent yX1_moveVent, Cond.code yX1_moveVent cX1_moveVent 4 none, Cond.fieldLink RX1 15 "DryIceLane$Hold" "ventMode" "I", Cond.fieldLink RX1 26 "DryIceLane$Hold" "ventMinutes" "I", Cond.methodLink RX1 47 yX1_keepToMode, Cond.instanceMethod yX1_keepToMode, Cond.selects RX1 yX1_keepToMode yX1_keepToMode, Cond.code yX1_keepToMode cX1_keepToMode 1 none, Cond.methodLink RX1 50 yX1_openVent, Cond.instanceMethod yX1_openVent, Cond.selects RX1 yX1_openVent yX1_openVent, Cond.code yX1_openVent cX1_openVent 1 none, Cond.methodLink RX1 53 yX1_shutVent]
def wsX9_pass_r6 : List Cond := [Cond.instanceMethod yX1_shutVent, Cond.selects RX1 yX1_shutVent yX1_shutVent, Cond.code yX1_shutVent cX1_shutVent 1 none, Cond.methodLink RX8 100 yX4_letMinutePass, Cond.instanceMethod yX4_letMinutePass, Cond.selects RX4 yX4_letMinutePass yX4_letMinutePass, Cond.code yX4_letMinutePass cX4_letMinutePass 1 none, Cond.fieldLink RX4 31 "DryIceLane$Route" "minutesLeft" "I", Cond.methodLink RX4 46 yX4_isOnTheWay, Cond.instanceMethod yX4_isOnTheWay, Cond.selects RX4 yX4_isOnTheWay yX4_isOnTheWay, Cond.code yX4_isOnTheWay cX4_isOnTheWay 1 (some .boolean)]
def wsX9_pass : List Cond := .code yX9_pass cX9_pass 3 (some .int) :: ((wsX9_pass_r1 ++ (wsX9_pass_r2 ++ (wsX9_pass_r3 ++ (wsX9_pass_r4 ++ (wsX9_pass_r5 ++ wsX9_pass_r6))))) ++ wsX90 ++ wsX80 ++ wsX40 ++ wsX10 ++ wsX60 ++ wsX20 ++ wsX00)
def wsX9_vent_r1 : List Cond := [Cond.fieldLink RX9 10 "DryIceLane" "now" "LDryIceLane$Van;", Cond.fieldLink RX9 59 "DryIceLane$Van" "hold" "LDryIceLane$Hold;", Cond.fieldLink RX9 148 "DryIceLane$Hold" "ventMode" "I", Cond.methodLink RX9 43 yX9_within, Cond.static yX9_within, Cond.initialized RX9, Cond.code yX9_within cX9_within 3 (some .boolean), Cond.methodLink RX9 151 yX1_setVentMode, Cond.instanceMethod yX1_setVentMode, Cond.selects RX1 yX1_setVentMode yX1_setVentMode, Cond.initialized RX1, Cond.code yX1_setVentMode cX1_setVentMode 2 none, Cond.fieldLink RX1 15 "DryIceLane$Hold" "ventMode" "I", Cond.methodLink RX1 47 yX1_keepToMode, Cond.instanceMethod yX1_keepToMode, Cond.selects RX1 yX1_keepToMode yX1_keepToMode, Cond.code yX1_keepToMode cX1_keepToMode 1 none, Cond.methodLink RX1 50 yX1_openVent, Cond.instanceMethod yX1_openVent, Cond.selects RX1 yX1_openVent yX1_openVent, Cond.code yX1_openVent cX1_openVent 1 none, Cond.fieldLink RX1 22 "DryIceLane$Hold" "ventOpen" "Z", Cond.methodLink RX1 53 yX1_shutVent, Cond.instanceMethod yX1_shutVent]
def wsX9_vent_r2 : List Cond := [Cond.selects RX1 yX1_shutVent yX1_shutVent, Cond.code yX1_shutVent cX1_shutVent 1 none, Cond.fieldLink RX1 26 "DryIceLane$Hold" "ventMinutes" "I"]
def wsX9_vent : List Cond := .code yX9_vent cX9_vent 3 (some .int) :: ((wsX9_vent_r1 ++ wsX9_vent_r2) ++ wsX90 ++ wsX80 ++ wsX10)
def wsX9_open_r1 : List Cond := [Cond.fieldLink RX9 10 "DryIceLane" "now" "LDryIceLane$Van;", Cond.fieldLink RX9 111 "DryIceLane$Van" "route" "LDryIceLane$Route;", Cond.fieldLink RX9 59 "DryIceLane$Van" "hold" "LDryIceLane$Hold;", Cond.fieldLink RX9 63 "DryIceLane$Hold" "doorOpen" "Z", Cond.methodLink RX9 124 yX4_isOnTheWay, Cond.instanceMethod yX4_isOnTheWay, Cond.selects RX4 yX4_isOnTheWay yX4_isOnTheWay, Cond.initialized RX4, Cond.code yX4_isOnTheWay cX4_isOnTheWay 1 (some .boolean), Cond.fieldLink RX4 31 "DryIceLane$Route" "minutesLeft" "I", Cond.methodLink RX9 154 yX8_isSafe, Cond.instanceMethod yX8_isSafe, Cond.selects RX8 yX8_isSafe yX8_isSafe, Cond.initialized RX8, Cond.code yX8_isSafe cX8_isSafe 1 (some .boolean), Cond.fieldLink RX8 12 "DryIceLane$Van" "settings" "LDryIceLane$Settings;", Cond.methodLink RX8 76 yX8_concentration, Cond.instanceMethod yX8_concentration, Cond.selects RX8 yX8_concentration yX8_concentration, Cond.code yX8_concentration cX8_concentration 1 (some .long), Cond.fieldLink RX8 28 "DryIceLane$Van" "hold" "LDryIceLane$Hold;", Cond.methodLink RX8 72 yX1_concentration, Cond.instanceMethod yX1_concentration, Cond.selects RX1 yX1_concentration yX1_concentration]
def wsX9_open_r2 : List Cond := [Cond.initialized RX1, Cond.code yX1_concentration cX1_concentration 2 (some .long), Cond.fieldLink RX1 18 "DryIceLane$Hold" "gas" "J", Cond.constantLong RX1 35 (2), Cond.methodLink RX1 37 yX6_value, Cond.instanceMethod yX6_value, Cond.selects RX6 yX6_value yX6_value, Cond.initialized RX6, Cond.code yX6_value cX6_value 2 (some .int), Cond.fieldLink RX6 18 "DryIceLane$Settings" "values" "[I", Cond.static yX9_within, Cond.initialized RX9, Cond.code yX9_within cX9_within 3 (some .boolean), Cond.static yX9_quotient, Cond.code yX9_quotient cX9_quotient 4 (some .long), Cond.methodLink RX8 79 yX6_value, Cond.methodLink RX9 157 yX1_openVent, Cond.instanceMethod yX1_openVent, Cond.selects RX1 yX1_openVent yX1_openVent, Cond.code yX1_openVent cX1_openVent 1 none, Cond.fieldLink RX1 22 "DryIceLane$Hold" "ventOpen" "Z", Cond.methodLink RX9 160 yX8_concentration]
def wsX9_open : List Cond := .code yX9_open cX9_open 1 (some .int) :: ((wsX9_open_r1 ++ wsX9_open_r2) ++ wsX90 ++ wsX80 ++ wsX10 ++ wsX40 ++ wsX60)
def wsX9_shut_r1 : List Cond := [Cond.fieldLink RX9 10 "DryIceLane" "now" "LDryIceLane$Van;", Cond.fieldLink RX9 59 "DryIceLane$Van" "hold" "LDryIceLane$Hold;", Cond.fieldLink RX9 63 "DryIceLane$Hold" "doorOpen" "Z", Cond.methodLink RX9 160 yX8_concentration, Cond.instanceMethod yX8_concentration, Cond.selects RX8 yX8_concentration yX8_concentration, Cond.initialized RX8, Cond.code yX8_concentration cX8_concentration 1 (some .long), Cond.fieldLink RX8 28 "DryIceLane$Van" "hold" "LDryIceLane$Hold;", Cond.fieldLink RX8 12 "DryIceLane$Van" "settings" "LDryIceLane$Settings;", Cond.methodLink RX8 72 yX1_concentration, Cond.instanceMethod yX1_concentration, Cond.selects RX1 yX1_concentration yX1_concentration, Cond.initialized RX1, Cond.code yX1_concentration cX1_concentration 2 (some .long), Cond.fieldLink RX1 18 "DryIceLane$Hold" "gas" "J", Cond.constantLong RX1 35 (2), Cond.methodLink RX1 37 yX6_value, Cond.instanceMethod yX6_value, Cond.selects RX6 yX6_value yX6_value, Cond.initialized RX6, Cond.code yX6_value cX6_value 2 (some .int), Cond.fieldLink RX6 18 "DryIceLane$Settings" "values" "[I", Cond.static yX9_within]
def wsX9_shut_r2 : List Cond := [Cond.initialized RX9, Cond.code yX9_within cX9_within 3 (some .boolean), Cond.static yX9_quotient, Cond.code yX9_quotient cX9_quotient 4 (some .long)]
def wsX9_shut : List Cond := .code yX9_shut cX9_shut 1 (some .int) :: ((wsX9_shut_r1 ++ wsX9_shut_r2) ++ wsX90 ++ wsX80 ++ wsX10 ++ wsX60)
def wsX9_sell_r1 : List Cond := [Cond.constant RX9 164 (50000000), Cond.fieldLink RX9 10 "DryIceLane" "now" "LDryIceLane$Van;", Cond.fieldLink RX9 59 "DryIceLane$Van" "hold" "LDryIceLane$Hold;", Cond.fieldLink RX9 63 "DryIceLane$Hold" "doorOpen" "Z", Cond.fieldLink RX9 49 "DryIceLane$Van" "lane" "LDryIceLane$Lane;", Cond.fieldLink RX9 169 "DryIceLane$Van" "sold" "J", Cond.methodLink RX9 43 yX9_within, Cond.static yX9_within, Cond.initialized RX9, Cond.code yX9_within cX9_within 3 (some .boolean), Cond.methodLink RX9 165 yX2_iceOfAll, Cond.instanceMethod yX2_iceOfAll, Cond.selects RX2 yX2_iceOfAll yX2_iceOfAll, Cond.initialized RX2, Cond.code yX2_iceOfAll cX2_iceOfAll 3 (some .int), Cond.fieldLink RX2 18 "DryIceLane$Lane" "count" "I", Cond.fieldLink RX2 11 "DryIceLane$Lane" "boxes" "[LDryIceLane$Box;", Cond.fieldLink RX2 36 "DryIceLane$Box" "ice" "I", Cond.methodLink RX9 172 yX2_takeFromFront, Cond.instanceMethod yX2_takeFromFront, Cond.selects RX2 yX2_takeFromFront yX2_takeFromFront, Cond.code yX2_takeFromFront cX2_takeFromFront 6 (some .int), Cond.methodLink RX2 46 Lib.Math.min.name, Cond.static Lib.Math.min.name]
def wsX9_sell_r2 : List Cond := [Cond.initialized "java/lang/Math", Cond.code Lib.Math.min.name Lib.Math.min.code 2 (some .int), Cond.methodLink RX2 52 yX0_take, Cond.instanceMethod yX0_take, Cond.selects RX0 yX0_take yX0_take, Cond.initialized RX0, Cond.code yX0_take cX0_take 2 none, Cond.fieldLink RX0 18 "DryIceLane$Box" "ice" "I", Cond.fieldLink RX0 21 "DryIceLane$Box" "paper" "I", Cond.methodLink RX0 38 Lib.Math.max.name, Cond.static Lib.Math.max.name, Cond.code Lib.Math.max.name Lib.Math.max.code 2 (some .int)]
def wsX9_sell : List Cond := .code yX9_sell cX9_sell 2 (some .int) :: ((wsX9_sell_r1 ++ wsX9_sell_r2) ++ wsX90 ++ wsX80 ++ wsX10 ++ wsX20 ++ wsX00)
def wsX9_spill : List Cond := .code yX9_spill cX9_spill 4 (some .int) :: ([.fieldLink RX9 10 "DryIceLane" "now" "LDryIceLane$Van;", .fieldLink RX9 49 "DryIceLane$Van" "lane" "LDryIceLane$Lane;", .constant RX9 48 (20000000), .fieldLink RX9 81 "DryIceLane$Box" "ice" "I", .fieldLink RX9 176 "DryIceLane$Van" "spilled" "J", .methodLink RX9 77 yX2_boxAt, .instanceMethod yX2_boxAt, .selects RX2 yX2_boxAt yX2_boxAt, .initialized RX2, .code yX2_boxAt cX2_boxAt 2 (some (.object "DryIceLane$Box")), .fieldLink RX2 18 "DryIceLane$Lane" "count" "I", .fieldLink RX2 11 "DryIceLane$Lane" "boxes" "[LDryIceLane$Box;", .static yX9_within, .initialized RX9, .code yX9_within cX9_within 3 (some .boolean), .methodLink RX9 43 yX9_within] ++ wsX90 ++ wsX80 ++ wsX00 ++ wsX20)
def wsX9_weigh : List Cond := .code yX9_weigh cX9_weigh 3 (some .int) :: ([.fieldLink RX9 10 "DryIceLane" "now" "LDryIceLane$Van;", .fieldLink RX9 49 "DryIceLane$Van" "lane" "LDryIceLane$Lane;", .fieldLink RX9 111 "DryIceLane$Van" "route" "LDryIceLane$Route;", .fieldLink RX9 179 "DryIceLane$Box" "tare" "I", .fieldLink RX9 81 "DryIceLane$Box" "ice" "I", .methodLink RX9 77 yX2_boxAt, .instanceMethod yX2_boxAt, .selects RX2 yX2_boxAt yX2_boxAt, .initialized RX2, .code yX2_boxAt cX2_boxAt 2 (some (.object "DryIceLane$Box")), .fieldLink RX2 18 "DryIceLane$Lane" "count" "I", .fieldLink RX2 11 "DryIceLane$Lane" "boxes" "[LDryIceLane$Box;", .static yX9_within, .initialized RX9, .code yX9_within cX9_within 3 (some .boolean), .methodLink RX9 124 yX4_isOnTheWay, .instanceMethod yX4_isOnTheWay, .selects RX4 yX4_isOnTheWay yX4_isOnTheWay, .initialized RX4, .code yX4_isOnTheWay cX4_isOnTheWay 1 (some .boolean), .fieldLink RX4 31 "DryIceLane$Route" "minutesLeft" "I"] ++ wsX90 ++ wsX80 ++ wsX00 ++ wsX20 ++ wsX40)
def wsX9_check : List Cond := .code yX9_check cX9_check 4 (some .int) :: ([.fieldLink RX9 10 "DryIceLane" "now" "LDryIceLane$Van;", .fieldLink RX9 49 "DryIceLane$Van" "lane" "LDryIceLane$Lane;", .constant RX9 182 (-1000000001), .fieldLink RX9 111 "DryIceLane$Van" "route" "LDryIceLane$Route;", .constant RX9 183 (-1000000005), .fieldLink RX9 184 "DryIceLane$Box" "paper" "I", .fieldLink RX9 81 "DryIceLane$Box" "ice" "I", .methodLink RX9 77 yX2_boxAt, .instanceMethod yX2_boxAt, .selects RX2 yX2_boxAt yX2_boxAt, .initialized RX2, .code yX2_boxAt cX2_boxAt 2 (some (.object "DryIceLane$Box")), .fieldLink RX2 18 "DryIceLane$Lane" "count" "I", .fieldLink RX2 11 "DryIceLane$Lane" "boxes" "[LDryIceLane$Box;", .static yX9_within, .initialized RX9, .code yX9_within cX9_within 3 (some .boolean), .methodLink RX9 124 yX4_isOnTheWay, .instanceMethod yX4_isOnTheWay, .selects RX4 yX4_isOnTheWay yX4_isOnTheWay, .initialized RX4, .code yX4_isOnTheWay cX4_isOnTheWay 1 (some .boolean), .fieldLink RX4 31 "DryIceLane$Route" "minutesLeft" "I"] ++ wsX90 ++ wsX80 ++ wsX00 ++ wsX20 ++ wsX40)
def wsX9_box_r1 : List Cond := [Cond.fieldLink RX9 10 "DryIceLane" "now" "LDryIceLane$Van;", Cond.fieldLink RX9 49 "DryIceLane$Van" "lane" "LDryIceLane$Lane;", Cond.fieldLink RX9 187 "DryIceLane$Box" "insulation" "I", Cond.fieldLink RX9 179 "DryIceLane$Box" "tare" "I", Cond.fieldLink RX9 81 "DryIceLane$Box" "ice" "I", Cond.fieldLink RX9 184 "DryIceLane$Box" "paper" "I", Cond.fieldLink RX9 59 "DryIceLane$Van" "hold" "LDryIceLane$Hold;", Cond.fieldLink RX9 190 "DryIceLane$Hold" "temperature" "I", Cond.fieldLink RX9 97 "DryIceLane$Van" "settings" "LDryIceLane$Settings;", Cond.methodLink RX9 77 yX2_boxAt, Cond.instanceMethod yX2_boxAt, Cond.selects RX2 yX2_boxAt yX2_boxAt, Cond.initialized RX2, Cond.code yX2_boxAt cX2_boxAt 2 (some (.object "DryIceLane$Box")), Cond.fieldLink RX2 18 "DryIceLane$Lane" "count" "I", Cond.fieldLink RX2 11 "DryIceLane$Lane" "boxes" "[LDryIceLane$Box;", Cond.static yX9_within, Cond.initialized RX9, Cond.code yX9_within cX9_within 3 (some .boolean), Cond.methodLink RX9 193 yX6_value, Cond.instanceMethod yX6_value, Cond.selects RX6 yX6_value yX6_value, Cond.initialized RX6, Cond.code yX6_value cX6_value 2 (some .int)]
def wsX9_box_r2 : List Cond := [Cond.fieldLink RX6 18 "DryIceLane$Settings" "values" "[I", Cond.methodLink RX9 196 yX0_goingOff, Cond.instanceMethod yX0_goingOff, Cond.selects RX0 yX0_goingOff yX0_goingOff, Cond.initialized RX0, Cond.code yX0_goingOff cX0_goingOff 5 (some .int), Cond.constantLong RX0 24 (100), Cond.fieldLink RX0 9 "DryIceLane$Box" "insulation" "I", Cond.methodLink RX0 30 Lib.MathLoose.max_long.x, Cond.static Lib.MathLoose.max_long.x, Cond.initialized "java/lang/Math", Cond.code Lib.MathLoose.max_long.x Lib.MathLoose.max_long.code 4 (some .long), Cond.fieldLink RX0 18 "DryIceLane$Box" "ice" "I", Cond.methodLink RX0 35 Lib.MathLoose.min_long.x, Cond.static Lib.MathLoose.min_long.x, Cond.code Lib.MathLoose.min_long.x Lib.MathLoose.min_long.code 4 (some .long), Cond.static yX9_quotient, Cond.code yX9_quotient cX9_quotient 4 (some .long)]
def wsX9_box : List Cond := .code yX9_box cX9_box 4 (some .int) :: ((wsX9_box_r1 ++ wsX9_box_r2) ++ wsX90 ++ wsX80 ++ wsX00 ++ wsX10 ++ wsX20 ++ wsX60)
def wsX9_van_r1 : List Cond := [Cond.constant RX9 199 (-1000000002), Cond.fieldLink RX9 10 "DryIceLane" "now" "LDryIceLane$Van;", Cond.fieldLink RX9 97 "DryIceLane$Van" "settings" "LDryIceLane$Settings;", Cond.fieldLink RX9 133 "DryIceLane$Van" "time" "I", Cond.fieldLink RX9 59 "DryIceLane$Van" "hold" "LDryIceLane$Hold;", Cond.fieldLink RX9 190 "DryIceLane$Hold" "temperature" "I", Cond.fieldLink RX9 111 "DryIceLane$Van" "route" "LDryIceLane$Route;", Cond.fieldLink RX9 203 "DryIceLane$Hold" "gas" "J", Cond.fieldLink RX9 148 "DryIceLane$Hold" "ventMode" "I", Cond.fieldLink RX9 206 "DryIceLane$Hold" "ventOpen" "Z", Cond.fieldLink RX9 209 "DryIceLane$Hold" "ventMinutes" "I", Cond.fieldLink RX9 63 "DryIceLane$Hold" "doorOpen" "Z", Cond.fieldLink RX9 130 "DryIceLane$Route" "latest" "I", Cond.constant RX9 212 (-1000000006), Cond.fieldLink RX9 137 "DryIceLane$Route" "minutesLeft" "I", Cond.fieldLink RX9 213 "DryIceLane$Hold" "alarms" "I", Cond.fieldLink RX9 49 "DryIceLane$Van" "lane" "LDryIceLane$Lane;", Cond.fieldLink RX9 53 "DryIceLane$Lane" "count" "I", Cond.fieldLink RX9 115 "DryIceLane$Route" "count" "I", Cond.fieldLink RX9 32 "DryIceLane" "pad" "LDryIceLane$Pad;", Cond.fieldLink RX9 216 "DryIceLane$Pad" "length" "I", Cond.methodLink RX9 43 yX9_within, Cond.static yX9_within, Cond.initialized RX9]
def wsX9_van_r2 : List Cond := [Cond.code yX9_within cX9_within 3 (some .boolean), Cond.methodLink RX9 193 yX6_value, Cond.instanceMethod yX6_value, Cond.selects RX6 yX6_value yX6_value, Cond.initialized RX6, Cond.code yX6_value cX6_value 2 (some .int), Cond.fieldLink RX6 18 "DryIceLane$Settings" "values" "[I", Cond.methodLink RX9 200 yX4_outsideNow, Cond.instanceMethod yX4_outsideNow, Cond.selects RX4 yX4_outsideNow yX4_outsideNow, Cond.initialized RX4, Cond.code yX4_outsideNow cX4_outsideNow 1 (some .int), Cond.fieldLink RX4 18 "DryIceLane$Route" "latest" "I", Cond.fieldLink RX4 15 "DryIceLane$Route" "outsides" "[I", Cond.methodLink RX4 38 yX4_hasLeg, Cond.instanceMethod yX4_hasLeg, Cond.selects RX4 yX4_hasLeg yX4_hasLeg, Cond.code yX4_hasLeg cX4_hasLeg 2 (some .boolean), Cond.fieldLink RX4 28 "DryIceLane$Route" "count" "I", Cond.methodLink RX9 160 yX8_concentration, Cond.instanceMethod yX8_concentration, Cond.selects RX8 yX8_concentration yX8_concentration, Cond.initialized RX8, Cond.code yX8_concentration cX8_concentration 1 (some .long)]
def wsX9_van_r3 : List Cond := [Cond.fieldLink RX8 28 "DryIceLane$Van" "hold" "LDryIceLane$Hold;", Cond.fieldLink RX8 12 "DryIceLane$Van" "settings" "LDryIceLane$Settings;", Cond.methodLink RX8 72 yX1_concentration, Cond.instanceMethod yX1_concentration, Cond.selects RX1 yX1_concentration yX1_concentration, Cond.initialized RX1, Cond.code yX1_concentration cX1_concentration 2 (some .long), Cond.fieldLink RX1 18 "DryIceLane$Hold" "gas" "J", Cond.constantLong RX1 35 (2), Cond.methodLink RX1 37 yX6_value, Cond.static yX9_quotient, Cond.code yX9_quotient cX9_quotient 4 (some .long)]
def wsX9_van : List Cond := .code yX9_van cX9_van 2 (some .int) :: ((wsX9_van_r1 ++ (wsX9_van_r2 ++ wsX9_van_r3)) ++ wsX90 ++ wsX80 ++ wsX10 ++ wsX40 ++ wsX20 ++ wsX30 ++ wsX60)
def wsX9_way : List Cond := .code yX9_way cX9_way 3 (some .int) :: ([.fieldLink RX9 10 "DryIceLane" "now" "LDryIceLane$Van;", .fieldLink RX9 111 "DryIceLane$Van" "route" "LDryIceLane$Route;", .constant RX9 182 (-1000000001), .constant RX9 199 (-1000000002), .methodLink RX9 219 yX4_hasLeg, .instanceMethod yX4_hasLeg, .selects RX4 yX4_hasLeg yX4_hasLeg, .initialized RX4, .code yX4_hasLeg cX4_hasLeg 2 (some .boolean), .fieldLink RX4 28 "DryIceLane$Route" "count" "I", .static yX9_within, .initialized RX9, .code yX9_within cX9_within 3 (some .boolean), .methodLink RX9 223 yX4_durationOf, .instanceMethod yX4_durationOf, .selects RX4 yX4_durationOf yX4_durationOf, .code yX4_durationOf cX4_durationOf 2 (some .int), .fieldLink RX4 9 "DryIceLane$Route" "durations" "[I", .methodLink RX4 38 yX4_hasLeg, .methodLink RX9 226 yX4_outsideOf, .instanceMethod yX4_outsideOf, .selects RX4 yX4_outsideOf yX4_outsideOf, .code yX4_outsideOf cX4_outsideOf 2 (some .int), .fieldLink RX4 15 "DryIceLane$Route" "outsides" "[I"] ++ wsX90 ++ wsX80 ++ wsX40)
def wsX9_account : List Cond := .code yX9_account cX9_account 2 (some .long) :: ([.fieldLink RX9 10 "DryIceLane" "now" "LDryIceLane$Van;", .fieldLink RX9 49 "DryIceLane$Van" "lane" "LDryIceLane$Lane;", .fieldLink RX9 73 "DryIceLane$Van" "putIn" "J", .fieldLink RX9 90 "DryIceLane$Van" "takenOut" "J", .fieldLink RX9 229 "DryIceLane$Van" "wentOff" "J", .fieldLink RX9 169 "DryIceLane$Van" "sold" "J", .fieldLink RX9 176 "DryIceLane$Van" "spilled" "J", .constantLong RX9 232 (-2), .methodLink RX9 165 yX2_iceOfAll, .instanceMethod yX2_iceOfAll, .selects RX2 yX2_iceOfAll yX2_iceOfAll, .initialized RX2, .code yX2_iceOfAll cX2_iceOfAll 3 (some .int), .fieldLink RX2 18 "DryIceLane$Lane" "count" "I", .fieldLink RX2 11 "DryIceLane$Lane" "boxes" "[LDryIceLane$Box;", .fieldLink RX2 36 "DryIceLane$Box" "ice" "I"] ++ wsX90 ++ wsX80 ++ wsX20 ++ wsX00)
def wsX9_atEnd_r1 : List Cond := [Cond.fieldLink RX9 10 "DryIceLane" "now" "LDryIceLane$Van;", Cond.fieldLink RX9 49 "DryIceLane$Van" "lane" "LDryIceLane$Lane;", Cond.fieldLink RX9 16 "DryIceLane" "copy" "LDryIceLane$Van;", Cond.fieldLink RX9 59 "DryIceLane$Van" "hold" "LDryIceLane$Hold;", Cond.fieldLink RX9 63 "DryIceLane$Hold" "doorOpen" "Z", Cond.fieldLink RX9 81 "DryIceLane$Box" "ice" "I", Cond.methodLink RX9 77 yX2_boxAt, Cond.instanceMethod yX2_boxAt, Cond.selects RX2 yX2_boxAt yX2_boxAt, Cond.initialized RX2, Cond.code yX2_boxAt cX2_boxAt 2 (some (.object "DryIceLane$Box")), Cond.fieldLink RX2 18 "DryIceLane$Lane" "count" "I", Cond.fieldLink RX2 11 "DryIceLane$Lane" "boxes" "[LDryIceLane$Box;", Cond.static yX9_within, Cond.initialized RX9, Cond.code yX9_within cX9_within 3 (some .boolean), Cond.methodLink RX9 43 yX9_within, Cond.methodLink RX9 234 yX8_becomeLike, Cond.instanceMethod yX8_becomeLike, Cond.selects RX8 yX8_becomeLike yX8_becomeLike, Cond.initialized RX8, Cond.code yX8_becomeLike cX8_becomeLike 2 none, Cond.fieldLink RX8 12 "DryIceLane$Van" "settings" "LDryIceLane$Settings;", Cond.fieldLink RX8 21 "DryIceLane$Van" "lane" "LDryIceLane$Lane;"]
def wsX9_atEnd_r2 : List Cond := [Cond.fieldLink RX8 28 "DryIceLane$Van" "hold" "LDryIceLane$Hold;", Cond.fieldLink RX8 35 "DryIceLane$Van" "route" "LDryIceLane$Route;", Cond.fieldLink RX8 52 "DryIceLane$Van" "time" "I", Cond.fieldLink RX8 56 "DryIceLane$Van" "putIn" "J", Cond.fieldLink RX8 60 "DryIceLane$Van" "takenOut" "J", Cond.fieldLink RX8 63 "DryIceLane$Van" "wentOff" "J", Cond.fieldLink RX8 66 "DryIceLane$Van" "sold" "J", Cond.fieldLink RX8 69 "DryIceLane$Van" "spilled" "J", Cond.methodLink RX8 39 yX6_becomeLike, Cond.instanceMethod yX6_becomeLike, Cond.selects RX6 yX6_becomeLike yX6_becomeLike, Cond.initialized RX6, Cond.code yX6_becomeLike cX6_becomeLike 2 none, Cond.fieldLink RX6 18 "DryIceLane$Settings" "values" "[I", Cond.methodLink RX6 23 arraycopyName, Cond.native arraycopyName, Cond.static arraycopyName, Cond.initialized "java/lang/System", Cond.methodLink RX8 43 yX2_becomeLike, Cond.instanceMethod yX2_becomeLike, Cond.selects RX2 yX2_becomeLike yX2_becomeLike, Cond.code yX2_becomeLike cX2_becomeLike 3 none, Cond.methodLink RX2 22 yX0_becomeLike, Cond.instanceMethod yX0_becomeLike]
def wsX9_atEnd_r3 : List Cond := [Cond.selects RX0 yX0_becomeLike yX0_becomeLike, Cond.initialized RX0, Cond.code yX0_becomeLike cX0_becomeLike 2 none, Cond.fieldLink RX0 9 "DryIceLane$Box" "insulation" "I", Cond.fieldLink RX0 15 "DryIceLane$Box" "tare" "I", Cond.fieldLink RX0 18 "DryIceLane$Box" "ice" "I", Cond.fieldLink RX0 21 "DryIceLane$Box" "paper" "I", Cond.methodLink RX8 46 yX1_becomeLike, Cond.instanceMethod yX1_becomeLike, Cond.selects RX1 yX1_becomeLike yX1_becomeLike, Cond.initialized RX1, Cond.code yX1_becomeLike cX1_becomeLike 2 none, Cond.fieldLink RX1 9 "DryIceLane$Hold" "temperature" "I", Cond.fieldLink RX1 18 "DryIceLane$Hold" "gas" "J", Cond.fieldLink RX1 15 "DryIceLane$Hold" "ventMode" "I", Cond.fieldLink RX1 22 "DryIceLane$Hold" "ventOpen" "Z", Cond.fieldLink RX1 26 "DryIceLane$Hold" "ventMinutes" "I", Cond.fieldLink RX1 29 "DryIceLane$Hold" "doorOpen" "Z", Cond.fieldLink RX1 32 "DryIceLane$Hold" "alarms" "I", Cond.methodLink RX8 49 yX4_becomeLike, Cond.instanceMethod yX4_becomeLike, Cond.selects RX4 yX4_becomeLike yX4_becomeLike, Cond.initialized RX4, Cond.code yX4_becomeLike cX4_becomeLike 2 none]
def wsX9_atEnd_r4 : List Cond := [Cond.fieldLink RX4 9 "DryIceLane$Route" "durations" "[I", Cond.methodLink RX4 22 arraycopyName, Cond.fieldLink RX4 15 "DryIceLane$Route" "outsides" "[I", Cond.fieldLink RX4 28 "DryIceLane$Route" "count" "I", Cond.fieldLink RX4 18 "DryIceLane$Route" "latest" "I", Cond.fieldLink RX4 31 "DryIceLane$Route" "minutesLeft" "I", Cond.methodLink RX9 238 yX8_driveToEnd, Cond.instanceMethod yX8_driveToEnd, Cond.selects RX8 yX8_driveToEnd yX8_driveToEnd, Cond.code yX8_driveToEnd cX8_driveToEnd 4 none, Cond.fieldLink RX8 105 "DryIceLane$Route" "minutesLeft" "I", Cond.methodLink RX8 101 yX4_isOnTheWay, Cond.instanceMethod yX4_isOnTheWay, Cond.selects RX4 yX4_isOnTheWay yX4_isOnTheWay, Cond.code yX4_isOnTheWay cX4_isOnTheWay 1 (some .boolean), Cond.methodLink RX8 108 yX8_letPass, Cond.instanceMethod yX8_letPass, Cond.selects RX8 yX8_letPass yX8_letPass, Cond.code yX8_letPass cX8_letPass 3 none, Cond.methodLink RX8 83 yX8_letMinutePass, Cond.instanceMethod yX8_letMinutePass, Cond.selects RX8 yX8_letMinutePass yX8_letMinutePass, Cond.code yX8_letMinutePass cX8_letMinutePass 2 none, Cond.fieldLink RX8 86 "DryIceLane$Hold" "temperature" "I"]
def wsX9_atEnd_r5 : List Cond := [Cond.methodLink RX8 79 yX6_value, Cond.instanceMethod yX6_value, Cond.selects RX6 yX6_value yX6_value, Cond.code yX6_value cX6_value 2 (some .int), Cond.methodLink RX8 89 yX2_letGoOff, Cond.instanceMethod yX2_letGoOff, Cond.selects RX2 yX2_letGoOff yX2_letGoOff, Cond.code yX2_letGoOff cX2_letGoOff 6 (some .int), Cond.methodLink RX2 56 yX0_goingOff, Cond.instanceMethod yX0_goingOff, Cond.selects RX0 yX0_goingOff yX0_goingOff, Cond.code yX0_goingOff cX0_goingOff 5 (some .int), Cond.constantLong RX0 24 (100), Cond.methodLink RX0 30 Lib.MathLoose.max_long.x, Cond.static Lib.MathLoose.max_long.x, Cond.initialized "java/lang/Math", Cond.code Lib.MathLoose.max_long.x Lib.MathLoose.max_long.code 4 (some .long), Cond.methodLink RX0 35 Lib.MathLoose.min_long.x, Cond.static Lib.MathLoose.min_long.x, Cond.code Lib.MathLoose.min_long.x Lib.MathLoose.min_long.code 4 (some .long), Cond.static yX9_quotient, Cond.code yX9_quotient cX9_quotient 4 (some .long), Cond.methodLink RX2 52 yX0_take, Cond.instanceMethod yX0_take]
def wsX9_atEnd_r6 : List Cond := [Cond.selects RX0 yX0_take yX0_take, Cond.code yX0_take cX0_take 2 none, Cond.methodLink RX0 38 Lib.Math.max.name, Cond.static Lib.Math.max.name, Cond.code Lib.Math.max.name Lib.Math.max.code 2 (some .int), Cond.methodLink RX8 93 yX4_outsideNow, Cond.instanceMethod yX4_outsideNow, Cond.selects RX4 yX4_outsideNow yX4_outsideNow, Cond.code yX4_outsideNow cX4_outsideNow 1 (some .int), Cond.methodLink RX4 38 yX4_hasLeg, Cond.instanceMethod yX4_hasLeg, Cond.selects RX4 yX4_hasLeg yX4_hasLeg, Cond.code yX4_hasLeg cX4_hasLeg 2 (some .boolean), Cond.methodLink RX8 97 yX1_letMinutePass, Cond.instanceMethod yX1_letMinutePass, Cond.selects RX1 yX1_letMinutePass yX1_letMinutePass, Cond.code yX1_letMinutePass cX1_letMinutePass 6 none, Cond.methodLink RX1 56 yX1_changeTemperature, Cond.instanceMethod yX1_changeTemperature, Cond.selects RX1 yX1_changeTemperature yX1_changeTemperature, Cond.code yX1_changeTemperature cX1_changeTemperature 6 none, Cond.methodLink RX1 72 Lib.Math.min.name, Cond.static Lib.Math.min.name, Cond.code Lib.Math.min.name Lib.Math.min.code 2 (some .int)]
def wsX9_atEnd_r7 : List Cond := [Cond.methodLink RX1 78 Lib.Math.max.name, Cond.methodLink RX1 37 yX6_value, Cond.methodLink RX1 60 yX1_loseGas, Cond.instanceMethod yX1_loseGas, Cond.selects RX1 yX1_loseGas yX1_loseGas, Cond.code yX1_loseGas cX1_loseGas 2 none, Cond.constantLong RX1 81 (1000), Cond.methodLink RX1 64 yX1_concentration, Cond.instanceMethod yX1_concentration, Cond.selects RX1 yX1_concentration yX1_concentration, Cond.code yX1_concentration cX1_concentration 2 (some .long), Cond.constantLong RX1 35 (2), Cond.methodLink RX1 68 yX1_moveVent, Cond.instanceMethod yX1_moveVent, Cond.selects RX1 yX1_moveVent yX1_moveVent, Cond.code yX1_moveVent cX1_moveVent 4 none, Cond.methodLink RX1 47 yX1_keepToMode, Cond.instanceMethod yX1_keepToMode, Cond.selects RX1 yX1_keepToMode yX1_keepToMode, Cond.code yX1_keepToMode cX1_keepToMode 1 none, Cond.methodLink RX1 50 yX1_openVent, Cond.instanceMethod yX1_openVent, Cond.selects RX1 yX1_openVent yX1_openVent, Cond.code yX1_openVent cX1_openVent 1 none]
def wsX9_atEnd_r8 : List Cond := [Cond.methodLink RX1 53 yX1_shutVent, Cond.instanceMethod yX1_shutVent, Cond.selects RX1 yX1_shutVent yX1_shutVent, Cond.code yX1_shutVent cX1_shutVent 1 none, Cond.methodLink RX8 100 yX4_letMinutePass, Cond.instanceMethod yX4_letMinutePass, Cond.selects RX4 yX4_letMinutePass yX4_letMinutePass, Cond.code yX4_letMinutePass cX4_letMinutePass 1 none, Cond.methodLink RX4 46 yX4_isOnTheWay, Cond.methodLink RX8 112 yX4_hasNextLeg, Cond.instanceMethod yX4_hasNextLeg, Cond.selects RX4 yX4_hasNextLeg yX4_hasNextLeg, Cond.code yX4_hasNextLeg cX4_hasNextLeg 1 (some .boolean), Cond.methodLink RX8 115 yX4_beginNextLeg, Cond.instanceMethod yX4_beginNextLeg, Cond.selects RX4 yX4_beginNextLeg yX4_beginNextLeg, Cond.code yX4_beginNextLeg cX4_beginNextLeg 1 none, Cond.methodLink RX4 42 yX4_hasNextLeg]
def wsX9_atEnd : List Cond := .code yX9_atEnd cX9_atEnd 4 (some .int) :: ((wsX9_atEnd_r1 ++ (wsX9_atEnd_r2 ++ (wsX9_atEnd_r3 ++ (wsX9_atEnd_r4 ++ (wsX9_atEnd_r5 ++ (wsX9_atEnd_r6 ++ (wsX9_atEnd_r7 ++ wsX9_atEnd_r8))))))) ++ wsX90 ++ wsX80 ++ wsX10 ++ wsX00 ++ wsX20 ++ wsX60 ++ wsX40)
def wsX9_worst_r1 : List Cond := [Cond.fieldLink RX9 16 "DryIceLane" "copy" "LDryIceLane$Van;", Cond.fieldLink RX9 10 "DryIceLane" "now" "LDryIceLane$Van;", Cond.methodLink RX9 244 Lib.MathLoose.max_long.x, Cond.static Lib.MathLoose.max_long.x, Cond.initialized "java/lang/Math", Cond.code Lib.MathLoose.max_long.x Lib.MathLoose.max_long.code 4 (some .long), Cond.methodLink RX9 43 yX9_within, Cond.static yX9_within, Cond.initialized RX9, Cond.code yX9_within cX9_within 3 (some .boolean), Cond.methodLink RX9 234 yX8_becomeLike, Cond.instanceMethod yX8_becomeLike, Cond.selects RX8 yX8_becomeLike yX8_becomeLike, Cond.initialized RX8, Cond.code yX8_becomeLike cX8_becomeLike 2 none, Cond.fieldLink RX8 12 "DryIceLane$Van" "settings" "LDryIceLane$Settings;", Cond.fieldLink RX8 21 "DryIceLane$Van" "lane" "LDryIceLane$Lane;", Cond.fieldLink RX8 28 "DryIceLane$Van" "hold" "LDryIceLane$Hold;", Cond.fieldLink RX8 35 "DryIceLane$Van" "route" "LDryIceLane$Route;", Cond.fieldLink RX8 52 "DryIceLane$Van" "time" "I", Cond.fieldLink RX8 56 "DryIceLane$Van" "putIn" "J", Cond.fieldLink RX8 60 "DryIceLane$Van" "takenOut" "J", Cond.fieldLink RX8 63 "DryIceLane$Van" "wentOff" "J", Cond.fieldLink RX8 66 "DryIceLane$Van" "sold" "J"]
def wsX9_worst_r2 : List Cond := [Cond.fieldLink RX8 69 "DryIceLane$Van" "spilled" "J", Cond.methodLink RX8 39 yX6_becomeLike, Cond.instanceMethod yX6_becomeLike, Cond.selects RX6 yX6_becomeLike yX6_becomeLike, Cond.initialized RX6, Cond.code yX6_becomeLike cX6_becomeLike 2 none, Cond.fieldLink RX6 18 "DryIceLane$Settings" "values" "[I", Cond.methodLink RX6 23 arraycopyName, Cond.native arraycopyName, Cond.static arraycopyName, Cond.initialized "java/lang/System", Cond.methodLink RX8 43 yX2_becomeLike, Cond.instanceMethod yX2_becomeLike, Cond.selects RX2 yX2_becomeLike yX2_becomeLike, Cond.initialized RX2, Cond.code yX2_becomeLike cX2_becomeLike 3 none, Cond.fieldLink RX2 18 "DryIceLane$Lane" "count" "I", Cond.fieldLink RX2 11 "DryIceLane$Lane" "boxes" "[LDryIceLane$Box;", Cond.methodLink RX2 22 yX0_becomeLike, Cond.instanceMethod yX0_becomeLike, Cond.selects RX0 yX0_becomeLike yX0_becomeLike, Cond.initialized RX0, Cond.code yX0_becomeLike cX0_becomeLike 2 none, Cond.fieldLink RX0 9 "DryIceLane$Box" "insulation" "I"]
def wsX9_worst_r3 : List Cond := [Cond.fieldLink RX0 15 "DryIceLane$Box" "tare" "I", Cond.fieldLink RX0 18 "DryIceLane$Box" "ice" "I", Cond.fieldLink RX0 21 "DryIceLane$Box" "paper" "I", Cond.methodLink RX8 46 yX1_becomeLike, Cond.instanceMethod yX1_becomeLike, Cond.selects RX1 yX1_becomeLike yX1_becomeLike, Cond.initialized RX1, Cond.code yX1_becomeLike cX1_becomeLike 2 none, Cond.fieldLink RX1 9 "DryIceLane$Hold" "temperature" "I", Cond.fieldLink RX1 18 "DryIceLane$Hold" "gas" "J", Cond.fieldLink RX1 15 "DryIceLane$Hold" "ventMode" "I", Cond.fieldLink RX1 22 "DryIceLane$Hold" "ventOpen" "Z", Cond.fieldLink RX1 26 "DryIceLane$Hold" "ventMinutes" "I", Cond.fieldLink RX1 29 "DryIceLane$Hold" "doorOpen" "Z", Cond.fieldLink RX1 32 "DryIceLane$Hold" "alarms" "I", Cond.methodLink RX8 49 yX4_becomeLike, Cond.instanceMethod yX4_becomeLike, Cond.selects RX4 yX4_becomeLike yX4_becomeLike, Cond.initialized RX4, Cond.code yX4_becomeLike cX4_becomeLike 2 none, Cond.fieldLink RX4 9 "DryIceLane$Route" "durations" "[I", Cond.methodLink RX4 22 arraycopyName, Cond.fieldLink RX4 15 "DryIceLane$Route" "outsides" "[I", Cond.fieldLink RX4 28 "DryIceLane$Route" "count" "I"]
def wsX9_worst_r4 : List Cond := [Cond.fieldLink RX4 18 "DryIceLane$Route" "latest" "I", Cond.fieldLink RX4 31 "DryIceLane$Route" "minutesLeft" "I", Cond.methodLink RX9 241 yX8_letMinutePass, Cond.instanceMethod yX8_letMinutePass, Cond.selects RX8 yX8_letMinutePass yX8_letMinutePass, Cond.code yX8_letMinutePass cX8_letMinutePass 2 none, Cond.fieldLink RX8 86 "DryIceLane$Hold" "temperature" "I", Cond.methodLink RX8 79 yX6_value, Cond.instanceMethod yX6_value, Cond.selects RX6 yX6_value yX6_value, Cond.code yX6_value cX6_value 2 (some .int), Cond.methodLink RX8 89 yX2_letGoOff, Cond.instanceMethod yX2_letGoOff, Cond.selects RX2 yX2_letGoOff yX2_letGoOff, Cond.code yX2_letGoOff cX2_letGoOff 6 (some .int), Cond.methodLink RX2 56 yX0_goingOff, Cond.instanceMethod yX0_goingOff, Cond.selects RX0 yX0_goingOff yX0_goingOff, Cond.code yX0_goingOff cX0_goingOff 5 (some .int), Cond.constantLong RX0 24 (100), Cond.methodLink RX0 30 Lib.MathLoose.max_long.x, Cond.methodLink RX0 35 Lib.MathLoose.min_long.x, Cond.static Lib.MathLoose.min_long.x, Cond.code Lib.MathLoose.min_long.x Lib.MathLoose.min_long.code 4 (some .long)]
def wsX9_worst_r5 : List Cond := [Cond.static yX9_quotient, Cond.code yX9_quotient cX9_quotient 4 (some .long), Cond.methodLink RX2 52 yX0_take, Cond.instanceMethod yX0_take, Cond.selects RX0 yX0_take yX0_take, Cond.code yX0_take cX0_take 2 none, Cond.methodLink RX0 38 Lib.Math.max.name, Cond.static Lib.Math.max.name, Cond.code Lib.Math.max.name Lib.Math.max.code 2 (some .int), Cond.methodLink RX8 93 yX4_outsideNow, Cond.instanceMethod yX4_outsideNow, Cond.selects RX4 yX4_outsideNow yX4_outsideNow, Cond.code yX4_outsideNow cX4_outsideNow 1 (some .int), Cond.methodLink RX4 38 yX4_hasLeg, Cond.instanceMethod yX4_hasLeg, Cond.selects RX4 yX4_hasLeg yX4_hasLeg, Cond.code yX4_hasLeg cX4_hasLeg 2 (some .boolean), Cond.methodLink RX8 97 yX1_letMinutePass, Cond.instanceMethod yX1_letMinutePass, Cond.selects RX1 yX1_letMinutePass yX1_letMinutePass, Cond.code yX1_letMinutePass cX1_letMinutePass 6 none, Cond.methodLink RX1 56 yX1_changeTemperature, Cond.instanceMethod yX1_changeTemperature, Cond.selects RX1 yX1_changeTemperature yX1_changeTemperature]
def wsX9_worst_r6 : List Cond := [Cond.code yX1_changeTemperature cX1_changeTemperature 6 none, Cond.methodLink RX1 72 Lib.Math.min.name, Cond.static Lib.Math.min.name, Cond.code Lib.Math.min.name Lib.Math.min.code 2 (some .int), Cond.methodLink RX1 78 Lib.Math.max.name, Cond.methodLink RX1 37 yX6_value, Cond.methodLink RX1 60 yX1_loseGas, Cond.instanceMethod yX1_loseGas, Cond.selects RX1 yX1_loseGas yX1_loseGas, Cond.code yX1_loseGas cX1_loseGas 2 none, Cond.constantLong RX1 81 (1000), Cond.methodLink RX1 64 yX1_concentration, Cond.instanceMethod yX1_concentration, Cond.selects RX1 yX1_concentration yX1_concentration, Cond.code yX1_concentration cX1_concentration 2 (some .long), Cond.constantLong RX1 35 (2), Cond.methodLink RX1 68 yX1_moveVent, Cond.instanceMethod yX1_moveVent, Cond.selects RX1 yX1_moveVent yX1_moveVent, Cond.code yX1_moveVent cX1_moveVent 4 none, Cond.methodLink RX1 47 yX1_keepToMode, Cond.instanceMethod yX1_keepToMode, Cond.selects RX1 yX1_keepToMode yX1_keepToMode, Cond.code yX1_keepToMode cX1_keepToMode 1 none]
def wsX9_worst_r7 : List Cond := [Cond.methodLink RX1 50 yX1_openVent, Cond.instanceMethod yX1_openVent, Cond.selects RX1 yX1_openVent yX1_openVent, Cond.code yX1_openVent cX1_openVent 1 none, Cond.methodLink RX1 53 yX1_shutVent, Cond.instanceMethod yX1_shutVent, Cond.selects RX1 yX1_shutVent yX1_shutVent, Cond.code yX1_shutVent cX1_shutVent 1 none, Cond.methodLink RX8 100 yX4_letMinutePass, Cond.instanceMethod yX4_letMinutePass, Cond.selects RX4 yX4_letMinutePass yX4_letMinutePass, Cond.code yX4_letMinutePass cX4_letMinutePass 1 none, Cond.methodLink RX4 46 yX4_isOnTheWay, Cond.instanceMethod yX4_isOnTheWay, Cond.selects RX4 yX4_isOnTheWay yX4_isOnTheWay, Cond.code yX4_isOnTheWay cX4_isOnTheWay 1 (some .boolean), Cond.methodLink RX9 160 yX8_concentration, Cond.instanceMethod yX8_concentration, Cond.selects RX8 yX8_concentration yX8_concentration, Cond.code yX8_concentration cX8_concentration 1 (some .long), Cond.methodLink RX8 72 yX1_concentration]
def wsX9_worst : List Cond := .code yX9_worst cX9_worst 5 (some .int) :: ((wsX9_worst_r1 ++ (wsX9_worst_r2 ++ (wsX9_worst_r3 ++ (wsX9_worst_r4 ++ (wsX9_worst_r5 ++ (wsX9_worst_r6 ++ wsX9_worst_r7)))))) ++ wsX90 ++ wsX80 ++ wsX60 ++ wsX20 ++ wsX00 ++ wsX10 ++ wsX40)
def wsX9_purge_r1 : List Cond := [Cond.fieldLink RX9 16 "DryIceLane" "copy" "LDryIceLane$Van;", Cond.fieldLink RX9 10 "DryIceLane" "now" "LDryIceLane$Van;", Cond.fieldLink RX9 59 "DryIceLane$Van" "hold" "LDryIceLane$Hold;", Cond.fieldLink RX9 63 "DryIceLane$Hold" "doorOpen" "Z", Cond.methodLink RX9 43 yX9_within, Cond.static yX9_within, Cond.initialized RX9, Cond.code yX9_within cX9_within 3 (some .boolean), Cond.methodLink RX9 234 yX8_becomeLike, Cond.instanceMethod yX8_becomeLike, Cond.selects RX8 yX8_becomeLike yX8_becomeLike, Cond.initialized RX8, Cond.code yX8_becomeLike cX8_becomeLike 2 none, Cond.fieldLink RX8 12 "DryIceLane$Van" "settings" "LDryIceLane$Settings;", Cond.fieldLink RX8 21 "DryIceLane$Van" "lane" "LDryIceLane$Lane;", Cond.fieldLink RX8 28 "DryIceLane$Van" "hold" "LDryIceLane$Hold;", Cond.fieldLink RX8 35 "DryIceLane$Van" "route" "LDryIceLane$Route;", Cond.fieldLink RX8 52 "DryIceLane$Van" "time" "I", Cond.fieldLink RX8 56 "DryIceLane$Van" "putIn" "J", Cond.fieldLink RX8 60 "DryIceLane$Van" "takenOut" "J", Cond.fieldLink RX8 63 "DryIceLane$Van" "wentOff" "J", Cond.fieldLink RX8 66 "DryIceLane$Van" "sold" "J", Cond.fieldLink RX8 69 "DryIceLane$Van" "spilled" "J", Cond.methodLink RX8 39 yX6_becomeLike]
def wsX9_purge_r2 : List Cond := [Cond.instanceMethod yX6_becomeLike, Cond.selects RX6 yX6_becomeLike yX6_becomeLike, Cond.initialized RX6, Cond.code yX6_becomeLike cX6_becomeLike 2 none, Cond.fieldLink RX6 18 "DryIceLane$Settings" "values" "[I", Cond.methodLink RX6 23 arraycopyName, Cond.native arraycopyName, Cond.static arraycopyName, Cond.initialized "java/lang/System", Cond.methodLink RX8 43 yX2_becomeLike, Cond.instanceMethod yX2_becomeLike, Cond.selects RX2 yX2_becomeLike yX2_becomeLike, Cond.initialized RX2, Cond.code yX2_becomeLike cX2_becomeLike 3 none, Cond.fieldLink RX2 18 "DryIceLane$Lane" "count" "I", Cond.fieldLink RX2 11 "DryIceLane$Lane" "boxes" "[LDryIceLane$Box;", Cond.methodLink RX2 22 yX0_becomeLike, Cond.instanceMethod yX0_becomeLike, Cond.selects RX0 yX0_becomeLike yX0_becomeLike, Cond.initialized RX0, Cond.code yX0_becomeLike cX0_becomeLike 2 none, Cond.fieldLink RX0 9 "DryIceLane$Box" "insulation" "I", Cond.fieldLink RX0 15 "DryIceLane$Box" "tare" "I", Cond.fieldLink RX0 18 "DryIceLane$Box" "ice" "I"]
def wsX9_purge_r3 : List Cond := [Cond.fieldLink RX0 21 "DryIceLane$Box" "paper" "I", Cond.methodLink RX8 46 yX1_becomeLike, Cond.instanceMethod yX1_becomeLike, Cond.selects RX1 yX1_becomeLike yX1_becomeLike, Cond.initialized RX1, Cond.code yX1_becomeLike cX1_becomeLike 2 none, Cond.fieldLink RX1 9 "DryIceLane$Hold" "temperature" "I", Cond.fieldLink RX1 18 "DryIceLane$Hold" "gas" "J", Cond.fieldLink RX1 15 "DryIceLane$Hold" "ventMode" "I", Cond.fieldLink RX1 22 "DryIceLane$Hold" "ventOpen" "Z", Cond.fieldLink RX1 26 "DryIceLane$Hold" "ventMinutes" "I", Cond.fieldLink RX1 29 "DryIceLane$Hold" "doorOpen" "Z", Cond.fieldLink RX1 32 "DryIceLane$Hold" "alarms" "I", Cond.methodLink RX8 49 yX4_becomeLike, Cond.instanceMethod yX4_becomeLike, Cond.selects RX4 yX4_becomeLike yX4_becomeLike, Cond.initialized RX4, Cond.code yX4_becomeLike cX4_becomeLike 2 none, Cond.fieldLink RX4 9 "DryIceLane$Route" "durations" "[I", Cond.methodLink RX4 22 arraycopyName, Cond.fieldLink RX4 15 "DryIceLane$Route" "outsides" "[I", Cond.fieldLink RX4 28 "DryIceLane$Route" "count" "I", Cond.fieldLink RX4 18 "DryIceLane$Route" "latest" "I", Cond.fieldLink RX4 31 "DryIceLane$Route" "minutesLeft" "I"]
def wsX9_purge_r4 : List Cond := [Cond.methodLink RX9 151 yX1_setVentMode, Cond.instanceMethod yX1_setVentMode, Cond.selects RX1 yX1_setVentMode yX1_setVentMode, Cond.code yX1_setVentMode cX1_setVentMode 2 none, Cond.methodLink RX1 47 yX1_keepToMode, Cond.instanceMethod yX1_keepToMode, Cond.selects RX1 yX1_keepToMode yX1_keepToMode, Cond.code yX1_keepToMode cX1_keepToMode 1 none, Cond.methodLink RX1 50 yX1_openVent, Cond.instanceMethod yX1_openVent, Cond.selects RX1 yX1_openVent yX1_openVent, Cond.code yX1_openVent cX1_openVent 1 none, Cond.methodLink RX1 53 yX1_shutVent, Cond.instanceMethod yX1_shutVent, Cond.selects RX1 yX1_shutVent yX1_shutVent, Cond.code yX1_shutVent cX1_shutVent 1 none, Cond.methodLink RX9 154 yX8_isSafe, Cond.instanceMethod yX8_isSafe, Cond.selects RX8 yX8_isSafe yX8_isSafe, Cond.code yX8_isSafe cX8_isSafe 1 (some .boolean), Cond.methodLink RX8 76 yX8_concentration, Cond.instanceMethod yX8_concentration, Cond.selects RX8 yX8_concentration yX8_concentration, Cond.code yX8_concentration cX8_concentration 1 (some .long)]
def wsX9_purge_r5 : List Cond := [Cond.methodLink RX8 72 yX1_concentration, Cond.instanceMethod yX1_concentration, Cond.selects RX1 yX1_concentration yX1_concentration, Cond.code yX1_concentration cX1_concentration 2 (some .long), Cond.constantLong RX1 35 (2), Cond.methodLink RX1 37 yX6_value, Cond.instanceMethod yX6_value, Cond.selects RX6 yX6_value yX6_value, Cond.code yX6_value cX6_value 2 (some .int), Cond.static yX9_quotient, Cond.code yX9_quotient cX9_quotient 4 (some .long), Cond.methodLink RX8 79 yX6_value, Cond.methodLink RX9 241 yX8_letMinutePass, Cond.instanceMethod yX8_letMinutePass, Cond.selects RX8 yX8_letMinutePass yX8_letMinutePass, Cond.code yX8_letMinutePass cX8_letMinutePass 2 none, Cond.fieldLink RX8 86 "DryIceLane$Hold" "temperature" "I", Cond.methodLink RX8 89 yX2_letGoOff, Cond.instanceMethod yX2_letGoOff, Cond.selects RX2 yX2_letGoOff yX2_letGoOff, Cond.code yX2_letGoOff cX2_letGoOff 6 (some .int), Cond.methodLink RX2 56 yX0_goingOff, Cond.instanceMethod yX0_goingOff, Cond.selects RX0 yX0_goingOff yX0_goingOff]
def wsX9_purge_r6 : List Cond := [Cond.code yX0_goingOff cX0_goingOff 5 (some .int), Cond.constantLong RX0 24 (100), Cond.methodLink RX0 30 Lib.MathLoose.max_long.x, Cond.static Lib.MathLoose.max_long.x, Cond.initialized "java/lang/Math", Cond.code Lib.MathLoose.max_long.x Lib.MathLoose.max_long.code 4 (some .long), Cond.methodLink RX0 35 Lib.MathLoose.min_long.x, Cond.static Lib.MathLoose.min_long.x, Cond.code Lib.MathLoose.min_long.x Lib.MathLoose.min_long.code 4 (some .long), Cond.methodLink RX2 52 yX0_take, Cond.instanceMethod yX0_take, Cond.selects RX0 yX0_take yX0_take, Cond.code yX0_take cX0_take 2 none, Cond.methodLink RX0 38 Lib.Math.max.name, Cond.static Lib.Math.max.name, Cond.code Lib.Math.max.name Lib.Math.max.code 2 (some .int), Cond.methodLink RX8 93 yX4_outsideNow, Cond.instanceMethod yX4_outsideNow, Cond.selects RX4 yX4_outsideNow yX4_outsideNow, Cond.code yX4_outsideNow cX4_outsideNow 1 (some .int), Cond.methodLink RX4 38 yX4_hasLeg, Cond.instanceMethod yX4_hasLeg, Cond.selects RX4 yX4_hasLeg yX4_hasLeg, Cond.code yX4_hasLeg cX4_hasLeg 2 (some .boolean)]
def wsX9_purge_r7 : List Cond := [Cond.methodLink RX8 97 yX1_letMinutePass, Cond.instanceMethod yX1_letMinutePass, Cond.selects RX1 yX1_letMinutePass yX1_letMinutePass, Cond.code yX1_letMinutePass cX1_letMinutePass 6 none, Cond.methodLink RX1 56 yX1_changeTemperature, Cond.instanceMethod yX1_changeTemperature, Cond.selects RX1 yX1_changeTemperature yX1_changeTemperature, Cond.code yX1_changeTemperature cX1_changeTemperature 6 none, Cond.methodLink RX1 72 Lib.Math.min.name, Cond.static Lib.Math.min.name, Cond.code Lib.Math.min.name Lib.Math.min.code 2 (some .int), Cond.methodLink RX1 78 Lib.Math.max.name, Cond.methodLink RX1 60 yX1_loseGas, Cond.instanceMethod yX1_loseGas, Cond.selects RX1 yX1_loseGas yX1_loseGas, Cond.code yX1_loseGas cX1_loseGas 2 none, Cond.constantLong RX1 81 (1000), Cond.methodLink RX1 64 yX1_concentration, Cond.methodLink RX1 68 yX1_moveVent, Cond.instanceMethod yX1_moveVent, Cond.selects RX1 yX1_moveVent yX1_moveVent, Cond.code yX1_moveVent cX1_moveVent 4 none, Cond.methodLink RX8 100 yX4_letMinutePass, Cond.instanceMethod yX4_letMinutePass]
def wsX9_purge_r8 : List Cond := [Cond.selects RX4 yX4_letMinutePass yX4_letMinutePass, Cond.code yX4_letMinutePass cX4_letMinutePass 1 none, Cond.methodLink RX4 46 yX4_isOnTheWay, Cond.instanceMethod yX4_isOnTheWay, Cond.selects RX4 yX4_isOnTheWay yX4_isOnTheWay, Cond.code yX4_isOnTheWay cX4_isOnTheWay 1 (some .boolean)]
def wsX9_purge : List Cond := .code yX9_purge cX9_purge 3 (some .int) :: ((wsX9_purge_r1 ++ (wsX9_purge_r2 ++ (wsX9_purge_r3 ++ (wsX9_purge_r4 ++ (wsX9_purge_r5 ++ (wsX9_purge_r6 ++ (wsX9_purge_r7 ++ wsX9_purge_r8))))))) ++ wsX90 ++ wsX80 ++ wsX10 ++ wsX60 ++ wsX20 ++ wsX00 ++ wsX40)
def wsX9_iceLeftWithFront_r1 : List Cond := [Cond.fieldLink RX9 16 "DryIceLane" "copy" "LDryIceLane$Van;", Cond.fieldLink RX9 10 "DryIceLane" "now" "LDryIceLane$Van;", Cond.fieldLink RX9 49 "DryIceLane$Van" "lane" "LDryIceLane$Lane;", Cond.methodLink RX9 234 yX8_becomeLike, Cond.instanceMethod yX8_becomeLike, Cond.selects RX8 yX8_becomeLike yX8_becomeLike, Cond.initialized RX8, Cond.code yX8_becomeLike cX8_becomeLike 2 none, Cond.fieldLink RX8 12 "DryIceLane$Van" "settings" "LDryIceLane$Settings;", Cond.fieldLink RX8 21 "DryIceLane$Van" "lane" "LDryIceLane$Lane;", Cond.fieldLink RX8 28 "DryIceLane$Van" "hold" "LDryIceLane$Hold;", Cond.fieldLink RX8 35 "DryIceLane$Van" "route" "LDryIceLane$Route;", Cond.fieldLink RX8 52 "DryIceLane$Van" "time" "I", Cond.fieldLink RX8 56 "DryIceLane$Van" "putIn" "J", Cond.fieldLink RX8 60 "DryIceLane$Van" "takenOut" "J", Cond.fieldLink RX8 63 "DryIceLane$Van" "wentOff" "J", Cond.fieldLink RX8 66 "DryIceLane$Van" "sold" "J", Cond.fieldLink RX8 69 "DryIceLane$Van" "spilled" "J", Cond.methodLink RX8 39 yX6_becomeLike, Cond.instanceMethod yX6_becomeLike, Cond.selects RX6 yX6_becomeLike yX6_becomeLike, Cond.initialized RX6, Cond.code yX6_becomeLike cX6_becomeLike 2 none, Cond.fieldLink RX6 18 "DryIceLane$Settings" "values" "[I"]
def wsX9_iceLeftWithFront_r2 : List Cond := [Cond.methodLink RX6 23 arraycopyName, Cond.native arraycopyName, Cond.static arraycopyName, Cond.initialized "java/lang/System", Cond.methodLink RX8 43 yX2_becomeLike, Cond.instanceMethod yX2_becomeLike, Cond.selects RX2 yX2_becomeLike yX2_becomeLike, Cond.initialized RX2, Cond.code yX2_becomeLike cX2_becomeLike 3 none, Cond.fieldLink RX2 18 "DryIceLane$Lane" "count" "I", Cond.fieldLink RX2 11 "DryIceLane$Lane" "boxes" "[LDryIceLane$Box;", Cond.methodLink RX2 22 yX0_becomeLike, Cond.instanceMethod yX0_becomeLike, Cond.selects RX0 yX0_becomeLike yX0_becomeLike, Cond.initialized RX0, Cond.code yX0_becomeLike cX0_becomeLike 2 none, Cond.fieldLink RX0 9 "DryIceLane$Box" "insulation" "I", Cond.fieldLink RX0 15 "DryIceLane$Box" "tare" "I", Cond.fieldLink RX0 18 "DryIceLane$Box" "ice" "I", Cond.fieldLink RX0 21 "DryIceLane$Box" "paper" "I", Cond.methodLink RX8 46 yX1_becomeLike, Cond.instanceMethod yX1_becomeLike, Cond.selects RX1 yX1_becomeLike yX1_becomeLike, Cond.initialized RX1]
def wsX9_iceLeftWithFront_r3 : List Cond := [Cond.code yX1_becomeLike cX1_becomeLike 2 none, Cond.fieldLink RX1 9 "DryIceLane$Hold" "temperature" "I", Cond.fieldLink RX1 18 "DryIceLane$Hold" "gas" "J", Cond.fieldLink RX1 15 "DryIceLane$Hold" "ventMode" "I", Cond.fieldLink RX1 22 "DryIceLane$Hold" "ventOpen" "Z", Cond.fieldLink RX1 26 "DryIceLane$Hold" "ventMinutes" "I", Cond.fieldLink RX1 29 "DryIceLane$Hold" "doorOpen" "Z", Cond.fieldLink RX1 32 "DryIceLane$Hold" "alarms" "I", Cond.methodLink RX8 49 yX4_becomeLike, Cond.instanceMethod yX4_becomeLike, Cond.selects RX4 yX4_becomeLike yX4_becomeLike, Cond.initialized RX4, Cond.code yX4_becomeLike cX4_becomeLike 2 none, Cond.fieldLink RX4 9 "DryIceLane$Route" "durations" "[I", Cond.methodLink RX4 22 arraycopyName, Cond.fieldLink RX4 15 "DryIceLane$Route" "outsides" "[I", Cond.fieldLink RX4 28 "DryIceLane$Route" "count" "I", Cond.fieldLink RX4 18 "DryIceLane$Route" "latest" "I", Cond.fieldLink RX4 31 "DryIceLane$Route" "minutesLeft" "I", Cond.methodLink RX9 93 yX2_move, Cond.instanceMethod yX2_move, Cond.selects RX2 yX2_move yX2_move, Cond.code yX2_move cX2_move 5 none, Cond.static yX9_within]
def wsX9_iceLeftWithFront_r4 : List Cond := [Cond.initialized RX9, Cond.code yX9_within cX9_within 3 (some .boolean), Cond.methodLink RX9 172 yX2_takeFromFront, Cond.instanceMethod yX2_takeFromFront, Cond.selects RX2 yX2_takeFromFront yX2_takeFromFront, Cond.code yX2_takeFromFront cX2_takeFromFront 6 (some .int), Cond.fieldLink RX2 36 "DryIceLane$Box" "ice" "I", Cond.methodLink RX2 46 Lib.Math.min.name, Cond.static Lib.Math.min.name, Cond.initialized "java/lang/Math", Cond.code Lib.Math.min.name Lib.Math.min.code 2 (some .int), Cond.methodLink RX2 52 yX0_take, Cond.instanceMethod yX0_take, Cond.selects RX0 yX0_take yX0_take, Cond.code yX0_take cX0_take 2 none, Cond.methodLink RX0 38 Lib.Math.max.name, Cond.static Lib.Math.max.name, Cond.code Lib.Math.max.name Lib.Math.max.code 2 (some .int), Cond.methodLink RX9 145 yX8_letPass, Cond.instanceMethod yX8_letPass, Cond.selects RX8 yX8_letPass yX8_letPass, Cond.code yX8_letPass cX8_letPass 3 none, Cond.methodLink RX8 83 yX8_letMinutePass, Cond.instanceMethod yX8_letMinutePass]
def wsX9_iceLeftWithFront_r5 : List Cond := [Cond.selects RX8 yX8_letMinutePass yX8_letMinutePass, Cond.code yX8_letMinutePass cX8_letMinutePass 2 none, Cond.fieldLink RX8 86 "DryIceLane$Hold" "temperature" "I", Cond.methodLink RX8 79 yX6_value, Cond.instanceMethod yX6_value, Cond.selects RX6 yX6_value yX6_value, Cond.code yX6_value cX6_value 2 (some .int), Cond.methodLink RX8 89 yX2_letGoOff, Cond.instanceMethod yX2_letGoOff, Cond.selects RX2 yX2_letGoOff yX2_letGoOff, Cond.code yX2_letGoOff cX2_letGoOff 6 (some .int), Cond.methodLink RX2 56 yX0_goingOff, Cond.instanceMethod yX0_goingOff, Cond.selects RX0 yX0_goingOff yX0_goingOff, Cond.code yX0_goingOff cX0_goingOff 5 (some .int), Cond.constantLong RX0 24 (100), Cond.methodLink RX0 30 Lib.MathLoose.max_long.x, Cond.static Lib.MathLoose.max_long.x, Cond.code Lib.MathLoose.max_long.x Lib.MathLoose.max_long.code 4 (some .long), Cond.methodLink RX0 35 Lib.MathLoose.min_long.x, Cond.static Lib.MathLoose.min_long.x, Cond.code Lib.MathLoose.min_long.x Lib.MathLoose.min_long.code 4 (some .long), Cond.static yX9_quotient, Cond.code yX9_quotient cX9_quotient 4 (some .long)]
def wsX9_iceLeftWithFront_r6 : List Cond := [Cond.methodLink RX8 93 yX4_outsideNow, Cond.instanceMethod yX4_outsideNow, Cond.selects RX4 yX4_outsideNow yX4_outsideNow, Cond.code yX4_outsideNow cX4_outsideNow 1 (some .int), Cond.methodLink RX4 38 yX4_hasLeg, Cond.instanceMethod yX4_hasLeg, Cond.selects RX4 yX4_hasLeg yX4_hasLeg, Cond.code yX4_hasLeg cX4_hasLeg 2 (some .boolean), Cond.methodLink RX8 97 yX1_letMinutePass, Cond.instanceMethod yX1_letMinutePass, Cond.selects RX1 yX1_letMinutePass yX1_letMinutePass, Cond.code yX1_letMinutePass cX1_letMinutePass 6 none, Cond.methodLink RX1 56 yX1_changeTemperature, Cond.instanceMethod yX1_changeTemperature, Cond.selects RX1 yX1_changeTemperature yX1_changeTemperature, Cond.code yX1_changeTemperature cX1_changeTemperature 6 none, Cond.methodLink RX1 72 Lib.Math.min.name, Cond.methodLink RX1 78 Lib.Math.max.name, Cond.methodLink RX1 37 yX6_value, Cond.methodLink RX1 60 yX1_loseGas, Cond.instanceMethod yX1_loseGas, Cond.selects RX1 yX1_loseGas yX1_loseGas, Cond.code yX1_loseGas cX1_loseGas 2 none, Cond.constantLong RX1 81 (1000)]
def wsX9_iceLeftWithFront_r7 : List Cond := [Cond.methodLink RX1 64 yX1_concentration, Cond.instanceMethod yX1_concentration, Cond.selects RX1 yX1_concentration yX1_concentration, Cond.code yX1_concentration cX1_concentration 2 (some .long), Cond.constantLong RX1 35 (2), Cond.methodLink RX1 68 yX1_moveVent, Cond.instanceMethod yX1_moveVent, Cond.selects RX1 yX1_moveVent yX1_moveVent, Cond.code yX1_moveVent cX1_moveVent 4 none, Cond.methodLink RX1 47 yX1_keepToMode, Cond.instanceMethod yX1_keepToMode, Cond.selects RX1 yX1_keepToMode yX1_keepToMode, Cond.code yX1_keepToMode cX1_keepToMode 1 none, Cond.methodLink RX1 50 yX1_openVent, Cond.instanceMethod yX1_openVent, Cond.selects RX1 yX1_openVent yX1_openVent, Cond.code yX1_openVent cX1_openVent 1 none, Cond.methodLink RX1 53 yX1_shutVent, Cond.instanceMethod yX1_shutVent, Cond.selects RX1 yX1_shutVent yX1_shutVent, Cond.code yX1_shutVent cX1_shutVent 1 none, Cond.methodLink RX8 100 yX4_letMinutePass, Cond.instanceMethod yX4_letMinutePass, Cond.selects RX4 yX4_letMinutePass yX4_letMinutePass]
def wsX9_iceLeftWithFront_r8 : List Cond := [Cond.code yX4_letMinutePass cX4_letMinutePass 1 none, Cond.methodLink RX4 46 yX4_isOnTheWay, Cond.instanceMethod yX4_isOnTheWay, Cond.selects RX4 yX4_isOnTheWay yX4_isOnTheWay, Cond.code yX4_isOnTheWay cX4_isOnTheWay 1 (some .boolean), Cond.methodLink RX9 165 yX2_iceOfAll, Cond.instanceMethod yX2_iceOfAll, Cond.selects RX2 yX2_iceOfAll yX2_iceOfAll, Cond.code yX2_iceOfAll cX2_iceOfAll 3 (some .int)]
def wsX9_iceLeftWithFront : List Cond := .code yX9_iceLeftWithFront cX9_iceLeftWithFront 4 (some .int) :: ((wsX9_iceLeftWithFront_r1 ++ (wsX9_iceLeftWithFront_r2 ++ (wsX9_iceLeftWithFront_r3 ++ (wsX9_iceLeftWithFront_r4 ++ (wsX9_iceLeftWithFront_r5 ++ (wsX9_iceLeftWithFront_r6 ++ (wsX9_iceLeftWithFront_r7 ++ wsX9_iceLeftWithFront_r8))))))) ++ wsX90 ++ wsX80 ++ wsX60 ++ wsX20 ++ wsX00 ++ wsX10 ++ wsX40)
def wsX9_front_r1 : List Cond := [Cond.constant RX9 164 (50000000), Cond.fieldLink RX9 10 "DryIceLane" "now" "LDryIceLane$Van;", Cond.fieldLink RX9 49 "DryIceLane$Van" "lane" "LDryIceLane$Lane;", Cond.fieldLink RX9 53 "DryIceLane$Lane" "count" "I", Cond.methodLink RX9 43 yX9_within, Cond.static yX9_within, Cond.initialized RX9, Cond.code yX9_within cX9_within 3 (some .boolean), Cond.methodLink RX9 165 yX2_iceOfAll, Cond.instanceMethod yX2_iceOfAll, Cond.selects RX2 yX2_iceOfAll yX2_iceOfAll, Cond.initialized RX2, Cond.code yX2_iceOfAll cX2_iceOfAll 3 (some .int), Cond.fieldLink RX2 18 "DryIceLane$Lane" "count" "I", Cond.fieldLink RX2 11 "DryIceLane$Lane" "boxes" "[LDryIceLane$Box;", Cond.fieldLink RX2 36 "DryIceLane$Box" "ice" "I", Cond.methodLink RX9 248 yX9_iceLeftWithFront, Cond.instanceMethod yX9_iceLeftWithFront, Cond.selects RX9 yX9_iceLeftWithFront yX9_iceLeftWithFront, Cond.code yX9_iceLeftWithFront cX9_iceLeftWithFront 4 (some .int), Cond.fieldLink RX9 16 "DryIceLane" "copy" "LDryIceLane$Van;", Cond.methodLink RX9 234 yX8_becomeLike, Cond.instanceMethod yX8_becomeLike, Cond.selects RX8 yX8_becomeLike yX8_becomeLike]
def wsX9_front_r2 : List Cond := [Cond.initialized RX8, Cond.code yX8_becomeLike cX8_becomeLike 2 none, Cond.fieldLink RX8 12 "DryIceLane$Van" "settings" "LDryIceLane$Settings;", Cond.fieldLink RX8 21 "DryIceLane$Van" "lane" "LDryIceLane$Lane;", Cond.fieldLink RX8 28 "DryIceLane$Van" "hold" "LDryIceLane$Hold;", Cond.fieldLink RX8 35 "DryIceLane$Van" "route" "LDryIceLane$Route;", Cond.fieldLink RX8 52 "DryIceLane$Van" "time" "I", Cond.fieldLink RX8 56 "DryIceLane$Van" "putIn" "J", Cond.fieldLink RX8 60 "DryIceLane$Van" "takenOut" "J", Cond.fieldLink RX8 63 "DryIceLane$Van" "wentOff" "J", Cond.fieldLink RX8 66 "DryIceLane$Van" "sold" "J", Cond.fieldLink RX8 69 "DryIceLane$Van" "spilled" "J", Cond.methodLink RX8 39 yX6_becomeLike, Cond.instanceMethod yX6_becomeLike, Cond.selects RX6 yX6_becomeLike yX6_becomeLike, Cond.initialized RX6, Cond.code yX6_becomeLike cX6_becomeLike 2 none, Cond.fieldLink RX6 18 "DryIceLane$Settings" "values" "[I", Cond.methodLink RX6 23 arraycopyName, Cond.native arraycopyName, Cond.static arraycopyName, Cond.initialized "java/lang/System", Cond.methodLink RX8 43 yX2_becomeLike, Cond.instanceMethod yX2_becomeLike]
def wsX9_front_r3 : List Cond := [Cond.selects RX2 yX2_becomeLike yX2_becomeLike, Cond.code yX2_becomeLike cX2_becomeLike 3 none, Cond.methodLink RX2 22 yX0_becomeLike, Cond.instanceMethod yX0_becomeLike, Cond.selects RX0 yX0_becomeLike yX0_becomeLike, Cond.initialized RX0, Cond.code yX0_becomeLike cX0_becomeLike 2 none, Cond.fieldLink RX0 9 "DryIceLane$Box" "insulation" "I", Cond.fieldLink RX0 15 "DryIceLane$Box" "tare" "I", Cond.fieldLink RX0 18 "DryIceLane$Box" "ice" "I", Cond.fieldLink RX0 21 "DryIceLane$Box" "paper" "I", Cond.methodLink RX8 46 yX1_becomeLike, Cond.instanceMethod yX1_becomeLike, Cond.selects RX1 yX1_becomeLike yX1_becomeLike, Cond.initialized RX1, Cond.code yX1_becomeLike cX1_becomeLike 2 none, Cond.fieldLink RX1 9 "DryIceLane$Hold" "temperature" "I", Cond.fieldLink RX1 18 "DryIceLane$Hold" "gas" "J", Cond.fieldLink RX1 15 "DryIceLane$Hold" "ventMode" "I", Cond.fieldLink RX1 22 "DryIceLane$Hold" "ventOpen" "Z", Cond.fieldLink RX1 26 "DryIceLane$Hold" "ventMinutes" "I", Cond.fieldLink RX1 29 "DryIceLane$Hold" "doorOpen" "Z", Cond.fieldLink RX1 32 "DryIceLane$Hold" "alarms" "I", Cond.methodLink RX8 49 yX4_becomeLike]
def wsX9_front_r4 : List Cond := [Cond.instanceMethod yX4_becomeLike, Cond.selects RX4 yX4_becomeLike yX4_becomeLike, Cond.initialized RX4, Cond.code yX4_becomeLike cX4_becomeLike 2 none, Cond.fieldLink RX4 9 "DryIceLane$Route" "durations" "[I", Cond.methodLink RX4 22 arraycopyName, Cond.fieldLink RX4 15 "DryIceLane$Route" "outsides" "[I", Cond.fieldLink RX4 28 "DryIceLane$Route" "count" "I", Cond.fieldLink RX4 18 "DryIceLane$Route" "latest" "I", Cond.fieldLink RX4 31 "DryIceLane$Route" "minutesLeft" "I", Cond.methodLink RX9 93 yX2_move, Cond.instanceMethod yX2_move, Cond.selects RX2 yX2_move yX2_move, Cond.code yX2_move cX2_move 5 none, Cond.methodLink RX9 172 yX2_takeFromFront, Cond.instanceMethod yX2_takeFromFront, Cond.selects RX2 yX2_takeFromFront yX2_takeFromFront, Cond.code yX2_takeFromFront cX2_takeFromFront 6 (some .int), Cond.methodLink RX2 46 Lib.Math.min.name, Cond.static Lib.Math.min.name, Cond.initialized "java/lang/Math", Cond.code Lib.Math.min.name Lib.Math.min.code 2 (some .int), Cond.methodLink RX2 52 yX0_take, Cond.instanceMethod yX0_take]
def wsX9_front_r5 : List Cond := [Cond.selects RX0 yX0_take yX0_take, Cond.code yX0_take cX0_take 2 none, Cond.methodLink RX0 38 Lib.Math.max.name, Cond.static Lib.Math.max.name, Cond.code Lib.Math.max.name Lib.Math.max.code 2 (some .int), Cond.methodLink RX9 145 yX8_letPass, Cond.instanceMethod yX8_letPass, Cond.selects RX8 yX8_letPass yX8_letPass, Cond.code yX8_letPass cX8_letPass 3 none, Cond.methodLink RX8 83 yX8_letMinutePass, Cond.instanceMethod yX8_letMinutePass, Cond.selects RX8 yX8_letMinutePass yX8_letMinutePass, Cond.code yX8_letMinutePass cX8_letMinutePass 2 none, Cond.fieldLink RX8 86 "DryIceLane$Hold" "temperature" "I", Cond.methodLink RX8 79 yX6_value, Cond.instanceMethod yX6_value, Cond.selects RX6 yX6_value yX6_value, Cond.code yX6_value cX6_value 2 (some .int), Cond.methodLink RX8 89 yX2_letGoOff, Cond.instanceMethod yX2_letGoOff, Cond.selects RX2 yX2_letGoOff yX2_letGoOff, Cond.code yX2_letGoOff cX2_letGoOff 6 (some .int), Cond.methodLink RX2 56 yX0_goingOff, Cond.instanceMethod yX0_goingOff]
def wsX9_front_r6 : List Cond := [Cond.selects RX0 yX0_goingOff yX0_goingOff, Cond.code yX0_goingOff cX0_goingOff 5 (some .int), Cond.constantLong RX0 24 (100), Cond.methodLink RX0 30 Lib.MathLoose.max_long.x, Cond.static Lib.MathLoose.max_long.x, Cond.code Lib.MathLoose.max_long.x Lib.MathLoose.max_long.code 4 (some .long), Cond.methodLink RX0 35 Lib.MathLoose.min_long.x, Cond.static Lib.MathLoose.min_long.x, Cond.code Lib.MathLoose.min_long.x Lib.MathLoose.min_long.code 4 (some .long), Cond.static yX9_quotient, Cond.code yX9_quotient cX9_quotient 4 (some .long), Cond.methodLink RX8 93 yX4_outsideNow, Cond.instanceMethod yX4_outsideNow, Cond.selects RX4 yX4_outsideNow yX4_outsideNow, Cond.code yX4_outsideNow cX4_outsideNow 1 (some .int), Cond.methodLink RX4 38 yX4_hasLeg, Cond.instanceMethod yX4_hasLeg, Cond.selects RX4 yX4_hasLeg yX4_hasLeg, Cond.code yX4_hasLeg cX4_hasLeg 2 (some .boolean), Cond.methodLink RX8 97 yX1_letMinutePass, Cond.instanceMethod yX1_letMinutePass, Cond.selects RX1 yX1_letMinutePass yX1_letMinutePass, Cond.code yX1_letMinutePass cX1_letMinutePass 6 none, Cond.methodLink RX1 56 yX1_changeTemperature]
def wsX9_front_r7 : List Cond := [Cond.instanceMethod yX1_changeTemperature, Cond.selects RX1 yX1_changeTemperature yX1_changeTemperature, Cond.code yX1_changeTemperature cX1_changeTemperature 6 none, Cond.methodLink RX1 72 Lib.Math.min.name, Cond.methodLink RX1 78 Lib.Math.max.name, Cond.methodLink RX1 37 yX6_value, Cond.methodLink RX1 60 yX1_loseGas, Cond.instanceMethod yX1_loseGas, Cond.selects RX1 yX1_loseGas yX1_loseGas, Cond.code yX1_loseGas cX1_loseGas 2 none, Cond.constantLong RX1 81 (1000), Cond.methodLink RX1 64 yX1_concentration, Cond.instanceMethod yX1_concentration, Cond.selects RX1 yX1_concentration yX1_concentration, Cond.code yX1_concentration cX1_concentration 2 (some .long), Cond.constantLong RX1 35 (2), Cond.methodLink RX1 68 yX1_moveVent, Cond.instanceMethod yX1_moveVent, Cond.selects RX1 yX1_moveVent yX1_moveVent, Cond.code yX1_moveVent cX1_moveVent 4 none, Cond.methodLink RX1 47 yX1_keepToMode, Cond.instanceMethod yX1_keepToMode, Cond.selects RX1 yX1_keepToMode yX1_keepToMode, Cond.code yX1_keepToMode cX1_keepToMode 1 none]
def wsX9_front_r8 : List Cond := [Cond.methodLink RX1 50 yX1_openVent, Cond.instanceMethod yX1_openVent, Cond.selects RX1 yX1_openVent yX1_openVent, Cond.code yX1_openVent cX1_openVent 1 none, Cond.methodLink RX1 53 yX1_shutVent, Cond.instanceMethod yX1_shutVent, Cond.selects RX1 yX1_shutVent yX1_shutVent, Cond.code yX1_shutVent cX1_shutVent 1 none, Cond.methodLink RX8 100 yX4_letMinutePass, Cond.instanceMethod yX4_letMinutePass, Cond.selects RX4 yX4_letMinutePass yX4_letMinutePass, Cond.code yX4_letMinutePass cX4_letMinutePass 1 none, Cond.methodLink RX4 46 yX4_isOnTheWay, Cond.instanceMethod yX4_isOnTheWay, Cond.selects RX4 yX4_isOnTheWay yX4_isOnTheWay, Cond.code yX4_isOnTheWay cX4_isOnTheWay 1 (some .boolean)]
def wsX9_front : List Cond := .code yX9_front cX9_front 7 (some .int) :: ((wsX9_front_r1 ++ (wsX9_front_r2 ++ (wsX9_front_r3 ++ (wsX9_front_r4 ++ (wsX9_front_r5 ++ (wsX9_front_r6 ++ (wsX9_front_r7 ++ wsX9_front_r8))))))) ++ wsX90 ++ wsX80 ++ wsX20 ++ wsX00 ++ wsX60 ++ wsX10 ++ wsX40)
def wsX9_say : List Cond := .code yX9_say cX9_say 2 (some .int) :: ([.fieldLink RX9 32 "DryIceLane" "pad" "LDryIceLane$Pad;", .fieldLink RX9 216 "DryIceLane$Pad" "length" "I", .methodLink RX9 43 yX9_within, .static yX9_within, .initialized RX9, .code yX9_within cX9_within 3 (some .boolean), .methodLink RX9 252 yX3_append, .instanceMethod yX3_append, .selects RX3 yX3_append yX3_append, .initialized RX3, .code yX3_append cX3_append 2 none, .fieldLink RX3 15 "DryIceLane$Pad" "length" "I", .fieldLink RX3 9 "DryIceLane$Pad" "codes" "[I"] ++ wsX90 ++ wsX30)
def wsX9_wipe : List Cond := .code yX9_wipe cX9_wipe 2 (some .int) :: ([.fieldLink RX9 32 "DryIceLane" "pad" "LDryIceLane$Pad;", .fieldLink RX9 216 "DryIceLane$Pad" "length" "I"] ++ wsX90 ++ wsX30)
def wsX9_fault_r1 : List Cond := [Cond.fieldLink RX9 39 "DryIceLane" "reader" "LDryIceLane$RouteReader;", Cond.fieldLink RX9 32 "DryIceLane" "pad" "LDryIceLane$Pad;", Cond.methodLink RX9 254 yX5_faultOf, Cond.instanceMethod yX5_faultOf, Cond.selects RX5 yX5_faultOf yX5_faultOf, Cond.initialized RX5, Cond.code yX5_faultOf cX5_faultOf 3 (some .int), Cond.fieldLink RX5 18 "DryIceLane$RouteReader" "legs" "I", Cond.fieldLink RX5 22 "DryIceLane$RouteReader" "state" "I", Cond.fieldLink RX5 25 "DryIceLane$Pad" "length" "I", Cond.methodLink RX5 30 yX3_codeAt, Cond.instanceMethod yX3_codeAt, Cond.selects RX3 yX3_codeAt yX3_codeAt, Cond.initialized RX3, Cond.code yX3_codeAt cX3_codeAt 2 (some .int), Cond.fieldLink RX3 15 "DryIceLane$Pad" "length" "I", Cond.fieldLink RX3 9 "DryIceLane$Pad" "codes" "[I", Cond.static yX9_within, Cond.initialized RX9, Cond.code yX9_within cX9_within 3 (some .boolean), Cond.methodLink RX5 34 yX5_takes, Cond.instanceMethod yX5_takes, Cond.selects RX5 yX5_takes yX5_takes, Cond.code yX5_takes cX5_takes 2 (some .boolean)]
def wsX9_fault_r2 : List Cond := [Cond.methodLink RX5 46 yX5_startsNumber, Cond.instanceMethod yX5_startsNumber, Cond.selects RX5 yX5_startsNumber yX5_startsNumber, Cond.code yX5_startsNumber cX5_startsNumber 5 (some .boolean), Cond.fieldLink RX5 64 "DryIceLane$RouteReader" "number" "I", Cond.methodLink RX5 67 yX5_isDigit, Cond.static yX5_isDigit, Cond.code yX5_isDigit cX5_isDigit 1 (some .boolean), Cond.methodLink RX5 50 yX5_endsDuration, Cond.instanceMethod yX5_endsDuration, Cond.selects RX5 yX5_endsDuration yX5_endsDuration, Cond.code yX5_endsDuration cX5_endsDuration 1 (some .boolean), Cond.fieldLink RX5 70 "DryIceLane$RouteReader" "duration" "I", Cond.fieldLink RX5 73 "DryIceLane$RouteReader" "below" "Z", Cond.methodLink RX5 53 yX5_continuesNumber, Cond.instanceMethod yX5_continuesNumber, Cond.selects RX5 yX5_continuesNumber yX5_continuesNumber, Cond.code yX5_continuesNumber cX5_continuesNumber 3 (some .boolean), Cond.methodLink RX5 57 yX5_startsDegrees, Cond.instanceMethod yX5_startsDegrees, Cond.selects RX5 yX5_startsDegrees yX5_startsDegrees, Cond.code yX5_startsDegrees cX5_startsDegrees 2 (some .boolean), Cond.methodLink RX5 60 yX5_mostDegrees, Cond.instanceMethod yX5_mostDegrees]
def wsX9_fault_r3 : List Cond := [Cond.selects RX5 yX5_mostDegrees yX5_mostDegrees, Cond.code yX5_mostDegrees cX5_mostDegrees 1 (some .int), Cond.methodLink RX5 38 yX5_endLeg, Cond.instanceMethod yX5_endLeg, Cond.selects RX5 yX5_endLeg yX5_endLeg, Cond.code yX5_endLeg cX5_endLeg 1 (some .boolean), Cond.fieldLink RX5 11 "DryIceLane$RouteReader" "durations" "[I", Cond.fieldLink RX5 15 "DryIceLane$RouteReader" "outsides" "[I"]
def wsX9_fault : List Cond := .code yX9_fault cX9_fault 1 (some .int) :: ((wsX9_fault_r1 ++ (wsX9_fault_r2 ++ wsX9_fault_r3)) ++ wsX90 ++ wsX50 ++ wsX30)
def wsX9_read_r1 : List Cond := [Cond.fieldLink RX9 39 "DryIceLane" "reader" "LDryIceLane$RouteReader;", Cond.fieldLink RX9 32 "DryIceLane" "pad" "LDryIceLane$Pad;", Cond.fieldLink RX9 10 "DryIceLane" "now" "LDryIceLane$Van;", Cond.fieldLink RX9 111 "DryIceLane$Van" "route" "LDryIceLane$Route;", Cond.fieldLink RX9 115 "DryIceLane$Route" "count" "I", Cond.fieldLink RX9 258 "DryIceLane$RouteReader" "legs" "I", Cond.fieldLink RX9 216 "DryIceLane$Pad" "length" "I", Cond.methodLink RX9 254 yX5_faultOf, Cond.instanceMethod yX5_faultOf, Cond.selects RX5 yX5_faultOf yX5_faultOf, Cond.initialized RX5, Cond.code yX5_faultOf cX5_faultOf 3 (some .int), Cond.fieldLink RX5 18 "DryIceLane$RouteReader" "legs" "I", Cond.fieldLink RX5 22 "DryIceLane$RouteReader" "state" "I", Cond.fieldLink RX5 25 "DryIceLane$Pad" "length" "I", Cond.methodLink RX5 30 yX3_codeAt, Cond.instanceMethod yX3_codeAt, Cond.selects RX3 yX3_codeAt yX3_codeAt, Cond.initialized RX3, Cond.code yX3_codeAt cX3_codeAt 2 (some .int), Cond.fieldLink RX3 15 "DryIceLane$Pad" "length" "I", Cond.fieldLink RX3 9 "DryIceLane$Pad" "codes" "[I", Cond.static yX9_within, Cond.initialized RX9]
def wsX9_read_r2 : List Cond := [Cond.code yX9_within cX9_within 3 (some .boolean), Cond.methodLink RX5 34 yX5_takes, Cond.instanceMethod yX5_takes, Cond.selects RX5 yX5_takes yX5_takes, Cond.code yX5_takes cX5_takes 2 (some .boolean), Cond.methodLink RX5 46 yX5_startsNumber, Cond.instanceMethod yX5_startsNumber, Cond.selects RX5 yX5_startsNumber yX5_startsNumber, Cond.code yX5_startsNumber cX5_startsNumber 5 (some .boolean), Cond.fieldLink RX5 64 "DryIceLane$RouteReader" "number" "I", Cond.methodLink RX5 67 yX5_isDigit, Cond.static yX5_isDigit, Cond.code yX5_isDigit cX5_isDigit 1 (some .boolean), Cond.methodLink RX5 50 yX5_endsDuration, Cond.instanceMethod yX5_endsDuration, Cond.selects RX5 yX5_endsDuration yX5_endsDuration, Cond.code yX5_endsDuration cX5_endsDuration 1 (some .boolean), Cond.fieldLink RX5 70 "DryIceLane$RouteReader" "duration" "I", Cond.fieldLink RX5 73 "DryIceLane$RouteReader" "below" "Z", Cond.methodLink RX5 53 yX5_continuesNumber, Cond.instanceMethod yX5_continuesNumber, Cond.selects RX5 yX5_continuesNumber yX5_continuesNumber, Cond.code yX5_continuesNumber cX5_continuesNumber 3 (some .boolean), Cond.methodLink RX5 57 yX5_startsDegrees]
def wsX9_read_r3 : List Cond := [Cond.instanceMethod yX5_startsDegrees, Cond.selects RX5 yX5_startsDegrees yX5_startsDegrees, Cond.code yX5_startsDegrees cX5_startsDegrees 2 (some .boolean), Cond.methodLink RX5 60 yX5_mostDegrees, Cond.instanceMethod yX5_mostDegrees, Cond.selects RX5 yX5_mostDegrees yX5_mostDegrees, Cond.code yX5_mostDegrees cX5_mostDegrees 1 (some .int), Cond.methodLink RX5 38 yX5_endLeg, Cond.instanceMethod yX5_endLeg, Cond.selects RX5 yX5_endLeg yX5_endLeg, Cond.code yX5_endLeg cX5_endLeg 1 (some .boolean), Cond.fieldLink RX5 11 "DryIceLane$RouteReader" "durations" "[I", Cond.fieldLink RX5 15 "DryIceLane$RouteReader" "outsides" "[I", Cond.methodLink RX9 261 yX5_durationOf, Cond.instanceMethod yX5_durationOf, Cond.selects RX5 yX5_durationOf yX5_durationOf, Cond.code yX5_durationOf cX5_durationOf 2 (some .int), Cond.methodLink RX9 262 yX5_outsideOf, Cond.instanceMethod yX5_outsideOf, Cond.selects RX5 yX5_outsideOf yX5_outsideOf, Cond.code yX5_outsideOf cX5_outsideOf 2 (some .int), Cond.methodLink RX9 118 yX4_append, Cond.instanceMethod yX4_append, Cond.selects RX4 yX4_append yX4_append]
def wsX9_read_r4 : List Cond := [Cond.initialized RX4, Cond.code yX4_append cX4_append 3 none, Cond.fieldLink RX4 28 "DryIceLane$Route" "count" "I", Cond.fieldLink RX4 9 "DryIceLane$Route" "durations" "[I", Cond.fieldLink RX4 15 "DryIceLane$Route" "outsides" "[I"]
def wsX9_read : List Cond := .code yX9_read cX9_read 2 (some .int) :: ((wsX9_read_r1 ++ (wsX9_read_r2 ++ (wsX9_read_r3 ++ wsX9_read_r4))) ++ wsX90 ++ wsX80 ++ wsX40 ++ wsX50 ++ wsX30)
def wsX9_slotAt : List Cond := .code yX9_slotAt cX9_slotAt 2 (some (.object "DryIceLane$Slot")) :: ([.fieldLink RX9 22 "DryIceLane" "slot0" "LDryIceLane$Slot;", .fieldLink RX9 26 "DryIceLane" "slot1" "LDryIceLane$Slot;"] ++ wsX90)
def wsX9_save_r1 : List Cond := [Cond.fieldLink RX9 267 "DryIceLane$Slot" "kept" "LDryIceLane$Van;", Cond.fieldLink RX9 10 "DryIceLane" "now" "LDryIceLane$Van;", Cond.fieldLink RX9 270 "DryIceLane$Slot" "filled" "Z", Cond.fieldLink RX9 133 "DryIceLane$Van" "time" "I", Cond.methodLink RX9 43 yX9_within, Cond.static yX9_within, Cond.initialized RX9, Cond.code yX9_within cX9_within 3 (some .boolean), Cond.methodLink RX9 263 yX9_slotAt, Cond.instanceMethod yX9_slotAt, Cond.selects RX9 yX9_slotAt yX9_slotAt, Cond.code yX9_slotAt cX9_slotAt 2 (some (.object "DryIceLane$Slot")), Cond.fieldLink RX9 22 "DryIceLane" "slot0" "LDryIceLane$Slot;", Cond.fieldLink RX9 26 "DryIceLane" "slot1" "LDryIceLane$Slot;", Cond.methodLink RX9 234 yX8_becomeLike, Cond.instanceMethod yX8_becomeLike, Cond.selects RX8 yX8_becomeLike yX8_becomeLike, Cond.initialized RX8, Cond.code yX8_becomeLike cX8_becomeLike 2 none, Cond.fieldLink RX8 12 "DryIceLane$Van" "settings" "LDryIceLane$Settings;", Cond.fieldLink RX8 21 "DryIceLane$Van" "lane" "LDryIceLane$Lane;", Cond.fieldLink RX8 28 "DryIceLane$Van" "hold" "LDryIceLane$Hold;", Cond.fieldLink RX8 35 "DryIceLane$Van" "route" "LDryIceLane$Route;", Cond.fieldLink RX8 52 "DryIceLane$Van" "time" "I"]
def wsX9_save_r2 : List Cond := [Cond.fieldLink RX8 56 "DryIceLane$Van" "putIn" "J", Cond.fieldLink RX8 60 "DryIceLane$Van" "takenOut" "J", Cond.fieldLink RX8 63 "DryIceLane$Van" "wentOff" "J", Cond.fieldLink RX8 66 "DryIceLane$Van" "sold" "J", Cond.fieldLink RX8 69 "DryIceLane$Van" "spilled" "J", Cond.methodLink RX8 39 yX6_becomeLike, Cond.instanceMethod yX6_becomeLike, Cond.selects RX6 yX6_becomeLike yX6_becomeLike, Cond.initialized RX6, Cond.code yX6_becomeLike cX6_becomeLike 2 none, Cond.fieldLink RX6 18 "DryIceLane$Settings" "values" "[I", Cond.methodLink RX6 23 arraycopyName, Cond.native arraycopyName, Cond.static arraycopyName, Cond.initialized "java/lang/System", Cond.methodLink RX8 43 yX2_becomeLike, Cond.instanceMethod yX2_becomeLike, Cond.selects RX2 yX2_becomeLike yX2_becomeLike, Cond.initialized RX2, Cond.code yX2_becomeLike cX2_becomeLike 3 none, Cond.fieldLink RX2 18 "DryIceLane$Lane" "count" "I", Cond.fieldLink RX2 11 "DryIceLane$Lane" "boxes" "[LDryIceLane$Box;", Cond.methodLink RX2 22 yX0_becomeLike, Cond.instanceMethod yX0_becomeLike]
def wsX9_save_r3 : List Cond := [Cond.selects RX0 yX0_becomeLike yX0_becomeLike, Cond.initialized RX0, Cond.code yX0_becomeLike cX0_becomeLike 2 none, Cond.fieldLink RX0 9 "DryIceLane$Box" "insulation" "I", Cond.fieldLink RX0 15 "DryIceLane$Box" "tare" "I", Cond.fieldLink RX0 18 "DryIceLane$Box" "ice" "I", Cond.fieldLink RX0 21 "DryIceLane$Box" "paper" "I", Cond.methodLink RX8 46 yX1_becomeLike, Cond.instanceMethod yX1_becomeLike, Cond.selects RX1 yX1_becomeLike yX1_becomeLike, Cond.initialized RX1, Cond.code yX1_becomeLike cX1_becomeLike 2 none, Cond.fieldLink RX1 9 "DryIceLane$Hold" "temperature" "I", Cond.fieldLink RX1 18 "DryIceLane$Hold" "gas" "J", Cond.fieldLink RX1 15 "DryIceLane$Hold" "ventMode" "I", Cond.fieldLink RX1 22 "DryIceLane$Hold" "ventOpen" "Z", Cond.fieldLink RX1 26 "DryIceLane$Hold" "ventMinutes" "I", Cond.fieldLink RX1 29 "DryIceLane$Hold" "doorOpen" "Z", Cond.fieldLink RX1 32 "DryIceLane$Hold" "alarms" "I", Cond.methodLink RX8 49 yX4_becomeLike, Cond.instanceMethod yX4_becomeLike, Cond.selects RX4 yX4_becomeLike yX4_becomeLike, Cond.initialized RX4, Cond.code yX4_becomeLike cX4_becomeLike 2 none]
def wsX9_save_r4 : List Cond := [Cond.fieldLink RX4 9 "DryIceLane$Route" "durations" "[I", Cond.methodLink RX4 22 arraycopyName, Cond.fieldLink RX4 15 "DryIceLane$Route" "outsides" "[I", Cond.fieldLink RX4 28 "DryIceLane$Route" "count" "I", Cond.fieldLink RX4 18 "DryIceLane$Route" "latest" "I", Cond.fieldLink RX4 31 "DryIceLane$Route" "minutesLeft" "I"]
def wsX9_save : List Cond := .code yX9_save cX9_save 3 (some .int) :: ((wsX9_save_r1 ++ (wsX9_save_r2 ++ (wsX9_save_r3 ++ wsX9_save_r4))) ++ wsX70 ++ wsX90 ++ wsX80 ++ wsX60 ++ wsX20 ++ wsX00 ++ wsX10 ++ wsX40)
def wsX9_restore_r1 : List Cond := [Cond.fieldLink RX9 270 "DryIceLane$Slot" "filled" "Z", Cond.fieldLink RX9 10 "DryIceLane" "now" "LDryIceLane$Van;", Cond.fieldLink RX9 267 "DryIceLane$Slot" "kept" "LDryIceLane$Van;", Cond.fieldLink RX9 133 "DryIceLane$Van" "time" "I", Cond.methodLink RX9 43 yX9_within, Cond.static yX9_within, Cond.initialized RX9, Cond.code yX9_within cX9_within 3 (some .boolean), Cond.methodLink RX9 263 yX9_slotAt, Cond.instanceMethod yX9_slotAt, Cond.selects RX9 yX9_slotAt yX9_slotAt, Cond.code yX9_slotAt cX9_slotAt 2 (some (.object "DryIceLane$Slot")), Cond.fieldLink RX9 22 "DryIceLane" "slot0" "LDryIceLane$Slot;", Cond.fieldLink RX9 26 "DryIceLane" "slot1" "LDryIceLane$Slot;", Cond.methodLink RX9 234 yX8_becomeLike, Cond.instanceMethod yX8_becomeLike, Cond.selects RX8 yX8_becomeLike yX8_becomeLike, Cond.initialized RX8, Cond.code yX8_becomeLike cX8_becomeLike 2 none, Cond.fieldLink RX8 12 "DryIceLane$Van" "settings" "LDryIceLane$Settings;", Cond.fieldLink RX8 21 "DryIceLane$Van" "lane" "LDryIceLane$Lane;", Cond.fieldLink RX8 28 "DryIceLane$Van" "hold" "LDryIceLane$Hold;", Cond.fieldLink RX8 35 "DryIceLane$Van" "route" "LDryIceLane$Route;", Cond.fieldLink RX8 52 "DryIceLane$Van" "time" "I"]
def wsX9_restore_r2 : List Cond := [Cond.fieldLink RX8 56 "DryIceLane$Van" "putIn" "J", Cond.fieldLink RX8 60 "DryIceLane$Van" "takenOut" "J", Cond.fieldLink RX8 63 "DryIceLane$Van" "wentOff" "J", Cond.fieldLink RX8 66 "DryIceLane$Van" "sold" "J", Cond.fieldLink RX8 69 "DryIceLane$Van" "spilled" "J", Cond.methodLink RX8 39 yX6_becomeLike, Cond.instanceMethod yX6_becomeLike, Cond.selects RX6 yX6_becomeLike yX6_becomeLike, Cond.initialized RX6, Cond.code yX6_becomeLike cX6_becomeLike 2 none, Cond.fieldLink RX6 18 "DryIceLane$Settings" "values" "[I", Cond.methodLink RX6 23 arraycopyName, Cond.native arraycopyName, Cond.static arraycopyName, Cond.initialized "java/lang/System", Cond.methodLink RX8 43 yX2_becomeLike, Cond.instanceMethod yX2_becomeLike, Cond.selects RX2 yX2_becomeLike yX2_becomeLike, Cond.initialized RX2, Cond.code yX2_becomeLike cX2_becomeLike 3 none, Cond.fieldLink RX2 18 "DryIceLane$Lane" "count" "I", Cond.fieldLink RX2 11 "DryIceLane$Lane" "boxes" "[LDryIceLane$Box;", Cond.methodLink RX2 22 yX0_becomeLike, Cond.instanceMethod yX0_becomeLike]
def wsX9_restore_r3 : List Cond := [Cond.selects RX0 yX0_becomeLike yX0_becomeLike, Cond.initialized RX0, Cond.code yX0_becomeLike cX0_becomeLike 2 none, Cond.fieldLink RX0 9 "DryIceLane$Box" "insulation" "I", Cond.fieldLink RX0 15 "DryIceLane$Box" "tare" "I", Cond.fieldLink RX0 18 "DryIceLane$Box" "ice" "I", Cond.fieldLink RX0 21 "DryIceLane$Box" "paper" "I", Cond.methodLink RX8 46 yX1_becomeLike, Cond.instanceMethod yX1_becomeLike, Cond.selects RX1 yX1_becomeLike yX1_becomeLike, Cond.initialized RX1, Cond.code yX1_becomeLike cX1_becomeLike 2 none, Cond.fieldLink RX1 9 "DryIceLane$Hold" "temperature" "I", Cond.fieldLink RX1 18 "DryIceLane$Hold" "gas" "J", Cond.fieldLink RX1 15 "DryIceLane$Hold" "ventMode" "I", Cond.fieldLink RX1 22 "DryIceLane$Hold" "ventOpen" "Z", Cond.fieldLink RX1 26 "DryIceLane$Hold" "ventMinutes" "I", Cond.fieldLink RX1 29 "DryIceLane$Hold" "doorOpen" "Z", Cond.fieldLink RX1 32 "DryIceLane$Hold" "alarms" "I", Cond.methodLink RX8 49 yX4_becomeLike, Cond.instanceMethod yX4_becomeLike, Cond.selects RX4 yX4_becomeLike yX4_becomeLike, Cond.initialized RX4, Cond.code yX4_becomeLike cX4_becomeLike 2 none]
def wsX9_restore_r4 : List Cond := [Cond.fieldLink RX4 9 "DryIceLane$Route" "durations" "[I", Cond.methodLink RX4 22 arraycopyName, Cond.fieldLink RX4 15 "DryIceLane$Route" "outsides" "[I", Cond.fieldLink RX4 28 "DryIceLane$Route" "count" "I", Cond.fieldLink RX4 18 "DryIceLane$Route" "latest" "I", Cond.fieldLink RX4 31 "DryIceLane$Route" "minutesLeft" "I"]
def wsX9_restore : List Cond := .code yX9_restore cX9_restore 3 (some .int) :: ((wsX9_restore_r1 ++ (wsX9_restore_r2 ++ (wsX9_restore_r3 ++ wsX9_restore_r4))) ++ wsX70 ++ wsX90 ++ wsX80 ++ wsX60 ++ wsX20 ++ wsX00 ++ wsX10 ++ wsX40)
def wsX10_init : List Cond := .code yX10_init cX10_init 1 none :: ([.methodLink RX10 1 objectInit, .instanceMethod objectInit, .code objectInit ⟨#[0xb1]⟩ 1 none, .arrayClass .long, .fieldLink RX10 7 "DryIceLaneModel" "at" "[J", .fieldLink RX10 13 "DryIceLaneModel" "aside" "[J", .fieldLink RX10 16 "DryIceLaneModel" "slots" "[J", .arrayClass .boolean, .fieldLink RX10 19 "DryIceLaneModel" "isSaved" "[Z", .arrayClass .int, .fieldLink RX10 23 "DryIceLaneModel" "pad" "[I", .fieldLink RX10 27 "DryIceLaneModel" "read" "[I", .constantLong RX10 30 (2000), .constantLong RX10 32 (-1), .constantLong RX10 34 (100), .constantLong RX10 36 (10), .constantLong RX10 38 (5), .constantLong RX10 40 (300), .constantLong RX10 42 (5000), .constantLong RX10 44 (1000), .constantLong RX10 46 (20)] ++ wsX100)
def wsX10_in : List Cond := .code yX10_in cX10_in 6 (some .boolean) :: ([])
def wsX10_of : List Cond := .code yX10_of cX10_of 3 (some .long) :: ([.fieldLink RX10 7 "DryIceLaneModel" "at" "[J"] ++ wsX100)
def wsX10_lay : List Cond := .code yX10_lay cX10_lay 5 none :: ([.fieldLink RX10 7 "DryIceLaneModel" "at" "[J"] ++ wsX100)
def wsX10_boxes : List Cond := .code yX10_boxes cX10_boxes 1 (some .int) :: ([.fieldLink RX10 7 "DryIceLaneModel" "at" "[J"] ++ wsX100)
def wsX10_legs : List Cond := .code yX10_legs cX10_legs 1 (some .int) :: ([.fieldLink RX10 7 "DryIceLaneModel" "at" "[J"] ++ wsX100)
def wsX10_isBox : List Cond := .code yX10_isBox cX10_isBox 2 (some .boolean) :: ([.methodLink RX10 48 yX10_boxes, .instanceMethod yX10_boxes, .selects RX10 yX10_boxes yX10_boxes, .initialized RX10, .code yX10_boxes cX10_boxes 1 (some .int), .fieldLink RX10 7 "DryIceLaneModel" "at" "[J", .methodLink RX10 52 yX10_in, .static yX10_in, .code yX10_in cX10_in 6 (some .boolean)] ++ wsX100)
def wsX10_isDoorOpen : List Cond := .code yX10_isDoorOpen cX10_isDoorOpen 1 (some .boolean) :: ([.fieldLink RX10 7 "DryIceLaneModel" "at" "[J"] ++ wsX100)
def wsX10_isAway : List Cond := .code yX10_isAway cX10_isAway 1 (some .boolean) :: ([.fieldLink RX10 7 "DryIceLaneModel" "at" "[J"] ++ wsX100)
def wsX10_putAside : List Cond := .code yX10_putAside cX10_putAside 2 none :: ([.fieldLink RX10 13 "DryIceLaneModel" "aside" "[J", .fieldLink RX10 7 "DryIceLaneModel" "at" "[J"] ++ wsX100)
def wsX10_putBack : List Cond := .code yX10_putBack cX10_putBack 2 none :: ([.fieldLink RX10 7 "DryIceLaneModel" "at" "[J", .fieldLink RX10 13 "DryIceLaneModel" "aside" "[J"] ++ wsX100)
def wsX10_concentration : List Cond := .code yX10_concentration cX10_concentration 1 (some .int) :: ([.fieldLink RX10 7 "DryIceLaneModel" "at" "[J", .constantLong RX10 56 (2)] ++ wsX100)
def wsX10_load : List Cond := .code yX10_load cX10_load 5 (some .int) :: ([.constantLong RX10 34 (100), .constantLong RX10 58 (5000000), .constantLong RX10 60 (20000000), .fieldLink RX10 7 "DryIceLaneModel" "at" "[J", .methodLink RX10 52 yX10_in, .static yX10_in, .initialized RX10, .code yX10_in cX10_in 6 (some .boolean), .methodLink RX10 48 yX10_boxes, .instanceMethod yX10_boxes, .selects RX10 yX10_boxes yX10_boxes, .code yX10_boxes cX10_boxes 1 (some .int), .methodLink RX10 62 yX10_isDoorOpen, .instanceMethod yX10_isDoorOpen, .selects RX10 yX10_isDoorOpen yX10_isDoorOpen, .code yX10_isDoorOpen cX10_isDoorOpen 1 (some .boolean), .methodLink RX10 66 yX10_lay, .instanceMethod yX10_lay, .selects RX10 yX10_lay yX10_lay, .code yX10_lay cX10_lay 5 none] ++ wsX100)
def wsX10_unload : List Cond := .code yX10_unload cX10_unload 4 (some .int) :: ([.fieldLink RX10 7 "DryIceLaneModel" "at" "[J", .methodLink RX10 70 yX10_isBox, .instanceMethod yX10_isBox, .selects RX10 yX10_isBox yX10_isBox, .initialized RX10, .code yX10_isBox cX10_isBox 2 (some .boolean), .methodLink RX10 48 yX10_boxes, .instanceMethod yX10_boxes, .selects RX10 yX10_boxes yX10_boxes, .code yX10_boxes cX10_boxes 1 (some .int), .methodLink RX10 52 yX10_in, .static yX10_in, .code yX10_in cX10_in 6 (some .boolean), .methodLink RX10 62 yX10_isDoorOpen, .instanceMethod yX10_isDoorOpen, .selects RX10 yX10_isDoorOpen yX10_isDoorOpen, .code yX10_isDoorOpen cX10_isDoorOpen 1 (some .boolean), .methodLink RX10 74 yX10_of, .instanceMethod yX10_of, .selects RX10 yX10_of yX10_of, .code yX10_of cX10_of 3 (some .long)] ++ wsX100)
def wsX10_swap : List Cond := .code yX10_swap cX10_swap 6 none :: ([.methodLink RX10 74 yX10_of, .instanceMethod yX10_of, .selects RX10 yX10_of yX10_of, .initialized RX10, .code yX10_of cX10_of 3 (some .long), .fieldLink RX10 7 "DryIceLaneModel" "at" "[J", .methodLink RX10 66 yX10_lay, .instanceMethod yX10_lay, .selects RX10 yX10_lay yX10_lay, .code yX10_lay cX10_lay 5 none] ++ wsX100)
def wsX10_move : List Cond := .code yX10_move cX10_move 4 none :: ([.methodLink RX10 78 yX10_swap, .instanceMethod yX10_swap, .selects RX10 yX10_swap yX10_swap, .initialized RX10, .code yX10_swap cX10_swap 6 none, .methodLink RX10 74 yX10_of, .instanceMethod yX10_of, .selects RX10 yX10_of yX10_of, .code yX10_of cX10_of 3 (some .long), .fieldLink RX10 7 "DryIceLaneModel" "at" "[J", .methodLink RX10 66 yX10_lay, .instanceMethod yX10_lay, .selects RX10 yX10_lay yX10_lay, .code yX10_lay cX10_lay 5 none] ++ wsX100)
def wsX10_shift_r1 : List Cond := [Cond.methodLink RX10 70 yX10_isBox, Cond.instanceMethod yX10_isBox, Cond.selects RX10 yX10_isBox yX10_isBox, Cond.initialized RX10, Cond.code yX10_isBox cX10_isBox 2 (some .boolean), Cond.methodLink RX10 48 yX10_boxes, Cond.instanceMethod yX10_boxes, Cond.selects RX10 yX10_boxes yX10_boxes, Cond.code yX10_boxes cX10_boxes 1 (some .int), Cond.fieldLink RX10 7 "DryIceLaneModel" "at" "[J", Cond.methodLink RX10 52 yX10_in, Cond.static yX10_in, Cond.code yX10_in cX10_in 6 (some .boolean), Cond.methodLink RX10 74 yX10_of, Cond.instanceMethod yX10_of, Cond.selects RX10 yX10_of yX10_of, Cond.code yX10_of cX10_of 3 (some .long), Cond.methodLink RX10 82 yX10_move, Cond.instanceMethod yX10_move, Cond.selects RX10 yX10_move yX10_move, Cond.code yX10_move cX10_move 4 none, Cond.methodLink RX10 78 yX10_swap, Cond.instanceMethod yX10_swap, Cond.selects RX10 yX10_swap yX10_swap]
def wsX10_shift_r2 : List Cond := [Cond.code yX10_swap cX10_swap 6 none, Cond.methodLink RX10 66 yX10_lay, Cond.instanceMethod yX10_lay, Cond.selects RX10 yX10_lay yX10_lay, Cond.code yX10_lay cX10_lay 5 none]
def wsX10_shift : List Cond := .code yX10_shift cX10_shift 4 (some .int) :: ((wsX10_shift_r1 ++ wsX10_shift_r2) ++ wsX100)
def wsX10_takes : List Cond := .code yX10_takes cX10_takes 2 (some .boolean) :: ([.constantLong RX10 44 (1000), .constantLong RX10 34 (100), .constantLong RX10 85 (500), .constantLong RX10 87 (900), .constantLong RX10 89 (50000), .constantLong RX10 91 (200), .constantLong RX10 93 (100000), .methodLink RX10 52 yX10_in, .static yX10_in, .initialized RX10, .code yX10_in cX10_in 6 (some .boolean)])
def wsX10_set : List Cond := .code yX10_set cX10_set 4 (some .int) :: ([.fieldLink RX10 7 "DryIceLaneModel" "at" "[J", .methodLink RX10 95 yX10_takes, .static yX10_takes, .initialized RX10, .code yX10_takes cX10_takes 2 (some .boolean), .constantLong RX10 44 (1000), .constantLong RX10 34 (100), .constantLong RX10 85 (500), .constantLong RX10 87 (900), .constantLong RX10 89 (50000), .constantLong RX10 91 (200), .constantLong RX10 93 (100000), .methodLink RX10 52 yX10_in, .static yX10_in, .code yX10_in cX10_in 6 (some .boolean)] ++ wsX100)
def wsX10_leg : List Cond := .code yX10_leg cX10_leg 4 (some .int) :: ([.constantLong RX10 99 (600), .constantLong RX10 101 (-4000), .constantLong RX10 42 (5000), .fieldLink RX10 7 "DryIceLaneModel" "at" "[J", .methodLink RX10 52 yX10_in, .static yX10_in, .initialized RX10, .code yX10_in cX10_in 6 (some .boolean), .methodLink RX10 103 yX10_legs, .instanceMethod yX10_legs, .selects RX10 yX10_legs yX10_legs, .code yX10_legs cX10_legs 1 (some .int)] ++ wsX100)
def wsX10_cut : List Cond := .code yX10_cut cX10_cut 1 (some .int) :: ([.fieldLink RX10 7 "DryIceLaneModel" "at" "[J", .methodLink RX10 103 yX10_legs, .instanceMethod yX10_legs, .selects RX10 yX10_legs yX10_legs, .initialized RX10, .code yX10_legs cX10_legs 1 (some .int)] ++ wsX100)
def wsX10_hasNext : List Cond := .code yX10_hasNext cX10_hasNext 1 (some .boolean) :: ([.fieldLink RX10 7 "DryIceLaneModel" "at" "[J", .methodLink RX10 103 yX10_legs, .instanceMethod yX10_legs, .selects RX10 yX10_legs yX10_legs, .initialized RX10, .code yX10_legs cX10_legs 1 (some .int)] ++ wsX100)
def wsX10_begin : List Cond := .code yX10_begin cX10_begin 1 none :: ([.fieldLink RX10 7 "DryIceLaneModel" "at" "[J"] ++ wsX100)
def wsX10_depart : List Cond := .code yX10_depart cX10_depart 1 (some .int) :: ([.fieldLink RX10 7 "DryIceLaneModel" "at" "[J", .methodLink RX10 106 yX10_isAway, .instanceMethod yX10_isAway, .selects RX10 yX10_isAway yX10_isAway, .initialized RX10, .code yX10_isAway cX10_isAway 1 (some .boolean), .methodLink RX10 62 yX10_isDoorOpen, .instanceMethod yX10_isDoorOpen, .selects RX10 yX10_isDoorOpen yX10_isDoorOpen, .code yX10_isDoorOpen cX10_isDoorOpen 1 (some .boolean), .methodLink RX10 109 yX10_hasNext, .instanceMethod yX10_hasNext, .selects RX10 yX10_hasNext yX10_hasNext, .code yX10_hasNext cX10_hasNext 1 (some .boolean), .methodLink RX10 103 yX10_legs, .instanceMethod yX10_legs, .selects RX10 yX10_legs yX10_legs, .code yX10_legs cX10_legs 1 (some .int), .methodLink RX10 112 yX10_begin, .instanceMethod yX10_begin, .selects RX10 yX10_begin yX10_begin, .code yX10_begin cX10_begin 1 none] ++ wsX100)
def wsX10_outside : List Cond := .code yX10_outside cX10_outside 1 (some .long) :: ([.fieldLink RX10 7 "DryIceLaneModel" "at" "[J", .constantLong RX10 30 (2000)] ++ wsX100)
def wsX10_goesOff : List Cond := .code yX10_goesOff cX10_goesOff 4 (some .long) :: ([.fieldLink RX10 7 "DryIceLaneModel" "at" "[J", .constantLong RX10 115 (8000), .constantLong RX10 34 (100), .methodLink RX10 74 yX10_of, .instanceMethod yX10_of, .selects RX10 yX10_of yX10_of, .initialized RX10, .code yX10_of cX10_of 3 (some .long)] ++ wsX100)
def wsX10_goOff : List Cond := .code yX10_goOff cX10_goOff 8 (some .long) :: ([.fieldLink RX10 7 "DryIceLaneModel" "at" "[J", .methodLink RX10 48 yX10_boxes, .instanceMethod yX10_boxes, .selects RX10 yX10_boxes yX10_boxes, .initialized RX10, .code yX10_boxes cX10_boxes 1 (some .int), .methodLink RX10 117 yX10_goesOff, .instanceMethod yX10_goesOff, .selects RX10 yX10_goesOff yX10_goesOff, .code yX10_goesOff cX10_goesOff 4 (some .long), .constantLong RX10 115 (8000), .constantLong RX10 34 (100), .methodLink RX10 74 yX10_of, .instanceMethod yX10_of, .selects RX10 yX10_of yX10_of, .code yX10_of cX10_of 3 (some .long), .methodLink RX10 66 yX10_lay, .instanceMethod yX10_lay, .selects RX10 yX10_lay yX10_lay, .code yX10_lay cX10_lay 5 none] ++ wsX100)
def wsX10_warm : List Cond := .code yX10_warm cX10_warm 7 none :: ([.fieldLink RX10 7 "DryIceLaneModel" "at" "[J", .constantLong RX10 125 (4), .constantLong RX10 127 (-7900), .methodLink RX10 121 yX10_outside, .instanceMethod yX10_outside, .selects RX10 yX10_outside yX10_outside, .initialized RX10, .code yX10_outside cX10_outside 1 (some .long), .constantLong RX10 30 (2000), .methodLink RX10 62 yX10_isDoorOpen, .instanceMethod yX10_isDoorOpen, .selects RX10 yX10_isDoorOpen yX10_isDoorOpen, .code yX10_isDoorOpen cX10_isDoorOpen 1 (some .boolean)] ++ wsX100)
def wsX10_blow : List Cond := .code yX10_blow cX10_blow 1 none :: ([.fieldLink RX10 7 "DryIceLaneModel" "at" "[J", .constantLong RX10 44 (1000), .methodLink RX10 62 yX10_isDoorOpen, .instanceMethod yX10_isDoorOpen, .selects RX10 yX10_isDoorOpen yX10_isDoorOpen, .initialized RX10, .code yX10_isDoorOpen cX10_isDoorOpen 1 (some .boolean)] ++ wsX100)
def wsX10_openVent : List Cond := .code yX10_openVent cX10_openVent 1 none :: ([.fieldLink RX10 7 "DryIceLaneModel" "at" "[J"] ++ wsX100)
def wsX10_shutVent : List Cond := .code yX10_shutVent cX10_shutVent 1 none :: ([.fieldLink RX10 7 "DryIceLaneModel" "at" "[J"] ++ wsX100)
def wsX10_turnVent : List Cond := .code yX10_turnVent cX10_turnVent 2 none :: ([.fieldLink RX10 7 "DryIceLaneModel" "at" "[J", .constantLong RX10 56 (2), .methodLink RX10 129 yX10_concentration, .instanceMethod yX10_concentration, .selects RX10 yX10_concentration yX10_concentration, .initialized RX10, .code yX10_concentration cX10_concentration 1 (some .int), .methodLink RX10 132 yX10_shutVent, .instanceMethod yX10_shutVent, .selects RX10 yX10_shutVent yX10_shutVent, .code yX10_shutVent cX10_shutVent 1 none, .methodLink RX10 135 yX10_openVent, .instanceMethod yX10_openVent, .selects RX10 yX10_openVent yX10_openVent, .code yX10_openVent cX10_openVent 1 none] ++ wsX100)
def wsX10_makeMinute_r1 : List Cond := [Cond.fieldLink RX10 7 "DryIceLaneModel" "at" "[J", Cond.methodLink RX10 138 yX10_goOff, Cond.instanceMethod yX10_goOff, Cond.selects RX10 yX10_goOff yX10_goOff, Cond.initialized RX10, Cond.code yX10_goOff cX10_goOff 8 (some .long), Cond.methodLink RX10 48 yX10_boxes, Cond.instanceMethod yX10_boxes, Cond.selects RX10 yX10_boxes yX10_boxes, Cond.code yX10_boxes cX10_boxes 1 (some .int), Cond.methodLink RX10 117 yX10_goesOff, Cond.instanceMethod yX10_goesOff, Cond.selects RX10 yX10_goesOff yX10_goesOff, Cond.code yX10_goesOff cX10_goesOff 4 (some .long), Cond.constantLong RX10 115 (8000), Cond.constantLong RX10 34 (100), Cond.methodLink RX10 74 yX10_of, Cond.instanceMethod yX10_of, Cond.selects RX10 yX10_of yX10_of, Cond.code yX10_of cX10_of 3 (some .long), Cond.methodLink RX10 66 yX10_lay, Cond.instanceMethod yX10_lay, Cond.selects RX10 yX10_lay yX10_lay, Cond.code yX10_lay cX10_lay 5 none]
def wsX10_makeMinute_r2 : List Cond := [Cond.methodLink RX10 141 yX10_warm, Cond.instanceMethod yX10_warm, Cond.selects RX10 yX10_warm yX10_warm, Cond.code yX10_warm cX10_warm 7 none, Cond.constantLong RX10 125 (4), Cond.constantLong RX10 127 (-7900), Cond.methodLink RX10 121 yX10_outside, Cond.instanceMethod yX10_outside, Cond.selects RX10 yX10_outside yX10_outside, Cond.code yX10_outside cX10_outside 1 (some .long), Cond.constantLong RX10 30 (2000), Cond.methodLink RX10 62 yX10_isDoorOpen, Cond.instanceMethod yX10_isDoorOpen, Cond.selects RX10 yX10_isDoorOpen yX10_isDoorOpen, Cond.code yX10_isDoorOpen cX10_isDoorOpen 1 (some .boolean), Cond.methodLink RX10 145 yX10_blow, Cond.instanceMethod yX10_blow, Cond.selects RX10 yX10_blow yX10_blow, Cond.code yX10_blow cX10_blow 1 none, Cond.constantLong RX10 44 (1000), Cond.methodLink RX10 148 yX10_turnVent, Cond.instanceMethod yX10_turnVent, Cond.selects RX10 yX10_turnVent yX10_turnVent, Cond.code yX10_turnVent cX10_turnVent 2 none]
def wsX10_makeMinute_r3 : List Cond := [Cond.constantLong RX10 56 (2), Cond.methodLink RX10 129 yX10_concentration, Cond.instanceMethod yX10_concentration, Cond.selects RX10 yX10_concentration yX10_concentration, Cond.code yX10_concentration cX10_concentration 1 (some .int), Cond.methodLink RX10 132 yX10_shutVent, Cond.instanceMethod yX10_shutVent, Cond.selects RX10 yX10_shutVent yX10_shutVent, Cond.code yX10_shutVent cX10_shutVent 1 none, Cond.methodLink RX10 135 yX10_openVent, Cond.instanceMethod yX10_openVent, Cond.selects RX10 yX10_openVent yX10_openVent, Cond.code yX10_openVent cX10_openVent 1 none, Cond.methodLink RX10 106 yX10_isAway, Cond.instanceMethod yX10_isAway, Cond.selects RX10 yX10_isAway yX10_isAway, Cond.code yX10_isAway cX10_isAway 1 (some .boolean)]
def wsX10_makeMinute : List Cond := .code yX10_makeMinute cX10_makeMinute 1 none :: ((wsX10_makeMinute_r1 ++ (wsX10_makeMinute_r2 ++ wsX10_makeMinute_r3)) ++ wsX100)
def wsX10_pass_r1 : List Cond := [Cond.constantLong RX10 44 (1000), Cond.fieldLink RX10 7 "DryIceLaneModel" "at" "[J", Cond.constantLong RX10 93 (100000), Cond.methodLink RX10 52 yX10_in, Cond.static yX10_in, Cond.initialized RX10, Cond.code yX10_in cX10_in 6 (some .boolean), Cond.methodLink RX10 106 yX10_isAway, Cond.instanceMethod yX10_isAway, Cond.selects RX10 yX10_isAway yX10_isAway, Cond.code yX10_isAway cX10_isAway 1 (some .boolean), Cond.methodLink RX10 151 yX10_makeMinute, Cond.instanceMethod yX10_makeMinute, Cond.selects RX10 yX10_makeMinute yX10_makeMinute, Cond.code yX10_makeMinute cX10_makeMinute 1 none, Cond.methodLink RX10 138 yX10_goOff, Cond.instanceMethod yX10_goOff, Cond.selects RX10 yX10_goOff yX10_goOff, Cond.code yX10_goOff cX10_goOff 8 (some .long), Cond.methodLink RX10 48 yX10_boxes, Cond.instanceMethod yX10_boxes, Cond.selects RX10 yX10_boxes yX10_boxes, Cond.code yX10_boxes cX10_boxes 1 (some .int), Cond.methodLink RX10 117 yX10_goesOff]
def wsX10_pass_r2 : List Cond := [Cond.instanceMethod yX10_goesOff, Cond.selects RX10 yX10_goesOff yX10_goesOff, Cond.code yX10_goesOff cX10_goesOff 4 (some .long), Cond.constantLong RX10 115 (8000), Cond.constantLong RX10 34 (100), Cond.methodLink RX10 74 yX10_of, Cond.instanceMethod yX10_of, Cond.selects RX10 yX10_of yX10_of, Cond.code yX10_of cX10_of 3 (some .long), Cond.methodLink RX10 66 yX10_lay, Cond.instanceMethod yX10_lay, Cond.selects RX10 yX10_lay yX10_lay, Cond.code yX10_lay cX10_lay 5 none, Cond.methodLink RX10 141 yX10_warm, Cond.instanceMethod yX10_warm, Cond.selects RX10 yX10_warm yX10_warm, Cond.code yX10_warm cX10_warm 7 none, Cond.constantLong RX10 125 (4), Cond.constantLong RX10 127 (-7900), Cond.methodLink RX10 121 yX10_outside, Cond.instanceMethod yX10_outside, Cond.selects RX10 yX10_outside yX10_outside, Cond.code yX10_outside cX10_outside 1 (some .long), Cond.constantLong RX10 30 (2000)]
def wsX10_pass_r3 : List Cond := [Cond.methodLink RX10 62 yX10_isDoorOpen, Cond.instanceMethod yX10_isDoorOpen, Cond.selects RX10 yX10_isDoorOpen yX10_isDoorOpen, Cond.code yX10_isDoorOpen cX10_isDoorOpen 1 (some .boolean), Cond.methodLink RX10 145 yX10_blow, Cond.instanceMethod yX10_blow, Cond.selects RX10 yX10_blow yX10_blow, Cond.code yX10_blow cX10_blow 1 none, Cond.methodLink RX10 148 yX10_turnVent, Cond.instanceMethod yX10_turnVent, Cond.selects RX10 yX10_turnVent yX10_turnVent, Cond.code yX10_turnVent cX10_turnVent 2 none, Cond.constantLong RX10 56 (2), Cond.methodLink RX10 129 yX10_concentration, Cond.instanceMethod yX10_concentration, Cond.selects RX10 yX10_concentration yX10_concentration, Cond.code yX10_concentration cX10_concentration 1 (some .int), Cond.methodLink RX10 132 yX10_shutVent, Cond.instanceMethod yX10_shutVent, Cond.selects RX10 yX10_shutVent yX10_shutVent, Cond.code yX10_shutVent cX10_shutVent 1 none, Cond.methodLink RX10 135 yX10_openVent, Cond.instanceMethod yX10_openVent, Cond.selects RX10 yX10_openVent yX10_openVent]
def wsX10_pass_r4 : List Cond := [Cond.code yX10_openVent cX10_openVent 1 none]
def wsX10_pass : List Cond := .code yX10_pass cX10_pass 4 (some .int) :: ((wsX10_pass_r1 ++ (wsX10_pass_r2 ++ (wsX10_pass_r3 ++ wsX10_pass_r4))) ++ wsX100)
def wsX10_setMode : List Cond := .code yX10_setMode cX10_setMode 2 none :: ([.fieldLink RX10 7 "DryIceLaneModel" "at" "[J", .methodLink RX10 132 yX10_shutVent, .instanceMethod yX10_shutVent, .selects RX10 yX10_shutVent yX10_shutVent, .initialized RX10, .code yX10_shutVent cX10_shutVent 1 none, .methodLink RX10 135 yX10_openVent, .instanceMethod yX10_openVent, .selects RX10 yX10_openVent yX10_openVent, .code yX10_openVent cX10_openVent 1 none] ++ wsX100)
def wsX10_vent : List Cond := .code yX10_vent cX10_vent 3 (some .int) :: ([.constantLong RX10 56 (2), .fieldLink RX10 7 "DryIceLaneModel" "at" "[J", .methodLink RX10 52 yX10_in, .static yX10_in, .initialized RX10, .code yX10_in cX10_in 6 (some .boolean), .methodLink RX10 154 yX10_setMode, .instanceMethod yX10_setMode, .selects RX10 yX10_setMode yX10_setMode, .code yX10_setMode cX10_setMode 2 none, .methodLink RX10 132 yX10_shutVent, .instanceMethod yX10_shutVent, .selects RX10 yX10_shutVent yX10_shutVent, .code yX10_shutVent cX10_shutVent 1 none, .methodLink RX10 135 yX10_openVent, .instanceMethod yX10_openVent, .selects RX10 yX10_openVent yX10_openVent, .code yX10_openVent cX10_openVent 1 none] ++ wsX100)
def wsX10_open : List Cond := .code yX10_open cX10_open 1 (some .int) :: ([.fieldLink RX10 7 "DryIceLaneModel" "at" "[J", .methodLink RX10 106 yX10_isAway, .instanceMethod yX10_isAway, .selects RX10 yX10_isAway yX10_isAway, .initialized RX10, .code yX10_isAway cX10_isAway 1 (some .boolean), .methodLink RX10 62 yX10_isDoorOpen, .instanceMethod yX10_isDoorOpen, .selects RX10 yX10_isDoorOpen yX10_isDoorOpen, .code yX10_isDoorOpen cX10_isDoorOpen 1 (some .boolean), .methodLink RX10 129 yX10_concentration, .instanceMethod yX10_concentration, .selects RX10 yX10_concentration yX10_concentration, .code yX10_concentration cX10_concentration 1 (some .int), .constantLong RX10 56 (2), .methodLink RX10 135 yX10_openVent, .instanceMethod yX10_openVent, .selects RX10 yX10_openVent yX10_openVent, .code yX10_openVent cX10_openVent 1 none] ++ wsX100)
def wsX10_shut : List Cond := .code yX10_shut cX10_shut 1 (some .int) :: ([.fieldLink RX10 7 "DryIceLaneModel" "at" "[J", .methodLink RX10 62 yX10_isDoorOpen, .instanceMethod yX10_isDoorOpen, .selects RX10 yX10_isDoorOpen yX10_isDoorOpen, .initialized RX10, .code yX10_isDoorOpen cX10_isDoorOpen 1 (some .boolean), .methodLink RX10 129 yX10_concentration, .instanceMethod yX10_concentration, .selects RX10 yX10_concentration yX10_concentration, .code yX10_concentration cX10_concentration 1 (some .int), .constantLong RX10 56 (2)] ++ wsX100)
def wsX10_allIce : List Cond := .code yX10_allIce cX10_allIce 4 (some .long) :: ([.methodLink RX10 48 yX10_boxes, .instanceMethod yX10_boxes, .selects RX10 yX10_boxes yX10_boxes, .initialized RX10, .code yX10_boxes cX10_boxes 1 (some .int), .fieldLink RX10 7 "DryIceLaneModel" "at" "[J", .methodLink RX10 74 yX10_of, .instanceMethod yX10_of, .selects RX10 yX10_of yX10_of, .code yX10_of cX10_of 3 (some .long)] ++ wsX100)
def wsX10_take : List Cond := .code yX10_take cX10_take 11 (some .int) :: ([.methodLink RX10 48 yX10_boxes, .instanceMethod yX10_boxes, .selects RX10 yX10_boxes yX10_boxes, .initialized RX10, .code yX10_boxes cX10_boxes 1 (some .int), .fieldLink RX10 7 "DryIceLaneModel" "at" "[J", .methodLink RX10 74 yX10_of, .instanceMethod yX10_of, .selects RX10 yX10_of yX10_of, .code yX10_of cX10_of 3 (some .long), .methodLink RX10 66 yX10_lay, .instanceMethod yX10_lay, .selects RX10 yX10_lay yX10_lay, .code yX10_lay cX10_lay 5 none] ++ wsX100)
def wsX10_sell_r1 : List Cond := [Cond.constantLong RX10 158 (50000000), Cond.fieldLink RX10 7 "DryIceLaneModel" "at" "[J", Cond.methodLink RX10 52 yX10_in, Cond.static yX10_in, Cond.initialized RX10, Cond.code yX10_in cX10_in 6 (some .boolean), Cond.methodLink RX10 62 yX10_isDoorOpen, Cond.instanceMethod yX10_isDoorOpen, Cond.selects RX10 yX10_isDoorOpen yX10_isDoorOpen, Cond.code yX10_isDoorOpen cX10_isDoorOpen 1 (some .boolean), Cond.methodLink RX10 160 yX10_allIce, Cond.instanceMethod yX10_allIce, Cond.selects RX10 yX10_allIce yX10_allIce, Cond.code yX10_allIce cX10_allIce 4 (some .long), Cond.methodLink RX10 48 yX10_boxes, Cond.instanceMethod yX10_boxes, Cond.selects RX10 yX10_boxes yX10_boxes, Cond.code yX10_boxes cX10_boxes 1 (some .int), Cond.methodLink RX10 74 yX10_of, Cond.instanceMethod yX10_of, Cond.selects RX10 yX10_of yX10_of, Cond.code yX10_of cX10_of 3 (some .long), Cond.methodLink RX10 163 yX10_take, Cond.instanceMethod yX10_take]
def wsX10_sell_r2 : List Cond := [Cond.selects RX10 yX10_take yX10_take, Cond.code yX10_take cX10_take 11 (some .int), Cond.methodLink RX10 66 yX10_lay, Cond.instanceMethod yX10_lay, Cond.selects RX10 yX10_lay yX10_lay, Cond.code yX10_lay cX10_lay 5 none]
def wsX10_sell : List Cond := .code yX10_sell cX10_sell 2 (some .int) :: ((wsX10_sell_r1 ++ wsX10_sell_r2) ++ wsX100)
def wsX10_spill : List Cond := .code yX10_spill cX10_spill 3 (some .int) :: ([.constantLong RX10 60 (20000000), .fieldLink RX10 7 "DryIceLaneModel" "at" "[J", .methodLink RX10 70 yX10_isBox, .instanceMethod yX10_isBox, .selects RX10 yX10_isBox yX10_isBox, .initialized RX10, .code yX10_isBox cX10_isBox 2 (some .boolean), .methodLink RX10 48 yX10_boxes, .instanceMethod yX10_boxes, .selects RX10 yX10_boxes yX10_boxes, .code yX10_boxes cX10_boxes 1 (some .int), .methodLink RX10 52 yX10_in, .static yX10_in, .code yX10_in cX10_in 6 (some .boolean), .methodLink RX10 74 yX10_of, .instanceMethod yX10_of, .selects RX10 yX10_of yX10_of, .code yX10_of cX10_of 3 (some .long), .methodLink RX10 66 yX10_lay, .instanceMethod yX10_lay, .selects RX10 yX10_lay yX10_lay, .code yX10_lay cX10_lay 5 none] ++ wsX100)
def wsX10_weigh : List Cond := .code yX10_weigh cX10_weigh 2 (some .int) :: ([.methodLink RX10 70 yX10_isBox, .instanceMethod yX10_isBox, .selects RX10 yX10_isBox yX10_isBox, .initialized RX10, .code yX10_isBox cX10_isBox 2 (some .boolean), .methodLink RX10 48 yX10_boxes, .instanceMethod yX10_boxes, .selects RX10 yX10_boxes yX10_boxes, .code yX10_boxes cX10_boxes 1 (some .int), .fieldLink RX10 7 "DryIceLaneModel" "at" "[J", .methodLink RX10 52 yX10_in, .static yX10_in, .code yX10_in cX10_in 6 (some .boolean), .methodLink RX10 106 yX10_isAway, .instanceMethod yX10_isAway, .selects RX10 yX10_isAway yX10_isAway, .code yX10_isAway cX10_isAway 1 (some .boolean), .methodLink RX10 74 yX10_of, .instanceMethod yX10_of, .selects RX10 yX10_of yX10_of, .code yX10_of cX10_of 3 (some .long)] ++ wsX100)
def wsX10_check_r1 : List Cond := [Cond.constant RX10 167 (-1000000001), Cond.constant RX10 168 (-1000000005), Cond.methodLink RX10 70 yX10_isBox, Cond.instanceMethod yX10_isBox, Cond.selects RX10 yX10_isBox yX10_isBox, Cond.initialized RX10, Cond.code yX10_isBox cX10_isBox 2 (some .boolean), Cond.methodLink RX10 48 yX10_boxes, Cond.instanceMethod yX10_boxes, Cond.selects RX10 yX10_boxes yX10_boxes, Cond.code yX10_boxes cX10_boxes 1 (some .int), Cond.fieldLink RX10 7 "DryIceLaneModel" "at" "[J", Cond.methodLink RX10 52 yX10_in, Cond.static yX10_in, Cond.code yX10_in cX10_in 6 (some .boolean), Cond.methodLink RX10 106 yX10_isAway, Cond.instanceMethod yX10_isAway, Cond.selects RX10 yX10_isAway yX10_isAway, Cond.code yX10_isAway cX10_isAway 1 (some .boolean), Cond.methodLink RX10 74 yX10_of, Cond.instanceMethod yX10_of, Cond.selects RX10 yX10_of yX10_of, Cond.code yX10_of cX10_of 3 (some .long), Cond.methodLink RX10 66 yX10_lay]
def wsX10_check_r2 : List Cond := [Cond.instanceMethod yX10_lay, Cond.selects RX10 yX10_lay yX10_lay, Cond.code yX10_lay cX10_lay 5 none]
def wsX10_check : List Cond := .code yX10_check cX10_check 3 (some .int) :: ((wsX10_check_r1 ++ wsX10_check_r2) ++ wsX100)
def wsX10_box : List Cond := .code yX10_box cX10_box 3 (some .int) :: ([.constantLong RX10 169 (3), .methodLink RX10 70 yX10_isBox, .instanceMethod yX10_isBox, .selects RX10 yX10_isBox yX10_isBox, .initialized RX10, .code yX10_isBox cX10_isBox 2 (some .boolean), .methodLink RX10 48 yX10_boxes, .instanceMethod yX10_boxes, .selects RX10 yX10_boxes yX10_boxes, .code yX10_boxes cX10_boxes 1 (some .int), .fieldLink RX10 7 "DryIceLaneModel" "at" "[J", .methodLink RX10 52 yX10_in, .static yX10_in, .code yX10_in cX10_in 6 (some .boolean), .methodLink RX10 117 yX10_goesOff, .instanceMethod yX10_goesOff, .selects RX10 yX10_goesOff yX10_goesOff, .code yX10_goesOff cX10_goesOff 4 (some .long), .constantLong RX10 115 (8000), .constantLong RX10 34 (100), .methodLink RX10 74 yX10_of, .instanceMethod yX10_of, .selects RX10 yX10_of yX10_of, .code yX10_of cX10_of 3 (some .long)] ++ wsX100)
def wsX10_minutesLeft : List Cond := .code yX10_minutesLeft cX10_minutesLeft 1 (some .int) :: ([.fieldLink RX10 7 "DryIceLaneModel" "at" "[J", .methodLink RX10 106 yX10_isAway, .instanceMethod yX10_isAway, .selects RX10 yX10_isAway yX10_isAway, .initialized RX10, .code yX10_isAway cX10_isAway 1 (some .boolean)] ++ wsX100)
def wsX10_van_r1 : List Cond := [Cond.constantLong RX10 171 (15), Cond.constantLong RX10 173 (25), Cond.fieldLink RX10 7 "DryIceLaneModel" "at" "[J", Cond.constant RX10 175 (-1000000006), Cond.fieldLink RX10 179 "DryIceLaneModel" "padMany" "I", Cond.constant RX10 183 (-1000000002), Cond.methodLink RX10 52 yX10_in, Cond.static yX10_in, Cond.initialized RX10, Cond.code yX10_in cX10_in 6 (some .boolean), Cond.methodLink RX10 121 yX10_outside, Cond.instanceMethod yX10_outside, Cond.selects RX10 yX10_outside yX10_outside, Cond.code yX10_outside cX10_outside 1 (some .long), Cond.constantLong RX10 30 (2000), Cond.methodLink RX10 129 yX10_concentration, Cond.instanceMethod yX10_concentration, Cond.selects RX10 yX10_concentration yX10_concentration, Cond.code yX10_concentration cX10_concentration 1 (some .int), Cond.constantLong RX10 56 (2), Cond.methodLink RX10 176 yX10_minutesLeft, Cond.instanceMethod yX10_minutesLeft, Cond.selects RX10 yX10_minutesLeft yX10_minutesLeft, Cond.code yX10_minutesLeft cX10_minutesLeft 1 (some .int)]
def wsX10_van_r2 : List Cond := [Cond.methodLink RX10 106 yX10_isAway, Cond.instanceMethod yX10_isAway, Cond.selects RX10 yX10_isAway yX10_isAway, Cond.code yX10_isAway cX10_isAway 1 (some .boolean), Cond.methodLink RX10 48 yX10_boxes, Cond.instanceMethod yX10_boxes, Cond.selects RX10 yX10_boxes yX10_boxes, Cond.code yX10_boxes cX10_boxes 1 (some .int), Cond.methodLink RX10 103 yX10_legs, Cond.instanceMethod yX10_legs, Cond.selects RX10 yX10_legs yX10_legs, Cond.code yX10_legs cX10_legs 1 (some .int)]
def wsX10_van : List Cond := .code yX10_van cX10_van 2 (some .int) :: ((wsX10_van_r1 ++ wsX10_van_r2) ++ wsX100)
def wsX10_way : List Cond := .code yX10_way cX10_way 3 (some .int) :: ([.constant RX10 167 (-1000000001), .fieldLink RX10 7 "DryIceLaneModel" "at" "[J", .constant RX10 183 (-1000000002), .methodLink RX10 103 yX10_legs, .instanceMethod yX10_legs, .selects RX10 yX10_legs yX10_legs, .initialized RX10, .code yX10_legs cX10_legs 1 (some .int), .methodLink RX10 52 yX10_in, .static yX10_in, .code yX10_in cX10_in 6 (some .boolean)] ++ wsX100)
def wsX10_account : List Cond := .code yX10_account cX10_account 2 (some .long) :: ([.constantLong RX10 38 (5), .fieldLink RX10 7 "DryIceLaneModel" "at" "[J", .constantLong RX10 184 (-2), .methodLink RX10 160 yX10_allIce, .instanceMethod yX10_allIce, .selects RX10 yX10_allIce yX10_allIce, .initialized RX10, .code yX10_allIce cX10_allIce 4 (some .long), .methodLink RX10 48 yX10_boxes, .instanceMethod yX10_boxes, .selects RX10 yX10_boxes yX10_boxes, .code yX10_boxes cX10_boxes 1 (some .int), .methodLink RX10 74 yX10_of, .instanceMethod yX10_of, .selects RX10 yX10_of yX10_of, .code yX10_of cX10_of 3 (some .long), .methodLink RX10 52 yX10_in, .static yX10_in, .code yX10_in cX10_in 6 (some .boolean)] ++ wsX100)
def wsX10_goToStop_r1 : List Cond := [Cond.methodLink RX10 106 yX10_isAway, Cond.instanceMethod yX10_isAway, Cond.selects RX10 yX10_isAway yX10_isAway, Cond.initialized RX10, Cond.code yX10_isAway cX10_isAway 1 (some .boolean), Cond.fieldLink RX10 7 "DryIceLaneModel" "at" "[J", Cond.methodLink RX10 151 yX10_makeMinute, Cond.instanceMethod yX10_makeMinute, Cond.selects RX10 yX10_makeMinute yX10_makeMinute, Cond.code yX10_makeMinute cX10_makeMinute 1 none, Cond.methodLink RX10 138 yX10_goOff, Cond.instanceMethod yX10_goOff, Cond.selects RX10 yX10_goOff yX10_goOff, Cond.code yX10_goOff cX10_goOff 8 (some .long), Cond.methodLink RX10 48 yX10_boxes, Cond.instanceMethod yX10_boxes, Cond.selects RX10 yX10_boxes yX10_boxes, Cond.code yX10_boxes cX10_boxes 1 (some .int), Cond.methodLink RX10 117 yX10_goesOff, Cond.instanceMethod yX10_goesOff, Cond.selects RX10 yX10_goesOff yX10_goesOff, Cond.code yX10_goesOff cX10_goesOff 4 (some .long), Cond.constantLong RX10 115 (8000), Cond.constantLong RX10 34 (100)]
def wsX10_goToStop_r2 : List Cond := [Cond.methodLink RX10 74 yX10_of, Cond.instanceMethod yX10_of, Cond.selects RX10 yX10_of yX10_of, Cond.code yX10_of cX10_of 3 (some .long), Cond.methodLink RX10 66 yX10_lay, Cond.instanceMethod yX10_lay, Cond.selects RX10 yX10_lay yX10_lay, Cond.code yX10_lay cX10_lay 5 none, Cond.methodLink RX10 141 yX10_warm, Cond.instanceMethod yX10_warm, Cond.selects RX10 yX10_warm yX10_warm, Cond.code yX10_warm cX10_warm 7 none, Cond.constantLong RX10 125 (4), Cond.constantLong RX10 127 (-7900), Cond.methodLink RX10 121 yX10_outside, Cond.instanceMethod yX10_outside, Cond.selects RX10 yX10_outside yX10_outside, Cond.code yX10_outside cX10_outside 1 (some .long), Cond.constantLong RX10 30 (2000), Cond.methodLink RX10 62 yX10_isDoorOpen, Cond.instanceMethod yX10_isDoorOpen, Cond.selects RX10 yX10_isDoorOpen yX10_isDoorOpen, Cond.code yX10_isDoorOpen cX10_isDoorOpen 1 (some .boolean), Cond.methodLink RX10 145 yX10_blow]
def wsX10_goToStop_r3 : List Cond := [Cond.instanceMethod yX10_blow, Cond.selects RX10 yX10_blow yX10_blow, Cond.code yX10_blow cX10_blow 1 none, Cond.constantLong RX10 44 (1000), Cond.methodLink RX10 148 yX10_turnVent, Cond.instanceMethod yX10_turnVent, Cond.selects RX10 yX10_turnVent yX10_turnVent, Cond.code yX10_turnVent cX10_turnVent 2 none, Cond.constantLong RX10 56 (2), Cond.methodLink RX10 129 yX10_concentration, Cond.instanceMethod yX10_concentration, Cond.selects RX10 yX10_concentration yX10_concentration, Cond.code yX10_concentration cX10_concentration 1 (some .int), Cond.methodLink RX10 132 yX10_shutVent, Cond.instanceMethod yX10_shutVent, Cond.selects RX10 yX10_shutVent yX10_shutVent, Cond.code yX10_shutVent cX10_shutVent 1 none, Cond.methodLink RX10 135 yX10_openVent, Cond.instanceMethod yX10_openVent, Cond.selects RX10 yX10_openVent yX10_openVent, Cond.code yX10_openVent cX10_openVent 1 none]
def wsX10_goToStop : List Cond := .code yX10_goToStop cX10_goToStop 1 none :: ((wsX10_goToStop_r1 ++ (wsX10_goToStop_r2 ++ wsX10_goToStop_r3)) ++ wsX100)
def wsX10_stay_r1 : List Cond := [Cond.methodLink RX10 151 yX10_makeMinute, Cond.instanceMethod yX10_makeMinute, Cond.selects RX10 yX10_makeMinute yX10_makeMinute, Cond.initialized RX10, Cond.code yX10_makeMinute cX10_makeMinute 1 none, Cond.fieldLink RX10 7 "DryIceLaneModel" "at" "[J", Cond.methodLink RX10 138 yX10_goOff, Cond.instanceMethod yX10_goOff, Cond.selects RX10 yX10_goOff yX10_goOff, Cond.code yX10_goOff cX10_goOff 8 (some .long), Cond.methodLink RX10 48 yX10_boxes, Cond.instanceMethod yX10_boxes, Cond.selects RX10 yX10_boxes yX10_boxes, Cond.code yX10_boxes cX10_boxes 1 (some .int), Cond.methodLink RX10 117 yX10_goesOff, Cond.instanceMethod yX10_goesOff, Cond.selects RX10 yX10_goesOff yX10_goesOff, Cond.code yX10_goesOff cX10_goesOff 4 (some .long), Cond.constantLong RX10 115 (8000), Cond.constantLong RX10 34 (100), Cond.methodLink RX10 74 yX10_of, Cond.instanceMethod yX10_of, Cond.selects RX10 yX10_of yX10_of, Cond.code yX10_of cX10_of 3 (some .long)]
def wsX10_stay_r2 : List Cond := [Cond.methodLink RX10 66 yX10_lay, Cond.instanceMethod yX10_lay, Cond.selects RX10 yX10_lay yX10_lay, Cond.code yX10_lay cX10_lay 5 none, Cond.methodLink RX10 141 yX10_warm, Cond.instanceMethod yX10_warm, Cond.selects RX10 yX10_warm yX10_warm, Cond.code yX10_warm cX10_warm 7 none, Cond.constantLong RX10 125 (4), Cond.constantLong RX10 127 (-7900), Cond.methodLink RX10 121 yX10_outside, Cond.instanceMethod yX10_outside, Cond.selects RX10 yX10_outside yX10_outside, Cond.code yX10_outside cX10_outside 1 (some .long), Cond.constantLong RX10 30 (2000), Cond.methodLink RX10 62 yX10_isDoorOpen, Cond.instanceMethod yX10_isDoorOpen, Cond.selects RX10 yX10_isDoorOpen yX10_isDoorOpen, Cond.code yX10_isDoorOpen cX10_isDoorOpen 1 (some .boolean), Cond.methodLink RX10 145 yX10_blow, Cond.instanceMethod yX10_blow, Cond.selects RX10 yX10_blow yX10_blow, Cond.code yX10_blow cX10_blow 1 none, Cond.constantLong RX10 44 (1000)]
def wsX10_stay_r3 : List Cond := [Cond.methodLink RX10 148 yX10_turnVent, Cond.instanceMethod yX10_turnVent, Cond.selects RX10 yX10_turnVent yX10_turnVent, Cond.code yX10_turnVent cX10_turnVent 2 none, Cond.constantLong RX10 56 (2), Cond.methodLink RX10 129 yX10_concentration, Cond.instanceMethod yX10_concentration, Cond.selects RX10 yX10_concentration yX10_concentration, Cond.code yX10_concentration cX10_concentration 1 (some .int), Cond.methodLink RX10 132 yX10_shutVent, Cond.instanceMethod yX10_shutVent, Cond.selects RX10 yX10_shutVent yX10_shutVent, Cond.code yX10_shutVent cX10_shutVent 1 none, Cond.methodLink RX10 135 yX10_openVent, Cond.instanceMethod yX10_openVent, Cond.selects RX10 yX10_openVent yX10_openVent, Cond.code yX10_openVent cX10_openVent 1 none, Cond.methodLink RX10 106 yX10_isAway, Cond.instanceMethod yX10_isAway, Cond.selects RX10 yX10_isAway yX10_isAway, Cond.code yX10_isAway cX10_isAway 1 (some .boolean)]
def wsX10_stay : List Cond := .code yX10_stay cX10_stay 3 none :: ((wsX10_stay_r1 ++ (wsX10_stay_r2 ++ wsX10_stay_r3)) ++ wsX100)
def wsX10_atEnd_r1 : List Cond := [Cond.constantLong RX10 34 (100), Cond.fieldLink RX10 7 "DryIceLaneModel" "at" "[J", Cond.methodLink RX10 70 yX10_isBox, Cond.instanceMethod yX10_isBox, Cond.selects RX10 yX10_isBox yX10_isBox, Cond.initialized RX10, Cond.code yX10_isBox cX10_isBox 2 (some .boolean), Cond.methodLink RX10 48 yX10_boxes, Cond.instanceMethod yX10_boxes, Cond.selects RX10 yX10_boxes yX10_boxes, Cond.code yX10_boxes cX10_boxes 1 (some .int), Cond.methodLink RX10 52 yX10_in, Cond.static yX10_in, Cond.code yX10_in cX10_in 6 (some .boolean), Cond.methodLink RX10 186 yX10_putAside, Cond.instanceMethod yX10_putAside, Cond.selects RX10 yX10_putAside yX10_putAside, Cond.code yX10_putAside cX10_putAside 2 none, Cond.fieldLink RX10 13 "DryIceLaneModel" "aside" "[J", Cond.methodLink RX10 106 yX10_isAway, Cond.instanceMethod yX10_isAway, Cond.selects RX10 yX10_isAway yX10_isAway, Cond.code yX10_isAway cX10_isAway 1 (some .boolean), Cond.methodLink RX10 189 yX10_goToStop]
def wsX10_atEnd_r2 : List Cond := [Cond.instanceMethod yX10_goToStop, Cond.selects RX10 yX10_goToStop yX10_goToStop, Cond.code yX10_goToStop cX10_goToStop 1 none, Cond.methodLink RX10 151 yX10_makeMinute, Cond.instanceMethod yX10_makeMinute, Cond.selects RX10 yX10_makeMinute yX10_makeMinute, Cond.code yX10_makeMinute cX10_makeMinute 1 none, Cond.methodLink RX10 138 yX10_goOff, Cond.instanceMethod yX10_goOff, Cond.selects RX10 yX10_goOff yX10_goOff, Cond.code yX10_goOff cX10_goOff 8 (some .long), Cond.methodLink RX10 117 yX10_goesOff, Cond.instanceMethod yX10_goesOff, Cond.selects RX10 yX10_goesOff yX10_goesOff, Cond.code yX10_goesOff cX10_goesOff 4 (some .long), Cond.constantLong RX10 115 (8000), Cond.methodLink RX10 74 yX10_of, Cond.instanceMethod yX10_of, Cond.selects RX10 yX10_of yX10_of, Cond.code yX10_of cX10_of 3 (some .long), Cond.methodLink RX10 66 yX10_lay, Cond.instanceMethod yX10_lay, Cond.selects RX10 yX10_lay yX10_lay, Cond.code yX10_lay cX10_lay 5 none]
def wsX10_atEnd_r3 : List Cond := [Cond.methodLink RX10 141 yX10_warm, Cond.instanceMethod yX10_warm, Cond.selects RX10 yX10_warm yX10_warm, Cond.code yX10_warm cX10_warm 7 none, Cond.constantLong RX10 125 (4), Cond.constantLong RX10 127 (-7900), Cond.methodLink RX10 121 yX10_outside, Cond.instanceMethod yX10_outside, Cond.selects RX10 yX10_outside yX10_outside, Cond.code yX10_outside cX10_outside 1 (some .long), Cond.constantLong RX10 30 (2000), Cond.methodLink RX10 62 yX10_isDoorOpen, Cond.instanceMethod yX10_isDoorOpen, Cond.selects RX10 yX10_isDoorOpen yX10_isDoorOpen, Cond.code yX10_isDoorOpen cX10_isDoorOpen 1 (some .boolean), Cond.methodLink RX10 145 yX10_blow, Cond.instanceMethod yX10_blow, Cond.selects RX10 yX10_blow yX10_blow, Cond.code yX10_blow cX10_blow 1 none, Cond.constantLong RX10 44 (1000), Cond.methodLink RX10 148 yX10_turnVent, Cond.instanceMethod yX10_turnVent, Cond.selects RX10 yX10_turnVent yX10_turnVent, Cond.code yX10_turnVent cX10_turnVent 2 none]
def wsX10_atEnd_r4 : List Cond := [Cond.constantLong RX10 56 (2), Cond.methodLink RX10 129 yX10_concentration, Cond.instanceMethod yX10_concentration, Cond.selects RX10 yX10_concentration yX10_concentration, Cond.code yX10_concentration cX10_concentration 1 (some .int), Cond.methodLink RX10 132 yX10_shutVent, Cond.instanceMethod yX10_shutVent, Cond.selects RX10 yX10_shutVent yX10_shutVent, Cond.code yX10_shutVent cX10_shutVent 1 none, Cond.methodLink RX10 135 yX10_openVent, Cond.instanceMethod yX10_openVent, Cond.selects RX10 yX10_openVent yX10_openVent, Cond.code yX10_openVent cX10_openVent 1 none, Cond.methodLink RX10 109 yX10_hasNext, Cond.instanceMethod yX10_hasNext, Cond.selects RX10 yX10_hasNext yX10_hasNext, Cond.code yX10_hasNext cX10_hasNext 1 (some .boolean), Cond.methodLink RX10 103 yX10_legs, Cond.instanceMethod yX10_legs, Cond.selects RX10 yX10_legs yX10_legs, Cond.code yX10_legs cX10_legs 1 (some .int), Cond.methodLink RX10 192 yX10_stay, Cond.instanceMethod yX10_stay, Cond.selects RX10 yX10_stay yX10_stay]
def wsX10_atEnd_r5 : List Cond := [Cond.code yX10_stay cX10_stay 3 none, Cond.methodLink RX10 112 yX10_begin, Cond.instanceMethod yX10_begin, Cond.selects RX10 yX10_begin yX10_begin, Cond.code yX10_begin cX10_begin 1 none, Cond.methodLink RX10 195 yX10_putBack, Cond.instanceMethod yX10_putBack, Cond.selects RX10 yX10_putBack yX10_putBack, Cond.code yX10_putBack cX10_putBack 2 none]
def wsX10_atEnd : List Cond := .code yX10_atEnd cX10_atEnd 5 (some .int) :: ((wsX10_atEnd_r1 ++ (wsX10_atEnd_r2 ++ (wsX10_atEnd_r3 ++ (wsX10_atEnd_r4 ++ wsX10_atEnd_r5)))) ++ wsX100)
def wsX10_worst_r1 : List Cond := [Cond.constantLong RX10 44 (1000), Cond.methodLink RX10 52 yX10_in, Cond.static yX10_in, Cond.initialized RX10, Cond.code yX10_in cX10_in 6 (some .boolean), Cond.methodLink RX10 186 yX10_putAside, Cond.instanceMethod yX10_putAside, Cond.selects RX10 yX10_putAside yX10_putAside, Cond.code yX10_putAside cX10_putAside 2 none, Cond.fieldLink RX10 13 "DryIceLaneModel" "aside" "[J", Cond.fieldLink RX10 7 "DryIceLaneModel" "at" "[J", Cond.methodLink RX10 151 yX10_makeMinute, Cond.instanceMethod yX10_makeMinute, Cond.selects RX10 yX10_makeMinute yX10_makeMinute, Cond.code yX10_makeMinute cX10_makeMinute 1 none, Cond.methodLink RX10 138 yX10_goOff, Cond.instanceMethod yX10_goOff, Cond.selects RX10 yX10_goOff yX10_goOff, Cond.code yX10_goOff cX10_goOff 8 (some .long), Cond.methodLink RX10 48 yX10_boxes, Cond.instanceMethod yX10_boxes, Cond.selects RX10 yX10_boxes yX10_boxes, Cond.code yX10_boxes cX10_boxes 1 (some .int), Cond.methodLink RX10 117 yX10_goesOff]
def wsX10_worst_r2 : List Cond := [Cond.instanceMethod yX10_goesOff, Cond.selects RX10 yX10_goesOff yX10_goesOff, Cond.code yX10_goesOff cX10_goesOff 4 (some .long), Cond.constantLong RX10 115 (8000), Cond.constantLong RX10 34 (100), Cond.methodLink RX10 74 yX10_of, Cond.instanceMethod yX10_of, Cond.selects RX10 yX10_of yX10_of, Cond.code yX10_of cX10_of 3 (some .long), Cond.methodLink RX10 66 yX10_lay, Cond.instanceMethod yX10_lay, Cond.selects RX10 yX10_lay yX10_lay, Cond.code yX10_lay cX10_lay 5 none, Cond.methodLink RX10 141 yX10_warm, Cond.instanceMethod yX10_warm, Cond.selects RX10 yX10_warm yX10_warm, Cond.code yX10_warm cX10_warm 7 none, Cond.constantLong RX10 125 (4), Cond.constantLong RX10 127 (-7900), Cond.methodLink RX10 121 yX10_outside, Cond.instanceMethod yX10_outside, Cond.selects RX10 yX10_outside yX10_outside, Cond.code yX10_outside cX10_outside 1 (some .long), Cond.constantLong RX10 30 (2000)]
def wsX10_worst_r3 : List Cond := [Cond.methodLink RX10 62 yX10_isDoorOpen, Cond.instanceMethod yX10_isDoorOpen, Cond.selects RX10 yX10_isDoorOpen yX10_isDoorOpen, Cond.code yX10_isDoorOpen cX10_isDoorOpen 1 (some .boolean), Cond.methodLink RX10 145 yX10_blow, Cond.instanceMethod yX10_blow, Cond.selects RX10 yX10_blow yX10_blow, Cond.code yX10_blow cX10_blow 1 none, Cond.methodLink RX10 148 yX10_turnVent, Cond.instanceMethod yX10_turnVent, Cond.selects RX10 yX10_turnVent yX10_turnVent, Cond.code yX10_turnVent cX10_turnVent 2 none, Cond.constantLong RX10 56 (2), Cond.methodLink RX10 129 yX10_concentration, Cond.instanceMethod yX10_concentration, Cond.selects RX10 yX10_concentration yX10_concentration, Cond.code yX10_concentration cX10_concentration 1 (some .int), Cond.methodLink RX10 132 yX10_shutVent, Cond.instanceMethod yX10_shutVent, Cond.selects RX10 yX10_shutVent yX10_shutVent, Cond.code yX10_shutVent cX10_shutVent 1 none, Cond.methodLink RX10 135 yX10_openVent, Cond.instanceMethod yX10_openVent, Cond.selects RX10 yX10_openVent yX10_openVent]
def wsX10_worst_r4 : List Cond := [Cond.code yX10_openVent cX10_openVent 1 none, Cond.methodLink RX10 106 yX10_isAway, Cond.instanceMethod yX10_isAway, Cond.selects RX10 yX10_isAway yX10_isAway, Cond.code yX10_isAway cX10_isAway 1 (some .boolean), Cond.methodLink RX10 195 yX10_putBack, Cond.instanceMethod yX10_putBack, Cond.selects RX10 yX10_putBack yX10_putBack, Cond.code yX10_putBack cX10_putBack 2 none]
def wsX10_worst : List Cond := .code yX10_worst cX10_worst 4 (some .int) :: ((wsX10_worst_r1 ++ (wsX10_worst_r2 ++ (wsX10_worst_r3 ++ wsX10_worst_r4))) ++ wsX100)
def wsX10_purge_r1 : List Cond := [Cond.constantLong RX10 44 (1000), Cond.fieldLink RX10 7 "DryIceLaneModel" "at" "[J", Cond.methodLink RX10 52 yX10_in, Cond.static yX10_in, Cond.initialized RX10, Cond.code yX10_in cX10_in 6 (some .boolean), Cond.methodLink RX10 186 yX10_putAside, Cond.instanceMethod yX10_putAside, Cond.selects RX10 yX10_putAside yX10_putAside, Cond.code yX10_putAside cX10_putAside 2 none, Cond.fieldLink RX10 13 "DryIceLaneModel" "aside" "[J", Cond.methodLink RX10 154 yX10_setMode, Cond.instanceMethod yX10_setMode, Cond.selects RX10 yX10_setMode yX10_setMode, Cond.code yX10_setMode cX10_setMode 2 none, Cond.methodLink RX10 132 yX10_shutVent, Cond.instanceMethod yX10_shutVent, Cond.selects RX10 yX10_shutVent yX10_shutVent, Cond.code yX10_shutVent cX10_shutVent 1 none, Cond.methodLink RX10 135 yX10_openVent, Cond.instanceMethod yX10_openVent, Cond.selects RX10 yX10_openVent yX10_openVent, Cond.code yX10_openVent cX10_openVent 1 none, Cond.methodLink RX10 129 yX10_concentration]
def wsX10_purge_r2 : List Cond := [Cond.instanceMethod yX10_concentration, Cond.selects RX10 yX10_concentration yX10_concentration, Cond.code yX10_concentration cX10_concentration 1 (some .int), Cond.constantLong RX10 56 (2), Cond.methodLink RX10 151 yX10_makeMinute, Cond.instanceMethod yX10_makeMinute, Cond.selects RX10 yX10_makeMinute yX10_makeMinute, Cond.code yX10_makeMinute cX10_makeMinute 1 none, Cond.methodLink RX10 138 yX10_goOff, Cond.instanceMethod yX10_goOff, Cond.selects RX10 yX10_goOff yX10_goOff, Cond.code yX10_goOff cX10_goOff 8 (some .long), Cond.methodLink RX10 48 yX10_boxes, Cond.instanceMethod yX10_boxes, Cond.selects RX10 yX10_boxes yX10_boxes, Cond.code yX10_boxes cX10_boxes 1 (some .int), Cond.methodLink RX10 117 yX10_goesOff, Cond.instanceMethod yX10_goesOff, Cond.selects RX10 yX10_goesOff yX10_goesOff, Cond.code yX10_goesOff cX10_goesOff 4 (some .long), Cond.constantLong RX10 115 (8000), Cond.constantLong RX10 34 (100), Cond.methodLink RX10 74 yX10_of, Cond.instanceMethod yX10_of]
def wsX10_purge_r3 : List Cond := [Cond.selects RX10 yX10_of yX10_of, Cond.code yX10_of cX10_of 3 (some .long), Cond.methodLink RX10 66 yX10_lay, Cond.instanceMethod yX10_lay, Cond.selects RX10 yX10_lay yX10_lay, Cond.code yX10_lay cX10_lay 5 none, Cond.methodLink RX10 141 yX10_warm, Cond.instanceMethod yX10_warm, Cond.selects RX10 yX10_warm yX10_warm, Cond.code yX10_warm cX10_warm 7 none, Cond.constantLong RX10 125 (4), Cond.constantLong RX10 127 (-7900), Cond.methodLink RX10 121 yX10_outside, Cond.instanceMethod yX10_outside, Cond.selects RX10 yX10_outside yX10_outside, Cond.code yX10_outside cX10_outside 1 (some .long), Cond.constantLong RX10 30 (2000), Cond.methodLink RX10 62 yX10_isDoorOpen, Cond.instanceMethod yX10_isDoorOpen, Cond.selects RX10 yX10_isDoorOpen yX10_isDoorOpen, Cond.code yX10_isDoorOpen cX10_isDoorOpen 1 (some .boolean), Cond.methodLink RX10 145 yX10_blow, Cond.instanceMethod yX10_blow, Cond.selects RX10 yX10_blow yX10_blow]
def wsX10_purge_r4 : List Cond := [Cond.code yX10_blow cX10_blow 1 none, Cond.methodLink RX10 148 yX10_turnVent, Cond.instanceMethod yX10_turnVent, Cond.selects RX10 yX10_turnVent yX10_turnVent, Cond.code yX10_turnVent cX10_turnVent 2 none, Cond.methodLink RX10 106 yX10_isAway, Cond.instanceMethod yX10_isAway, Cond.selects RX10 yX10_isAway yX10_isAway, Cond.code yX10_isAway cX10_isAway 1 (some .boolean), Cond.methodLink RX10 195 yX10_putBack, Cond.instanceMethod yX10_putBack, Cond.selects RX10 yX10_putBack yX10_putBack, Cond.code yX10_putBack cX10_putBack 2 none]
def wsX10_purge : List Cond := .code yX10_purge cX10_purge 4 (some .int) :: ((wsX10_purge_r1 ++ (wsX10_purge_r2 ++ (wsX10_purge_r3 ++ wsX10_purge_r4))) ++ wsX100)
def wsX10_front_r1 : List Cond := [Cond.constantLong RX10 158 (50000000), Cond.constantLong RX10 34 (100), Cond.constantLong RX10 32 (-1), Cond.methodLink RX10 52 yX10_in, Cond.static yX10_in, Cond.initialized RX10, Cond.code yX10_in cX10_in 6 (some .boolean), Cond.methodLink RX10 160 yX10_allIce, Cond.instanceMethod yX10_allIce, Cond.selects RX10 yX10_allIce yX10_allIce, Cond.code yX10_allIce cX10_allIce 4 (some .long), Cond.methodLink RX10 48 yX10_boxes, Cond.instanceMethod yX10_boxes, Cond.selects RX10 yX10_boxes yX10_boxes, Cond.code yX10_boxes cX10_boxes 1 (some .int), Cond.fieldLink RX10 7 "DryIceLaneModel" "at" "[J", Cond.methodLink RX10 74 yX10_of, Cond.instanceMethod yX10_of, Cond.selects RX10 yX10_of yX10_of, Cond.code yX10_of cX10_of 3 (some .long), Cond.methodLink RX10 186 yX10_putAside, Cond.instanceMethod yX10_putAside, Cond.selects RX10 yX10_putAside yX10_putAside, Cond.code yX10_putAside cX10_putAside 2 none]
def wsX10_front_r2 : List Cond := [Cond.fieldLink RX10 13 "DryIceLaneModel" "aside" "[J", Cond.methodLink RX10 82 yX10_move, Cond.instanceMethod yX10_move, Cond.selects RX10 yX10_move yX10_move, Cond.code yX10_move cX10_move 4 none, Cond.methodLink RX10 78 yX10_swap, Cond.instanceMethod yX10_swap, Cond.selects RX10 yX10_swap yX10_swap, Cond.code yX10_swap cX10_swap 6 none, Cond.methodLink RX10 66 yX10_lay, Cond.instanceMethod yX10_lay, Cond.selects RX10 yX10_lay yX10_lay, Cond.code yX10_lay cX10_lay 5 none, Cond.methodLink RX10 163 yX10_take, Cond.instanceMethod yX10_take, Cond.selects RX10 yX10_take yX10_take, Cond.code yX10_take cX10_take 11 (some .int), Cond.methodLink RX10 192 yX10_stay, Cond.instanceMethod yX10_stay, Cond.selects RX10 yX10_stay yX10_stay, Cond.code yX10_stay cX10_stay 3 none, Cond.methodLink RX10 151 yX10_makeMinute, Cond.instanceMethod yX10_makeMinute, Cond.selects RX10 yX10_makeMinute yX10_makeMinute]
def wsX10_front_r3 : List Cond := [Cond.code yX10_makeMinute cX10_makeMinute 1 none, Cond.methodLink RX10 138 yX10_goOff, Cond.instanceMethod yX10_goOff, Cond.selects RX10 yX10_goOff yX10_goOff, Cond.code yX10_goOff cX10_goOff 8 (some .long), Cond.methodLink RX10 117 yX10_goesOff, Cond.instanceMethod yX10_goesOff, Cond.selects RX10 yX10_goesOff yX10_goesOff, Cond.code yX10_goesOff cX10_goesOff 4 (some .long), Cond.constantLong RX10 115 (8000), Cond.methodLink RX10 141 yX10_warm, Cond.instanceMethod yX10_warm, Cond.selects RX10 yX10_warm yX10_warm, Cond.code yX10_warm cX10_warm 7 none, Cond.constantLong RX10 125 (4), Cond.constantLong RX10 127 (-7900), Cond.methodLink RX10 121 yX10_outside, Cond.instanceMethod yX10_outside, Cond.selects RX10 yX10_outside yX10_outside, Cond.code yX10_outside cX10_outside 1 (some .long), Cond.constantLong RX10 30 (2000), Cond.methodLink RX10 62 yX10_isDoorOpen, Cond.instanceMethod yX10_isDoorOpen, Cond.selects RX10 yX10_isDoorOpen yX10_isDoorOpen]
def wsX10_front_r4 : List Cond := [Cond.code yX10_isDoorOpen cX10_isDoorOpen 1 (some .boolean), Cond.methodLink RX10 145 yX10_blow, Cond.instanceMethod yX10_blow, Cond.selects RX10 yX10_blow yX10_blow, Cond.code yX10_blow cX10_blow 1 none, Cond.constantLong RX10 44 (1000), Cond.methodLink RX10 148 yX10_turnVent, Cond.instanceMethod yX10_turnVent, Cond.selects RX10 yX10_turnVent yX10_turnVent, Cond.code yX10_turnVent cX10_turnVent 2 none, Cond.constantLong RX10 56 (2), Cond.methodLink RX10 129 yX10_concentration, Cond.instanceMethod yX10_concentration, Cond.selects RX10 yX10_concentration yX10_concentration, Cond.code yX10_concentration cX10_concentration 1 (some .int), Cond.methodLink RX10 132 yX10_shutVent, Cond.instanceMethod yX10_shutVent, Cond.selects RX10 yX10_shutVent yX10_shutVent, Cond.code yX10_shutVent cX10_shutVent 1 none, Cond.methodLink RX10 135 yX10_openVent, Cond.instanceMethod yX10_openVent, Cond.selects RX10 yX10_openVent yX10_openVent, Cond.code yX10_openVent cX10_openVent 1 none, Cond.methodLink RX10 106 yX10_isAway]
def wsX10_front_r5 : List Cond := [Cond.instanceMethod yX10_isAway, Cond.selects RX10 yX10_isAway yX10_isAway, Cond.code yX10_isAway cX10_isAway 1 (some .boolean), Cond.methodLink RX10 195 yX10_putBack, Cond.instanceMethod yX10_putBack, Cond.selects RX10 yX10_putBack yX10_putBack, Cond.code yX10_putBack cX10_putBack 2 none]
def wsX10_front : List Cond := .code yX10_front cX10_front 8 (some .int) :: ((wsX10_front_r1 ++ (wsX10_front_r2 ++ (wsX10_front_r3 ++ (wsX10_front_r4 ++ wsX10_front_r5)))) ++ wsX100)
def wsX10_say : List Cond := .code yX10_say cX10_say 2 (some .int) :: ([.constantLong RX10 198 (33), .constantLong RX10 200 (126), .fieldLink RX10 179 "DryIceLaneModel" "padMany" "I", .fieldLink RX10 23 "DryIceLaneModel" "pad" "[I", .methodLink RX10 52 yX10_in, .static yX10_in, .initialized RX10, .code yX10_in cX10_in 6 (some .boolean)] ++ wsX100)
def wsX10_wipe : List Cond := .code yX10_wipe cX10_wipe 2 (some .int) :: ([.fieldLink RX10 179 "DryIceLaneModel" "padMany" "I"] ++ wsX100)
def wsX10_next : List Cond := .code yX10_next cX10_next 1 (some .int) :: ([.fieldLink RX10 202 "DryIceLaneModel" "spot" "I", .fieldLink RX10 179 "DryIceLaneModel" "padMany" "I", .fieldLink RX10 23 "DryIceLaneModel" "pad" "[I"] ++ wsX100)
def wsX10_takeNumber : List Cond := .code yX10_takeNumber cX10_takeNumber 5 (some .int) :: ([.fieldLink RX10 205 "DryIceLaneModel" "isWrong" "Z", .constantLong RX10 212 (57), .fieldLink RX10 202 "DryIceLaneModel" "spot" "I", .constantLong RX10 214 (48), .methodLink RX10 209 yX10_next, .instanceMethod yX10_next, .selects RX10 yX10_next yX10_next, .initialized RX10, .code yX10_next cX10_next 1 (some .int), .fieldLink RX10 179 "DryIceLaneModel" "padMany" "I", .fieldLink RX10 23 "DryIceLaneModel" "pad" "[I", .methodLink RX10 52 yX10_in, .static yX10_in, .code yX10_in cX10_in 6 (some .boolean)] ++ wsX100)
def wsX10_need : List Cond := .code yX10_need cX10_need 2 none :: ([.fieldLink RX10 205 "DryIceLaneModel" "isWrong" "Z", .fieldLink RX10 202 "DryIceLaneModel" "spot" "I", .methodLink RX10 209 yX10_next, .instanceMethod yX10_next, .selects RX10 yX10_next yX10_next, .initialized RX10, .code yX10_next cX10_next 1 (some .int), .fieldLink RX10 179 "DryIceLaneModel" "padMany" "I", .fieldLink RX10 23 "DryIceLaneModel" "pad" "[I"] ++ wsX100)
def wsX10_takeLeg : List Cond := .code yX10_takeLeg cX10_takeLeg 3 none :: ([.fieldLink RX10 27 "DryIceLaneModel" "read" "[I", .fieldLink RX10 216 "DryIceLaneModel" "readMany" "I", .fieldLink RX10 205 "DryIceLaneModel" "isWrong" "Z", .fieldLink RX10 202 "DryIceLaneModel" "spot" "I", .methodLink RX10 219 yX10_takeNumber, .instanceMethod yX10_takeNumber, .selects RX10 yX10_takeNumber yX10_takeNumber, .initialized RX10, .code yX10_takeNumber cX10_takeNumber 5 (some .int), .constantLong RX10 212 (57), .constantLong RX10 214 (48), .methodLink RX10 209 yX10_next, .instanceMethod yX10_next, .selects RX10 yX10_next yX10_next, .code yX10_next cX10_next 1 (some .int), .fieldLink RX10 179 "DryIceLaneModel" "padMany" "I", .fieldLink RX10 23 "DryIceLaneModel" "pad" "[I", .methodLink RX10 52 yX10_in, .static yX10_in, .code yX10_in cX10_in 6 (some .boolean), .methodLink RX10 223 yX10_need, .instanceMethod yX10_need, .selects RX10 yX10_need yX10_need, .code yX10_need cX10_need 2 none] ++ wsX100)
def wsX10_fault_r1 : List Cond := [Cond.fieldLink RX10 202 "DryIceLaneModel" "spot" "I", Cond.fieldLink RX10 205 "DryIceLaneModel" "isWrong" "Z", Cond.fieldLink RX10 216 "DryIceLaneModel" "readMany" "I", Cond.fieldLink RX10 179 "DryIceLaneModel" "padMany" "I", Cond.methodLink RX10 226 yX10_takeLeg, Cond.instanceMethod yX10_takeLeg, Cond.selects RX10 yX10_takeLeg yX10_takeLeg, Cond.initialized RX10, Cond.code yX10_takeLeg cX10_takeLeg 3 none, Cond.fieldLink RX10 27 "DryIceLaneModel" "read" "[I", Cond.methodLink RX10 219 yX10_takeNumber, Cond.instanceMethod yX10_takeNumber, Cond.selects RX10 yX10_takeNumber yX10_takeNumber, Cond.code yX10_takeNumber cX10_takeNumber 5 (some .int), Cond.constantLong RX10 212 (57), Cond.constantLong RX10 214 (48), Cond.methodLink RX10 209 yX10_next, Cond.instanceMethod yX10_next, Cond.selects RX10 yX10_next yX10_next, Cond.code yX10_next cX10_next 1 (some .int), Cond.fieldLink RX10 23 "DryIceLaneModel" "pad" "[I", Cond.methodLink RX10 52 yX10_in, Cond.static yX10_in, Cond.code yX10_in cX10_in 6 (some .boolean)]
def wsX10_fault_r2 : List Cond := [Cond.methodLink RX10 223 yX10_need, Cond.instanceMethod yX10_need, Cond.selects RX10 yX10_need yX10_need, Cond.code yX10_need cX10_need 2 none]
def wsX10_fault : List Cond := .code yX10_fault cX10_fault 1 (some .int) :: ((wsX10_fault_r1 ++ wsX10_fault_r2) ++ wsX100)
def wsX10_read_r1 : List Cond := [Cond.fieldLink RX10 216 "DryIceLaneModel" "readMany" "I", Cond.fieldLink RX10 7 "DryIceLaneModel" "at" "[J", Cond.fieldLink RX10 27 "DryIceLaneModel" "read" "[I", Cond.fieldLink RX10 179 "DryIceLaneModel" "padMany" "I", Cond.methodLink RX10 229 yX10_fault, Cond.instanceMethod yX10_fault, Cond.selects RX10 yX10_fault yX10_fault, Cond.initialized RX10, Cond.code yX10_fault cX10_fault 1 (some .int), Cond.fieldLink RX10 202 "DryIceLaneModel" "spot" "I", Cond.fieldLink RX10 205 "DryIceLaneModel" "isWrong" "Z", Cond.methodLink RX10 226 yX10_takeLeg, Cond.instanceMethod yX10_takeLeg, Cond.selects RX10 yX10_takeLeg yX10_takeLeg, Cond.code yX10_takeLeg cX10_takeLeg 3 none, Cond.methodLink RX10 219 yX10_takeNumber, Cond.instanceMethod yX10_takeNumber, Cond.selects RX10 yX10_takeNumber yX10_takeNumber, Cond.code yX10_takeNumber cX10_takeNumber 5 (some .int), Cond.constantLong RX10 212 (57), Cond.constantLong RX10 214 (48), Cond.methodLink RX10 209 yX10_next, Cond.instanceMethod yX10_next, Cond.selects RX10 yX10_next yX10_next]
def wsX10_read_r2 : List Cond := [Cond.code yX10_next cX10_next 1 (some .int), Cond.fieldLink RX10 23 "DryIceLaneModel" "pad" "[I", Cond.methodLink RX10 52 yX10_in, Cond.static yX10_in, Cond.code yX10_in cX10_in 6 (some .boolean), Cond.methodLink RX10 223 yX10_need, Cond.instanceMethod yX10_need, Cond.selects RX10 yX10_need yX10_need, Cond.code yX10_need cX10_need 2 none, Cond.methodLink RX10 103 yX10_legs, Cond.instanceMethod yX10_legs, Cond.selects RX10 yX10_legs yX10_legs, Cond.code yX10_legs cX10_legs 1 (some .int)]
def wsX10_read : List Cond := .code yX10_read cX10_read 2 (some .int) :: ((wsX10_read_r1 ++ wsX10_read_r2) ++ wsX100)
def wsX10_save : List Cond := .code yX10_save cX10_save 3 (some .int) :: ([.fieldLink RX10 16 "DryIceLaneModel" "slots" "[J", .fieldLink RX10 7 "DryIceLaneModel" "at" "[J", .fieldLink RX10 19 "DryIceLaneModel" "isSaved" "[Z", .methodLink RX10 52 yX10_in, .static yX10_in, .initialized RX10, .code yX10_in cX10_in 6 (some .boolean)] ++ wsX100)
def wsX10_restore : List Cond := .code yX10_restore cX10_restore 3 (some .int) :: ([.fieldLink RX10 19 "DryIceLaneModel" "isSaved" "[Z", .fieldLink RX10 7 "DryIceLaneModel" "at" "[J", .fieldLink RX10 16 "DryIceLaneModel" "slots" "[J", .methodLink RX10 52 yX10_in, .static yX10_in, .initialized RX10, .code yX10_in cX10_in 6 (some .boolean)] ++ wsX100)
def wsJ9_max_7cf53 : List Cond := .code yJ9_max_7cf53 cJ9_max_7cf53 2 (some .int) :: ([])
def wsJ9_max_f86c9 : List Cond := .code yJ9_max_f86c9 cJ9_max_f86c9 4 (some .long) :: ([])
def wsJ9_min_7cf53 : List Cond := .code yJ9_min_7cf53 cJ9_min_7cf53 2 (some .int) :: ([])
def wsJ9_min_f86c9 : List Cond := .code yJ9_min_f86c9 cJ9_min_f86c9 4 (some .long) :: ([])
def wsL_law_r1 : List Cond := [Cond.classLink RL 7 RX9, Cond.instantiable RX9 6, Cond.initialized RX9, Cond.classLink RL 10 RX10, Cond.instantiable RX10 10, Cond.initialized RX10, Cond.methodLink RL 9 yX9_init, Cond.instanceMethod yX9_init, Cond.code yX9_init cX9_init 1 none, Cond.methodLink RX9 1 objectInit, Cond.instanceMethod objectInit, Cond.code objectInit ⟨#[0xb1]⟩ 1 none, Cond.classLink RX9 7 RX8, Cond.instantiable RX8 10, Cond.initialized RX8, Cond.fieldLink RX9 10 "DryIceLane" "now" "LDryIceLane$Van;", Cond.fieldLink RX9 16 "DryIceLane" "copy" "LDryIceLane$Van;", Cond.classLink RX9 19 RX7, Cond.instantiable RX7 2, Cond.initialized RX7, Cond.fieldLink RX9 22 "DryIceLane" "slot0" "LDryIceLane$Slot;", Cond.fieldLink RX9 26 "DryIceLane" "slot1" "LDryIceLane$Slot;", Cond.classLink RX9 29 RX3, Cond.instantiable RX3 2]
def wsL_law_r2 : List Cond := [Cond.initialized RX3, Cond.fieldLink RX9 32 "DryIceLane" "pad" "LDryIceLane$Pad;", Cond.classLink RX9 36 RX5, Cond.instantiable RX5 7, Cond.initialized RX5, Cond.fieldLink RX9 39 "DryIceLane" "reader" "LDryIceLane$RouteReader;", Cond.instanceMethod yX8_init, Cond.code yX8_init cX8_init 1 none, Cond.methodLink RX8 3 objectInit, Cond.classLink RX8 9 RX6, Cond.instantiable RX6 1, Cond.initialized RX6, Cond.fieldLink RX8 12 "DryIceLane$Van" "settings" "LDryIceLane$Settings;", Cond.classLink RX8 18 RX2, Cond.instantiable RX2 2, Cond.initialized RX2, Cond.fieldLink RX8 21 "DryIceLane$Van" "lane" "LDryIceLane$Lane;", Cond.classLink RX8 25 RX1, Cond.instantiable RX1 7, Cond.initialized RX1, Cond.fieldLink RX8 28 "DryIceLane$Van" "hold" "LDryIceLane$Hold;", Cond.classLink RX8 32 RX4, Cond.instantiable RX4 5, Cond.initialized RX4]
def wsL_law_r3 : List Cond := [Cond.fieldLink RX8 35 "DryIceLane$Van" "route" "LDryIceLane$Route;", Cond.instanceMethod yX6_init, Cond.code yX6_init cX6_init 1 none, Cond.methodLink RX6 3 objectInit, Cond.methodLink RX6 13 ⟨"[I", "clone", "()Ljava/lang/Object;"⟩, Cond.sameMethod "[I" "java/lang/Object" "clone" "()Ljava/lang/Object;", Cond.native ⟨"java/lang/Object", "clone", "()Ljava/lang/Object;"⟩, Cond.instanceMethod ⟨"java/lang/Object", "clone", "()Ljava/lang/Object;"⟩, Cond.selects "[I" ⟨"[I", "clone", "()Ljava/lang/Object;"⟩ ⟨"java/lang/Object", "clone", "()Ljava/lang/Object;"⟩, Cond.classLink RX6 14 "[I", Cond.fieldLink RX6 18 "DryIceLane$Settings" "values" "[I", Cond.methodLink RX8 20 yX2_init, Cond.instanceMethod yX2_init, Cond.code yX2_init cX2_init 2 none, Cond.methodLink RX2 3 objectInit, Cond.classLink RX2 9 RX0, Cond.fieldLink RX2 11 "DryIceLane$Lane" "boxes" "[LDryIceLane$Box;", Cond.instantiable RX0 4, Cond.initialized RX0, Cond.instanceMethod yX0_init, Cond.code yX0_init cX0_init 1 none, Cond.methodLink RX0 3 objectInit, Cond.instanceMethod yX1_init, Cond.code yX1_init cX1_init 1 none]
def wsL_law_r4 : List Cond := [Cond.methodLink RX1 3 objectInit, Cond.fieldLink RX1 9 "DryIceLane$Hold" "temperature" "I", Cond.fieldLink RX1 15 "DryIceLane$Hold" "ventMode" "I", Cond.instanceMethod yX4_init, Cond.code yX4_init cX4_init 1 none, Cond.methodLink RX4 3 objectInit, Cond.arrayClass .int, Cond.fieldLink RX4 9 "DryIceLane$Route" "durations" "[I", Cond.fieldLink RX4 15 "DryIceLane$Route" "outsides" "[I", Cond.fieldLink RX4 18 "DryIceLane$Route" "latest" "I", Cond.instanceMethod yX7_init, Cond.code yX7_init cX7_init 1 none, Cond.methodLink RX7 1 objectInit, Cond.classLink RX7 7 RX8, Cond.fieldLink RX7 10 "DryIceLane$Slot" "kept" "LDryIceLane$Van;", Cond.instanceMethod yX3_init, Cond.code yX3_init cX3_init 1 none, Cond.methodLink RX3 3 objectInit, Cond.fieldLink RX3 9 "DryIceLane$Pad" "codes" "[I", Cond.instanceMethod yX5_init, Cond.code yX5_init cX5_init 1 none, Cond.methodLink RX5 3 objectInit, Cond.fieldLink RX5 11 "DryIceLane$RouteReader" "durations" "[I", Cond.fieldLink RX5 15 "DryIceLane$RouteReader" "outsides" "[I"]
def wsL_law_r5 : List Cond := [Cond.methodLink RL 12 yX10_init, Cond.instanceMethod yX10_init, Cond.code yX10_init cX10_init 1 none, Cond.methodLink RX10 1 objectInit, Cond.arrayClass .long, Cond.fieldLink RX10 7 "DryIceLaneModel" "at" "[J", Cond.fieldLink RX10 13 "DryIceLaneModel" "aside" "[J", Cond.fieldLink RX10 16 "DryIceLaneModel" "slots" "[J", Cond.arrayClass .boolean, Cond.fieldLink RX10 19 "DryIceLaneModel" "isSaved" "[Z", Cond.fieldLink RX10 23 "DryIceLaneModel" "pad" "[I", Cond.fieldLink RX10 27 "DryIceLaneModel" "read" "[I", Cond.constantLong RX10 30 (2000), Cond.constantLong RX10 32 (-1), Cond.constantLong RX10 34 (100), Cond.constantLong RX10 36 (10), Cond.constantLong RX10 38 (5), Cond.constantLong RX10 40 (300), Cond.constantLong RX10 42 (5000), Cond.constantLong RX10 44 (1000), Cond.constantLong RX10 46 (20), Cond.methodLink RL 13 yX9_load, Cond.instanceMethod yX9_load, Cond.selects RX9 yX9_load yX9_load]
def wsL_law_r6 : List Cond := [Cond.code yX9_load cX9_load 4 (some .int), Cond.constant RX9 47 (5000000), Cond.constant RX9 48 (20000000), Cond.fieldLink RX9 49 "DryIceLane$Van" "lane" "LDryIceLane$Lane;", Cond.fieldLink RX9 53 "DryIceLane$Lane" "count" "I", Cond.fieldLink RX9 59 "DryIceLane$Van" "hold" "LDryIceLane$Hold;", Cond.fieldLink RX9 63 "DryIceLane$Hold" "doorOpen" "Z", Cond.fieldLink RX9 73 "DryIceLane$Van" "putIn" "J", Cond.methodLink RX9 43 yX9_within, Cond.static yX9_within, Cond.code yX9_within cX9_within 3 (some .boolean), Cond.methodLink RX9 69 yX2_append, Cond.instanceMethod yX2_append, Cond.selects RX2 yX2_append yX2_append, Cond.code yX2_append cX2_append 5 none, Cond.fieldLink RX2 18 "DryIceLane$Lane" "count" "I", Cond.fieldLink RX2 30 "DryIceLane$Box" "insulation" "I", Cond.fieldLink RX2 33 "DryIceLane$Box" "tare" "I", Cond.fieldLink RX2 36 "DryIceLane$Box" "ice" "I", Cond.fieldLink RX2 39 "DryIceLane$Box" "paper" "I", Cond.methodLink RL 17 yX10_load, Cond.instanceMethod yX10_load, Cond.selects RX10 yX10_load yX10_load, Cond.code yX10_load cX10_load 5 (some .int)]
def wsL_law_r7 : List Cond := [Cond.constantLong RX10 58 (5000000), Cond.constantLong RX10 60 (20000000), Cond.methodLink RX10 52 yX10_in, Cond.static yX10_in, Cond.code yX10_in cX10_in 6 (some .boolean), Cond.methodLink RX10 48 yX10_boxes, Cond.instanceMethod yX10_boxes, Cond.selects RX10 yX10_boxes yX10_boxes, Cond.code yX10_boxes cX10_boxes 1 (some .int), Cond.methodLink RX10 62 yX10_isDoorOpen, Cond.instanceMethod yX10_isDoorOpen, Cond.selects RX10 yX10_isDoorOpen yX10_isDoorOpen, Cond.code yX10_isDoorOpen cX10_isDoorOpen 1 (some .boolean), Cond.methodLink RX10 66 yX10_lay, Cond.instanceMethod yX10_lay, Cond.selects RX10 yX10_lay yX10_lay, Cond.code yX10_lay cX10_lay 5 none, Cond.methodLink RL 18 yX9_unload, Cond.instanceMethod yX9_unload, Cond.selects RX9 yX9_unload yX9_unload, Cond.code yX9_unload cX9_unload 4 (some .int), Cond.fieldLink RX9 81 "DryIceLane$Box" "ice" "I", Cond.fieldLink RX9 90 "DryIceLane$Van" "takenOut" "J", Cond.methodLink RX9 77 yX2_boxAt]
def wsL_law_r8 : List Cond := [Cond.instanceMethod yX2_boxAt, Cond.selects RX2 yX2_boxAt yX2_boxAt, Cond.code yX2_boxAt cX2_boxAt 2 (some (.object "DryIceLane$Box")), Cond.methodLink RX9 86 yX2_takeOut, Cond.instanceMethod yX2_takeOut, Cond.selects RX2 yX2_takeOut yX2_takeOut, Cond.code yX2_takeOut cX2_takeOut 2 none, Cond.methodLink RX2 42 yX2_move, Cond.instanceMethod yX2_move, Cond.selects RX2 yX2_move yX2_move, Cond.code yX2_move cX2_move 5 none, Cond.methodLink RL 22 yX10_unload, Cond.instanceMethod yX10_unload, Cond.selects RX10 yX10_unload yX10_unload, Cond.code yX10_unload cX10_unload 4 (some .int), Cond.methodLink RX10 70 yX10_isBox, Cond.instanceMethod yX10_isBox, Cond.selects RX10 yX10_isBox yX10_isBox, Cond.code yX10_isBox cX10_isBox 2 (some .boolean), Cond.methodLink RX10 74 yX10_of, Cond.instanceMethod yX10_of, Cond.selects RX10 yX10_of yX10_of, Cond.code yX10_of cX10_of 3 (some .long), Cond.methodLink RL 23 yX9_shift]
def wsL_law_r9 : List Cond := [Cond.instanceMethod yX9_shift, Cond.selects RX9 yX9_shift yX9_shift, Cond.code yX9_shift cX9_shift 4 (some .int), Cond.methodLink RX9 93 yX2_move, Cond.methodLink RL 27 yX10_shift, Cond.instanceMethod yX10_shift, Cond.selects RX10 yX10_shift yX10_shift, Cond.code yX10_shift cX10_shift 4 (some .int), Cond.methodLink RX10 82 yX10_move, Cond.instanceMethod yX10_move, Cond.selects RX10 yX10_move yX10_move, Cond.code yX10_move cX10_move 4 none, Cond.methodLink RX10 78 yX10_swap, Cond.instanceMethod yX10_swap, Cond.selects RX10 yX10_swap yX10_swap, Cond.code yX10_swap cX10_swap 6 none, Cond.methodLink RL 28 yX9_set, Cond.instanceMethod yX9_set, Cond.selects RX9 yX9_set yX9_set, Cond.code yX9_set cX9_set 3 (some .int), Cond.fieldLink RX9 97 "DryIceLane$Van" "settings" "LDryIceLane$Settings;", Cond.methodLink RX9 101 yX6_allows, Cond.instanceMethod yX6_allows, Cond.selects RX6 yX6_allows yX6_allows]
def wsL_law_r10 : List Cond := [Cond.code yX6_allows cX6_allows 3 (some .boolean), Cond.methodLink RX9 107 yX6_change, Cond.instanceMethod yX6_change, Cond.selects RX6 yX6_change yX6_change, Cond.code yX6_change cX6_change 4 (some .int), Cond.methodLink RX6 39 yX6_value, Cond.instanceMethod yX6_value, Cond.selects RX6 yX6_value yX6_value, Cond.code yX6_value cX6_value 2 (some .int), Cond.methodLink RX6 43 yX6_allows, Cond.methodLink RL 31 yX10_set, Cond.instanceMethod yX10_set, Cond.selects RX10 yX10_set yX10_set, Cond.code yX10_set cX10_set 4 (some .int), Cond.methodLink RX10 95 yX10_takes, Cond.static yX10_takes, Cond.code yX10_takes cX10_takes 2 (some .boolean), Cond.constantLong RX10 85 (500), Cond.constantLong RX10 87 (900), Cond.constantLong RX10 89 (50000), Cond.constantLong RX10 91 (200), Cond.constantLong RX10 93 (100000), Cond.methodLink RL 32 yX9_leg, Cond.instanceMethod yX9_leg]
def wsL_law_r11 : List Cond := [Cond.selects RX9 yX9_leg yX9_leg, Cond.code yX9_leg cX9_leg 3 (some .int), Cond.fieldLink RX9 111 "DryIceLane$Van" "route" "LDryIceLane$Route;", Cond.fieldLink RX9 115 "DryIceLane$Route" "count" "I", Cond.methodLink RX9 118 yX4_append, Cond.instanceMethod yX4_append, Cond.selects RX4 yX4_append yX4_append, Cond.code yX4_append cX4_append 3 none, Cond.fieldLink RX4 28 "DryIceLane$Route" "count" "I", Cond.methodLink RL 35 yX10_leg, Cond.instanceMethod yX10_leg, Cond.selects RX10 yX10_leg yX10_leg, Cond.code yX10_leg cX10_leg 4 (some .int), Cond.constantLong RX10 99 (600), Cond.constantLong RX10 101 (-4000), Cond.methodLink RX10 103 yX10_legs, Cond.instanceMethod yX10_legs, Cond.selects RX10 yX10_legs yX10_legs, Cond.code yX10_legs cX10_legs 1 (some .int), Cond.methodLink RL 36 yX9_cut, Cond.instanceMethod yX9_cut, Cond.selects RX9 yX9_cut yX9_cut, Cond.code yX9_cut cX9_cut 1 (some .int), Cond.methodLink RX9 120 yX4_hasNextLeg]
def wsL_law_r12 : List Cond := [Cond.instanceMethod yX4_hasNextLeg, Cond.selects RX4 yX4_hasNextLeg yX4_hasNextLeg, Cond.code yX4_hasNextLeg cX4_hasNextLeg 1 (some .boolean), Cond.methodLink RX4 38 yX4_hasLeg, Cond.instanceMethod yX4_hasLeg, Cond.selects RX4 yX4_hasLeg yX4_hasLeg, Cond.code yX4_hasLeg cX4_hasLeg 2 (some .boolean), Cond.methodLink RL 40 yX10_cut, Cond.instanceMethod yX10_cut, Cond.selects RX10 yX10_cut yX10_cut, Cond.code yX10_cut cX10_cut 1 (some .int), Cond.methodLink RL 41 yX9_depart, Cond.instanceMethod yX9_depart, Cond.selects RX9 yX9_depart yX9_depart, Cond.code yX9_depart cX9_depart 1 (some .int), Cond.fieldLink RX9 130 "DryIceLane$Route" "latest" "I", Cond.methodLink RX9 124 yX4_isOnTheWay, Cond.instanceMethod yX4_isOnTheWay, Cond.selects RX4 yX4_isOnTheWay yX4_isOnTheWay, Cond.code yX4_isOnTheWay cX4_isOnTheWay 1 (some .boolean), Cond.fieldLink RX4 31 "DryIceLane$Route" "minutesLeft" "I", Cond.methodLink RX9 127 yX4_beginNextLeg, Cond.instanceMethod yX4_beginNextLeg, Cond.selects RX4 yX4_beginNextLeg yX4_beginNextLeg]
def wsL_law_r13 : List Cond := [Cond.code yX4_beginNextLeg cX4_beginNextLeg 1 none, Cond.methodLink RX4 42 yX4_hasNextLeg, Cond.methodLink RL 44 yX10_depart, Cond.instanceMethod yX10_depart, Cond.selects RX10 yX10_depart yX10_depart, Cond.code yX10_depart cX10_depart 1 (some .int), Cond.methodLink RX10 106 yX10_isAway, Cond.instanceMethod yX10_isAway, Cond.selects RX10 yX10_isAway yX10_isAway, Cond.code yX10_isAway cX10_isAway 1 (some .boolean), Cond.methodLink RX10 109 yX10_hasNext, Cond.instanceMethod yX10_hasNext, Cond.selects RX10 yX10_hasNext yX10_hasNext, Cond.code yX10_hasNext cX10_hasNext 1 (some .boolean), Cond.methodLink RX10 112 yX10_begin, Cond.instanceMethod yX10_begin, Cond.selects RX10 yX10_begin yX10_begin, Cond.code yX10_begin cX10_begin 1 none, Cond.methodLink RL 45 yX9_pass, Cond.instanceMethod yX9_pass, Cond.selects RX9 yX9_pass yX9_pass, Cond.code yX9_pass cX9_pass 3 (some .int), Cond.fieldLink RX9 133 "DryIceLane$Van" "time" "I", Cond.constant RX9 136 (100000)]
def wsL_law_r14 : List Cond := [Cond.fieldLink RX9 137 "DryIceLane$Route" "minutesLeft" "I", Cond.methodLink RX9 140 Lib.Math.min.name, Cond.static Lib.Math.min.name, Cond.initialized "java/lang/Math", Cond.code Lib.Math.min.name Lib.Math.min.code 2 (some .int), Cond.methodLink RX9 145 yX8_letPass, Cond.instanceMethod yX8_letPass, Cond.selects RX8 yX8_letPass yX8_letPass, Cond.code yX8_letPass cX8_letPass 3 none, Cond.methodLink RX8 83 yX8_letMinutePass, Cond.instanceMethod yX8_letMinutePass, Cond.selects RX8 yX8_letMinutePass yX8_letMinutePass, Cond.code yX8_letMinutePass cX8_letMinutePass 2 none, Cond.fieldLink RX8 86 "DryIceLane$Hold" "temperature" "I", Cond.fieldLink RX8 63 "DryIceLane$Van" "wentOff" "J", Cond.fieldLink RX8 52 "DryIceLane$Van" "time" "I", Cond.methodLink RX8 79 yX6_value, Cond.methodLink RX8 89 yX2_letGoOff, Cond.instanceMethod yX2_letGoOff, Cond.selects RX2 yX2_letGoOff yX2_letGoOff, Cond.code yX2_letGoOff cX2_letGoOff 6 (some .int), Cond.methodLink RX2 56 yX0_goingOff, Cond.instanceMethod yX0_goingOff, Cond.selects RX0 yX0_goingOff yX0_goingOff]
def wsL_law_r15 : List Cond := [Cond.code yX0_goingOff cX0_goingOff 5 (some .int), Cond.constantLong RX0 24 (100), Cond.fieldLink RX0 9 "DryIceLane$Box" "insulation" "I", Cond.methodLink RX0 30 Lib.MathLoose.max_long.x, Cond.static Lib.MathLoose.max_long.x, Cond.code Lib.MathLoose.max_long.x Lib.MathLoose.max_long.code 4 (some .long), Cond.fieldLink RX0 18 "DryIceLane$Box" "ice" "I", Cond.methodLink RX0 35 Lib.MathLoose.min_long.x, Cond.static Lib.MathLoose.min_long.x, Cond.code Lib.MathLoose.min_long.x Lib.MathLoose.min_long.code 4 (some .long), Cond.static yX9_quotient, Cond.code yX9_quotient cX9_quotient 4 (some .long), Cond.methodLink RX2 52 yX0_take, Cond.instanceMethod yX0_take, Cond.selects RX0 yX0_take yX0_take, Cond.code yX0_take cX0_take 2 none, Cond.fieldLink RX0 21 "DryIceLane$Box" "paper" "I", Cond.methodLink RX0 38 Lib.Math.max.name, Cond.static Lib.Math.max.name, Cond.code Lib.Math.max.name Lib.Math.max.code 2 (some .int), Cond.methodLink RX8 93 yX4_outsideNow, Cond.instanceMethod yX4_outsideNow, Cond.selects RX4 yX4_outsideNow yX4_outsideNow, Cond.code yX4_outsideNow cX4_outsideNow 1 (some .int)]
def wsL_law_r16 : List Cond := [Cond.methodLink RX8 97 yX1_letMinutePass, Cond.instanceMethod yX1_letMinutePass, Cond.selects RX1 yX1_letMinutePass yX1_letMinutePass, Cond.code yX1_letMinutePass cX1_letMinutePass 6 none, Cond.fieldLink RX1 18 "DryIceLane$Hold" "gas" "J", Cond.fieldLink RX1 29 "DryIceLane$Hold" "doorOpen" "Z", Cond.fieldLink RX1 32 "DryIceLane$Hold" "alarms" "I", Cond.methodLink RX1 56 yX1_changeTemperature, Cond.instanceMethod yX1_changeTemperature, Cond.selects RX1 yX1_changeTemperature yX1_changeTemperature, Cond.code yX1_changeTemperature cX1_changeTemperature 6 none, Cond.fieldLink RX1 22 "DryIceLane$Hold" "ventOpen" "Z", Cond.methodLink RX1 72 Lib.Math.min.name, Cond.methodLink RX1 78 Lib.Math.max.name, Cond.methodLink RX1 37 yX6_value, Cond.methodLink RX1 60 yX1_loseGas, Cond.instanceMethod yX1_loseGas, Cond.selects RX1 yX1_loseGas yX1_loseGas, Cond.code yX1_loseGas cX1_loseGas 2 none, Cond.constantLong RX1 81 (1000), Cond.methodLink RX1 64 yX1_concentration, Cond.instanceMethod yX1_concentration, Cond.selects RX1 yX1_concentration yX1_concentration, Cond.code yX1_concentration cX1_concentration 2 (some .long)]
def wsL_law_r17 : List Cond := [Cond.constantLong RX1 35 (2), Cond.methodLink RX1 68 yX1_moveVent, Cond.instanceMethod yX1_moveVent, Cond.selects RX1 yX1_moveVent yX1_moveVent, Cond.code yX1_moveVent cX1_moveVent 4 none, Cond.fieldLink RX1 26 "DryIceLane$Hold" "ventMinutes" "I", Cond.methodLink RX1 47 yX1_keepToMode, Cond.instanceMethod yX1_keepToMode, Cond.selects RX1 yX1_keepToMode yX1_keepToMode, Cond.code yX1_keepToMode cX1_keepToMode 1 none, Cond.methodLink RX1 50 yX1_openVent, Cond.instanceMethod yX1_openVent, Cond.selects RX1 yX1_openVent yX1_openVent, Cond.code yX1_openVent cX1_openVent 1 none, Cond.methodLink RX1 53 yX1_shutVent, Cond.instanceMethod yX1_shutVent, Cond.selects RX1 yX1_shutVent yX1_shutVent, Cond.code yX1_shutVent cX1_shutVent 1 none, Cond.methodLink RX8 100 yX4_letMinutePass, Cond.instanceMethod yX4_letMinutePass, Cond.selects RX4 yX4_letMinutePass yX4_letMinutePass, Cond.code yX4_letMinutePass cX4_letMinutePass 1 none, Cond.methodLink RX4 46 yX4_isOnTheWay, Cond.methodLink RL 48 yX10_pass]
def wsL_law_r18 : List Cond := [Cond.instanceMethod yX10_pass, Cond.selects RX10 yX10_pass yX10_pass, Cond.code yX10_pass cX10_pass 4 (some .int), Cond.methodLink RX10 151 yX10_makeMinute, Cond.instanceMethod yX10_makeMinute, Cond.selects RX10 yX10_makeMinute yX10_makeMinute, Cond.code yX10_makeMinute cX10_makeMinute 1 none, Cond.methodLink RX10 138 yX10_goOff, Cond.instanceMethod yX10_goOff, Cond.selects RX10 yX10_goOff yX10_goOff, Cond.code yX10_goOff cX10_goOff 8 (some .long), Cond.methodLink RX10 117 yX10_goesOff, Cond.instanceMethod yX10_goesOff, Cond.selects RX10 yX10_goesOff yX10_goesOff, Cond.code yX10_goesOff cX10_goesOff 4 (some .long), Cond.constantLong RX10 115 (8000), Cond.methodLink RX10 141 yX10_warm, Cond.instanceMethod yX10_warm, Cond.selects RX10 yX10_warm yX10_warm, Cond.code yX10_warm cX10_warm 7 none, Cond.constantLong RX10 125 (4), Cond.constantLong RX10 127 (-7900), Cond.methodLink RX10 121 yX10_outside, Cond.instanceMethod yX10_outside]
def wsL_law_r19 : List Cond := [Cond.selects RX10 yX10_outside yX10_outside, Cond.code yX10_outside cX10_outside 1 (some .long), Cond.methodLink RX10 145 yX10_blow, Cond.instanceMethod yX10_blow, Cond.selects RX10 yX10_blow yX10_blow, Cond.code yX10_blow cX10_blow 1 none, Cond.methodLink RX10 148 yX10_turnVent, Cond.instanceMethod yX10_turnVent, Cond.selects RX10 yX10_turnVent yX10_turnVent, Cond.code yX10_turnVent cX10_turnVent 2 none, Cond.constantLong RX10 56 (2), Cond.methodLink RX10 129 yX10_concentration, Cond.instanceMethod yX10_concentration, Cond.selects RX10 yX10_concentration yX10_concentration, Cond.code yX10_concentration cX10_concentration 1 (some .int), Cond.methodLink RX10 132 yX10_shutVent, Cond.instanceMethod yX10_shutVent, Cond.selects RX10 yX10_shutVent yX10_shutVent, Cond.code yX10_shutVent cX10_shutVent 1 none, Cond.methodLink RX10 135 yX10_openVent, Cond.instanceMethod yX10_openVent, Cond.selects RX10 yX10_openVent yX10_openVent, Cond.code yX10_openVent cX10_openVent 1 none, Cond.methodLink RL 49 yX9_vent]
def wsL_law_r20 : List Cond := [Cond.instanceMethod yX9_vent, Cond.selects RX9 yX9_vent yX9_vent, Cond.code yX9_vent cX9_vent 3 (some .int), Cond.fieldLink RX9 148 "DryIceLane$Hold" "ventMode" "I", Cond.methodLink RX9 151 yX1_setVentMode, Cond.instanceMethod yX1_setVentMode, Cond.selects RX1 yX1_setVentMode yX1_setVentMode, Cond.code yX1_setVentMode cX1_setVentMode 2 none, Cond.methodLink RL 52 yX10_vent, Cond.instanceMethod yX10_vent, Cond.selects RX10 yX10_vent yX10_vent, Cond.code yX10_vent cX10_vent 3 (some .int), Cond.methodLink RX10 154 yX10_setMode, Cond.instanceMethod yX10_setMode, Cond.selects RX10 yX10_setMode yX10_setMode, Cond.code yX10_setMode cX10_setMode 2 none, Cond.methodLink RL 53 yX9_open, Cond.instanceMethod yX9_open, Cond.selects RX9 yX9_open yX9_open, Cond.code yX9_open cX9_open 1 (some .int), Cond.methodLink RX9 154 yX8_isSafe, Cond.instanceMethod yX8_isSafe, Cond.selects RX8 yX8_isSafe yX8_isSafe, Cond.code yX8_isSafe cX8_isSafe 1 (some .boolean)]
def wsL_law_r21 : List Cond := [Cond.methodLink RX8 76 yX8_concentration, Cond.instanceMethod yX8_concentration, Cond.selects RX8 yX8_concentration yX8_concentration, Cond.code yX8_concentration cX8_concentration 1 (some .long), Cond.methodLink RX8 72 yX1_concentration, Cond.methodLink RX9 157 yX1_openVent, Cond.methodLink RX9 160 yX8_concentration, Cond.methodLink RL 56 yX10_open, Cond.instanceMethod yX10_open, Cond.selects RX10 yX10_open yX10_open, Cond.code yX10_open cX10_open 1 (some .int), Cond.methodLink RL 57 yX9_shut, Cond.instanceMethod yX9_shut, Cond.selects RX9 yX9_shut yX9_shut, Cond.code yX9_shut cX9_shut 1 (some .int), Cond.methodLink RL 60 yX10_shut, Cond.instanceMethod yX10_shut, Cond.selects RX10 yX10_shut yX10_shut, Cond.code yX10_shut cX10_shut 1 (some .int), Cond.methodLink RL 61 yX9_sell, Cond.instanceMethod yX9_sell, Cond.selects RX9 yX9_sell yX9_sell, Cond.code yX9_sell cX9_sell 2 (some .int), Cond.constant RX9 164 (50000000)]
def wsL_law_r22 : List Cond := [Cond.fieldLink RX9 169 "DryIceLane$Van" "sold" "J", Cond.methodLink RX9 165 yX2_iceOfAll, Cond.instanceMethod yX2_iceOfAll, Cond.selects RX2 yX2_iceOfAll yX2_iceOfAll, Cond.code yX2_iceOfAll cX2_iceOfAll 3 (some .int), Cond.methodLink RX9 172 yX2_takeFromFront, Cond.instanceMethod yX2_takeFromFront, Cond.selects RX2 yX2_takeFromFront yX2_takeFromFront, Cond.code yX2_takeFromFront cX2_takeFromFront 6 (some .int), Cond.methodLink RX2 46 Lib.Math.min.name, Cond.methodLink RL 64 yX10_sell, Cond.instanceMethod yX10_sell, Cond.selects RX10 yX10_sell yX10_sell, Cond.code yX10_sell cX10_sell 2 (some .int), Cond.constantLong RX10 158 (50000000), Cond.methodLink RX10 160 yX10_allIce, Cond.instanceMethod yX10_allIce, Cond.selects RX10 yX10_allIce yX10_allIce, Cond.code yX10_allIce cX10_allIce 4 (some .long), Cond.methodLink RX10 163 yX10_take, Cond.instanceMethod yX10_take, Cond.selects RX10 yX10_take yX10_take, Cond.code yX10_take cX10_take 11 (some .int), Cond.methodLink RL 65 yX9_spill]
def wsL_law_r23 : List Cond := [Cond.instanceMethod yX9_spill, Cond.selects RX9 yX9_spill yX9_spill, Cond.code yX9_spill cX9_spill 4 (some .int), Cond.fieldLink RX9 176 "DryIceLane$Van" "spilled" "J", Cond.methodLink RL 68 yX10_spill, Cond.instanceMethod yX10_spill, Cond.selects RX10 yX10_spill yX10_spill, Cond.code yX10_spill cX10_spill 3 (some .int), Cond.methodLink RL 69 yX9_weigh, Cond.instanceMethod yX9_weigh, Cond.selects RX9 yX9_weigh yX9_weigh, Cond.code yX9_weigh cX9_weigh 3 (some .int), Cond.fieldLink RX9 179 "DryIceLane$Box" "tare" "I", Cond.methodLink RL 72 yX10_weigh, Cond.instanceMethod yX10_weigh, Cond.selects RX10 yX10_weigh yX10_weigh, Cond.code yX10_weigh cX10_weigh 2 (some .int), Cond.methodLink RL 73 yX9_check, Cond.instanceMethod yX9_check, Cond.selects RX9 yX9_check yX9_check, Cond.code yX9_check cX9_check 4 (some .int), Cond.constant RX9 182 (-1000000001), Cond.constant RX9 183 (-1000000005), Cond.fieldLink RX9 184 "DryIceLane$Box" "paper" "I"]
def wsL_law_r24 : List Cond := [Cond.methodLink RL 76 yX10_check, Cond.instanceMethod yX10_check, Cond.selects RX10 yX10_check yX10_check, Cond.code yX10_check cX10_check 3 (some .int), Cond.constant RX10 167 (-1000000001), Cond.constant RX10 168 (-1000000005), Cond.methodLink RL 77 yX9_box, Cond.instanceMethod yX9_box, Cond.selects RX9 yX9_box yX9_box, Cond.code yX9_box cX9_box 4 (some .int), Cond.fieldLink RX9 187 "DryIceLane$Box" "insulation" "I", Cond.fieldLink RX9 190 "DryIceLane$Hold" "temperature" "I", Cond.methodLink RX9 193 yX6_value, Cond.methodLink RX9 196 yX0_goingOff, Cond.methodLink RL 80 yX10_box, Cond.instanceMethod yX10_box, Cond.selects RX10 yX10_box yX10_box, Cond.code yX10_box cX10_box 3 (some .int), Cond.constantLong RX10 169 (3), Cond.methodLink RL 81 yX9_van, Cond.instanceMethod yX9_van, Cond.selects RX9 yX9_van yX9_van, Cond.code yX9_van cX9_van 2 (some .int), Cond.constant RX9 199 (-1000000002)]
def wsL_law_r25 : List Cond := [Cond.fieldLink RX9 203 "DryIceLane$Hold" "gas" "J", Cond.fieldLink RX9 206 "DryIceLane$Hold" "ventOpen" "Z", Cond.fieldLink RX9 209 "DryIceLane$Hold" "ventMinutes" "I", Cond.constant RX9 212 (-1000000006), Cond.fieldLink RX9 213 "DryIceLane$Hold" "alarms" "I", Cond.fieldLink RX9 216 "DryIceLane$Pad" "length" "I", Cond.methodLink RX9 200 yX4_outsideNow, Cond.methodLink RL 84 yX10_van, Cond.instanceMethod yX10_van, Cond.selects RX10 yX10_van yX10_van, Cond.code yX10_van cX10_van 2 (some .int), Cond.constantLong RX10 171 (15), Cond.constantLong RX10 173 (25), Cond.constant RX10 175 (-1000000006), Cond.fieldLink RX10 179 "DryIceLaneModel" "padMany" "I", Cond.constant RX10 183 (-1000000002), Cond.methodLink RX10 176 yX10_minutesLeft, Cond.instanceMethod yX10_minutesLeft, Cond.selects RX10 yX10_minutesLeft yX10_minutesLeft, Cond.code yX10_minutesLeft cX10_minutesLeft 1 (some .int), Cond.methodLink RL 85 yX9_way, Cond.instanceMethod yX9_way, Cond.selects RX9 yX9_way yX9_way, Cond.code yX9_way cX9_way 3 (some .int)]
def wsL_law_r26 : List Cond := [Cond.methodLink RX9 219 yX4_hasLeg, Cond.methodLink RX9 223 yX4_durationOf, Cond.instanceMethod yX4_durationOf, Cond.selects RX4 yX4_durationOf yX4_durationOf, Cond.code yX4_durationOf cX4_durationOf 2 (some .int), Cond.methodLink RX9 226 yX4_outsideOf, Cond.instanceMethod yX4_outsideOf, Cond.selects RX4 yX4_outsideOf yX4_outsideOf, Cond.code yX4_outsideOf cX4_outsideOf 2 (some .int), Cond.methodLink RL 88 yX10_way, Cond.instanceMethod yX10_way, Cond.selects RX10 yX10_way yX10_way, Cond.code yX10_way cX10_way 3 (some .int), Cond.methodLink RL 89 yX9_account, Cond.instanceMethod yX9_account, Cond.selects RX9 yX9_account yX9_account, Cond.code yX9_account cX9_account 2 (some .long), Cond.fieldLink RX9 229 "DryIceLane$Van" "wentOff" "J", Cond.constantLong RX9 232 (-2), Cond.methodLink RL 93 yX10_account, Cond.instanceMethod yX10_account, Cond.selects RX10 yX10_account yX10_account, Cond.code yX10_account cX10_account 2 (some .long), Cond.constantLong RX10 184 (-2)]
def wsL_law_r27 : List Cond := [Cond.methodLink RL 94 yX9_atEnd, Cond.instanceMethod yX9_atEnd, Cond.selects RX9 yX9_atEnd yX9_atEnd, Cond.code yX9_atEnd cX9_atEnd 4 (some .int), Cond.methodLink RX9 234 yX8_becomeLike, Cond.instanceMethod yX8_becomeLike, Cond.selects RX8 yX8_becomeLike yX8_becomeLike, Cond.code yX8_becomeLike cX8_becomeLike 2 none, Cond.fieldLink RX8 56 "DryIceLane$Van" "putIn" "J", Cond.fieldLink RX8 60 "DryIceLane$Van" "takenOut" "J", Cond.fieldLink RX8 66 "DryIceLane$Van" "sold" "J", Cond.fieldLink RX8 69 "DryIceLane$Van" "spilled" "J", Cond.methodLink RX8 39 yX6_becomeLike, Cond.instanceMethod yX6_becomeLike, Cond.selects RX6 yX6_becomeLike yX6_becomeLike, Cond.code yX6_becomeLike cX6_becomeLike 2 none, Cond.methodLink RX6 23 arraycopyName, Cond.native arraycopyName, Cond.static arraycopyName, Cond.initialized "java/lang/System", Cond.methodLink RX8 43 yX2_becomeLike, Cond.instanceMethod yX2_becomeLike, Cond.selects RX2 yX2_becomeLike yX2_becomeLike, Cond.code yX2_becomeLike cX2_becomeLike 3 none]
def wsL_law_r28 : List Cond := [Cond.methodLink RX2 22 yX0_becomeLike, Cond.instanceMethod yX0_becomeLike, Cond.selects RX0 yX0_becomeLike yX0_becomeLike, Cond.code yX0_becomeLike cX0_becomeLike 2 none, Cond.fieldLink RX0 15 "DryIceLane$Box" "tare" "I", Cond.methodLink RX8 46 yX1_becomeLike, Cond.instanceMethod yX1_becomeLike, Cond.selects RX1 yX1_becomeLike yX1_becomeLike, Cond.code yX1_becomeLike cX1_becomeLike 2 none, Cond.methodLink RX8 49 yX4_becomeLike, Cond.instanceMethod yX4_becomeLike, Cond.selects RX4 yX4_becomeLike yX4_becomeLike, Cond.code yX4_becomeLike cX4_becomeLike 2 none, Cond.methodLink RX4 22 arraycopyName, Cond.methodLink RX9 238 yX8_driveToEnd, Cond.instanceMethod yX8_driveToEnd, Cond.selects RX8 yX8_driveToEnd yX8_driveToEnd, Cond.code yX8_driveToEnd cX8_driveToEnd 4 none, Cond.fieldLink RX8 105 "DryIceLane$Route" "minutesLeft" "I", Cond.methodLink RX8 101 yX4_isOnTheWay, Cond.methodLink RX8 108 yX8_letPass, Cond.methodLink RX8 112 yX4_hasNextLeg, Cond.methodLink RX8 115 yX4_beginNextLeg, Cond.methodLink RL 97 yX10_atEnd]
def wsL_law_r29 : List Cond := [Cond.instanceMethod yX10_atEnd, Cond.selects RX10 yX10_atEnd yX10_atEnd, Cond.code yX10_atEnd cX10_atEnd 5 (some .int), Cond.methodLink RX10 186 yX10_putAside, Cond.instanceMethod yX10_putAside, Cond.selects RX10 yX10_putAside yX10_putAside, Cond.code yX10_putAside cX10_putAside 2 none, Cond.methodLink RX10 189 yX10_goToStop, Cond.instanceMethod yX10_goToStop, Cond.selects RX10 yX10_goToStop yX10_goToStop, Cond.code yX10_goToStop cX10_goToStop 1 none, Cond.methodLink RX10 192 yX10_stay, Cond.instanceMethod yX10_stay, Cond.selects RX10 yX10_stay yX10_stay, Cond.code yX10_stay cX10_stay 3 none, Cond.methodLink RX10 195 yX10_putBack, Cond.instanceMethod yX10_putBack, Cond.selects RX10 yX10_putBack yX10_putBack, Cond.code yX10_putBack cX10_putBack 2 none, Cond.methodLink RL 98 yX9_worst, Cond.instanceMethod yX9_worst, Cond.selects RX9 yX9_worst yX9_worst, Cond.code yX9_worst cX9_worst 5 (some .int), Cond.methodLink RX9 244 Lib.MathLoose.max_long.x]
def wsL_law_r30 : List Cond := [Cond.methodLink RX9 241 yX8_letMinutePass, Cond.methodLink RL 101 yX10_worst, Cond.instanceMethod yX10_worst, Cond.selects RX10 yX10_worst yX10_worst, Cond.code yX10_worst cX10_worst 4 (some .int), Cond.methodLink RL 102 yX9_purge, Cond.instanceMethod yX9_purge, Cond.selects RX9 yX9_purge yX9_purge, Cond.code yX9_purge cX9_purge 3 (some .int), Cond.methodLink RL 105 yX10_purge, Cond.instanceMethod yX10_purge, Cond.selects RX10 yX10_purge yX10_purge, Cond.code yX10_purge cX10_purge 4 (some .int), Cond.methodLink RL 106 yX9_front, Cond.instanceMethod yX9_front, Cond.selects RX9 yX9_front yX9_front, Cond.code yX9_front cX9_front 7 (some .int), Cond.methodLink RX9 248 yX9_iceLeftWithFront, Cond.instanceMethod yX9_iceLeftWithFront, Cond.selects RX9 yX9_iceLeftWithFront yX9_iceLeftWithFront, Cond.code yX9_iceLeftWithFront cX9_iceLeftWithFront 4 (some .int), Cond.methodLink RL 109 yX10_front, Cond.instanceMethod yX10_front, Cond.selects RX10 yX10_front yX10_front]
def wsL_law_r31 : List Cond := [Cond.code yX10_front cX10_front 8 (some .int), Cond.methodLink RL 110 yX9_say, Cond.instanceMethod yX9_say, Cond.selects RX9 yX9_say yX9_say, Cond.code yX9_say cX9_say 2 (some .int), Cond.methodLink RX9 252 yX3_append, Cond.instanceMethod yX3_append, Cond.selects RX3 yX3_append yX3_append, Cond.code yX3_append cX3_append 2 none, Cond.fieldLink RX3 15 "DryIceLane$Pad" "length" "I", Cond.methodLink RL 113 yX10_say, Cond.instanceMethod yX10_say, Cond.selects RX10 yX10_say yX10_say, Cond.code yX10_say cX10_say 2 (some .int), Cond.constantLong RX10 198 (33), Cond.constantLong RX10 200 (126), Cond.methodLink RL 114 yX9_wipe, Cond.instanceMethod yX9_wipe, Cond.selects RX9 yX9_wipe yX9_wipe, Cond.code yX9_wipe cX9_wipe 2 (some .int), Cond.methodLink RL 117 yX10_wipe, Cond.instanceMethod yX10_wipe, Cond.selects RX10 yX10_wipe yX10_wipe, Cond.code yX10_wipe cX10_wipe 2 (some .int)]
def wsL_law_r32 : List Cond := [Cond.methodLink RL 118 yX9_fault, Cond.instanceMethod yX9_fault, Cond.selects RX9 yX9_fault yX9_fault, Cond.code yX9_fault cX9_fault 1 (some .int), Cond.methodLink RX9 254 yX5_faultOf, Cond.instanceMethod yX5_faultOf, Cond.selects RX5 yX5_faultOf yX5_faultOf, Cond.code yX5_faultOf cX5_faultOf 3 (some .int), Cond.fieldLink RX5 18 "DryIceLane$RouteReader" "legs" "I", Cond.fieldLink RX5 22 "DryIceLane$RouteReader" "state" "I", Cond.fieldLink RX5 25 "DryIceLane$Pad" "length" "I", Cond.methodLink RX5 30 yX3_codeAt, Cond.instanceMethod yX3_codeAt, Cond.selects RX3 yX3_codeAt yX3_codeAt, Cond.code yX3_codeAt cX3_codeAt 2 (some .int), Cond.methodLink RX5 34 yX5_takes, Cond.instanceMethod yX5_takes, Cond.selects RX5 yX5_takes yX5_takes, Cond.code yX5_takes cX5_takes 2 (some .boolean), Cond.methodLink RX5 46 yX5_startsNumber, Cond.instanceMethod yX5_startsNumber, Cond.selects RX5 yX5_startsNumber yX5_startsNumber, Cond.code yX5_startsNumber cX5_startsNumber 5 (some .boolean), Cond.fieldLink RX5 64 "DryIceLane$RouteReader" "number" "I"]
def wsL_law_r33 : List Cond := [Cond.methodLink RX5 67 yX5_isDigit, Cond.static yX5_isDigit, Cond.code yX5_isDigit cX5_isDigit 1 (some .boolean), Cond.methodLink RX5 50 yX5_endsDuration, Cond.instanceMethod yX5_endsDuration, Cond.selects RX5 yX5_endsDuration yX5_endsDuration, Cond.code yX5_endsDuration cX5_endsDuration 1 (some .boolean), Cond.fieldLink RX5 70 "DryIceLane$RouteReader" "duration" "I", Cond.fieldLink RX5 73 "DryIceLane$RouteReader" "below" "Z", Cond.methodLink RX5 53 yX5_continuesNumber, Cond.instanceMethod yX5_continuesNumber, Cond.selects RX5 yX5_continuesNumber yX5_continuesNumber, Cond.code yX5_continuesNumber cX5_continuesNumber 3 (some .boolean), Cond.methodLink RX5 57 yX5_startsDegrees, Cond.instanceMethod yX5_startsDegrees, Cond.selects RX5 yX5_startsDegrees yX5_startsDegrees, Cond.code yX5_startsDegrees cX5_startsDegrees 2 (some .boolean), Cond.methodLink RX5 60 yX5_mostDegrees, Cond.instanceMethod yX5_mostDegrees, Cond.selects RX5 yX5_mostDegrees yX5_mostDegrees, Cond.code yX5_mostDegrees cX5_mostDegrees 1 (some .int), Cond.methodLink RX5 38 yX5_endLeg, Cond.instanceMethod yX5_endLeg, Cond.selects RX5 yX5_endLeg yX5_endLeg]
def wsL_law_r34 : List Cond := [Cond.code yX5_endLeg cX5_endLeg 1 (some .boolean), Cond.methodLink RL 121 yX10_fault, Cond.instanceMethod yX10_fault, Cond.selects RX10 yX10_fault yX10_fault, Cond.code yX10_fault cX10_fault 1 (some .int), Cond.fieldLink RX10 202 "DryIceLaneModel" "spot" "I", Cond.fieldLink RX10 205 "DryIceLaneModel" "isWrong" "Z", Cond.fieldLink RX10 216 "DryIceLaneModel" "readMany" "I", Cond.methodLink RX10 226 yX10_takeLeg, Cond.instanceMethod yX10_takeLeg, Cond.selects RX10 yX10_takeLeg yX10_takeLeg, Cond.code yX10_takeLeg cX10_takeLeg 3 none, Cond.methodLink RX10 219 yX10_takeNumber, Cond.instanceMethod yX10_takeNumber, Cond.selects RX10 yX10_takeNumber yX10_takeNumber, Cond.code yX10_takeNumber cX10_takeNumber 5 (some .int), Cond.constantLong RX10 212 (57), Cond.constantLong RX10 214 (48), Cond.methodLink RX10 209 yX10_next, Cond.instanceMethod yX10_next, Cond.selects RX10 yX10_next yX10_next, Cond.code yX10_next cX10_next 1 (some .int), Cond.methodLink RX10 223 yX10_need, Cond.instanceMethod yX10_need]
def wsL_law_r35 : List Cond := [Cond.selects RX10 yX10_need yX10_need, Cond.code yX10_need cX10_need 2 none, Cond.methodLink RL 122 yX9_read, Cond.instanceMethod yX9_read, Cond.selects RX9 yX9_read yX9_read, Cond.code yX9_read cX9_read 2 (some .int), Cond.fieldLink RX9 258 "DryIceLane$RouteReader" "legs" "I", Cond.methodLink RX9 261 yX5_durationOf, Cond.instanceMethod yX5_durationOf, Cond.selects RX5 yX5_durationOf yX5_durationOf, Cond.code yX5_durationOf cX5_durationOf 2 (some .int), Cond.methodLink RX9 262 yX5_outsideOf, Cond.instanceMethod yX5_outsideOf, Cond.selects RX5 yX5_outsideOf yX5_outsideOf, Cond.code yX5_outsideOf cX5_outsideOf 2 (some .int), Cond.methodLink RL 125 yX10_read, Cond.instanceMethod yX10_read, Cond.selects RX10 yX10_read yX10_read, Cond.code yX10_read cX10_read 2 (some .int), Cond.methodLink RX10 229 yX10_fault, Cond.methodLink RL 126 yX9_save, Cond.instanceMethod yX9_save, Cond.selects RX9 yX9_save yX9_save, Cond.code yX9_save cX9_save 3 (some .int)]
def wsL_law_r36 : List Cond := [Cond.fieldLink RX9 267 "DryIceLane$Slot" "kept" "LDryIceLane$Van;", Cond.fieldLink RX9 270 "DryIceLane$Slot" "filled" "Z", Cond.methodLink RX9 263 yX9_slotAt, Cond.instanceMethod yX9_slotAt, Cond.selects RX9 yX9_slotAt yX9_slotAt, Cond.code yX9_slotAt cX9_slotAt 2 (some (.object "DryIceLane$Slot")), Cond.methodLink RL 129 yX10_save, Cond.instanceMethod yX10_save, Cond.selects RX10 yX10_save yX10_save, Cond.code yX10_save cX10_save 3 (some .int), Cond.methodLink RL 130 yX9_restore, Cond.instanceMethod yX9_restore, Cond.selects RX9 yX9_restore yX9_restore, Cond.code yX9_restore cX9_restore 3 (some .int), Cond.methodLink RL 133 yX10_restore, Cond.instanceMethod yX10_restore, Cond.selects RX10 yX10_restore yX10_restore, Cond.code yX10_restore cX10_restore 3 (some .int)]
def wsL_law : List Cond := (wsL_law_r1 ++ (wsL_law_r2 ++ (wsL_law_r3 ++ (wsL_law_r4 ++ (wsL_law_r5 ++ (wsL_law_r6 ++ (wsL_law_r7 ++ (wsL_law_r8 ++ (wsL_law_r9 ++ (wsL_law_r10 ++ (wsL_law_r11 ++ (wsL_law_r12 ++ (wsL_law_r13 ++ (wsL_law_r14 ++ (wsL_law_r15 ++ (wsL_law_r16 ++ (wsL_law_r17 ++ (wsL_law_r18 ++ (wsL_law_r19 ++ (wsL_law_r20 ++ (wsL_law_r21 ++ (wsL_law_r22 ++ (wsL_law_r23 ++ (wsL_law_r24 ++ (wsL_law_r25 ++ (wsL_law_r26 ++ (wsL_law_r27 ++ (wsL_law_r28 ++ (wsL_law_r29 ++ (wsL_law_r30 ++ (wsL_law_r31 ++ (wsL_law_r32 ++ (wsL_law_r33 ++ (wsL_law_r34 ++ (wsL_law_r35 ++ wsL_law_r36))))))))))))))))))))))))))))))))))) ++ wsX90 ++ wsX100 ++ wsX80 ++ wsX70 ++ wsX30 ++ wsX50 ++ wsX60 ++ wsX20 ++ wsX10 ++ wsX40 ++ wsX00 ++ ([] : List Cond)
set_option maxRecDepth 20000 in
theorem in_wsL_law_r1 : ∀ w ∈ wsL_law_r1, w ∈ lw_tbl := fun w h => (goodIn_p wsL_law_r1 [65, 68] (by decide +kernel) (by decide +kernel) w h).1
set_option maxRecDepth 20000 in
theorem in_wsL_law_r2 : ∀ w ∈ wsL_law_r2, w ∈ lw_tbl := fun w h => (goodIn_p wsL_law_r2 [73] (by decide +kernel) (by decide +kernel) w h).1
set_option maxRecDepth 20000 in
theorem in_wsL_law_r3 : ∀ w ∈ wsL_law_r3, w ∈ lw_tbl := fun w h => (goodIn_p wsL_law_r3 [79, 99, 106, 141] (by decide +kernel) (by decide +kernel) w h).1
set_option maxRecDepth 20000 in
theorem in_wsL_law_r4 : ∀ w ∈ wsL_law_r4, w ∈ lw_tbl := fun w h => (goodIn_p wsL_law_r4 [177, 244, 260, 275] (by decide +kernel) (by decide +kernel) w h).1
set_option maxRecDepth 20000 in
theorem in_wsL_law_r5 : ∀ w ∈ wsL_law_r5, w ∈ lw_tbl := fun w h => (goodIn_p wsL_law_r5 [728] (by decide +kernel) (by decide +kernel) w h).1
set_option maxRecDepth 20000 in
theorem in_wsL_law_r6 : ∀ w ∈ wsL_law_r6, w ∈ lw_tbl := fun w h => (goodIn_p wsL_law_r6 [322, 325, 331, 775] (by decide +kernel) (by decide +kernel) w h).1
set_option maxRecDepth 20000 in
theorem in_wsL_law_r7 : ∀ w ∈ wsL_law_r7, w ∈ lw_tbl := fun w h => (goodIn_p wsL_law_r7 [778, 784, 788, 792, 335] (by decide +kernel) (by decide +kernel) w h).1
set_option maxRecDepth 20000 in
theorem in_wsL_law_r8 : ∀ w ∈ wsL_law_r8, w ∈ lw_tbl := fun w h => (goodIn_p wsL_law_r8 [339, 344, 348, 796, 800, 804] (by decide +kernel) (by decide +kernel) w h).1
set_option maxRecDepth 20000 in
theorem in_wsL_law_r9 : ∀ w ∈ wsL_law_r9, w ∈ lw_tbl := fun w h => (goodIn_p wsL_law_r9 [352, 808, 812, 816, 357] (by decide +kernel) (by decide +kernel) w h).1
set_option maxRecDepth 20000 in
theorem in_wsL_law_r10 : ∀ w ∈ wsL_law_r10, w ∈ lw_tbl := fun w h => (goodIn_p wsL_law_r10 [361, 370, 374, 820, 823] (by decide +kernel) (by decide +kernel) w h).1
set_option maxRecDepth 20000 in
theorem in_wsL_law_r11 : ∀ w ∈ wsL_law_r11, w ∈ lw_tbl := fun w h => (goodIn_p wsL_law_r11 [379, 383, 832, 838, 387] (by decide +kernel) (by decide +kernel) w h).1
set_option maxRecDepth 20000 in
theorem in_wsL_law_r12 : ∀ w ∈ wsL_law_r12, w ∈ lw_tbl := fun w h => (goodIn_p wsL_law_r12 [391, 395, 842, 400, 404] (by decide +kernel) (by decide +kernel) w h).1
set_option maxRecDepth 20000 in
theorem in_wsL_law_r13 : ∀ w ∈ wsL_law_r13, w ∈ lw_tbl := fun w h => (goodIn_p wsL_law_r13 [408, 846, 850, 854, 858, 413] (by decide +kernel) (by decide +kernel) w h).1
set_option maxRecDepth 20000 in
theorem in_wsL_law_r14 : ∀ w ∈ wsL_law_r14, w ∈ lw_tbl := fun w h => (goodIn_p wsL_law_r14 [417, 421, 425, 430] (by decide +kernel) (by decide +kernel) w h).1
set_option maxRecDepth 20000 in
theorem in_wsL_law_r15 : ∀ w ∈ wsL_law_r15, w ∈ lw_tbl := fun w h => (goodIn_p wsL_law_r15 [434, 441, 444, 438, 448, 451, 455] (by decide +kernel) (by decide +kernel) w h).1
set_option maxRecDepth 20000 in
theorem in_wsL_law_r16 : ∀ w ∈ wsL_law_r16, w ∈ lw_tbl := fun w h => (goodIn_p wsL_law_r16 [459, 463, 471, 476] (by decide +kernel) (by decide +kernel) w h).1
set_option maxRecDepth 20000 in
theorem in_wsL_law_r17 : ∀ w ∈ wsL_law_r17, w ∈ lw_tbl := fun w h => (goodIn_p wsL_law_r17 [481, 485, 489, 493, 497] (by decide +kernel) (by decide +kernel) w h).1
set_option maxRecDepth 20000 in
theorem in_wsL_law_r18 : ∀ w ∈ wsL_law_r18, w ∈ lw_tbl := fun w h => (goodIn_p wsL_law_r18 [862, 866, 870, 874, 879] (by decide +kernel) (by decide +kernel) w h).1
set_option maxRecDepth 20000 in
theorem in_wsL_law_r19 : ∀ w ∈ wsL_law_r19, w ∈ lw_tbl := fun w h => (goodIn_p wsL_law_r19 [883, 889, 893, 897, 902, 906] (by decide +kernel) (by decide +kernel) w h).1
set_option maxRecDepth 20000 in
theorem in_wsL_law_r20 : ∀ w ∈ wsL_law_r20, w ∈ lw_tbl := fun w h => (goodIn_p wsL_law_r20 [502, 506, 910, 914, 510, 514] (by decide +kernel) (by decide +kernel) w h).1
set_option maxRecDepth 20000 in
theorem in_wsL_law_r21 : ∀ w ∈ wsL_law_r21, w ∈ lw_tbl := fun w h => (goodIn_p wsL_law_r21 [518, 918, 525, 922, 529] (by decide +kernel) (by decide +kernel) w h).1
set_option maxRecDepth 20000 in
theorem in_wsL_law_r22 : ∀ w ∈ wsL_law_r22, w ∈ lw_tbl := fun w h => (goodIn_p wsL_law_r22 [534, 538, 926, 931, 935] (by decide +kernel) (by decide +kernel) w h).1
set_option maxRecDepth 20000 in
theorem in_wsL_law_r23 : ∀ w ∈ wsL_law_r23, w ∈ lw_tbl := fun w h => (goodIn_p wsL_law_r23 [543, 939, 547, 943, 551] (by decide +kernel) (by decide +kernel) w h).1
set_option maxRecDepth 20000 in
theorem in_wsL_law_r24 : ∀ w ∈ wsL_law_r24, w ∈ lw_tbl := fun w h => (goodIn_p wsL_law_r24 [947, 557, 953, 563] (by decide +kernel) (by decide +kernel) w h).1
set_option maxRecDepth 20000 in
theorem in_wsL_law_r25 : ∀ w ∈ wsL_law_r25, w ∈ lw_tbl := fun w h => (goodIn_p wsL_law_r25 [958, 965, 570] (by decide +kernel) (by decide +kernel) w h).1
set_option maxRecDepth 20000 in
theorem in_wsL_law_r26 : ∀ w ∈ wsL_law_r26, w ∈ lw_tbl := fun w h => (goodIn_p wsL_law_r26 [575, 579, 970, 583, 974] (by decide +kernel) (by decide +kernel) w h).1
set_option maxRecDepth 20000 in
theorem in_wsL_law_r27 : ∀ w ∈ wsL_law_r27, w ∈ lw_tbl := fun w h => (goodIn_p wsL_law_r27 [588, 592, 596, 603] (by decide +kernel) (by decide +kernel) w h).1
set_option maxRecDepth 20000 in
theorem in_wsL_law_r28 : ∀ w ∈ wsL_law_r28, w ∈ lw_tbl := fun w h => (goodIn_p wsL_law_r28 [607, 611, 615, 620] (by decide +kernel) (by decide +kernel) w h).1
set_option maxRecDepth 20000 in
theorem in_wsL_law_r29 : ∀ w ∈ wsL_law_r29, w ∈ lw_tbl := fun w h => (goodIn_p wsL_law_r29 [979, 983, 987, 991, 995, 628] (by decide +kernel) (by decide +kernel) w h).1
set_option maxRecDepth 20000 in
theorem in_wsL_law_r30 : ∀ w ∈ wsL_law_r30, w ∈ lw_tbl := fun w h => (goodIn_p wsL_law_r30 [999, 634, 1003, 638, 642] (by decide +kernel) (by decide +kernel) w h).1
set_option maxRecDepth 20000 in
theorem in_wsL_law_r31 : ∀ w ∈ wsL_law_r31, w ∈ lw_tbl := fun w h => (goodIn_p wsL_law_r31 [1007, 646, 650, 1011, 654, 1017] (by decide +kernel) (by decide +kernel) w h).1
set_option maxRecDepth 20000 in
theorem in_wsL_law_r32 : ∀ w ∈ wsL_law_r32, w ∈ lw_tbl := fun w h => (goodIn_p wsL_law_r32 [658, 662, 666, 671, 675] (by decide +kernel) (by decide +kernel) w h).1
set_option maxRecDepth 20000 in
theorem in_wsL_law_r33 : ∀ w ∈ wsL_law_r33, w ∈ lw_tbl := fun w h => (goodIn_p wsL_law_r33 [678, 683, 687, 691, 695] (by decide +kernel) (by decide +kernel) w h).1
set_option maxRecDepth 20000 in
theorem in_wsL_law_r34 : ∀ w ∈ wsL_law_r34, w ∈ lw_tbl := fun w h => (goodIn_p wsL_law_r34 [699, 1021, 1025, 1029, 1033] (by decide +kernel) (by decide +kernel) w h).1
set_option maxRecDepth 20000 in
theorem in_wsL_law_r35 : ∀ w ∈ wsL_law_r35, w ∈ lw_tbl := fun w h => (goodIn_p wsL_law_r35 [1039, 703, 707, 711, 1043, 715] (by decide +kernel) (by decide +kernel) w h).1
set_option maxRecDepth 20000 in
theorem in_wsL_law_r36 : ∀ w ∈ wsL_law_r36, w ∈ lw_tbl := fun w h => (goodIn_p wsL_law_r36 [719, 1048, 723, 1052] (by decide +kernel) (by decide +kernel) w h).1
set_option maxRecDepth 20000 in
theorem in_wsX90 : ∀ w ∈ wsX90, w ∈ lw_tbl := fun w h => (goodIn_p wsX90 [] (by decide +kernel) (by decide +kernel) w h).1
set_option maxRecDepth 20000 in
theorem in_wsX100 : ∀ w ∈ wsX100, w ∈ lw_tbl := fun w h => (goodIn_p wsX100 [] (by decide +kernel) (by decide +kernel) w h).1
set_option maxRecDepth 20000 in
theorem in_wsX80 : ∀ w ∈ wsX80, w ∈ lw_tbl := fun w h => (goodIn_p wsX80 [] (by decide +kernel) (by decide +kernel) w h).1
set_option maxRecDepth 20000 in
theorem in_wsX70 : ∀ w ∈ wsX70, w ∈ lw_tbl := fun w h => (goodIn_p wsX70 [] (by decide +kernel) (by decide +kernel) w h).1
set_option maxRecDepth 20000 in
theorem in_wsX30 : ∀ w ∈ wsX30, w ∈ lw_tbl := fun w h => (goodIn_p wsX30 [] (by decide +kernel) (by decide +kernel) w h).1
set_option maxRecDepth 20000 in
theorem in_wsX50 : ∀ w ∈ wsX50, w ∈ lw_tbl := fun w h => (goodIn_p wsX50 [] (by decide +kernel) (by decide +kernel) w h).1
set_option maxRecDepth 20000 in
theorem in_wsX60 : ∀ w ∈ wsX60, w ∈ lw_tbl := fun w h => (goodIn_p wsX60 [] (by decide +kernel) (by decide +kernel) w h).1
set_option maxRecDepth 20000 in
theorem in_wsX20 : ∀ w ∈ wsX20, w ∈ lw_tbl := fun w h => (goodIn_p wsX20 [] (by decide +kernel) (by decide +kernel) w h).1
set_option maxRecDepth 20000 in
theorem in_wsX10 : ∀ w ∈ wsX10, w ∈ lw_tbl := fun w h => (goodIn_p wsX10 [] (by decide +kernel) (by decide +kernel) w h).1
set_option maxRecDepth 20000 in
theorem in_wsX40 : ∀ w ∈ wsX40, w ∈ lw_tbl := fun w h => (goodIn_p wsX40 [] (by decide +kernel) (by decide +kernel) w h).1
set_option maxRecDepth 20000 in
theorem in_wsX00 : ∀ w ∈ wsX00, w ∈ lw_tbl := fun w h => (goodIn_p wsX00 [] (by decide +kernel) (by decide +kernel) w h).1
theorem wsL_law_in : ∀ w ∈ wsL_law, w ∈ lw_tbl := (List.forall_mem_append.mpr ⟨(List.forall_mem_append.mpr ⟨(List.forall_mem_append.mpr ⟨(List.forall_mem_append.mpr ⟨(List.forall_mem_append.mpr ⟨(List.forall_mem_append.mpr ⟨(List.forall_mem_append.mpr ⟨(List.forall_mem_append.mpr ⟨(List.forall_mem_append.mpr ⟨(List.forall_mem_append.mpr ⟨(List.forall_mem_append.mpr ⟨(List.forall_mem_append.mpr ⟨(List.forall_mem_append.mpr ⟨in_wsL_law_r1, (List.forall_mem_append.mpr ⟨in_wsL_law_r2, (List.forall_mem_append.mpr ⟨in_wsL_law_r3, (List.forall_mem_append.mpr ⟨in_wsL_law_r4, (List.forall_mem_append.mpr ⟨in_wsL_law_r5, (List.forall_mem_append.mpr ⟨in_wsL_law_r6, (List.forall_mem_append.mpr ⟨in_wsL_law_r7, (List.forall_mem_append.mpr ⟨in_wsL_law_r8, (List.forall_mem_append.mpr ⟨in_wsL_law_r9, (List.forall_mem_append.mpr ⟨in_wsL_law_r10, (List.forall_mem_append.mpr ⟨in_wsL_law_r11, (List.forall_mem_append.mpr ⟨in_wsL_law_r12, (List.forall_mem_append.mpr ⟨in_wsL_law_r13, (List.forall_mem_append.mpr ⟨in_wsL_law_r14, (List.forall_mem_append.mpr ⟨in_wsL_law_r15, (List.forall_mem_append.mpr ⟨in_wsL_law_r16, (List.forall_mem_append.mpr ⟨in_wsL_law_r17, (List.forall_mem_append.mpr ⟨in_wsL_law_r18, (List.forall_mem_append.mpr ⟨in_wsL_law_r19, (List.forall_mem_append.mpr ⟨in_wsL_law_r20, (List.forall_mem_append.mpr ⟨in_wsL_law_r21, (List.forall_mem_append.mpr ⟨in_wsL_law_r22, (List.forall_mem_append.mpr ⟨in_wsL_law_r23, (List.forall_mem_append.mpr ⟨in_wsL_law_r24, (List.forall_mem_append.mpr ⟨in_wsL_law_r25, (List.forall_mem_append.mpr ⟨in_wsL_law_r26, (List.forall_mem_append.mpr ⟨in_wsL_law_r27, (List.forall_mem_append.mpr ⟨in_wsL_law_r28, (List.forall_mem_append.mpr ⟨in_wsL_law_r29, (List.forall_mem_append.mpr ⟨in_wsL_law_r30, (List.forall_mem_append.mpr ⟨in_wsL_law_r31, (List.forall_mem_append.mpr ⟨in_wsL_law_r32, (List.forall_mem_append.mpr ⟨in_wsL_law_r33, (List.forall_mem_append.mpr ⟨in_wsL_law_r34, (List.forall_mem_append.mpr ⟨in_wsL_law_r35, in_wsL_law_r36⟩)⟩)⟩)⟩)⟩)⟩)⟩)⟩)⟩)⟩)⟩)⟩)⟩)⟩)⟩)⟩)⟩)⟩)⟩)⟩)⟩)⟩)⟩)⟩)⟩)⟩)⟩)⟩)⟩)⟩)⟩)⟩)⟩)⟩)⟩), in_wsX90⟩), in_wsX100⟩), in_wsX80⟩), in_wsX70⟩), in_wsX30⟩), in_wsX50⟩), in_wsX60⟩), in_wsX20⟩), in_wsX10⟩), in_wsX40⟩), in_wsX00⟩), fun _ h => absurd h List.not_mem_nil⟩)
theorem inlX0 : ∀ w ∈ wsX00, w ∈ wsL_law := fun _ h => List.mem_append_left _ (List.mem_append_right _ h)
theorem inX0 : ∀ w ∈ wsX00, w ∈ lw_tbl := fun w h => wsL_law_in w (inlX0 w h)
theorem inlX1 : ∀ w ∈ wsX10, w ∈ wsL_law := fun _ h => List.mem_append_left _ (List.mem_append_left _ (List.mem_append_left _ (List.mem_append_right _ h)))
theorem inX1 : ∀ w ∈ wsX10, w ∈ lw_tbl := fun w h => wsL_law_in w (inlX1 w h)
theorem inlX2 : ∀ w ∈ wsX20, w ∈ wsL_law := fun _ h => List.mem_append_left _ (List.mem_append_left _ (List.mem_append_left _ (List.mem_append_left _ (List.mem_append_right _ h))))
theorem inX2 : ∀ w ∈ wsX20, w ∈ lw_tbl := fun w h => wsL_law_in w (inlX2 w h)
theorem inlX3 : ∀ w ∈ wsX30, w ∈ wsL_law := fun _ h => List.mem_append_left _ (List.mem_append_left _ (List.mem_append_left _ (List.mem_append_left _ (List.mem_append_left _ (List.mem_append_left _ (List.mem_append_left _ (List.mem_append_right _ h)))))))
theorem inX3 : ∀ w ∈ wsX30, w ∈ lw_tbl := fun w h => wsL_law_in w (inlX3 w h)
theorem inlX4 : ∀ w ∈ wsX40, w ∈ wsL_law := fun _ h => List.mem_append_left _ (List.mem_append_left _ (List.mem_append_right _ h))
theorem inX4 : ∀ w ∈ wsX40, w ∈ lw_tbl := fun w h => wsL_law_in w (inlX4 w h)
theorem inlX5 : ∀ w ∈ wsX50, w ∈ wsL_law := fun _ h => List.mem_append_left _ (List.mem_append_left _ (List.mem_append_left _ (List.mem_append_left _ (List.mem_append_left _ (List.mem_append_left _ (List.mem_append_right _ h))))))
theorem inX5 : ∀ w ∈ wsX50, w ∈ lw_tbl := fun w h => wsL_law_in w (inlX5 w h)
theorem inlX6 : ∀ w ∈ wsX60, w ∈ wsL_law := fun _ h => List.mem_append_left _ (List.mem_append_left _ (List.mem_append_left _ (List.mem_append_left _ (List.mem_append_left _ (List.mem_append_right _ h)))))
theorem inX6 : ∀ w ∈ wsX60, w ∈ lw_tbl := fun w h => wsL_law_in w (inlX6 w h)
theorem inlX7 : ∀ w ∈ wsX70, w ∈ wsL_law := fun _ h => List.mem_append_left _ (List.mem_append_left _ (List.mem_append_left _ (List.mem_append_left _ (List.mem_append_left _ (List.mem_append_left _ (List.mem_append_left _ (List.mem_append_left _ (List.mem_append_right _ h))))))))
theorem inX7 : ∀ w ∈ wsX70, w ∈ lw_tbl := fun w h => wsL_law_in w (inlX7 w h)
theorem inlX8 : ∀ w ∈ wsX80, w ∈ wsL_law := fun _ h => List.mem_append_left _ (List.mem_append_left _ (List.mem_append_left _ (List.mem_append_left _ (List.mem_append_left _ (List.mem_append_left _ (List.mem_append_left _ (List.mem_append_left _ (List.mem_append_left _ (List.mem_append_right _ h)))))))))
theorem inX8 : ∀ w ∈ wsX80, w ∈ lw_tbl := fun w h => wsL_law_in w (inlX8 w h)
theorem inlX9 : ∀ w ∈ wsX90, w ∈ wsL_law := fun _ h => List.mem_append_left _ (List.mem_append_left _ (List.mem_append_left _ (List.mem_append_left _ (List.mem_append_left _ (List.mem_append_left _ (List.mem_append_left _ (List.mem_append_left _ (List.mem_append_left _ (List.mem_append_left _ (List.mem_append_left _ (List.mem_append_right _ h)))))))))))
theorem inX9 : ∀ w ∈ wsX90, w ∈ lw_tbl := fun w h => wsL_law_in w (inlX9 w h)
theorem inlX10 : ∀ w ∈ wsX100, w ∈ wsL_law := fun _ h => List.mem_append_left _ (List.mem_append_left _ (List.mem_append_left _ (List.mem_append_left _ (List.mem_append_left _ (List.mem_append_left _ (List.mem_append_left _ (List.mem_append_left _ (List.mem_append_left _ (List.mem_append_left _ (List.mem_append_right _ h))))))))))
theorem inX10 : ∀ w ∈ wsX100, w ∈ lw_tbl := fun w h => wsL_law_in w (inlX10 w h)
theorem inJx8e188 : ∀ w ∈ wsJx8e1880, w ∈ lw_tbl := by decide +kernel
theorem inJ9 : ∀ w ∈ wsJ90, w ∈ lw_tbl := by decide +kernel
theorem inJ10 : ∀ w ∈ wsJ100, w ∈ lw_tbl := by decide +kernel
end
section
theorem dX0_init_0 : decode cX0_init 0 = .ok (.aload_n 0, 1) := by decide +kernel
theorem dX0_init_1 : decode cX0_init 1 = .ok (.invokespecial 3, 3) := by decide +kernel
theorem dX0_init_4 : decode cX0_init 4 = .ok (.return_, 1) := by decide +kernel
theorem dX0_becomeLike_0 : decode cX0_becomeLike 0 = .ok (.aload_n 0, 1) := by decide +kernel
theorem dX0_becomeLike_1 : decode cX0_becomeLike 1 = .ok (.aload_n 1, 1) := by decide +kernel
theorem dX0_becomeLike_2 : decode cX0_becomeLike 2 = .ok (.getfield 9, 3) := by decide +kernel
theorem dX0_becomeLike_5 : decode cX0_becomeLike 5 = .ok (.putfield 9, 3) := by decide +kernel
theorem dX0_becomeLike_8 : decode cX0_becomeLike 8 = .ok (.aload_n 0, 1) := by decide +kernel
theorem dX0_becomeLike_9 : decode cX0_becomeLike 9 = .ok (.aload_n 1, 1) := by decide +kernel
theorem dX0_becomeLike_10 : decode cX0_becomeLike 10 = .ok (.getfield 15, 3) := by decide +kernel
theorem dX0_becomeLike_13 : decode cX0_becomeLike 13 = .ok (.putfield 15, 3) := by decide +kernel
theorem dX0_becomeLike_16 : decode cX0_becomeLike 16 = .ok (.aload_n 0, 1) := by decide +kernel
theorem dX0_becomeLike_17 : decode cX0_becomeLike 17 = .ok (.aload_n 1, 1) := by decide +kernel
theorem dX0_becomeLike_18 : decode cX0_becomeLike 18 = .ok (.getfield 18, 3) := by decide +kernel
theorem dX0_becomeLike_21 : decode cX0_becomeLike 21 = .ok (.putfield 18, 3) := by decide +kernel
theorem dX0_becomeLike_24 : decode cX0_becomeLike 24 = .ok (.aload_n 0, 1) := by decide +kernel
theorem dX0_becomeLike_25 : decode cX0_becomeLike 25 = .ok (.aload_n 1, 1) := by decide +kernel
theorem dX0_becomeLike_26 : decode cX0_becomeLike 26 = .ok (.getfield 21, 3) := by decide +kernel
theorem dX0_becomeLike_29 : decode cX0_becomeLike 29 = .ok (.putfield 21, 3) := by decide +kernel
theorem dX0_becomeLike_32 : decode cX0_becomeLike 32 = .ok (.return_, 1) := by decide +kernel
set_option maxRecDepth 20000 in
theorem ggX0_goingOff_X9_quotient : GoodIn wsX0_goingOff wsX9_quotient := goodIn_r _ [13] (by decide +kernel) (by decide +kernel)
set_option maxRecDepth 20000 in
theorem gX0_goingOff_X9_quotient_n26 : GoodIn wsX0_goingOff (wsX9_quotient) := ggX0_goingOff_X9_quotient
theorem dX0_goingOff_0 : decode cX0_goingOff 0 = .ok (.iload_n 1, 1) := by decide +kernel
theorem dX0_goingOff_1 : decode cX0_goingOff 1 = .ok (.sipush (-8000), 3) := by decide +kernel
theorem dX0_goingOff_4 : decode cX0_goingOff 4 = .ok (.isub, 1) := by decide +kernel
theorem dX0_goingOff_5 : decode cX0_goingOff 5 = .ok (.i2l, 1) := by decide +kernel
theorem dX0_goingOff_6 : decode cX0_goingOff 6 = .ok (.iload_n 2, 1) := by decide +kernel
theorem dX0_goingOff_7 : decode cX0_goingOff 7 = .ok (.i2l, 1) := by decide +kernel
theorem dX0_goingOff_8 : decode cX0_goingOff 8 = .ok (.lmul, 1) := by decide +kernel
theorem dX0_goingOff_9 : decode cX0_goingOff 9 = .ok (.ldc2_w 24, 3) := by decide +kernel
theorem dX0_goingOff_12 : decode cX0_goingOff 12 = .ok (.aload_n 0, 1) := by decide +kernel
theorem dX0_goingOff_13 : decode cX0_goingOff 13 = .ok (.getfield 9, 3) := by decide +kernel
theorem dX0_goingOff_16 : decode cX0_goingOff 16 = .ok (.i2l, 1) := by decide +kernel
theorem dX0_goingOff_17 : decode cX0_goingOff 17 = .ok (.lmul, 1) := by decide +kernel
theorem dX0_goingOff_18 : decode cX0_goingOff 18 = .ok (.invokestatic 26, 3) := by decide +kernel
theorem dX0_goingOff_21 : decode cX0_goingOff 21 = .ok (.lstore_n 3, 1) := by decide +kernel
theorem dX0_goingOff_22 : decode cX0_goingOff 22 = .ok (.lload_n 3, 1) := by decide +kernel
theorem dX0_goingOff_23 : decode cX0_goingOff 23 = .ok (.lconst 0, 1) := by decide +kernel
theorem dX0_goingOff_24 : decode cX0_goingOff 24 = .ok (.invokestatic 30, 3) := by decide +kernel
theorem dX0_goingOff_27 : decode cX0_goingOff 27 = .ok (.aload_n 0, 1) := by decide +kernel
theorem dX0_goingOff_28 : decode cX0_goingOff 28 = .ok (.getfield 18, 3) := by decide +kernel
theorem dX0_goingOff_31 : decode cX0_goingOff 31 = .ok (.i2l, 1) := by decide +kernel
theorem dX0_goingOff_32 : decode cX0_goingOff 32 = .ok (.invokestatic 35, 3) := by decide +kernel
theorem dX0_goingOff_35 : decode cX0_goingOff 35 = .ok (.l2i, 1) := by decide +kernel
theorem dX0_goingOff_36 : decode cX0_goingOff 36 = .ok (.ireturn, 1) := by decide +kernel
theorem dX0_take_0 : decode cX0_take 0 = .ok (.aload_n 0, 1) := by decide +kernel
theorem dX0_take_1 : decode cX0_take 1 = .ok (.dup, 1) := by decide +kernel
theorem dX0_take_2 : decode cX0_take 2 = .ok (.getfield 18, 3) := by decide +kernel
theorem dX0_take_5 : decode cX0_take 5 = .ok (.iload_n 1, 1) := by decide +kernel
theorem dX0_take_6 : decode cX0_take 6 = .ok (.isub, 1) := by decide +kernel
theorem dX0_take_7 : decode cX0_take 7 = .ok (.putfield 18, 3) := by decide +kernel
theorem dX0_take_10 : decode cX0_take 10 = .ok (.aload_n 0, 1) := by decide +kernel
theorem dX0_take_11 : decode cX0_take 11 = .ok (.aload_n 0, 1) := by decide +kernel
theorem dX0_take_12 : decode cX0_take 12 = .ok (.getfield 21, 3) := by decide +kernel
theorem dX0_take_15 : decode cX0_take 15 = .ok (.iload_n 1, 1) := by decide +kernel
theorem dX0_take_16 : decode cX0_take 16 = .ok (.isub, 1) := by decide +kernel
theorem dX0_take_17 : decode cX0_take 17 = .ok (.iconst 0, 1) := by decide +kernel
theorem dX0_take_18 : decode cX0_take 18 = .ok (.invokestatic 38, 3) := by decide +kernel
theorem dX0_take_21 : decode cX0_take 21 = .ok (.putfield 21, 3) := by decide +kernel
theorem dX0_take_24 : decode cX0_take 24 = .ok (.return_, 1) := by decide +kernel
theorem dX1_init_0 : decode cX1_init 0 = .ok (.aload_n 0, 1) := by decide +kernel
theorem dX1_init_1 : decode cX1_init 1 = .ok (.invokespecial 3, 3) := by decide +kernel
theorem dX1_init_4 : decode cX1_init 4 = .ok (.aload_n 0, 1) := by decide +kernel
theorem dX1_init_5 : decode cX1_init 5 = .ok (.sipush 2000, 3) := by decide +kernel
theorem dX1_init_8 : decode cX1_init 8 = .ok (.putfield 9, 3) := by decide +kernel
theorem dX1_init_11 : decode cX1_init 11 = .ok (.aload_n 0, 1) := by decide +kernel
theorem dX1_init_12 : decode cX1_init 12 = .ok (.iconst 0, 1) := by decide +kernel
theorem dX1_init_13 : decode cX1_init 13 = .ok (.putfield 15, 3) := by decide +kernel
theorem dX1_init_16 : decode cX1_init 16 = .ok (.return_, 1) := by decide +kernel
theorem dX1_becomeLike_0 : decode cX1_becomeLike 0 = .ok (.aload_n 0, 1) := by decide +kernel
theorem dX1_becomeLike_1 : decode cX1_becomeLike 1 = .ok (.aload_n 1, 1) := by decide +kernel
theorem dX1_becomeLike_2 : decode cX1_becomeLike 2 = .ok (.getfield 9, 3) := by decide +kernel
theorem dX1_becomeLike_5 : decode cX1_becomeLike 5 = .ok (.putfield 9, 3) := by decide +kernel
theorem dX1_becomeLike_8 : decode cX1_becomeLike 8 = .ok (.aload_n 0, 1) := by decide +kernel
theorem dX1_becomeLike_9 : decode cX1_becomeLike 9 = .ok (.aload_n 1, 1) := by decide +kernel
theorem dX1_becomeLike_10 : decode cX1_becomeLike 10 = .ok (.getfield 18, 3) := by decide +kernel
theorem dX1_becomeLike_13 : decode cX1_becomeLike 13 = .ok (.putfield 18, 3) := by decide +kernel
theorem dX1_becomeLike_16 : decode cX1_becomeLike 16 = .ok (.aload_n 0, 1) := by decide +kernel
theorem dX1_becomeLike_17 : decode cX1_becomeLike 17 = .ok (.aload_n 1, 1) := by decide +kernel
theorem dX1_becomeLike_18 : decode cX1_becomeLike 18 = .ok (.getfield 15, 3) := by decide +kernel
theorem dX1_becomeLike_21 : decode cX1_becomeLike 21 = .ok (.putfield 15, 3) := by decide +kernel
theorem dX1_becomeLike_24 : decode cX1_becomeLike 24 = .ok (.aload_n 0, 1) := by decide +kernel
theorem dX1_becomeLike_25 : decode cX1_becomeLike 25 = .ok (.aload_n 1, 1) := by decide +kernel
theorem dX1_becomeLike_26 : decode cX1_becomeLike 26 = .ok (.getfield 22, 3) := by decide +kernel
theorem dX1_becomeLike_29 : decode cX1_becomeLike 29 = .ok (.putfield 22, 3) := by decide +kernel
theorem dX1_becomeLike_32 : decode cX1_becomeLike 32 = .ok (.aload_n 0, 1) := by decide +kernel
theorem dX1_becomeLike_33 : decode cX1_becomeLike 33 = .ok (.aload_n 1, 1) := by decide +kernel
theorem dX1_becomeLike_34 : decode cX1_becomeLike 34 = .ok (.getfield 26, 3) := by decide +kernel
theorem dX1_becomeLike_37 : decode cX1_becomeLike 37 = .ok (.putfield 26, 3) := by decide +kernel
theorem dX1_becomeLike_40 : decode cX1_becomeLike 40 = .ok (.aload_n 0, 1) := by decide +kernel
theorem dX1_becomeLike_41 : decode cX1_becomeLike 41 = .ok (.aload_n 1, 1) := by decide +kernel
theorem dX1_becomeLike_42 : decode cX1_becomeLike 42 = .ok (.getfield 29, 3) := by decide +kernel
theorem dX1_becomeLike_45 : decode cX1_becomeLike 45 = .ok (.putfield 29, 3) := by decide +kernel
theorem dX1_becomeLike_48 : decode cX1_becomeLike 48 = .ok (.aload_n 0, 1) := by decide +kernel
theorem dX1_becomeLike_49 : decode cX1_becomeLike 49 = .ok (.aload_n 1, 1) := by decide +kernel
theorem dX1_becomeLike_50 : decode cX1_becomeLike 50 = .ok (.getfield 32, 3) := by decide +kernel
theorem dX1_becomeLike_53 : decode cX1_becomeLike 53 = .ok (.putfield 32, 3) := by decide +kernel
theorem dX1_becomeLike_56 : decode cX1_becomeLike 56 = .ok (.return_, 1) := by decide +kernel
set_option maxRecDepth 20000 in
theorem ggX1_concentration_X6_value : GoodIn wsX1_concentration wsX6_value := goodIn_r _ [7, 8, 9, 10, 11, 21] (by decide +kernel) (by decide +kernel)
set_option maxRecDepth 20000 in
theorem gX1_concentration_X6_value : GoodIn wsX1_concentration (wsV RX1 37 RX6 yX6_value wsX6_value) := goodIn_app (goodIn_of _ (by decide +kernel)) ggX1_concentration_X6_value
set_option maxRecDepth 20000 in
theorem ggX1_concentration_X9_quotient : GoodIn wsX1_concentration wsX9_quotient := goodIn_r _ [13] (by decide +kernel) (by decide +kernel)
set_option maxRecDepth 20000 in
theorem gX1_concentration_X9_quotient_n43 : GoodIn wsX1_concentration (wsX9_quotient) := ggX1_concentration_X9_quotient
theorem dX1_concentration_0 : decode cX1_concentration 0 = .ok (.aload_n 0, 1) := by decide +kernel
theorem dX1_concentration_1 : decode cX1_concentration 1 = .ok (.getfield 18, 3) := by decide +kernel
theorem dX1_concentration_4 : decode cX1_concentration 4 = .ok (.ldc2_w 35, 3) := by decide +kernel
theorem dX1_concentration_7 : decode cX1_concentration 7 = .ok (.aload_n 1, 1) := by decide +kernel
theorem dX1_concentration_8 : decode cX1_concentration 8 = .ok (.iconst 1, 1) := by decide +kernel
theorem dX1_concentration_9 : decode cX1_concentration 9 = .ok (.invokevirtual 37, 3) := by decide +kernel
theorem dX1_concentration_12 : decode cX1_concentration 12 = .ok (.i2l, 1) := by decide +kernel
theorem dX1_concentration_13 : decode cX1_concentration 13 = .ok (.lmul, 1) := by decide +kernel
theorem dX1_concentration_14 : decode cX1_concentration 14 = .ok (.invokestatic 43, 3) := by decide +kernel
theorem dX1_concentration_17 : decode cX1_concentration 17 = .ok (.lreturn, 1) := by decide +kernel
set_option maxRecDepth 20000 in
theorem ggX1_setVentMode_X1_keepToMode : GoodIn wsX1_setVentMode wsX1_keepToMode := goodIn_r _ [6, 1, 7, 8, 9, 5, 10, 11, 12, 13, 14, 15, 16, 17, 18, 19, 20, 21, 22, 23] (by decide +kernel) (by decide +kernel)
set_option maxRecDepth 20000 in
theorem gX1_setVentMode_X1_keepToMode : GoodIn wsX1_setVentMode (wsV RX1 47 RX1 yX1_keepToMode wsX1_keepToMode) := goodIn_app (goodIn_of _ (by decide +kernel)) ggX1_setVentMode_X1_keepToMode
theorem dX1_setVentMode_0 : decode cX1_setVentMode 0 = .ok (.aload_n 0, 1) := by decide +kernel
theorem dX1_setVentMode_1 : decode cX1_setVentMode 1 = .ok (.iload_n 1, 1) := by decide +kernel
theorem dX1_setVentMode_2 : decode cX1_setVentMode 2 = .ok (.putfield 15, 3) := by decide +kernel
theorem dX1_setVentMode_5 : decode cX1_setVentMode 5 = .ok (.aload_n 0, 1) := by decide +kernel
theorem dX1_setVentMode_6 : decode cX1_setVentMode 6 = .ok (.invokevirtual 47, 3) := by decide +kernel
theorem dX1_setVentMode_9 : decode cX1_setVentMode 9 = .ok (.return_, 1) := by decide +kernel
set_option maxRecDepth 20000 in
theorem ggX1_keepToMode_X1_openVent : GoodIn wsX1_keepToMode wsX1_openVent := goodIn_r _ [6, 7, 13, 14, 15, 16, 17, 18, 19] (by decide +kernel) (by decide +kernel)
set_option maxRecDepth 20000 in
theorem gX1_keepToMode_X1_openVent : GoodIn wsX1_keepToMode (wsV RX1 50 RX1 yX1_openVent wsX1_openVent) := goodIn_app (goodIn_of _ (by decide +kernel)) ggX1_keepToMode_X1_openVent
set_option maxRecDepth 20000 in
theorem ggX1_keepToMode_X1_shutVent : GoodIn wsX1_keepToMode wsX1_shutVent := goodIn_r _ [11, 7, 12, 13, 14, 15, 16, 17, 18, 19] (by decide +kernel) (by decide +kernel)
set_option maxRecDepth 20000 in
theorem gX1_keepToMode_X1_shutVent : GoodIn wsX1_keepToMode (wsV RX1 53 RX1 yX1_shutVent wsX1_shutVent) := goodIn_app (goodIn_of _ (by decide +kernel)) ggX1_keepToMode_X1_shutVent
theorem dX1_keepToMode_0 : decode cX1_keepToMode 0 = .ok (.aload_n 0, 1) := by decide +kernel
theorem dX1_keepToMode_1 : decode cX1_keepToMode 1 = .ok (.getfield 15, 3) := by decide +kernel
theorem dX1_keepToMode_4 : decode cX1_keepToMode 4 = .ok (.iconst 2, 1) := by decide +kernel
theorem dX1_keepToMode_5 : decode cX1_keepToMode 5 = .ok (.if_icmp .ne 10, 3) := by decide +kernel
theorem dX1_keepToMode_8 : decode cX1_keepToMode 8 = .ok (.aload_n 0, 1) := by decide +kernel
theorem dX1_keepToMode_9 : decode cX1_keepToMode 9 = .ok (.invokevirtual 50, 3) := by decide +kernel
theorem dX1_keepToMode_12 : decode cX1_keepToMode 12 = .ok (.goto 15, 3) := by decide +kernel
theorem dX1_keepToMode_15 : decode cX1_keepToMode 15 = .ok (.aload_n 0, 1) := by decide +kernel
theorem dX1_keepToMode_16 : decode cX1_keepToMode 16 = .ok (.getfield 15, 3) := by decide +kernel
theorem dX1_keepToMode_19 : decode cX1_keepToMode 19 = .ok (.iconst 1, 1) := by decide +kernel
theorem dX1_keepToMode_20 : decode cX1_keepToMode 20 = .ok (.if_icmp .ne 7, 3) := by decide +kernel
theorem dX1_keepToMode_23 : decode cX1_keepToMode 23 = .ok (.aload_n 0, 1) := by decide +kernel
theorem dX1_keepToMode_24 : decode cX1_keepToMode 24 = .ok (.invokevirtual 53, 3) := by decide +kernel
theorem dX1_keepToMode_27 : decode cX1_keepToMode 27 = .ok (.return_, 1) := by decide +kernel
theorem dX1_openVent_0 : decode cX1_openVent 0 = .ok (.aload_n 0, 1) := by decide +kernel
theorem dX1_openVent_1 : decode cX1_openVent 1 = .ok (.iconst 1, 1) := by decide +kernel
theorem dX1_openVent_2 : decode cX1_openVent 2 = .ok (.putfield 22, 3) := by decide +kernel
theorem dX1_openVent_5 : decode cX1_openVent 5 = .ok (.return_, 1) := by decide +kernel
theorem dX1_shutVent_0 : decode cX1_shutVent 0 = .ok (.aload_n 0, 1) := by decide +kernel
theorem dX1_shutVent_1 : decode cX1_shutVent 1 = .ok (.iconst 0, 1) := by decide +kernel
theorem dX1_shutVent_2 : decode cX1_shutVent 2 = .ok (.putfield 22, 3) := by decide +kernel
theorem dX1_shutVent_5 : decode cX1_shutVent 5 = .ok (.aload_n 0, 1) := by decide +kernel
theorem dX1_shutVent_6 : decode cX1_shutVent 6 = .ok (.iconst 0, 1) := by decide +kernel
theorem dX1_shutVent_7 : decode cX1_shutVent 7 = .ok (.putfield 26, 3) := by decide +kernel
theorem dX1_shutVent_10 : decode cX1_shutVent 10 = .ok (.return_, 1) := by decide +kernel
set_option maxRecDepth 20000 in
theorem ggX1_letMinutePass_X1_changeTemperature : GoodIn wsX1_letMinutePass wsX1_changeTemperature := goodIn_r _ [8, 9, 10, 2, 11, 12, 13, 14, 15, 16, 17, 18, 19, 20, 21, 22, 23, 24, 25, 26, 27, 28, 57, 58, 59, 60, 61, 62, 63, 64] (by decide +kernel) (by decide +kernel)
set_option maxRecDepth 20000 in
theorem gX1_letMinutePass_X1_changeTemperature : GoodIn wsX1_letMinutePass (wsV RX1 56 RX1 yX1_changeTemperature wsX1_changeTemperature) := goodIn_app (goodIn_of _ (by decide +kernel)) ggX1_letMinutePass_X1_changeTemperature
set_option maxRecDepth 20000 in
theorem ggX1_letMinutePass_X1_loseGas : GoodIn wsX1_letMinutePass wsX1_loseGas := goodIn_r _ [32, 1, 33, 10, 2, 18, 19, 20, 21, 22, 23, 24, 25, 26, 57, 58, 59, 60, 61, 62, 63, 64] (by decide +kernel) (by decide +kernel)
set_option maxRecDepth 20000 in
theorem gX1_letMinutePass_X1_loseGas : GoodIn wsX1_letMinutePass (wsV RX1 60 RX1 yX1_loseGas wsX1_loseGas) := goodIn_app (goodIn_of _ (by decide +kernel)) ggX1_letMinutePass_X1_loseGas
set_option maxRecDepth 20000 in
theorem ggX1_letMinutePass_X1_concentration : GoodIn wsX1_letMinutePass wsX1_concentration := goodIn_r _ [37, 1, 38, 18, 19, 20, 21, 22, 23, 24, 25, 26, 27, 28, 57, 58, 59, 60, 61, 62, 63, 64] (by decide +kernel) (by decide +kernel)
set_option maxRecDepth 20000 in
theorem gX1_letMinutePass_X1_concentration : GoodIn wsX1_letMinutePass (wsV RX1 64 RX1 yX1_concentration wsX1_concentration) := goodIn_app (goodIn_of _ (by decide +kernel)) ggX1_letMinutePass_X1_concentration
set_option maxRecDepth 20000 in
theorem ggX1_letMinutePass_X1_moveVent : GoodIn wsX1_letMinutePass wsX1_moveVent := goodIn_r _ [42, 43, 10, 44, 45, 46, 47, 7, 48, 49, 50, 51, 52, 53, 54, 55, 56, 18, 19, 20, 21, 22, 23, 24, 25, 26, 57, 58, 59, 60, 61, 62, 63, 64] (by decide +kernel) (by decide +kernel)
set_option maxRecDepth 20000 in
theorem gX1_letMinutePass_X1_moveVent : GoodIn wsX1_letMinutePass (wsV RX1 68 RX1 yX1_moveVent wsX1_moveVent) := goodIn_app (goodIn_of _ (by decide +kernel)) ggX1_letMinutePass_X1_moveVent
set_option maxRecDepth 20000 in
theorem ggX1_letMinutePass_X6_value : GoodIn wsX1_letMinutePass wsX6_value := goodIn_r _ [22, 23, 24, 25, 26, 64] (by decide +kernel) (by decide +kernel)
set_option maxRecDepth 20000 in
theorem gX1_letMinutePass_X6_value : GoodIn wsX1_letMinutePass (wsV RX1 37 RX6 yX6_value wsX6_value) := goodIn_app (goodIn_of _ (by decide +kernel)) ggX1_letMinutePass_X6_value
theorem dX1_letMinutePass_0 : decode cX1_letMinutePass 0 = .ok (.aload_n 0, 1) := by decide +kernel
theorem dX1_letMinutePass_1 : decode cX1_letMinutePass 1 = .ok (.dup, 1) := by decide +kernel
theorem dX1_letMinutePass_2 : decode cX1_letMinutePass 2 = .ok (.getfield 18, 3) := by decide +kernel
theorem dX1_letMinutePass_5 : decode cX1_letMinutePass 5 = .ok (.iload_n 1, 1) := by decide +kernel
theorem dX1_letMinutePass_6 : decode cX1_letMinutePass 6 = .ok (.i2l, 1) := by decide +kernel
theorem dX1_letMinutePass_7 : decode cX1_letMinutePass 7 = .ok (.ladd, 1) := by decide +kernel
theorem dX1_letMinutePass_8 : decode cX1_letMinutePass 8 = .ok (.putfield 18, 3) := by decide +kernel
theorem dX1_letMinutePass_11 : decode cX1_letMinutePass 11 = .ok (.aload_n 0, 1) := by decide +kernel
theorem dX1_letMinutePass_12 : decode cX1_letMinutePass 12 = .ok (.iload_n 1, 1) := by decide +kernel
theorem dX1_letMinutePass_13 : decode cX1_letMinutePass 13 = .ok (.iload_n 2, 1) := by decide +kernel
theorem dX1_letMinutePass_14 : decode cX1_letMinutePass 14 = .ok (.aload_n 3, 1) := by decide +kernel
theorem dX1_letMinutePass_15 : decode cX1_letMinutePass 15 = .ok (.invokevirtual 56, 3) := by decide +kernel
theorem dX1_letMinutePass_18 : decode cX1_letMinutePass 18 = .ok (.aload_n 0, 1) := by decide +kernel
theorem dX1_letMinutePass_19 : decode cX1_letMinutePass 19 = .ok (.aload_n 3, 1) := by decide +kernel
theorem dX1_letMinutePass_20 : decode cX1_letMinutePass 20 = .ok (.invokevirtual 60, 3) := by decide +kernel
theorem dX1_letMinutePass_23 : decode cX1_letMinutePass 23 = .ok (.aload_n 0, 1) := by decide +kernel
theorem dX1_letMinutePass_24 : decode cX1_letMinutePass 24 = .ok (.aload_n 3, 1) := by decide +kernel
theorem dX1_letMinutePass_25 : decode cX1_letMinutePass 25 = .ok (.invokevirtual 64, 3) := by decide +kernel
theorem dX1_letMinutePass_28 : decode cX1_letMinutePass 28 = .ok (.lstore 4, 2) := by decide +kernel
theorem dX1_letMinutePass_30 : decode cX1_letMinutePass 30 = .ok (.aload_n 0, 1) := by decide +kernel
theorem dX1_letMinutePass_31 : decode cX1_letMinutePass 31 = .ok (.lload 4, 2) := by decide +kernel
theorem dX1_letMinutePass_33 : decode cX1_letMinutePass 33 = .ok (.aload_n 3, 1) := by decide +kernel
theorem dX1_letMinutePass_34 : decode cX1_letMinutePass 34 = .ok (.invokevirtual 68, 3) := by decide +kernel
theorem dX1_letMinutePass_37 : decode cX1_letMinutePass 37 = .ok (.aload_n 0, 1) := by decide +kernel
theorem dX1_letMinutePass_38 : decode cX1_letMinutePass 38 = .ok (.getfield 29, 3) := by decide +kernel
theorem dX1_letMinutePass_41 : decode cX1_letMinutePass 41 = .ok (.ifCond .eq 26, 3) := by decide +kernel
theorem dX1_letMinutePass_44 : decode cX1_letMinutePass 44 = .ok (.lload 4, 2) := by decide +kernel
theorem dX1_letMinutePass_46 : decode cX1_letMinutePass 46 = .ok (.aload_n 3, 1) := by decide +kernel
theorem dX1_letMinutePass_47 : decode cX1_letMinutePass 47 = .ok (.bipush 8, 2) := by decide +kernel
theorem dX1_letMinutePass_49 : decode cX1_letMinutePass 49 = .ok (.invokevirtual 37, 3) := by decide +kernel
theorem dX1_letMinutePass_52 : decode cX1_letMinutePass 52 = .ok (.i2l, 1) := by decide +kernel
theorem dX1_letMinutePass_53 : decode cX1_letMinutePass 53 = .ok (.lcmp, 1) := by decide +kernel
theorem dX1_letMinutePass_54 : decode cX1_letMinutePass 54 = .ok (.ifCond .lt 13, 3) := by decide +kernel
theorem dX1_letMinutePass_57 : decode cX1_letMinutePass 57 = .ok (.aload_n 0, 1) := by decide +kernel
theorem dX1_letMinutePass_58 : decode cX1_letMinutePass 58 = .ok (.dup, 1) := by decide +kernel
theorem dX1_letMinutePass_59 : decode cX1_letMinutePass 59 = .ok (.getfield 32, 3) := by decide +kernel
theorem dX1_letMinutePass_62 : decode cX1_letMinutePass 62 = .ok (.iconst 1, 1) := by decide +kernel
theorem dX1_letMinutePass_63 : decode cX1_letMinutePass 63 = .ok (.iadd, 1) := by decide +kernel
theorem dX1_letMinutePass_64 : decode cX1_letMinutePass 64 = .ok (.putfield 32, 3) := by decide +kernel
theorem dX1_letMinutePass_67 : decode cX1_letMinutePass 67 = .ok (.return_, 1) := by decide +kernel
set_option maxRecDepth 20000 in
theorem ggX1_changeTemperature_X6_value : GoodIn wsX1_changeTemperature wsX6_value := goodIn_r _ [15, 16, 17, 18, 19, 29] (by decide +kernel) (by decide +kernel)
set_option maxRecDepth 20000 in
theorem gX1_changeTemperature_X6_value : GoodIn wsX1_changeTemperature (wsV RX1 37 RX6 yX6_value wsX6_value) := goodIn_app (goodIn_of _ (by decide +kernel)) ggX1_changeTemperature_X6_value
set_option maxRecDepth 20000 in
theorem ggX1_changeTemperature_X9_quotient : GoodIn wsX1_changeTemperature wsX9_quotient := goodIn_r _ [21] (by decide +kernel) (by decide +kernel)
set_option maxRecDepth 20000 in
theorem gX1_changeTemperature_X9_quotient_n43 : GoodIn wsX1_changeTemperature (wsX9_quotient) := ggX1_changeTemperature_X9_quotient
theorem dX1_changeTemperature_0 : decode cX1_changeTemperature 0 = .ok (.aload_n 3, 1) := by decide +kernel
theorem dX1_changeTemperature_1 : decode cX1_changeTemperature 1 = .ok (.bipush 9, 2) := by decide +kernel
theorem dX1_changeTemperature_3 : decode cX1_changeTemperature 3 = .ok (.invokevirtual 37, 3) := by decide +kernel
theorem dX1_changeTemperature_6 : decode cX1_changeTemperature 6 = .ok (.istore 4, 2) := by decide +kernel
theorem dX1_changeTemperature_8 : decode cX1_changeTemperature 8 = .ok (.aload_n 0, 1) := by decide +kernel
theorem dX1_changeTemperature_9 : decode cX1_changeTemperature 9 = .ok (.dup, 1) := by decide +kernel
theorem dX1_changeTemperature_10 : decode cX1_changeTemperature 10 = .ok (.getfield 9, 3) := by decide +kernel
theorem dX1_changeTemperature_13 : decode cX1_changeTemperature 13 = .ok (.iload_n 2, 1) := by decide +kernel
theorem dX1_changeTemperature_14 : decode cX1_changeTemperature 14 = .ok (.aload_n 0, 1) := by decide +kernel
theorem dX1_changeTemperature_15 : decode cX1_changeTemperature 15 = .ok (.getfield 9, 3) := by decide +kernel
theorem dX1_changeTemperature_18 : decode cX1_changeTemperature 18 = .ok (.isub, 1) := by decide +kernel
theorem dX1_changeTemperature_19 : decode cX1_changeTemperature 19 = .ok (.i2l, 1) := by decide +kernel
theorem dX1_changeTemperature_20 : decode cX1_changeTemperature 20 = .ok (.iload 4, 2) := by decide +kernel
theorem dX1_changeTemperature_22 : decode cX1_changeTemperature 22 = .ok (.i2l, 1) := by decide +kernel
theorem dX1_changeTemperature_23 : decode cX1_changeTemperature 23 = .ok (.invokestatic 43, 3) := by decide +kernel
theorem dX1_changeTemperature_26 : decode cX1_changeTemperature 26 = .ok (.l2i, 1) := by decide +kernel
theorem dX1_changeTemperature_27 : decode cX1_changeTemperature 27 = .ok (.iadd, 1) := by decide +kernel
theorem dX1_changeTemperature_28 : decode cX1_changeTemperature 28 = .ok (.putfield 9, 3) := by decide +kernel
theorem dX1_changeTemperature_31 : decode cX1_changeTemperature 31 = .ok (.aload_n 0, 1) := by decide +kernel
theorem dX1_changeTemperature_32 : decode cX1_changeTemperature 32 = .ok (.getfield 22, 3) := by decide +kernel
theorem dX1_changeTemperature_35 : decode cX1_changeTemperature 35 = .ok (.ifCond .eq 26, 3) := by decide +kernel
theorem dX1_changeTemperature_38 : decode cX1_changeTemperature 38 = .ok (.aload_n 0, 1) := by decide +kernel
theorem dX1_changeTemperature_39 : decode cX1_changeTemperature 39 = .ok (.dup, 1) := by decide +kernel
theorem dX1_changeTemperature_40 : decode cX1_changeTemperature 40 = .ok (.getfield 9, 3) := by decide +kernel
theorem dX1_changeTemperature_43 : decode cX1_changeTemperature 43 = .ok (.iload_n 2, 1) := by decide +kernel
theorem dX1_changeTemperature_44 : decode cX1_changeTemperature 44 = .ok (.aload_n 0, 1) := by decide +kernel
theorem dX1_changeTemperature_45 : decode cX1_changeTemperature 45 = .ok (.getfield 9, 3) := by decide +kernel
theorem dX1_changeTemperature_48 : decode cX1_changeTemperature 48 = .ok (.isub, 1) := by decide +kernel
theorem dX1_changeTemperature_49 : decode cX1_changeTemperature 49 = .ok (.i2l, 1) := by decide +kernel
theorem dX1_changeTemperature_50 : decode cX1_changeTemperature 50 = .ok (.iload 4, 2) := by decide +kernel
theorem dX1_changeTemperature_52 : decode cX1_changeTemperature 52 = .ok (.i2l, 1) := by decide +kernel
theorem dX1_changeTemperature_53 : decode cX1_changeTemperature 53 = .ok (.invokestatic 43, 3) := by decide +kernel
theorem dX1_changeTemperature_56 : decode cX1_changeTemperature 56 = .ok (.l2i, 1) := by decide +kernel
theorem dX1_changeTemperature_57 : decode cX1_changeTemperature 57 = .ok (.iadd, 1) := by decide +kernel
theorem dX1_changeTemperature_58 : decode cX1_changeTemperature 58 = .ok (.putfield 9, 3) := by decide +kernel
theorem dX1_changeTemperature_61 : decode cX1_changeTemperature 61 = .ok (.aload_n 0, 1) := by decide +kernel
theorem dX1_changeTemperature_62 : decode cX1_changeTemperature 62 = .ok (.getfield 29, 3) := by decide +kernel
theorem dX1_changeTemperature_65 : decode cX1_changeTemperature 65 = .ok (.ifCond .eq 20, 3) := by decide +kernel
theorem dX1_changeTemperature_68 : decode cX1_changeTemperature 68 = .ok (.aload_n 0, 1) := by decide +kernel
theorem dX1_changeTemperature_69 : decode cX1_changeTemperature 69 = .ok (.dup, 1) := by decide +kernel
theorem dX1_changeTemperature_70 : decode cX1_changeTemperature 70 = .ok (.getfield 9, 3) := by decide +kernel
theorem dX1_changeTemperature_73 : decode cX1_changeTemperature 73 = .ok (.iload_n 2, 1) := by decide +kernel
theorem dX1_changeTemperature_74 : decode cX1_changeTemperature 74 = .ok (.aload_n 0, 1) := by decide +kernel
theorem dX1_changeTemperature_75 : decode cX1_changeTemperature 75 = .ok (.getfield 9, 3) := by decide +kernel
theorem dX1_changeTemperature_78 : decode cX1_changeTemperature 78 = .ok (.isub, 1) := by decide +kernel
theorem dX1_changeTemperature_79 : decode cX1_changeTemperature 79 = .ok (.iconst 4, 1) := by decide +kernel
theorem dX1_changeTemperature_80 : decode cX1_changeTemperature 80 = .ok (.idiv, 1) := by decide +kernel
theorem dX1_changeTemperature_81 : decode cX1_changeTemperature 81 = .ok (.iadd, 1) := by decide +kernel
theorem dX1_changeTemperature_82 : decode cX1_changeTemperature 82 = .ok (.putfield 9, 3) := by decide +kernel
theorem dX1_changeTemperature_85 : decode cX1_changeTemperature 85 = .ok (.aload_n 0, 1) := by decide +kernel
theorem dX1_changeTemperature_86 : decode cX1_changeTemperature 86 = .ok (.getfield 9, 3) := by decide +kernel
theorem dX1_changeTemperature_89 : decode cX1_changeTemperature 89 = .ok (.iload_n 1, 1) := by decide +kernel
theorem dX1_changeTemperature_90 : decode cX1_changeTemperature 90 = .ok (.i2l, 1) := by decide +kernel
theorem dX1_changeTemperature_91 : decode cX1_changeTemperature 91 = .ok (.aload_n 3, 1) := by decide +kernel
theorem dX1_changeTemperature_92 : decode cX1_changeTemperature 92 = .ok (.bipush 10, 2) := by decide +kernel
theorem dX1_changeTemperature_94 : decode cX1_changeTemperature 94 = .ok (.invokevirtual 37, 3) := by decide +kernel
theorem dX1_changeTemperature_97 : decode cX1_changeTemperature 97 = .ok (.i2l, 1) := by decide +kernel
theorem dX1_changeTemperature_98 : decode cX1_changeTemperature 98 = .ok (.invokestatic 43, 3) := by decide +kernel
theorem dX1_changeTemperature_101 : decode cX1_changeTemperature 101 = .ok (.l2i, 1) := by decide +kernel
theorem dX1_changeTemperature_102 : decode cX1_changeTemperature 102 = .ok (.isub, 1) := by decide +kernel
theorem dX1_changeTemperature_103 : decode cX1_changeTemperature 103 = .ok (.istore 5, 2) := by decide +kernel
theorem dX1_changeTemperature_105 : decode cX1_changeTemperature 105 = .ok (.aload_n 0, 1) := by decide +kernel
theorem dX1_changeTemperature_106 : decode cX1_changeTemperature 106 = .ok (.iload 5, 2) := by decide +kernel
theorem dX1_changeTemperature_108 : decode cX1_changeTemperature 108 = .ok (.aload_n 0, 1) := by decide +kernel
theorem dX1_changeTemperature_109 : decode cX1_changeTemperature 109 = .ok (.getfield 9, 3) := by decide +kernel
theorem dX1_changeTemperature_112 : decode cX1_changeTemperature 112 = .ok (.sipush (-7900), 3) := by decide +kernel
theorem dX1_changeTemperature_115 : decode cX1_changeTemperature 115 = .ok (.invokestatic 72, 3) := by decide +kernel
theorem dX1_changeTemperature_118 : decode cX1_changeTemperature 118 = .ok (.invokestatic 78, 3) := by decide +kernel
theorem dX1_changeTemperature_121 : decode cX1_changeTemperature 121 = .ok (.putfield 9, 3) := by decide +kernel
theorem dX1_changeTemperature_124 : decode cX1_changeTemperature 124 = .ok (.return_, 1) := by decide +kernel
set_option maxRecDepth 20000 in
theorem ggX1_loseGas_X6_value : GoodIn wsX1_loseGas wsX6_value := goodIn_r _ [9, 10, 11, 12, 13, 21] (by decide +kernel) (by decide +kernel)
set_option maxRecDepth 20000 in
theorem gX1_loseGas_X6_value : GoodIn wsX1_loseGas (wsV RX1 37 RX6 yX6_value wsX6_value) := goodIn_app (goodIn_of _ (by decide +kernel)) ggX1_loseGas_X6_value
theorem dX1_loseGas_0 : decode cX1_loseGas 0 = .ok (.aload_n 0, 1) := by decide +kernel
theorem dX1_loseGas_1 : decode cX1_loseGas 1 = .ok (.dup, 1) := by decide +kernel
theorem dX1_loseGas_2 : decode cX1_loseGas 2 = .ok (.getfield 18, 3) := by decide +kernel
theorem dX1_loseGas_5 : decode cX1_loseGas 5 = .ok (.aload_n 0, 1) := by decide +kernel
theorem dX1_loseGas_6 : decode cX1_loseGas 6 = .ok (.getfield 18, 3) := by decide +kernel
theorem dX1_loseGas_9 : decode cX1_loseGas 9 = .ok (.aload_n 1, 1) := by decide +kernel
theorem dX1_loseGas_10 : decode cX1_loseGas 10 = .ok (.iconst 3, 1) := by decide +kernel
theorem dX1_loseGas_11 : decode cX1_loseGas 11 = .ok (.invokevirtual 37, 3) := by decide +kernel
theorem dX1_loseGas_14 : decode cX1_loseGas 14 = .ok (.i2l, 1) := by decide +kernel
theorem dX1_loseGas_15 : decode cX1_loseGas 15 = .ok (.lmul, 1) := by decide +kernel
theorem dX1_loseGas_16 : decode cX1_loseGas 16 = .ok (.ldc2_w 81, 3) := by decide +kernel
theorem dX1_loseGas_19 : decode cX1_loseGas 19 = .ok (.ldiv, 1) := by decide +kernel
theorem dX1_loseGas_20 : decode cX1_loseGas 20 = .ok (.lsub, 1) := by decide +kernel
theorem dX1_loseGas_21 : decode cX1_loseGas 21 = .ok (.putfield 18, 3) := by decide +kernel
theorem dX1_loseGas_24 : decode cX1_loseGas 24 = .ok (.aload_n 0, 1) := by decide +kernel
theorem dX1_loseGas_25 : decode cX1_loseGas 25 = .ok (.getfield 22, 3) := by decide +kernel
theorem dX1_loseGas_28 : decode cX1_loseGas 28 = .ok (.ifCond .eq 27, 3) := by decide +kernel
theorem dX1_loseGas_31 : decode cX1_loseGas 31 = .ok (.aload_n 0, 1) := by decide +kernel
theorem dX1_loseGas_32 : decode cX1_loseGas 32 = .ok (.dup, 1) := by decide +kernel
theorem dX1_loseGas_33 : decode cX1_loseGas 33 = .ok (.getfield 18, 3) := by decide +kernel
theorem dX1_loseGas_36 : decode cX1_loseGas 36 = .ok (.aload_n 0, 1) := by decide +kernel
theorem dX1_loseGas_37 : decode cX1_loseGas 37 = .ok (.getfield 18, 3) := by decide +kernel
theorem dX1_loseGas_40 : decode cX1_loseGas 40 = .ok (.aload_n 1, 1) := by decide +kernel
theorem dX1_loseGas_41 : decode cX1_loseGas 41 = .ok (.iconst 2, 1) := by decide +kernel
theorem dX1_loseGas_42 : decode cX1_loseGas 42 = .ok (.invokevirtual 37, 3) := by decide +kernel
theorem dX1_loseGas_45 : decode cX1_loseGas 45 = .ok (.i2l, 1) := by decide +kernel
theorem dX1_loseGas_46 : decode cX1_loseGas 46 = .ok (.lmul, 1) := by decide +kernel
theorem dX1_loseGas_47 : decode cX1_loseGas 47 = .ok (.ldc2_w 81, 3) := by decide +kernel
theorem dX1_loseGas_50 : decode cX1_loseGas 50 = .ok (.ldiv, 1) := by decide +kernel
theorem dX1_loseGas_51 : decode cX1_loseGas 51 = .ok (.lsub, 1) := by decide +kernel
theorem dX1_loseGas_52 : decode cX1_loseGas 52 = .ok (.putfield 18, 3) := by decide +kernel
theorem dX1_loseGas_55 : decode cX1_loseGas 55 = .ok (.aload_n 0, 1) := by decide +kernel
theorem dX1_loseGas_56 : decode cX1_loseGas 56 = .ok (.getfield 29, 3) := by decide +kernel
theorem dX1_loseGas_59 : decode cX1_loseGas 59 = .ok (.ifCond .eq 27, 3) := by decide +kernel
theorem dX1_loseGas_62 : decode cX1_loseGas 62 = .ok (.aload_n 0, 1) := by decide +kernel
theorem dX1_loseGas_63 : decode cX1_loseGas 63 = .ok (.dup, 1) := by decide +kernel
theorem dX1_loseGas_64 : decode cX1_loseGas 64 = .ok (.getfield 18, 3) := by decide +kernel
theorem dX1_loseGas_67 : decode cX1_loseGas 67 = .ok (.aload_n 0, 1) := by decide +kernel
theorem dX1_loseGas_68 : decode cX1_loseGas 68 = .ok (.getfield 18, 3) := by decide +kernel
theorem dX1_loseGas_71 : decode cX1_loseGas 71 = .ok (.aload_n 1, 1) := by decide +kernel
theorem dX1_loseGas_72 : decode cX1_loseGas 72 = .ok (.iconst 4, 1) := by decide +kernel
theorem dX1_loseGas_73 : decode cX1_loseGas 73 = .ok (.invokevirtual 37, 3) := by decide +kernel
theorem dX1_loseGas_76 : decode cX1_loseGas 76 = .ok (.i2l, 1) := by decide +kernel
theorem dX1_loseGas_77 : decode cX1_loseGas 77 = .ok (.lmul, 1) := by decide +kernel
theorem dX1_loseGas_78 : decode cX1_loseGas 78 = .ok (.ldc2_w 81, 3) := by decide +kernel
theorem dX1_loseGas_81 : decode cX1_loseGas 81 = .ok (.ldiv, 1) := by decide +kernel
theorem dX1_loseGas_82 : decode cX1_loseGas 82 = .ok (.lsub, 1) := by decide +kernel
theorem dX1_loseGas_83 : decode cX1_loseGas 83 = .ok (.putfield 18, 3) := by decide +kernel
theorem dX1_loseGas_86 : decode cX1_loseGas 86 = .ok (.return_, 1) := by decide +kernel
set_option maxRecDepth 20000 in
theorem ggX1_moveVent_X1_keepToMode : GoodIn wsX1_moveVent wsX1_keepToMode := goodIn_r _ [8, 1, 9, 10, 11, 7, 12, 2, 13, 14, 15, 16, 3, 26, 27, 28, 29, 30, 31, 32] (by decide +kernel) (by decide +kernel)
set_option maxRecDepth 20000 in
theorem gX1_moveVent_X1_keepToMode : GoodIn wsX1_moveVent (wsV RX1 47 RX1 yX1_keepToMode wsX1_keepToMode) := goodIn_app (goodIn_of _ (by decide +kernel)) ggX1_moveVent_X1_keepToMode
set_option maxRecDepth 20000 in
theorem ggX1_moveVent_X6_value : GoodIn wsX1_moveVent wsX6_value := goodIn_r _ [21, 22, 23, 24, 25, 33] (by decide +kernel) (by decide +kernel)
set_option maxRecDepth 20000 in
theorem gX1_moveVent_X6_value : GoodIn wsX1_moveVent (wsV RX1 37 RX6 yX6_value wsX6_value) := goodIn_app (goodIn_of _ (by decide +kernel)) ggX1_moveVent_X6_value
set_option maxRecDepth 20000 in
theorem ggX1_moveVent_X1_openVent : GoodIn wsX1_moveVent wsX1_openVent := goodIn_r _ [12, 2, 26, 27, 28, 29, 30, 31, 32] (by decide +kernel) (by decide +kernel)
set_option maxRecDepth 20000 in
theorem gX1_moveVent_X1_openVent : GoodIn wsX1_moveVent (wsV RX1 50 RX1 yX1_openVent wsX1_openVent) := goodIn_app (goodIn_of _ (by decide +kernel)) ggX1_moveVent_X1_openVent
set_option maxRecDepth 20000 in
theorem ggX1_moveVent_X1_shutVent : GoodIn wsX1_moveVent wsX1_shutVent := goodIn_r _ [16, 2, 3, 26, 27, 28, 29, 30, 31, 32] (by decide +kernel) (by decide +kernel)
set_option maxRecDepth 20000 in
theorem gX1_moveVent_X1_shutVent : GoodIn wsX1_moveVent (wsV RX1 53 RX1 yX1_shutVent wsX1_shutVent) := goodIn_app (goodIn_of _ (by decide +kernel)) ggX1_moveVent_X1_shutVent
theorem dX1_moveVent_0 : decode cX1_moveVent 0 = .ok (.aload_n 0, 1) := by decide +kernel
theorem dX1_moveVent_1 : decode cX1_moveVent 1 = .ok (.getfield 15, 3) := by decide +kernel
theorem dX1_moveVent_4 : decode cX1_moveVent 4 = .ok (.ifCond .eq 10, 3) := by decide +kernel
theorem dX1_moveVent_7 : decode cX1_moveVent 7 = .ok (.aload_n 0, 1) := by decide +kernel
theorem dX1_moveVent_8 : decode cX1_moveVent 8 = .ok (.invokevirtual 47, 3) := by decide +kernel
theorem dX1_moveVent_11 : decode cX1_moveVent 11 = .ok (.goto 67, 3) := by decide +kernel
theorem dX1_moveVent_14 : decode cX1_moveVent 14 = .ok (.aload_n 0, 1) := by decide +kernel
theorem dX1_moveVent_15 : decode cX1_moveVent 15 = .ok (.getfield 22, 3) := by decide +kernel
theorem dX1_moveVent_18 : decode cX1_moveVent 18 = .ok (.ifCond .ne 21, 3) := by decide +kernel
theorem dX1_moveVent_21 : decode cX1_moveVent 21 = .ok (.lload_n 1, 1) := by decide +kernel
theorem dX1_moveVent_22 : decode cX1_moveVent 22 = .ok (.aload_n 3, 1) := by decide +kernel
theorem dX1_moveVent_23 : decode cX1_moveVent 23 = .ok (.iconst 5, 1) := by decide +kernel
theorem dX1_moveVent_24 : decode cX1_moveVent 24 = .ok (.invokevirtual 37, 3) := by decide +kernel
theorem dX1_moveVent_27 : decode cX1_moveVent 27 = .ok (.i2l, 1) := by decide +kernel
theorem dX1_moveVent_28 : decode cX1_moveVent 28 = .ok (.lcmp, 1) := by decide +kernel
theorem dX1_moveVent_29 : decode cX1_moveVent 29 = .ok (.ifCond .lt 49, 3) := by decide +kernel
theorem dX1_moveVent_32 : decode cX1_moveVent 32 = .ok (.aload_n 0, 1) := by decide +kernel
theorem dX1_moveVent_33 : decode cX1_moveVent 33 = .ok (.invokevirtual 50, 3) := by decide +kernel
theorem dX1_moveVent_36 : decode cX1_moveVent 36 = .ok (.goto 42, 3) := by decide +kernel
theorem dX1_moveVent_39 : decode cX1_moveVent 39 = .ok (.aload_n 0, 1) := by decide +kernel
theorem dX1_moveVent_40 : decode cX1_moveVent 40 = .ok (.dup, 1) := by decide +kernel
theorem dX1_moveVent_41 : decode cX1_moveVent 41 = .ok (.getfield 26, 3) := by decide +kernel
theorem dX1_moveVent_44 : decode cX1_moveVent 44 = .ok (.iconst 1, 1) := by decide +kernel
theorem dX1_moveVent_45 : decode cX1_moveVent 45 = .ok (.iadd, 1) := by decide +kernel
theorem dX1_moveVent_46 : decode cX1_moveVent 46 = .ok (.putfield 26, 3) := by decide +kernel
theorem dX1_moveVent_49 : decode cX1_moveVent 49 = .ok (.lload_n 1, 1) := by decide +kernel
theorem dX1_moveVent_50 : decode cX1_moveVent 50 = .ok (.aload_n 3, 1) := by decide +kernel
theorem dX1_moveVent_51 : decode cX1_moveVent 51 = .ok (.bipush 6, 2) := by decide +kernel
theorem dX1_moveVent_53 : decode cX1_moveVent 53 = .ok (.invokevirtual 37, 3) := by decide +kernel
theorem dX1_moveVent_56 : decode cX1_moveVent 56 = .ok (.i2l, 1) := by decide +kernel
theorem dX1_moveVent_57 : decode cX1_moveVent 57 = .ok (.lcmp, 1) := by decide +kernel
theorem dX1_moveVent_58 : decode cX1_moveVent 58 = .ok (.ifCond .gt 20, 3) := by decide +kernel
theorem dX1_moveVent_61 : decode cX1_moveVent 61 = .ok (.aload_n 0, 1) := by decide +kernel
theorem dX1_moveVent_62 : decode cX1_moveVent 62 = .ok (.getfield 26, 3) := by decide +kernel
theorem dX1_moveVent_65 : decode cX1_moveVent 65 = .ok (.aload_n 3, 1) := by decide +kernel
theorem dX1_moveVent_66 : decode cX1_moveVent 66 = .ok (.bipush 7, 2) := by decide +kernel
theorem dX1_moveVent_68 : decode cX1_moveVent 68 = .ok (.invokevirtual 37, 3) := by decide +kernel
theorem dX1_moveVent_71 : decode cX1_moveVent 71 = .ok (.if_icmp .lt 7, 3) := by decide +kernel
theorem dX1_moveVent_74 : decode cX1_moveVent 74 = .ok (.aload_n 0, 1) := by decide +kernel
theorem dX1_moveVent_75 : decode cX1_moveVent 75 = .ok (.invokevirtual 53, 3) := by decide +kernel
theorem dX1_moveVent_78 : decode cX1_moveVent 78 = .ok (.return_, 1) := by decide +kernel
set_option maxRecDepth 20000 in
theorem ggX2_init_X0_init : GoodIn wsX2_init wsX0_init := goodIn_r _ [9, 10, 2, 3] (by decide +kernel) (by decide +kernel)
set_option maxRecDepth 20000 in
theorem gX2_init_X0_init_n17 : GoodIn wsX2_init (wsX0_init) := ggX2_init_X0_init
theorem dX2_init_0 : decode cX2_init 0 = .ok (.aload_n 0, 1) := by decide +kernel
theorem dX2_init_1 : decode cX2_init 1 = .ok (.invokespecial 3, 3) := by decide +kernel
theorem dX2_init_4 : decode cX2_init 4 = .ok (.aload_n 0, 1) := by decide +kernel
theorem dX2_init_5 : decode cX2_init 5 = .ok (.bipush 10, 2) := by decide +kernel
theorem dX2_init_7 : decode cX2_init 7 = .ok (.anewarray 9, 3) := by decide +kernel
theorem dX2_init_10 : decode cX2_init 10 = .ok (.putfield 11, 3) := by decide +kernel
theorem dX2_init_13 : decode cX2_init 13 = .ok (.iconst 0, 1) := by decide +kernel
theorem dX2_init_14 : decode cX2_init 14 = .ok (.istore_n 1, 1) := by decide +kernel
theorem dX2_init_15 : decode cX2_init 15 = .ok (.iload_n 1, 1) := by decide +kernel
theorem dX2_init_16 : decode cX2_init 16 = .ok (.bipush 10, 2) := by decide +kernel
theorem dX2_init_18 : decode cX2_init 18 = .ok (.if_icmp .ge 22, 3) := by decide +kernel
theorem dX2_init_21 : decode cX2_init 21 = .ok (.aload_n 0, 1) := by decide +kernel
theorem dX2_init_22 : decode cX2_init 22 = .ok (.getfield 11, 3) := by decide +kernel
theorem dX2_init_25 : decode cX2_init 25 = .ok (.iload_n 1, 1) := by decide +kernel
theorem dX2_init_26 : decode cX2_init 26 = .ok (.new 9, 3) := by decide +kernel
theorem dX2_init_29 : decode cX2_init 29 = .ok (.dup, 1) := by decide +kernel
theorem dX2_init_30 : decode cX2_init 30 = .ok (.invokespecial 17, 3) := by decide +kernel
theorem dX2_init_33 : decode cX2_init 33 = .ok (.aastore, 1) := by decide +kernel
theorem dX2_init_34 : decode cX2_init 34 = .ok (.iinc 1 1, 3) := by decide +kernel
theorem dX2_init_37 : decode cX2_init 37 = .ok (.goto (-22), 3) := by decide +kernel
theorem dX2_init_40 : decode cX2_init 40 = .ok (.return_, 1) := by decide +kernel
set_option maxRecDepth 20000 in
theorem ggX2_becomeLike_X0_becomeLike : GoodIn wsX2_becomeLike wsX0_becomeLike := goodIn_r _ [7, 8, 9, 10, 11, 14, 15, 16, 17] (by decide +kernel) (by decide +kernel)
set_option maxRecDepth 20000 in
theorem gX2_becomeLike_X0_becomeLike : GoodIn wsX2_becomeLike (wsV RX2 22 RX0 yX0_becomeLike wsX0_becomeLike) := goodIn_app (goodIn_of _ (by decide +kernel)) ggX2_becomeLike_X0_becomeLike
theorem dX2_becomeLike_0 : decode cX2_becomeLike 0 = .ok (.aload_n 0, 1) := by decide +kernel
theorem dX2_becomeLike_1 : decode cX2_becomeLike 1 = .ok (.aload_n 1, 1) := by decide +kernel
theorem dX2_becomeLike_2 : decode cX2_becomeLike 2 = .ok (.getfield 18, 3) := by decide +kernel
theorem dX2_becomeLike_5 : decode cX2_becomeLike 5 = .ok (.putfield 18, 3) := by decide +kernel
theorem dX2_becomeLike_8 : decode cX2_becomeLike 8 = .ok (.iconst 0, 1) := by decide +kernel
theorem dX2_becomeLike_9 : decode cX2_becomeLike 9 = .ok (.istore_n 2, 1) := by decide +kernel
theorem dX2_becomeLike_10 : decode cX2_becomeLike 10 = .ok (.iload_n 2, 1) := by decide +kernel
theorem dX2_becomeLike_11 : decode cX2_becomeLike 11 = .ok (.aload_n 0, 1) := by decide +kernel
theorem dX2_becomeLike_12 : decode cX2_becomeLike 12 = .ok (.getfield 18, 3) := by decide +kernel
theorem dX2_becomeLike_15 : decode cX2_becomeLike 15 = .ok (.if_icmp .ge 24, 3) := by decide +kernel
theorem dX2_becomeLike_18 : decode cX2_becomeLike 18 = .ok (.aload_n 0, 1) := by decide +kernel
theorem dX2_becomeLike_19 : decode cX2_becomeLike 19 = .ok (.getfield 11, 3) := by decide +kernel
theorem dX2_becomeLike_22 : decode cX2_becomeLike 22 = .ok (.iload_n 2, 1) := by decide +kernel
theorem dX2_becomeLike_23 : decode cX2_becomeLike 23 = .ok (.aaload, 1) := by decide +kernel
theorem dX2_becomeLike_24 : decode cX2_becomeLike 24 = .ok (.aload_n 1, 1) := by decide +kernel
theorem dX2_becomeLike_25 : decode cX2_becomeLike 25 = .ok (.getfield 11, 3) := by decide +kernel
theorem dX2_becomeLike_28 : decode cX2_becomeLike 28 = .ok (.iload_n 2, 1) := by decide +kernel
theorem dX2_becomeLike_29 : decode cX2_becomeLike 29 = .ok (.aaload, 1) := by decide +kernel
theorem dX2_becomeLike_30 : decode cX2_becomeLike 30 = .ok (.invokevirtual 22, 3) := by decide +kernel
theorem dX2_becomeLike_33 : decode cX2_becomeLike 33 = .ok (.iinc 2 1, 3) := by decide +kernel
theorem dX2_becomeLike_36 : decode cX2_becomeLike 36 = .ok (.goto (-26), 3) := by decide +kernel
theorem dX2_becomeLike_39 : decode cX2_becomeLike 39 = .ok (.return_, 1) := by decide +kernel
set_option maxRecDepth 20000 in
theorem ggX2_boxAt_X9_within : GoodIn wsX2_boxAt wsX9_within := goodIn_r _ [5] (by decide +kernel) (by decide +kernel)
set_option maxRecDepth 20000 in
theorem gX2_boxAt_X9_within_n26 : GoodIn wsX2_boxAt (wsX9_within) := ggX2_boxAt_X9_within
theorem dX2_boxAt_0 : decode cX2_boxAt 0 = .ok (.iload_n 1, 1) := by decide +kernel
theorem dX2_boxAt_1 : decode cX2_boxAt 1 = .ok (.iconst 0, 1) := by decide +kernel
theorem dX2_boxAt_2 : decode cX2_boxAt 2 = .ok (.aload_n 0, 1) := by decide +kernel
theorem dX2_boxAt_3 : decode cX2_boxAt 3 = .ok (.getfield 18, 3) := by decide +kernel
theorem dX2_boxAt_6 : decode cX2_boxAt 6 = .ok (.iconst 1, 1) := by decide +kernel
theorem dX2_boxAt_7 : decode cX2_boxAt 7 = .ok (.isub, 1) := by decide +kernel
theorem dX2_boxAt_8 : decode cX2_boxAt 8 = .ok (.invokestatic 26, 3) := by decide +kernel
theorem dX2_boxAt_11 : decode cX2_boxAt 11 = .ok (.ifCond .eq 12, 3) := by decide +kernel
theorem dX2_boxAt_14 : decode cX2_boxAt 14 = .ok (.aload_n 0, 1) := by decide +kernel
theorem dX2_boxAt_15 : decode cX2_boxAt 15 = .ok (.getfield 11, 3) := by decide +kernel
theorem dX2_boxAt_18 : decode cX2_boxAt 18 = .ok (.iload_n 1, 1) := by decide +kernel
theorem dX2_boxAt_19 : decode cX2_boxAt 19 = .ok (.aaload, 1) := by decide +kernel
theorem dX2_boxAt_20 : decode cX2_boxAt 20 = .ok (.goto 4, 3) := by decide +kernel
theorem dX2_boxAt_23 : decode cX2_boxAt 23 = .ok (.aconst_null, 1) := by decide +kernel
theorem dX2_boxAt_24 : decode cX2_boxAt 24 = .ok (.areturn, 1) := by decide +kernel
theorem dX2_append_0 : decode cX2_append 0 = .ok (.aload_n 0, 1) := by decide +kernel
theorem dX2_append_1 : decode cX2_append 1 = .ok (.getfield 18, 3) := by decide +kernel
theorem dX2_append_4 : decode cX2_append 4 = .ok (.bipush 10, 2) := by decide +kernel
theorem dX2_append_6 : decode cX2_append 6 = .ok (.if_icmp .lt 4, 3) := by decide +kernel
theorem dX2_append_9 : decode cX2_append 9 = .ok (.return_, 1) := by decide +kernel
theorem dX2_append_10 : decode cX2_append 10 = .ok (.aload_n 0, 1) := by decide +kernel
theorem dX2_append_11 : decode cX2_append 11 = .ok (.getfield 11, 3) := by decide +kernel
theorem dX2_append_14 : decode cX2_append 14 = .ok (.aload_n 0, 1) := by decide +kernel
theorem dX2_append_15 : decode cX2_append 15 = .ok (.getfield 18, 3) := by decide +kernel
theorem dX2_append_18 : decode cX2_append 18 = .ok (.aaload, 1) := by decide +kernel
theorem dX2_append_19 : decode cX2_append 19 = .ok (.astore 4, 2) := by decide +kernel
theorem dX2_append_21 : decode cX2_append 21 = .ok (.aload 4, 2) := by decide +kernel
theorem dX2_append_23 : decode cX2_append 23 = .ok (.iload_n 1, 1) := by decide +kernel
theorem dX2_append_24 : decode cX2_append 24 = .ok (.putfield 30, 3) := by decide +kernel
theorem dX2_append_27 : decode cX2_append 27 = .ok (.aload 4, 2) := by decide +kernel
theorem dX2_append_29 : decode cX2_append 29 = .ok (.iload_n 2, 1) := by decide +kernel
theorem dX2_append_30 : decode cX2_append 30 = .ok (.putfield 33, 3) := by decide +kernel
theorem dX2_append_33 : decode cX2_append 33 = .ok (.aload 4, 2) := by decide +kernel
theorem dX2_append_35 : decode cX2_append 35 = .ok (.iload_n 3, 1) := by decide +kernel
theorem dX2_append_36 : decode cX2_append 36 = .ok (.putfield 36, 3) := by decide +kernel
theorem dX2_append_39 : decode cX2_append 39 = .ok (.aload 4, 2) := by decide +kernel
theorem dX2_append_41 : decode cX2_append 41 = .ok (.iload_n 3, 1) := by decide +kernel
theorem dX2_append_42 : decode cX2_append 42 = .ok (.putfield 39, 3) := by decide +kernel
theorem dX2_append_45 : decode cX2_append 45 = .ok (.aload_n 0, 1) := by decide +kernel
theorem dX2_append_46 : decode cX2_append 46 = .ok (.dup, 1) := by decide +kernel
theorem dX2_append_47 : decode cX2_append 47 = .ok (.getfield 18, 3) := by decide +kernel
theorem dX2_append_50 : decode cX2_append 50 = .ok (.iconst 1, 1) := by decide +kernel
theorem dX2_append_51 : decode cX2_append 51 = .ok (.iadd, 1) := by decide +kernel
theorem dX2_append_52 : decode cX2_append 52 = .ok (.putfield 18, 3) := by decide +kernel
theorem dX2_append_55 : decode cX2_append 55 = .ok (.return_, 1) := by decide +kernel
set_option maxRecDepth 20000 in
theorem ggX2_takeOut_X9_within : GoodIn wsX2_takeOut wsX9_within := goodIn_r _ [4] (by decide +kernel) (by decide +kernel)
set_option maxRecDepth 20000 in
theorem gX2_takeOut_X9_within_n26 : GoodIn wsX2_takeOut (wsX9_within) := ggX2_takeOut_X9_within
set_option maxRecDepth 20000 in
theorem ggX2_takeOut_X2_move : GoodIn wsX2_takeOut wsX2_move := goodIn_r _ [9, 1, 10, 2, 3, 4, 11, 12] (by decide +kernel) (by decide +kernel)
set_option maxRecDepth 20000 in
theorem gX2_takeOut_X2_move : GoodIn wsX2_takeOut (wsV RX2 42 RX2 yX2_move wsX2_move) := goodIn_app (goodIn_of _ (by decide +kernel)) ggX2_takeOut_X2_move
theorem dX2_takeOut_0 : decode cX2_takeOut 0 = .ok (.iload_n 1, 1) := by decide +kernel
theorem dX2_takeOut_1 : decode cX2_takeOut 1 = .ok (.iconst 0, 1) := by decide +kernel
theorem dX2_takeOut_2 : decode cX2_takeOut 2 = .ok (.aload_n 0, 1) := by decide +kernel
theorem dX2_takeOut_3 : decode cX2_takeOut 3 = .ok (.getfield 18, 3) := by decide +kernel
theorem dX2_takeOut_6 : decode cX2_takeOut 6 = .ok (.iconst 1, 1) := by decide +kernel
theorem dX2_takeOut_7 : decode cX2_takeOut 7 = .ok (.isub, 1) := by decide +kernel
theorem dX2_takeOut_8 : decode cX2_takeOut 8 = .ok (.invokestatic 26, 3) := by decide +kernel
theorem dX2_takeOut_11 : decode cX2_takeOut 11 = .ok (.ifCond .eq 24, 3) := by decide +kernel
theorem dX2_takeOut_14 : decode cX2_takeOut 14 = .ok (.aload_n 0, 1) := by decide +kernel
theorem dX2_takeOut_15 : decode cX2_takeOut 15 = .ok (.iload_n 1, 1) := by decide +kernel
theorem dX2_takeOut_16 : decode cX2_takeOut 16 = .ok (.aload_n 0, 1) := by decide +kernel
theorem dX2_takeOut_17 : decode cX2_takeOut 17 = .ok (.getfield 18, 3) := by decide +kernel
theorem dX2_takeOut_20 : decode cX2_takeOut 20 = .ok (.iconst 1, 1) := by decide +kernel
theorem dX2_takeOut_21 : decode cX2_takeOut 21 = .ok (.isub, 1) := by decide +kernel
theorem dX2_takeOut_22 : decode cX2_takeOut 22 = .ok (.invokevirtual 42, 3) := by decide +kernel
theorem dX2_takeOut_25 : decode cX2_takeOut 25 = .ok (.aload_n 0, 1) := by decide +kernel
theorem dX2_takeOut_26 : decode cX2_takeOut 26 = .ok (.dup, 1) := by decide +kernel
theorem dX2_takeOut_27 : decode cX2_takeOut 27 = .ok (.getfield 18, 3) := by decide +kernel
theorem dX2_takeOut_30 : decode cX2_takeOut 30 = .ok (.iconst 1, 1) := by decide +kernel
theorem dX2_takeOut_31 : decode cX2_takeOut 31 = .ok (.isub, 1) := by decide +kernel
theorem dX2_takeOut_32 : decode cX2_takeOut 32 = .ok (.putfield 18, 3) := by decide +kernel
theorem dX2_takeOut_35 : decode cX2_takeOut 35 = .ok (.return_, 1) := by decide +kernel
set_option maxRecDepth 20000 in
theorem ggX2_move_X9_within : GoodIn wsX2_move wsX9_within := goodIn_r _ [5] (by decide +kernel) (by decide +kernel)
set_option maxRecDepth 20000 in
theorem gX2_move_X9_within_n26 : GoodIn wsX2_move (wsX9_within) := ggX2_move_X9_within
theorem dX2_move_0 : decode cX2_move 0 = .ok (.iload_n 1, 1) := by decide +kernel
theorem dX2_move_1 : decode cX2_move 1 = .ok (.iconst 0, 1) := by decide +kernel
theorem dX2_move_2 : decode cX2_move 2 = .ok (.aload_n 0, 1) := by decide +kernel
theorem dX2_move_3 : decode cX2_move 3 = .ok (.getfield 18, 3) := by decide +kernel
theorem dX2_move_6 : decode cX2_move 6 = .ok (.iconst 1, 1) := by decide +kernel
theorem dX2_move_7 : decode cX2_move 7 = .ok (.isub, 1) := by decide +kernel
theorem dX2_move_8 : decode cX2_move 8 = .ok (.invokestatic 26, 3) := by decide +kernel
theorem dX2_move_11 : decode cX2_move 11 = .ok (.ifCond .eq 17, 3) := by decide +kernel
theorem dX2_move_14 : decode cX2_move 14 = .ok (.iload_n 2, 1) := by decide +kernel
theorem dX2_move_15 : decode cX2_move 15 = .ok (.iconst 0, 1) := by decide +kernel
theorem dX2_move_16 : decode cX2_move 16 = .ok (.aload_n 0, 1) := by decide +kernel
theorem dX2_move_17 : decode cX2_move 17 = .ok (.getfield 18, 3) := by decide +kernel
theorem dX2_move_20 : decode cX2_move 20 = .ok (.iconst 1, 1) := by decide +kernel
theorem dX2_move_21 : decode cX2_move 21 = .ok (.isub, 1) := by decide +kernel
theorem dX2_move_22 : decode cX2_move 22 = .ok (.invokestatic 26, 3) := by decide +kernel
theorem dX2_move_25 : decode cX2_move 25 = .ok (.ifCond .ne 4, 3) := by decide +kernel
theorem dX2_move_28 : decode cX2_move 28 = .ok (.return_, 1) := by decide +kernel
theorem dX2_move_29 : decode cX2_move 29 = .ok (.aload_n 0, 1) := by decide +kernel
theorem dX2_move_30 : decode cX2_move 30 = .ok (.getfield 11, 3) := by decide +kernel
theorem dX2_move_33 : decode cX2_move 33 = .ok (.iload_n 1, 1) := by decide +kernel
theorem dX2_move_34 : decode cX2_move 34 = .ok (.aaload, 1) := by decide +kernel
theorem dX2_move_35 : decode cX2_move 35 = .ok (.astore_n 3, 1) := by decide +kernel
theorem dX2_move_36 : decode cX2_move 36 = .ok (.iload_n 1, 1) := by decide +kernel
theorem dX2_move_37 : decode cX2_move 37 = .ok (.istore 4, 2) := by decide +kernel
theorem dX2_move_39 : decode cX2_move 39 = .ok (.iload 4, 2) := by decide +kernel
theorem dX2_move_41 : decode cX2_move 41 = .ok (.iload_n 2, 1) := by decide +kernel
theorem dX2_move_42 : decode cX2_move 42 = .ok (.if_icmp .ge 25, 3) := by decide +kernel
theorem dX2_move_45 : decode cX2_move 45 = .ok (.aload_n 0, 1) := by decide +kernel
theorem dX2_move_46 : decode cX2_move 46 = .ok (.getfield 11, 3) := by decide +kernel
theorem dX2_move_49 : decode cX2_move 49 = .ok (.iload 4, 2) := by decide +kernel
theorem dX2_move_51 : decode cX2_move 51 = .ok (.aload_n 0, 1) := by decide +kernel
theorem dX2_move_52 : decode cX2_move 52 = .ok (.getfield 11, 3) := by decide +kernel
theorem dX2_move_55 : decode cX2_move 55 = .ok (.iload 4, 2) := by decide +kernel
theorem dX2_move_57 : decode cX2_move 57 = .ok (.iconst 1, 1) := by decide +kernel
theorem dX2_move_58 : decode cX2_move 58 = .ok (.iadd, 1) := by decide +kernel
theorem dX2_move_59 : decode cX2_move 59 = .ok (.aaload, 1) := by decide +kernel
theorem dX2_move_60 : decode cX2_move 60 = .ok (.aastore, 1) := by decide +kernel
theorem dX2_move_61 : decode cX2_move 61 = .ok (.iinc 4 1, 3) := by decide +kernel
theorem dX2_move_64 : decode cX2_move 64 = .ok (.goto (-25), 3) := by decide +kernel
theorem dX2_move_67 : decode cX2_move 67 = .ok (.iload_n 1, 1) := by decide +kernel
theorem dX2_move_68 : decode cX2_move 68 = .ok (.istore 4, 2) := by decide +kernel
theorem dX2_move_70 : decode cX2_move 70 = .ok (.iload 4, 2) := by decide +kernel
theorem dX2_move_72 : decode cX2_move 72 = .ok (.iload_n 2, 1) := by decide +kernel
theorem dX2_move_73 : decode cX2_move 73 = .ok (.if_icmp .le 25, 3) := by decide +kernel
theorem dX2_move_76 : decode cX2_move 76 = .ok (.aload_n 0, 1) := by decide +kernel
theorem dX2_move_77 : decode cX2_move 77 = .ok (.getfield 11, 3) := by decide +kernel
theorem dX2_move_80 : decode cX2_move 80 = .ok (.iload 4, 2) := by decide +kernel
theorem dX2_move_82 : decode cX2_move 82 = .ok (.aload_n 0, 1) := by decide +kernel
theorem dX2_move_83 : decode cX2_move 83 = .ok (.getfield 11, 3) := by decide +kernel
theorem dX2_move_86 : decode cX2_move 86 = .ok (.iload 4, 2) := by decide +kernel
theorem dX2_move_88 : decode cX2_move 88 = .ok (.iconst 1, 1) := by decide +kernel
theorem dX2_move_89 : decode cX2_move 89 = .ok (.isub, 1) := by decide +kernel
theorem dX2_move_90 : decode cX2_move 90 = .ok (.aaload, 1) := by decide +kernel
theorem dX2_move_91 : decode cX2_move 91 = .ok (.aastore, 1) := by decide +kernel
theorem dX2_move_92 : decode cX2_move 92 = .ok (.iinc 4 (-1), 3) := by decide +kernel
theorem dX2_move_95 : decode cX2_move 95 = .ok (.goto (-25), 3) := by decide +kernel
theorem dX2_move_98 : decode cX2_move 98 = .ok (.aload_n 0, 1) := by decide +kernel
theorem dX2_move_99 : decode cX2_move 99 = .ok (.getfield 11, 3) := by decide +kernel
theorem dX2_move_102 : decode cX2_move 102 = .ok (.iload_n 2, 1) := by decide +kernel
theorem dX2_move_103 : decode cX2_move 103 = .ok (.aload_n 3, 1) := by decide +kernel
theorem dX2_move_104 : decode cX2_move 104 = .ok (.aastore, 1) := by decide +kernel
theorem dX2_move_105 : decode cX2_move 105 = .ok (.return_, 1) := by decide +kernel
theorem dX2_iceOfAll_0 : decode cX2_iceOfAll 0 = .ok (.iconst 0, 1) := by decide +kernel
theorem dX2_iceOfAll_1 : decode cX2_iceOfAll 1 = .ok (.istore_n 1, 1) := by decide +kernel
theorem dX2_iceOfAll_2 : decode cX2_iceOfAll 2 = .ok (.iconst 0, 1) := by decide +kernel
theorem dX2_iceOfAll_3 : decode cX2_iceOfAll 3 = .ok (.istore_n 2, 1) := by decide +kernel
theorem dX2_iceOfAll_4 : decode cX2_iceOfAll 4 = .ok (.iload_n 2, 1) := by decide +kernel
theorem dX2_iceOfAll_5 : decode cX2_iceOfAll 5 = .ok (.aload_n 0, 1) := by decide +kernel
theorem dX2_iceOfAll_6 : decode cX2_iceOfAll 6 = .ok (.getfield 18, 3) := by decide +kernel
theorem dX2_iceOfAll_9 : decode cX2_iceOfAll 9 = .ok (.if_icmp .ge 21, 3) := by decide +kernel
theorem dX2_iceOfAll_12 : decode cX2_iceOfAll 12 = .ok (.iload_n 1, 1) := by decide +kernel
theorem dX2_iceOfAll_13 : decode cX2_iceOfAll 13 = .ok (.aload_n 0, 1) := by decide +kernel
theorem dX2_iceOfAll_14 : decode cX2_iceOfAll 14 = .ok (.getfield 11, 3) := by decide +kernel
theorem dX2_iceOfAll_17 : decode cX2_iceOfAll 17 = .ok (.iload_n 2, 1) := by decide +kernel
theorem dX2_iceOfAll_18 : decode cX2_iceOfAll 18 = .ok (.aaload, 1) := by decide +kernel
theorem dX2_iceOfAll_19 : decode cX2_iceOfAll 19 = .ok (.getfield 36, 3) := by decide +kernel
theorem dX2_iceOfAll_22 : decode cX2_iceOfAll 22 = .ok (.iadd, 1) := by decide +kernel
theorem dX2_iceOfAll_23 : decode cX2_iceOfAll 23 = .ok (.istore_n 1, 1) := by decide +kernel
theorem dX2_iceOfAll_24 : decode cX2_iceOfAll 24 = .ok (.iinc 2 1, 3) := by decide +kernel
theorem dX2_iceOfAll_27 : decode cX2_iceOfAll 27 = .ok (.goto (-23), 3) := by decide +kernel
theorem dX2_iceOfAll_30 : decode cX2_iceOfAll 30 = .ok (.iload_n 1, 1) := by decide +kernel
theorem dX2_iceOfAll_31 : decode cX2_iceOfAll 31 = .ok (.ireturn, 1) := by decide +kernel
set_option maxRecDepth 20000 in
theorem ggX2_takeFromFront_X0_take : GoodIn wsX2_takeFromFront wsX0_take := goodIn_r _ [12, 13, 14, 15, 16, 6, 17, 20, 21, 22, 23] (by decide +kernel) (by decide +kernel)
set_option maxRecDepth 20000 in
theorem gX2_takeFromFront_X0_take : GoodIn wsX2_takeFromFront (wsV RX2 52 RX0 yX0_take wsX0_take) := goodIn_app (goodIn_of _ (by decide +kernel)) ggX2_takeFromFront_X0_take
theorem dX2_takeFromFront_0 : decode cX2_takeFromFront 0 = .ok (.iload_n 1, 1) := by decide +kernel
theorem dX2_takeFromFront_1 : decode cX2_takeFromFront 1 = .ok (.istore_n 2, 1) := by decide +kernel
theorem dX2_takeFromFront_2 : decode cX2_takeFromFront 2 = .ok (.iconst 0, 1) := by decide +kernel
theorem dX2_takeFromFront_3 : decode cX2_takeFromFront 3 = .ok (.istore_n 3, 1) := by decide +kernel
theorem dX2_takeFromFront_4 : decode cX2_takeFromFront 4 = .ok (.iconst 0, 1) := by decide +kernel
theorem dX2_takeFromFront_5 : decode cX2_takeFromFront 5 = .ok (.istore 4, 2) := by decide +kernel
theorem dX2_takeFromFront_7 : decode cX2_takeFromFront 7 = .ok (.iload 4, 2) := by decide +kernel
theorem dX2_takeFromFront_9 : decode cX2_takeFromFront 9 = .ok (.aload_n 0, 1) := by decide +kernel
theorem dX2_takeFromFront_10 : decode cX2_takeFromFront 10 = .ok (.getfield 18, 3) := by decide +kernel
theorem dX2_takeFromFront_13 : decode cX2_takeFromFront 13 = .ok (.if_icmp .ge 59, 3) := by decide +kernel
theorem dX2_takeFromFront_16 : decode cX2_takeFromFront 16 = .ok (.iload_n 2, 1) := by decide +kernel
theorem dX2_takeFromFront_17 : decode cX2_takeFromFront 17 = .ok (.ifCond .le 55, 3) := by decide +kernel
theorem dX2_takeFromFront_20 : decode cX2_takeFromFront 20 = .ok (.aload_n 0, 1) := by decide +kernel
theorem dX2_takeFromFront_21 : decode cX2_takeFromFront 21 = .ok (.getfield 11, 3) := by decide +kernel
theorem dX2_takeFromFront_24 : decode cX2_takeFromFront 24 = .ok (.iload 4, 2) := by decide +kernel
theorem dX2_takeFromFront_26 : decode cX2_takeFromFront 26 = .ok (.aaload, 1) := by decide +kernel
theorem dX2_takeFromFront_27 : decode cX2_takeFromFront 27 = .ok (.getfield 36, 3) := by decide +kernel
theorem dX2_takeFromFront_30 : decode cX2_takeFromFront 30 = .ok (.iload_n 2, 1) := by decide +kernel
theorem dX2_takeFromFront_31 : decode cX2_takeFromFront 31 = .ok (.invokestatic 46, 3) := by decide +kernel
theorem dX2_takeFromFront_34 : decode cX2_takeFromFront 34 = .ok (.istore 5, 2) := by decide +kernel
theorem dX2_takeFromFront_36 : decode cX2_takeFromFront 36 = .ok (.aload_n 0, 1) := by decide +kernel
theorem dX2_takeFromFront_37 : decode cX2_takeFromFront 37 = .ok (.getfield 11, 3) := by decide +kernel
theorem dX2_takeFromFront_40 : decode cX2_takeFromFront 40 = .ok (.iload 4, 2) := by decide +kernel
theorem dX2_takeFromFront_42 : decode cX2_takeFromFront 42 = .ok (.aaload, 1) := by decide +kernel
theorem dX2_takeFromFront_43 : decode cX2_takeFromFront 43 = .ok (.iload 5, 2) := by decide +kernel
theorem dX2_takeFromFront_45 : decode cX2_takeFromFront 45 = .ok (.invokevirtual 52, 3) := by decide +kernel
theorem dX2_takeFromFront_48 : decode cX2_takeFromFront 48 = .ok (.iload_n 2, 1) := by decide +kernel
theorem dX2_takeFromFront_49 : decode cX2_takeFromFront 49 = .ok (.iload 5, 2) := by decide +kernel
theorem dX2_takeFromFront_51 : decode cX2_takeFromFront 51 = .ok (.isub, 1) := by decide +kernel
theorem dX2_takeFromFront_52 : decode cX2_takeFromFront 52 = .ok (.istore_n 2, 1) := by decide +kernel
theorem dX2_takeFromFront_53 : decode cX2_takeFromFront 53 = .ok (.iload_n 3, 1) := by decide +kernel
theorem dX2_takeFromFront_54 : decode cX2_takeFromFront 54 = .ok (.iload 5, 2) := by decide +kernel
theorem dX2_takeFromFront_56 : decode cX2_takeFromFront 56 = .ok (.ifCond .le 7, 3) := by decide +kernel
theorem dX2_takeFromFront_59 : decode cX2_takeFromFront 59 = .ok (.iconst 1, 1) := by decide +kernel
theorem dX2_takeFromFront_60 : decode cX2_takeFromFront 60 = .ok (.goto 4, 3) := by decide +kernel
theorem dX2_takeFromFront_63 : decode cX2_takeFromFront 63 = .ok (.iconst 0, 1) := by decide +kernel
theorem dX2_takeFromFront_64 : decode cX2_takeFromFront 64 = .ok (.iadd, 1) := by decide +kernel
theorem dX2_takeFromFront_65 : decode cX2_takeFromFront 65 = .ok (.istore_n 3, 1) := by decide +kernel
theorem dX2_takeFromFront_66 : decode cX2_takeFromFront 66 = .ok (.iinc 4 1, 3) := by decide +kernel
theorem dX2_takeFromFront_69 : decode cX2_takeFromFront 69 = .ok (.goto (-62), 3) := by decide +kernel
theorem dX2_takeFromFront_72 : decode cX2_takeFromFront 72 = .ok (.iload_n 3, 1) := by decide +kernel
theorem dX2_takeFromFront_73 : decode cX2_takeFromFront 73 = .ok (.ireturn, 1) := by decide +kernel
set_option maxRecDepth 20000 in
theorem ggX2_letGoOff_X0_goingOff : GoodIn wsX2_letGoOff wsX0_goingOff := goodIn_r _ [7, 8, 9, 10, 11, 12, 13, 14, 15, 16, 17, 18, 19, 20, 31, 32, 33, 34] (by decide +kernel) (by decide +kernel)
set_option maxRecDepth 20000 in
theorem gX2_letGoOff_X0_goingOff : GoodIn wsX2_letGoOff (wsV RX2 56 RX0 yX0_goingOff wsX0_goingOff) := goodIn_app (goodIn_of _ (by decide +kernel)) ggX2_letGoOff_X0_goingOff
set_option maxRecDepth 20000 in
theorem ggX2_letGoOff_X0_take : GoodIn wsX2_letGoOff wsX0_take := goodIn_r _ [24, 14, 25, 26, 27, 12, 28, 31, 32, 33, 34] (by decide +kernel) (by decide +kernel)
set_option maxRecDepth 20000 in
theorem gX2_letGoOff_X0_take : GoodIn wsX2_letGoOff (wsV RX2 52 RX0 yX0_take wsX0_take) := goodIn_app (goodIn_of _ (by decide +kernel)) ggX2_letGoOff_X0_take
theorem dX2_letGoOff_0 : decode cX2_letGoOff 0 = .ok (.iconst 0, 1) := by decide +kernel
theorem dX2_letGoOff_1 : decode cX2_letGoOff 1 = .ok (.istore_n 3, 1) := by decide +kernel
theorem dX2_letGoOff_2 : decode cX2_letGoOff 2 = .ok (.iconst 0, 1) := by decide +kernel
theorem dX2_letGoOff_3 : decode cX2_letGoOff 3 = .ok (.istore 4, 2) := by decide +kernel
theorem dX2_letGoOff_5 : decode cX2_letGoOff 5 = .ok (.iload 4, 2) := by decide +kernel
theorem dX2_letGoOff_7 : decode cX2_letGoOff 7 = .ok (.aload_n 0, 1) := by decide +kernel
theorem dX2_letGoOff_8 : decode cX2_letGoOff 8 = .ok (.getfield 18, 3) := by decide +kernel
theorem dX2_letGoOff_11 : decode cX2_letGoOff 11 = .ok (.if_icmp .ge 40, 3) := by decide +kernel
theorem dX2_letGoOff_14 : decode cX2_letGoOff 14 = .ok (.aload_n 0, 1) := by decide +kernel
theorem dX2_letGoOff_15 : decode cX2_letGoOff 15 = .ok (.getfield 11, 3) := by decide +kernel
theorem dX2_letGoOff_18 : decode cX2_letGoOff 18 = .ok (.iload 4, 2) := by decide +kernel
theorem dX2_letGoOff_20 : decode cX2_letGoOff 20 = .ok (.aaload, 1) := by decide +kernel
theorem dX2_letGoOff_21 : decode cX2_letGoOff 21 = .ok (.iload_n 1, 1) := by decide +kernel
theorem dX2_letGoOff_22 : decode cX2_letGoOff 22 = .ok (.iload_n 2, 1) := by decide +kernel
theorem dX2_letGoOff_23 : decode cX2_letGoOff 23 = .ok (.invokevirtual 56, 3) := by decide +kernel
theorem dX2_letGoOff_26 : decode cX2_letGoOff 26 = .ok (.istore 5, 2) := by decide +kernel
theorem dX2_letGoOff_28 : decode cX2_letGoOff 28 = .ok (.aload_n 0, 1) := by decide +kernel
theorem dX2_letGoOff_29 : decode cX2_letGoOff 29 = .ok (.getfield 11, 3) := by decide +kernel
theorem dX2_letGoOff_32 : decode cX2_letGoOff 32 = .ok (.iload 4, 2) := by decide +kernel
theorem dX2_letGoOff_34 : decode cX2_letGoOff 34 = .ok (.aaload, 1) := by decide +kernel
theorem dX2_letGoOff_35 : decode cX2_letGoOff 35 = .ok (.iload 5, 2) := by decide +kernel
theorem dX2_letGoOff_37 : decode cX2_letGoOff 37 = .ok (.invokevirtual 52, 3) := by decide +kernel
theorem dX2_letGoOff_40 : decode cX2_letGoOff 40 = .ok (.iload_n 3, 1) := by decide +kernel
theorem dX2_letGoOff_41 : decode cX2_letGoOff 41 = .ok (.iload 5, 2) := by decide +kernel
theorem dX2_letGoOff_43 : decode cX2_letGoOff 43 = .ok (.iadd, 1) := by decide +kernel
theorem dX2_letGoOff_44 : decode cX2_letGoOff 44 = .ok (.istore_n 3, 1) := by decide +kernel
theorem dX2_letGoOff_45 : decode cX2_letGoOff 45 = .ok (.iinc 4 1, 3) := by decide +kernel
theorem dX2_letGoOff_48 : decode cX2_letGoOff 48 = .ok (.goto (-43), 3) := by decide +kernel
theorem dX2_letGoOff_51 : decode cX2_letGoOff 51 = .ok (.iload_n 3, 1) := by decide +kernel
theorem dX2_letGoOff_52 : decode cX2_letGoOff 52 = .ok (.ireturn, 1) := by decide +kernel
theorem dX3_init_0 : decode cX3_init 0 = .ok (.aload_n 0, 1) := by decide +kernel
theorem dX3_init_1 : decode cX3_init 1 = .ok (.invokespecial 3, 3) := by decide +kernel
theorem dX3_init_4 : decode cX3_init 4 = .ok (.aload_n 0, 1) := by decide +kernel
theorem dX3_init_5 : decode cX3_init 5 = .ok (.bipush 80, 2) := by decide +kernel
theorem dX3_init_7 : decode cX3_init 7 = .ok (.newarray .int, 2) := by decide +kernel
theorem dX3_init_9 : decode cX3_init 9 = .ok (.putfield 9, 3) := by decide +kernel
theorem dX3_init_12 : decode cX3_init 12 = .ok (.return_, 1) := by decide +kernel
theorem dX3_append_0 : decode cX3_append 0 = .ok (.aload_n 0, 1) := by decide +kernel
theorem dX3_append_1 : decode cX3_append 1 = .ok (.getfield 15, 3) := by decide +kernel
theorem dX3_append_4 : decode cX3_append 4 = .ok (.bipush 80, 2) := by decide +kernel
theorem dX3_append_6 : decode cX3_append 6 = .ok (.if_icmp .ge 23, 3) := by decide +kernel
theorem dX3_append_9 : decode cX3_append 9 = .ok (.aload_n 0, 1) := by decide +kernel
theorem dX3_append_10 : decode cX3_append 10 = .ok (.getfield 9, 3) := by decide +kernel
theorem dX3_append_13 : decode cX3_append 13 = .ok (.aload_n 0, 1) := by decide +kernel
theorem dX3_append_14 : decode cX3_append 14 = .ok (.getfield 15, 3) := by decide +kernel
theorem dX3_append_17 : decode cX3_append 17 = .ok (.iload_n 1, 1) := by decide +kernel
theorem dX3_append_18 : decode cX3_append 18 = .ok (.iastore, 1) := by decide +kernel
theorem dX3_append_19 : decode cX3_append 19 = .ok (.aload_n 0, 1) := by decide +kernel
theorem dX3_append_20 : decode cX3_append 20 = .ok (.dup, 1) := by decide +kernel
theorem dX3_append_21 : decode cX3_append 21 = .ok (.getfield 15, 3) := by decide +kernel
theorem dX3_append_24 : decode cX3_append 24 = .ok (.iconst 1, 1) := by decide +kernel
theorem dX3_append_25 : decode cX3_append 25 = .ok (.iadd, 1) := by decide +kernel
theorem dX3_append_26 : decode cX3_append 26 = .ok (.putfield 15, 3) := by decide +kernel
theorem dX3_append_29 : decode cX3_append 29 = .ok (.return_, 1) := by decide +kernel
set_option maxRecDepth 20000 in
theorem ggX3_codeAt_X9_within : GoodIn wsX3_codeAt wsX9_within := goodIn_r _ [5] (by decide +kernel) (by decide +kernel)
set_option maxRecDepth 20000 in
theorem gX3_codeAt_X9_within_n19 : GoodIn wsX3_codeAt (wsX9_within) := ggX3_codeAt_X9_within
theorem dX3_codeAt_0 : decode cX3_codeAt 0 = .ok (.iload_n 1, 1) := by decide +kernel
theorem dX3_codeAt_1 : decode cX3_codeAt 1 = .ok (.iconst 0, 1) := by decide +kernel
theorem dX3_codeAt_2 : decode cX3_codeAt 2 = .ok (.aload_n 0, 1) := by decide +kernel
theorem dX3_codeAt_3 : decode cX3_codeAt 3 = .ok (.getfield 15, 3) := by decide +kernel
theorem dX3_codeAt_6 : decode cX3_codeAt 6 = .ok (.iconst 1, 1) := by decide +kernel
theorem dX3_codeAt_7 : decode cX3_codeAt 7 = .ok (.isub, 1) := by decide +kernel
theorem dX3_codeAt_8 : decode cX3_codeAt 8 = .ok (.invokestatic 19, 3) := by decide +kernel
theorem dX3_codeAt_11 : decode cX3_codeAt 11 = .ok (.ifCond .eq 12, 3) := by decide +kernel
theorem dX3_codeAt_14 : decode cX3_codeAt 14 = .ok (.aload_n 0, 1) := by decide +kernel
theorem dX3_codeAt_15 : decode cX3_codeAt 15 = .ok (.getfield 9, 3) := by decide +kernel
theorem dX3_codeAt_18 : decode cX3_codeAt 18 = .ok (.iload_n 1, 1) := by decide +kernel
theorem dX3_codeAt_19 : decode cX3_codeAt 19 = .ok (.iaload, 1) := by decide +kernel
theorem dX3_codeAt_20 : decode cX3_codeAt 20 = .ok (.goto 4, 3) := by decide +kernel
theorem dX3_codeAt_23 : decode cX3_codeAt 23 = .ok (.iconst 0, 1) := by decide +kernel
theorem dX3_codeAt_24 : decode cX3_codeAt 24 = .ok (.ireturn, 1) := by decide +kernel
theorem dX4_init_0 : decode cX4_init 0 = .ok (.aload_n 0, 1) := by decide +kernel
theorem dX4_init_1 : decode cX4_init 1 = .ok (.invokespecial 3, 3) := by decide +kernel
theorem dX4_init_4 : decode cX4_init 4 = .ok (.aload_n 0, 1) := by decide +kernel
theorem dX4_init_5 : decode cX4_init 5 = .ok (.bipush 12, 2) := by decide +kernel
theorem dX4_init_7 : decode cX4_init 7 = .ok (.newarray .int, 2) := by decide +kernel
theorem dX4_init_9 : decode cX4_init 9 = .ok (.putfield 9, 3) := by decide +kernel
theorem dX4_init_12 : decode cX4_init 12 = .ok (.aload_n 0, 1) := by decide +kernel
theorem dX4_init_13 : decode cX4_init 13 = .ok (.bipush 12, 2) := by decide +kernel
theorem dX4_init_15 : decode cX4_init 15 = .ok (.newarray .int, 2) := by decide +kernel
theorem dX4_init_17 : decode cX4_init 17 = .ok (.putfield 15, 3) := by decide +kernel
theorem dX4_init_20 : decode cX4_init 20 = .ok (.aload_n 0, 1) := by decide +kernel
theorem dX4_init_21 : decode cX4_init 21 = .ok (.iconst (-1), 1) := by decide +kernel
theorem dX4_init_22 : decode cX4_init 22 = .ok (.putfield 18, 3) := by decide +kernel
theorem dX4_init_25 : decode cX4_init 25 = .ok (.return_, 1) := by decide +kernel
theorem dX4_becomeLike_0 : decode cX4_becomeLike 0 = .ok (.aload_n 1, 1) := by decide +kernel
theorem dX4_becomeLike_1 : decode cX4_becomeLike 1 = .ok (.getfield 9, 3) := by decide +kernel
theorem dX4_becomeLike_4 : decode cX4_becomeLike 4 = .ok (.iconst 0, 1) := by decide +kernel
theorem dX4_becomeLike_5 : decode cX4_becomeLike 5 = .ok (.aload_n 0, 1) := by decide +kernel
theorem dX4_becomeLike_6 : decode cX4_becomeLike 6 = .ok (.getfield 9, 3) := by decide +kernel
theorem dX4_becomeLike_9 : decode cX4_becomeLike 9 = .ok (.iconst 0, 1) := by decide +kernel
theorem dX4_becomeLike_10 : decode cX4_becomeLike 10 = .ok (.bipush 12, 2) := by decide +kernel
theorem dX4_becomeLike_12 : decode cX4_becomeLike 12 = .ok (.invokestatic 22, 3) := by decide +kernel
theorem dX4_becomeLike_15 : decode cX4_becomeLike 15 = .ok (.aload_n 1, 1) := by decide +kernel
theorem dX4_becomeLike_16 : decode cX4_becomeLike 16 = .ok (.getfield 15, 3) := by decide +kernel
theorem dX4_becomeLike_19 : decode cX4_becomeLike 19 = .ok (.iconst 0, 1) := by decide +kernel
theorem dX4_becomeLike_20 : decode cX4_becomeLike 20 = .ok (.aload_n 0, 1) := by decide +kernel
theorem dX4_becomeLike_21 : decode cX4_becomeLike 21 = .ok (.getfield 15, 3) := by decide +kernel
theorem dX4_becomeLike_24 : decode cX4_becomeLike 24 = .ok (.iconst 0, 1) := by decide +kernel
theorem dX4_becomeLike_25 : decode cX4_becomeLike 25 = .ok (.bipush 12, 2) := by decide +kernel
theorem dX4_becomeLike_27 : decode cX4_becomeLike 27 = .ok (.invokestatic 22, 3) := by decide +kernel
theorem dX4_becomeLike_30 : decode cX4_becomeLike 30 = .ok (.aload_n 0, 1) := by decide +kernel
theorem dX4_becomeLike_31 : decode cX4_becomeLike 31 = .ok (.aload_n 1, 1) := by decide +kernel
theorem dX4_becomeLike_32 : decode cX4_becomeLike 32 = .ok (.getfield 28, 3) := by decide +kernel
theorem dX4_becomeLike_35 : decode cX4_becomeLike 35 = .ok (.putfield 28, 3) := by decide +kernel
theorem dX4_becomeLike_38 : decode cX4_becomeLike 38 = .ok (.aload_n 0, 1) := by decide +kernel
theorem dX4_becomeLike_39 : decode cX4_becomeLike 39 = .ok (.aload_n 1, 1) := by decide +kernel
theorem dX4_becomeLike_40 : decode cX4_becomeLike 40 = .ok (.getfield 18, 3) := by decide +kernel
theorem dX4_becomeLike_43 : decode cX4_becomeLike 43 = .ok (.putfield 18, 3) := by decide +kernel
theorem dX4_becomeLike_46 : decode cX4_becomeLike 46 = .ok (.aload_n 0, 1) := by decide +kernel
theorem dX4_becomeLike_47 : decode cX4_becomeLike 47 = .ok (.aload_n 1, 1) := by decide +kernel
theorem dX4_becomeLike_48 : decode cX4_becomeLike 48 = .ok (.getfield 31, 3) := by decide +kernel
theorem dX4_becomeLike_51 : decode cX4_becomeLike 51 = .ok (.putfield 31, 3) := by decide +kernel
theorem dX4_becomeLike_54 : decode cX4_becomeLike 54 = .ok (.return_, 1) := by decide +kernel
set_option maxRecDepth 20000 in
theorem ggX4_hasLeg_X9_within : GoodIn wsX4_hasLeg wsX9_within := goodIn_r _ [4] (by decide +kernel) (by decide +kernel)
set_option maxRecDepth 20000 in
theorem gX4_hasLeg_X9_within_n34 : GoodIn wsX4_hasLeg (wsX9_within) := ggX4_hasLeg_X9_within
theorem dX4_hasLeg_0 : decode cX4_hasLeg 0 = .ok (.iload_n 1, 1) := by decide +kernel
theorem dX4_hasLeg_1 : decode cX4_hasLeg 1 = .ok (.iconst 0, 1) := by decide +kernel
theorem dX4_hasLeg_2 : decode cX4_hasLeg 2 = .ok (.aload_n 0, 1) := by decide +kernel
theorem dX4_hasLeg_3 : decode cX4_hasLeg 3 = .ok (.getfield 28, 3) := by decide +kernel
theorem dX4_hasLeg_6 : decode cX4_hasLeg 6 = .ok (.iconst 1, 1) := by decide +kernel
theorem dX4_hasLeg_7 : decode cX4_hasLeg 7 = .ok (.isub, 1) := by decide +kernel
theorem dX4_hasLeg_8 : decode cX4_hasLeg 8 = .ok (.invokestatic 34, 3) := by decide +kernel
theorem dX4_hasLeg_11 : decode cX4_hasLeg 11 = .ok (.ireturn, 1) := by decide +kernel
set_option maxRecDepth 20000 in
theorem ggX4_hasNextLeg_X4_hasLeg : GoodIn wsX4_hasNextLeg wsX4_hasLeg := goodIn_r _ [6, 7, 8, 9, 10, 11, 12, 13, 14, 15] (by decide +kernel) (by decide +kernel)
set_option maxRecDepth 20000 in
theorem gX4_hasNextLeg_X4_hasLeg : GoodIn wsX4_hasNextLeg (wsV RX4 38 RX4 yX4_hasLeg wsX4_hasLeg) := goodIn_app (goodIn_of _ (by decide +kernel)) ggX4_hasNextLeg_X4_hasLeg
theorem dX4_hasNextLeg_0 : decode cX4_hasNextLeg 0 = .ok (.aload_n 0, 1) := by decide +kernel
theorem dX4_hasNextLeg_1 : decode cX4_hasNextLeg 1 = .ok (.aload_n 0, 1) := by decide +kernel
theorem dX4_hasNextLeg_2 : decode cX4_hasNextLeg 2 = .ok (.getfield 18, 3) := by decide +kernel
theorem dX4_hasNextLeg_5 : decode cX4_hasNextLeg 5 = .ok (.iconst 1, 1) := by decide +kernel
theorem dX4_hasNextLeg_6 : decode cX4_hasNextLeg 6 = .ok (.iadd, 1) := by decide +kernel
theorem dX4_hasNextLeg_7 : decode cX4_hasNextLeg 7 = .ok (.invokevirtual 38, 3) := by decide +kernel
theorem dX4_hasNextLeg_10 : decode cX4_hasNextLeg 10 = .ok (.ireturn, 1) := by decide +kernel
theorem dX4_isOnTheWay_0 : decode cX4_isOnTheWay 0 = .ok (.aload_n 0, 1) := by decide +kernel
theorem dX4_isOnTheWay_1 : decode cX4_isOnTheWay 1 = .ok (.getfield 31, 3) := by decide +kernel
theorem dX4_isOnTheWay_4 : decode cX4_isOnTheWay 4 = .ok (.ifCond .le 7, 3) := by decide +kernel
theorem dX4_isOnTheWay_7 : decode cX4_isOnTheWay 7 = .ok (.iconst 1, 1) := by decide +kernel
theorem dX4_isOnTheWay_8 : decode cX4_isOnTheWay 8 = .ok (.goto 4, 3) := by decide +kernel
theorem dX4_isOnTheWay_11 : decode cX4_isOnTheWay 11 = .ok (.iconst 0, 1) := by decide +kernel
theorem dX4_isOnTheWay_12 : decode cX4_isOnTheWay 12 = .ok (.ireturn, 1) := by decide +kernel
set_option maxRecDepth 20000 in
theorem ggX4_durationOf_X4_hasLeg : GoodIn wsX4_durationOf wsX4_hasLeg := goodIn_r _ [6, 7, 8, 9, 10, 11, 12, 13, 14, 15] (by decide +kernel) (by decide +kernel)
set_option maxRecDepth 20000 in
theorem gX4_durationOf_X4_hasLeg : GoodIn wsX4_durationOf (wsV RX4 38 RX4 yX4_hasLeg wsX4_hasLeg) := goodIn_app (goodIn_of _ (by decide +kernel)) ggX4_durationOf_X4_hasLeg
theorem dX4_durationOf_0 : decode cX4_durationOf 0 = .ok (.aload_n 0, 1) := by decide +kernel
theorem dX4_durationOf_1 : decode cX4_durationOf 1 = .ok (.iload_n 1, 1) := by decide +kernel
theorem dX4_durationOf_2 : decode cX4_durationOf 2 = .ok (.invokevirtual 38, 3) := by decide +kernel
theorem dX4_durationOf_5 : decode cX4_durationOf 5 = .ok (.ifCond .eq 12, 3) := by decide +kernel
theorem dX4_durationOf_8 : decode cX4_durationOf 8 = .ok (.aload_n 0, 1) := by decide +kernel
theorem dX4_durationOf_9 : decode cX4_durationOf 9 = .ok (.getfield 9, 3) := by decide +kernel
theorem dX4_durationOf_12 : decode cX4_durationOf 12 = .ok (.iload_n 1, 1) := by decide +kernel
theorem dX4_durationOf_13 : decode cX4_durationOf 13 = .ok (.iaload, 1) := by decide +kernel
theorem dX4_durationOf_14 : decode cX4_durationOf 14 = .ok (.goto 4, 3) := by decide +kernel
theorem dX4_durationOf_17 : decode cX4_durationOf 17 = .ok (.iconst 0, 1) := by decide +kernel
theorem dX4_durationOf_18 : decode cX4_durationOf 18 = .ok (.ireturn, 1) := by decide +kernel
set_option maxRecDepth 20000 in
theorem ggX4_outsideOf_X4_hasLeg : GoodIn wsX4_outsideOf wsX4_hasLeg := goodIn_r _ [6, 7, 8, 9, 10, 11, 12, 13, 14, 15] (by decide +kernel) (by decide +kernel)
set_option maxRecDepth 20000 in
theorem gX4_outsideOf_X4_hasLeg : GoodIn wsX4_outsideOf (wsV RX4 38 RX4 yX4_hasLeg wsX4_hasLeg) := goodIn_app (goodIn_of _ (by decide +kernel)) ggX4_outsideOf_X4_hasLeg
theorem dX4_outsideOf_0 : decode cX4_outsideOf 0 = .ok (.aload_n 0, 1) := by decide +kernel
theorem dX4_outsideOf_1 : decode cX4_outsideOf 1 = .ok (.iload_n 1, 1) := by decide +kernel
theorem dX4_outsideOf_2 : decode cX4_outsideOf 2 = .ok (.invokevirtual 38, 3) := by decide +kernel
theorem dX4_outsideOf_5 : decode cX4_outsideOf 5 = .ok (.ifCond .eq 12, 3) := by decide +kernel
theorem dX4_outsideOf_8 : decode cX4_outsideOf 8 = .ok (.aload_n 0, 1) := by decide +kernel
theorem dX4_outsideOf_9 : decode cX4_outsideOf 9 = .ok (.getfield 15, 3) := by decide +kernel
theorem dX4_outsideOf_12 : decode cX4_outsideOf 12 = .ok (.iload_n 1, 1) := by decide +kernel
theorem dX4_outsideOf_13 : decode cX4_outsideOf 13 = .ok (.iaload, 1) := by decide +kernel
theorem dX4_outsideOf_14 : decode cX4_outsideOf 14 = .ok (.goto 4, 3) := by decide +kernel
theorem dX4_outsideOf_17 : decode cX4_outsideOf 17 = .ok (.iconst 0, 1) := by decide +kernel
theorem dX4_outsideOf_18 : decode cX4_outsideOf 18 = .ok (.ireturn, 1) := by decide +kernel
set_option maxRecDepth 20000 in
theorem ggX4_outsideNow_X4_hasLeg : GoodIn wsX4_outsideNow wsX4_hasLeg := goodIn_r _ [7, 8, 9, 10, 11, 12, 13, 14, 15, 16] (by decide +kernel) (by decide +kernel)
set_option maxRecDepth 20000 in
theorem gX4_outsideNow_X4_hasLeg : GoodIn wsX4_outsideNow (wsV RX4 38 RX4 yX4_hasLeg wsX4_hasLeg) := goodIn_app (goodIn_of _ (by decide +kernel)) ggX4_outsideNow_X4_hasLeg
theorem dX4_outsideNow_0 : decode cX4_outsideNow 0 = .ok (.aload_n 0, 1) := by decide +kernel
theorem dX4_outsideNow_1 : decode cX4_outsideNow 1 = .ok (.aload_n 0, 1) := by decide +kernel
theorem dX4_outsideNow_2 : decode cX4_outsideNow 2 = .ok (.getfield 18, 3) := by decide +kernel
theorem dX4_outsideNow_5 : decode cX4_outsideNow 5 = .ok (.invokevirtual 38, 3) := by decide +kernel
theorem dX4_outsideNow_8 : decode cX4_outsideNow 8 = .ok (.ifCond .eq 15, 3) := by decide +kernel
theorem dX4_outsideNow_11 : decode cX4_outsideNow 11 = .ok (.aload_n 0, 1) := by decide +kernel
theorem dX4_outsideNow_12 : decode cX4_outsideNow 12 = .ok (.getfield 15, 3) := by decide +kernel
theorem dX4_outsideNow_15 : decode cX4_outsideNow 15 = .ok (.aload_n 0, 1) := by decide +kernel
theorem dX4_outsideNow_16 : decode cX4_outsideNow 16 = .ok (.getfield 18, 3) := by decide +kernel
theorem dX4_outsideNow_19 : decode cX4_outsideNow 19 = .ok (.iaload, 1) := by decide +kernel
theorem dX4_outsideNow_20 : decode cX4_outsideNow 20 = .ok (.goto 6, 3) := by decide +kernel
theorem dX4_outsideNow_23 : decode cX4_outsideNow 23 = .ok (.sipush 2000, 3) := by decide +kernel
theorem dX4_outsideNow_26 : decode cX4_outsideNow 26 = .ok (.ireturn, 1) := by decide +kernel
theorem dX4_append_0 : decode cX4_append 0 = .ok (.aload_n 0, 1) := by decide +kernel
theorem dX4_append_1 : decode cX4_append 1 = .ok (.getfield 28, 3) := by decide +kernel
theorem dX4_append_4 : decode cX4_append 4 = .ok (.bipush 12, 2) := by decide +kernel
theorem dX4_append_6 : decode cX4_append 6 = .ok (.if_icmp .lt 4, 3) := by decide +kernel
theorem dX4_append_9 : decode cX4_append 9 = .ok (.return_, 1) := by decide +kernel
theorem dX4_append_10 : decode cX4_append 10 = .ok (.aload_n 0, 1) := by decide +kernel
theorem dX4_append_11 : decode cX4_append 11 = .ok (.getfield 9, 3) := by decide +kernel
theorem dX4_append_14 : decode cX4_append 14 = .ok (.aload_n 0, 1) := by decide +kernel
theorem dX4_append_15 : decode cX4_append 15 = .ok (.getfield 28, 3) := by decide +kernel
theorem dX4_append_18 : decode cX4_append 18 = .ok (.iload_n 1, 1) := by decide +kernel
theorem dX4_append_19 : decode cX4_append 19 = .ok (.iastore, 1) := by decide +kernel
theorem dX4_append_20 : decode cX4_append 20 = .ok (.aload_n 0, 1) := by decide +kernel
theorem dX4_append_21 : decode cX4_append 21 = .ok (.getfield 15, 3) := by decide +kernel
theorem dX4_append_24 : decode cX4_append 24 = .ok (.aload_n 0, 1) := by decide +kernel
theorem dX4_append_25 : decode cX4_append 25 = .ok (.getfield 28, 3) := by decide +kernel
theorem dX4_append_28 : decode cX4_append 28 = .ok (.iload_n 2, 1) := by decide +kernel
theorem dX4_append_29 : decode cX4_append 29 = .ok (.iastore, 1) := by decide +kernel
theorem dX4_append_30 : decode cX4_append 30 = .ok (.aload_n 0, 1) := by decide +kernel
theorem dX4_append_31 : decode cX4_append 31 = .ok (.dup, 1) := by decide +kernel
theorem dX4_append_32 : decode cX4_append 32 = .ok (.getfield 28, 3) := by decide +kernel
theorem dX4_append_35 : decode cX4_append 35 = .ok (.iconst 1, 1) := by decide +kernel
theorem dX4_append_36 : decode cX4_append 36 = .ok (.iadd, 1) := by decide +kernel
theorem dX4_append_37 : decode cX4_append 37 = .ok (.putfield 28, 3) := by decide +kernel
theorem dX4_append_40 : decode cX4_append 40 = .ok (.return_, 1) := by decide +kernel
set_option maxRecDepth 20000 in
theorem ggX4_beginNextLeg_X4_hasNextLeg : GoodIn wsX4_beginNextLeg wsX4_hasNextLeg := goodIn_r _ [8, 1, 9, 10, 11, 7, 12, 13, 14, 15, 16, 17, 18, 19, 20, 21] (by decide +kernel) (by decide +kernel)
set_option maxRecDepth 20000 in
theorem gX4_beginNextLeg_X4_hasNextLeg : GoodIn wsX4_beginNextLeg (wsV RX4 42 RX4 yX4_hasNextLeg wsX4_hasNextLeg) := goodIn_app (goodIn_of _ (by decide +kernel)) ggX4_beginNextLeg_X4_hasNextLeg
theorem dX4_beginNextLeg_0 : decode cX4_beginNextLeg 0 = .ok (.aload_n 0, 1) := by decide +kernel
theorem dX4_beginNextLeg_1 : decode cX4_beginNextLeg 1 = .ok (.invokevirtual 42, 3) := by decide +kernel
theorem dX4_beginNextLeg_4 : decode cX4_beginNextLeg 4 = .ok (.ifCond .eq 26, 3) := by decide +kernel
theorem dX4_beginNextLeg_7 : decode cX4_beginNextLeg 7 = .ok (.aload_n 0, 1) := by decide +kernel
theorem dX4_beginNextLeg_8 : decode cX4_beginNextLeg 8 = .ok (.dup, 1) := by decide +kernel
theorem dX4_beginNextLeg_9 : decode cX4_beginNextLeg 9 = .ok (.getfield 18, 3) := by decide +kernel
theorem dX4_beginNextLeg_12 : decode cX4_beginNextLeg 12 = .ok (.iconst 1, 1) := by decide +kernel
theorem dX4_beginNextLeg_13 : decode cX4_beginNextLeg 13 = .ok (.iadd, 1) := by decide +kernel
theorem dX4_beginNextLeg_14 : decode cX4_beginNextLeg 14 = .ok (.putfield 18, 3) := by decide +kernel
theorem dX4_beginNextLeg_17 : decode cX4_beginNextLeg 17 = .ok (.aload_n 0, 1) := by decide +kernel
theorem dX4_beginNextLeg_18 : decode cX4_beginNextLeg 18 = .ok (.aload_n 0, 1) := by decide +kernel
theorem dX4_beginNextLeg_19 : decode cX4_beginNextLeg 19 = .ok (.getfield 9, 3) := by decide +kernel
theorem dX4_beginNextLeg_22 : decode cX4_beginNextLeg 22 = .ok (.aload_n 0, 1) := by decide +kernel
theorem dX4_beginNextLeg_23 : decode cX4_beginNextLeg 23 = .ok (.getfield 18, 3) := by decide +kernel
theorem dX4_beginNextLeg_26 : decode cX4_beginNextLeg 26 = .ok (.iaload, 1) := by decide +kernel
theorem dX4_beginNextLeg_27 : decode cX4_beginNextLeg 27 = .ok (.putfield 31, 3) := by decide +kernel
theorem dX4_beginNextLeg_30 : decode cX4_beginNextLeg 30 = .ok (.return_, 1) := by decide +kernel
set_option maxRecDepth 20000 in
theorem ggX4_letMinutePass_X4_isOnTheWay : GoodIn wsX4_letMinutePass wsX4_isOnTheWay := goodIn_r _ [6, 1, 7, 8, 9, 10, 11] (by decide +kernel) (by decide +kernel)
set_option maxRecDepth 20000 in
theorem gX4_letMinutePass_X4_isOnTheWay : GoodIn wsX4_letMinutePass (wsV RX4 46 RX4 yX4_isOnTheWay wsX4_isOnTheWay) := goodIn_app (goodIn_of _ (by decide +kernel)) ggX4_letMinutePass_X4_isOnTheWay
theorem dX4_letMinutePass_0 : decode cX4_letMinutePass 0 = .ok (.aload_n 0, 1) := by decide +kernel
theorem dX4_letMinutePass_1 : decode cX4_letMinutePass 1 = .ok (.invokevirtual 46, 3) := by decide +kernel
theorem dX4_letMinutePass_4 : decode cX4_letMinutePass 4 = .ok (.ifCond .eq 13, 3) := by decide +kernel
theorem dX4_letMinutePass_7 : decode cX4_letMinutePass 7 = .ok (.aload_n 0, 1) := by decide +kernel
theorem dX4_letMinutePass_8 : decode cX4_letMinutePass 8 = .ok (.dup, 1) := by decide +kernel
theorem dX4_letMinutePass_9 : decode cX4_letMinutePass 9 = .ok (.getfield 31, 3) := by decide +kernel
theorem dX4_letMinutePass_12 : decode cX4_letMinutePass 12 = .ok (.iconst 1, 1) := by decide +kernel
theorem dX4_letMinutePass_13 : decode cX4_letMinutePass 13 = .ok (.isub, 1) := by decide +kernel
theorem dX4_letMinutePass_14 : decode cX4_letMinutePass 14 = .ok (.putfield 31, 3) := by decide +kernel
theorem dX4_letMinutePass_17 : decode cX4_letMinutePass 17 = .ok (.return_, 1) := by decide +kernel
theorem dX5_init_0 : decode cX5_init 0 = .ok (.aload_n 0, 1) := by decide +kernel
theorem dX5_init_1 : decode cX5_init 1 = .ok (.invokespecial 3, 3) := by decide +kernel
theorem dX5_init_4 : decode cX5_init 4 = .ok (.aload_n 0, 1) := by decide +kernel
theorem dX5_init_5 : decode cX5_init 5 = .ok (.bipush 20, 2) := by decide +kernel
theorem dX5_init_7 : decode cX5_init 7 = .ok (.newarray .int, 2) := by decide +kernel
theorem dX5_init_9 : decode cX5_init 9 = .ok (.putfield 11, 3) := by decide +kernel
theorem dX5_init_12 : decode cX5_init 12 = .ok (.aload_n 0, 1) := by decide +kernel
theorem dX5_init_13 : decode cX5_init 13 = .ok (.bipush 20, 2) := by decide +kernel
theorem dX5_init_15 : decode cX5_init 15 = .ok (.newarray .int, 2) := by decide +kernel
theorem dX5_init_17 : decode cX5_init 17 = .ok (.putfield 15, 3) := by decide +kernel
theorem dX5_init_20 : decode cX5_init 20 = .ok (.return_, 1) := by decide +kernel
set_option maxRecDepth 20000 in
theorem ggX5_faultOf_X3_codeAt : GoodIn wsX5_faultOf wsX3_codeAt := goodIn_r _ [8, 9, 10, 11, 12, 13, 58, 59] (by decide +kernel) (by decide +kernel)
set_option maxRecDepth 20000 in
theorem gX5_faultOf_X3_codeAt : GoodIn wsX5_faultOf (wsV RX5 30 RX3 yX3_codeAt wsX3_codeAt) := goodIn_app (goodIn_of _ (by decide +kernel)) ggX5_faultOf_X3_codeAt
set_option maxRecDepth 20000 in
theorem ggX5_faultOf_X5_takes : GoodIn wsX5_faultOf wsX5_takes := goodIn_r _ [18, 2, 19, 20, 21, 17, 22, 23, 24, 25, 26, 11, 12, 13, 27, 28, 29, 30, 31, 32, 33, 34, 35, 36, 37, 38, 39, 40, 41, 42, 43, 44, 45, 46, 47, 48, 1, 49, 50, 51, 52, 53, 54, 55, 56, 57] (by decide +kernel) (by decide +kernel)
set_option maxRecDepth 20000 in
theorem gX5_faultOf_X5_takes : GoodIn wsX5_faultOf (wsV RX5 34 RX5 yX5_takes wsX5_takes) := goodIn_app (goodIn_of _ (by decide +kernel)) ggX5_faultOf_X5_takes
set_option maxRecDepth 20000 in
theorem ggX5_faultOf_X5_endLeg : GoodIn wsX5_faultOf wsX5_endLeg := goodIn_r _ [48, 1, 49, 31, 50, 32, 23, 2, 51, 52, 53, 54, 55, 56, 57] (by decide +kernel) (by decide +kernel)
set_option maxRecDepth 20000 in
theorem gX5_faultOf_X5_endLeg : GoodIn wsX5_faultOf (wsV RX5 38 RX5 yX5_endLeg wsX5_endLeg) := goodIn_app (goodIn_of _ (by decide +kernel)) ggX5_faultOf_X5_endLeg
theorem dX5_faultOf_0 : decode cX5_faultOf 0 = .ok (.aload_n 0, 1) := by decide +kernel
theorem dX5_faultOf_1 : decode cX5_faultOf 1 = .ok (.iconst 0, 1) := by decide +kernel
theorem dX5_faultOf_2 : decode cX5_faultOf 2 = .ok (.putfield 18, 3) := by decide +kernel
theorem dX5_faultOf_5 : decode cX5_faultOf 5 = .ok (.aload_n 0, 1) := by decide +kernel
theorem dX5_faultOf_6 : decode cX5_faultOf 6 = .ok (.iconst 0, 1) := by decide +kernel
theorem dX5_faultOf_7 : decode cX5_faultOf 7 = .ok (.putfield 22, 3) := by decide +kernel
theorem dX5_faultOf_10 : decode cX5_faultOf 10 = .ok (.iconst 0, 1) := by decide +kernel
theorem dX5_faultOf_11 : decode cX5_faultOf 11 = .ok (.istore_n 2, 1) := by decide +kernel
theorem dX5_faultOf_12 : decode cX5_faultOf 12 = .ok (.iload_n 2, 1) := by decide +kernel
theorem dX5_faultOf_13 : decode cX5_faultOf 13 = .ok (.aload_n 1, 1) := by decide +kernel
theorem dX5_faultOf_14 : decode cX5_faultOf 14 = .ok (.getfield 25, 3) := by decide +kernel
theorem dX5_faultOf_17 : decode cX5_faultOf 17 = .ok (.if_icmp .ge 23, 3) := by decide +kernel
theorem dX5_faultOf_20 : decode cX5_faultOf 20 = .ok (.aload_n 0, 1) := by decide +kernel
theorem dX5_faultOf_21 : decode cX5_faultOf 21 = .ok (.aload_n 1, 1) := by decide +kernel
theorem dX5_faultOf_22 : decode cX5_faultOf 22 = .ok (.iload_n 2, 1) := by decide +kernel
theorem dX5_faultOf_23 : decode cX5_faultOf 23 = .ok (.invokevirtual 30, 3) := by decide +kernel
theorem dX5_faultOf_26 : decode cX5_faultOf 26 = .ok (.invokevirtual 34, 3) := by decide +kernel
theorem dX5_faultOf_29 : decode cX5_faultOf 29 = .ok (.ifCond .ne 5, 3) := by decide +kernel
theorem dX5_faultOf_32 : decode cX5_faultOf 32 = .ok (.iload_n 2, 1) := by decide +kernel
theorem dX5_faultOf_33 : decode cX5_faultOf 33 = .ok (.ireturn, 1) := by decide +kernel
theorem dX5_faultOf_34 : decode cX5_faultOf 34 = .ok (.iinc 2 1, 3) := by decide +kernel
theorem dX5_faultOf_37 : decode cX5_faultOf 37 = .ok (.goto (-25), 3) := by decide +kernel
theorem dX5_faultOf_40 : decode cX5_faultOf 40 = .ok (.aload_n 0, 1) := by decide +kernel
theorem dX5_faultOf_41 : decode cX5_faultOf 41 = .ok (.getfield 22, 3) := by decide +kernel
theorem dX5_faultOf_44 : decode cX5_faultOf 44 = .ok (.iconst 4, 1) := by decide +kernel
theorem dX5_faultOf_45 : decode cX5_faultOf 45 = .ok (.if_icmp .eq 8, 3) := by decide +kernel
theorem dX5_faultOf_48 : decode cX5_faultOf 48 = .ok (.aload_n 1, 1) := by decide +kernel
theorem dX5_faultOf_49 : decode cX5_faultOf 49 = .ok (.getfield 25, 3) := by decide +kernel
theorem dX5_faultOf_52 : decode cX5_faultOf 52 = .ok (.ireturn, 1) := by decide +kernel
theorem dX5_faultOf_53 : decode cX5_faultOf 53 = .ok (.aload_n 0, 1) := by decide +kernel
theorem dX5_faultOf_54 : decode cX5_faultOf 54 = .ok (.invokevirtual 38, 3) := by decide +kernel
theorem dX5_faultOf_57 : decode cX5_faultOf 57 = .ok (.pop, 1) := by decide +kernel
theorem dX5_faultOf_58 : decode cX5_faultOf 58 = .ok (.bipush (-6), 2) := by decide +kernel
theorem dX5_faultOf_60 : decode cX5_faultOf 60 = .ok (.ireturn, 1) := by decide +kernel
set_option maxRecDepth 20000 in
theorem ggX5_durationOf_X9_within : GoodIn wsX5_durationOf wsX9_within := goodIn_r _ [4] (by decide +kernel) (by decide +kernel)
set_option maxRecDepth 20000 in
theorem gX5_durationOf_X9_within_n42 : GoodIn wsX5_durationOf (wsX9_within) := ggX5_durationOf_X9_within
theorem dX5_durationOf_0 : decode cX5_durationOf 0 = .ok (.iload_n 1, 1) := by decide +kernel
theorem dX5_durationOf_1 : decode cX5_durationOf 1 = .ok (.iconst 0, 1) := by decide +kernel
theorem dX5_durationOf_2 : decode cX5_durationOf 2 = .ok (.bipush 19, 2) := by decide +kernel
theorem dX5_durationOf_4 : decode cX5_durationOf 4 = .ok (.invokestatic 42, 3) := by decide +kernel
theorem dX5_durationOf_7 : decode cX5_durationOf 7 = .ok (.ifCond .eq 12, 3) := by decide +kernel
theorem dX5_durationOf_10 : decode cX5_durationOf 10 = .ok (.aload_n 0, 1) := by decide +kernel
theorem dX5_durationOf_11 : decode cX5_durationOf 11 = .ok (.getfield 11, 3) := by decide +kernel
theorem dX5_durationOf_14 : decode cX5_durationOf 14 = .ok (.iload_n 1, 1) := by decide +kernel
theorem dX5_durationOf_15 : decode cX5_durationOf 15 = .ok (.iaload, 1) := by decide +kernel
theorem dX5_durationOf_16 : decode cX5_durationOf 16 = .ok (.goto 4, 3) := by decide +kernel
theorem dX5_durationOf_19 : decode cX5_durationOf 19 = .ok (.iconst 0, 1) := by decide +kernel
theorem dX5_durationOf_20 : decode cX5_durationOf 20 = .ok (.ireturn, 1) := by decide +kernel
set_option maxRecDepth 20000 in
theorem ggX5_outsideOf_X9_within : GoodIn wsX5_outsideOf wsX9_within := goodIn_r _ [4] (by decide +kernel) (by decide +kernel)
set_option maxRecDepth 20000 in
theorem gX5_outsideOf_X9_within_n42 : GoodIn wsX5_outsideOf (wsX9_within) := ggX5_outsideOf_X9_within
theorem dX5_outsideOf_0 : decode cX5_outsideOf 0 = .ok (.iload_n 1, 1) := by decide +kernel
theorem dX5_outsideOf_1 : decode cX5_outsideOf 1 = .ok (.iconst 0, 1) := by decide +kernel
theorem dX5_outsideOf_2 : decode cX5_outsideOf 2 = .ok (.bipush 19, 2) := by decide +kernel
theorem dX5_outsideOf_4 : decode cX5_outsideOf 4 = .ok (.invokestatic 42, 3) := by decide +kernel
theorem dX5_outsideOf_7 : decode cX5_outsideOf 7 = .ok (.ifCond .eq 12, 3) := by decide +kernel
theorem dX5_outsideOf_10 : decode cX5_outsideOf 10 = .ok (.aload_n 0, 1) := by decide +kernel
theorem dX5_outsideOf_11 : decode cX5_outsideOf 11 = .ok (.getfield 15, 3) := by decide +kernel
theorem dX5_outsideOf_14 : decode cX5_outsideOf 14 = .ok (.iload_n 1, 1) := by decide +kernel
theorem dX5_outsideOf_15 : decode cX5_outsideOf 15 = .ok (.iaload, 1) := by decide +kernel
theorem dX5_outsideOf_16 : decode cX5_outsideOf 16 = .ok (.goto 4, 3) := by decide +kernel
theorem dX5_outsideOf_19 : decode cX5_outsideOf 19 = .ok (.iconst 0, 1) := by decide +kernel
theorem dX5_outsideOf_20 : decode cX5_outsideOf 20 = .ok (.ireturn, 1) := by decide +kernel
set_option maxRecDepth 20000 in
theorem ggX5_takes_X5_startsNumber : GoodIn wsX5_takes wsX5_startsNumber := goodIn_r _ [6, 7, 1, 8, 9, 5, 10, 11, 12, 13, 39, 40, 41, 42, 43, 44, 45] (by decide +kernel) (by decide +kernel)
set_option maxRecDepth 20000 in
theorem gX5_takes_X5_startsNumber : GoodIn wsX5_takes (wsV RX5 46 RX5 yX5_startsNumber wsX5_startsNumber) := goodIn_app (goodIn_of _ (by decide +kernel)) ggX5_takes_X5_startsNumber
set_option maxRecDepth 20000 in
theorem ggX5_takes_X5_endsDuration : GoodIn wsX5_takes wsX5_endsDuration := goodIn_r _ [17, 7, 18, 19, 1, 39, 40, 41, 42, 43, 44, 45] (by decide +kernel) (by decide +kernel)
set_option maxRecDepth 20000 in
theorem gX5_takes_X5_endsDuration : GoodIn wsX5_takes (wsV RX5 50 RX5 yX5_endsDuration wsX5_endsDuration) := goodIn_app (goodIn_of _ (by decide +kernel)) ggX5_takes_X5_endsDuration
set_option maxRecDepth 20000 in
theorem ggX5_takes_X5_continuesNumber : GoodIn wsX5_takes wsX5_continuesNumber := goodIn_r _ [23, 7, 8, 9, 5, 10, 11, 12, 13, 39, 40, 41, 42, 43, 44, 45] (by decide +kernel) (by decide +kernel)
set_option maxRecDepth 20000 in
theorem gX5_takes_X5_continuesNumber : GoodIn wsX5_takes (wsV RX5 53 RX5 yX5_continuesNumber wsX5_continuesNumber) := goodIn_app (goodIn_of _ (by decide +kernel)) ggX5_takes_X5_continuesNumber
set_option maxRecDepth 20000 in
theorem ggX5_takes_X5_startsDegrees : GoodIn wsX5_takes wsX5_startsDegrees := goodIn_r _ [27, 19, 1, 28, 29, 30, 5, 31, 2, 3, 4, 6, 7, 8, 9, 10, 11, 12, 13, 39, 40, 41, 42, 43, 44, 45] (by decide +kernel) (by decide +kernel)
set_option maxRecDepth 20000 in
theorem gX5_takes_X5_startsDegrees : GoodIn wsX5_takes (wsV RX5 57 RX5 yX5_startsDegrees wsX5_startsDegrees) := goodIn_app (goodIn_of _ (by decide +kernel)) ggX5_takes_X5_startsDegrees
set_option maxRecDepth 20000 in
theorem ggX5_takes_X5_mostDegrees : GoodIn wsX5_takes wsX5_mostDegrees := goodIn_r _ [31, 19, 39, 40, 41, 42, 43, 44, 45] (by decide +kernel) (by decide +kernel)
set_option maxRecDepth 20000 in
theorem gX5_takes_X5_mostDegrees : GoodIn wsX5_takes (wsV RX5 60 RX5 yX5_mostDegrees wsX5_mostDegrees) := goodIn_app (goodIn_of _ (by decide +kernel)) ggX5_takes_X5_mostDegrees
set_option maxRecDepth 20000 in
theorem ggX5_takes_X5_endLeg : GoodIn wsX5_takes wsX5_endLeg := goodIn_r _ [35, 36, 37, 18, 38, 19, 7, 1, 39, 40, 41, 42, 43, 44, 45] (by decide +kernel) (by decide +kernel)
set_option maxRecDepth 20000 in
theorem gX5_takes_X5_endLeg : GoodIn wsX5_takes (wsV RX5 38 RX5 yX5_endLeg wsX5_endLeg) := goodIn_app (goodIn_of _ (by decide +kernel)) ggX5_takes_X5_endLeg
theorem dX5_takes_0 : decode cX5_takes 0 = .ok (.aload_n 0, 1) := by decide +kernel
theorem dX5_takes_1 : decode cX5_takes 1 = .ok (.getfield 22, 3) := by decide +kernel
theorem dX5_takes_4 : decode cX5_takes 4 = .ok (.tableswitch 83 0 3 #[32, 43, 65, 71], 32) := by decide +kernel
theorem dX5_takes_36 : decode cX5_takes 36 = .ok (.aload_n 0, 1) := by decide +kernel
theorem dX5_takes_37 : decode cX5_takes 37 = .ok (.iload_n 1, 1) := by decide +kernel
theorem dX5_takes_38 : decode cX5_takes 38 = .ok (.iconst 1, 1) := by decide +kernel
theorem dX5_takes_39 : decode cX5_takes 39 = .ok (.sipush 600, 3) := by decide +kernel
theorem dX5_takes_42 : decode cX5_takes 42 = .ok (.iconst 1, 1) := by decide +kernel
theorem dX5_takes_43 : decode cX5_takes 43 = .ok (.invokevirtual 46, 3) := by decide +kernel
theorem dX5_takes_46 : decode cX5_takes 46 = .ok (.ireturn, 1) := by decide +kernel
theorem dX5_takes_47 : decode cX5_takes 47 = .ok (.iload_n 1, 1) := by decide +kernel
theorem dX5_takes_48 : decode cX5_takes 48 = .ok (.bipush 64, 2) := by decide +kernel
theorem dX5_takes_50 : decode cX5_takes 50 = .ok (.if_icmp .ne 10, 3) := by decide +kernel
theorem dX5_takes_53 : decode cX5_takes 53 = .ok (.aload_n 0, 1) := by decide +kernel
theorem dX5_takes_54 : decode cX5_takes 54 = .ok (.invokevirtual 50, 3) := by decide +kernel
theorem dX5_takes_57 : decode cX5_takes 57 = .ok (.goto 11, 3) := by decide +kernel
theorem dX5_takes_60 : decode cX5_takes 60 = .ok (.aload_n 0, 1) := by decide +kernel
theorem dX5_takes_61 : decode cX5_takes 61 = .ok (.iload_n 1, 1) := by decide +kernel
theorem dX5_takes_62 : decode cX5_takes 62 = .ok (.sipush 600, 3) := by decide +kernel
theorem dX5_takes_65 : decode cX5_takes 65 = .ok (.invokevirtual 53, 3) := by decide +kernel
theorem dX5_takes_68 : decode cX5_takes 68 = .ok (.ireturn, 1) := by decide +kernel
theorem dX5_takes_69 : decode cX5_takes 69 = .ok (.aload_n 0, 1) := by decide +kernel
theorem dX5_takes_70 : decode cX5_takes 70 = .ok (.iload_n 1, 1) := by decide +kernel
theorem dX5_takes_71 : decode cX5_takes 71 = .ok (.invokevirtual 57, 3) := by decide +kernel
theorem dX5_takes_74 : decode cX5_takes 74 = .ok (.ireturn, 1) := by decide +kernel
theorem dX5_takes_75 : decode cX5_takes 75 = .ok (.aload_n 0, 1) := by decide +kernel
theorem dX5_takes_76 : decode cX5_takes 76 = .ok (.iload_n 1, 1) := by decide +kernel
theorem dX5_takes_77 : decode cX5_takes 77 = .ok (.iconst 0, 1) := by decide +kernel
theorem dX5_takes_78 : decode cX5_takes 78 = .ok (.aload_n 0, 1) := by decide +kernel
theorem dX5_takes_79 : decode cX5_takes 79 = .ok (.invokevirtual 60, 3) := by decide +kernel
theorem dX5_takes_82 : decode cX5_takes 82 = .ok (.iconst 4, 1) := by decide +kernel
theorem dX5_takes_83 : decode cX5_takes 83 = .ok (.invokevirtual 46, 3) := by decide +kernel
theorem dX5_takes_86 : decode cX5_takes 86 = .ok (.ireturn, 1) := by decide +kernel
theorem dX5_takes_87 : decode cX5_takes 87 = .ok (.iload_n 1, 1) := by decide +kernel
theorem dX5_takes_88 : decode cX5_takes 88 = .ok (.bipush 44, 2) := by decide +kernel
theorem dX5_takes_90 : decode cX5_takes 90 = .ok (.if_icmp .ne 10, 3) := by decide +kernel
theorem dX5_takes_93 : decode cX5_takes 93 = .ok (.aload_n 0, 1) := by decide +kernel
theorem dX5_takes_94 : decode cX5_takes 94 = .ok (.invokevirtual 38, 3) := by decide +kernel
theorem dX5_takes_97 : decode cX5_takes 97 = .ok (.goto 12, 3) := by decide +kernel
theorem dX5_takes_100 : decode cX5_takes 100 = .ok (.aload_n 0, 1) := by decide +kernel
theorem dX5_takes_101 : decode cX5_takes 101 = .ok (.iload_n 1, 1) := by decide +kernel
theorem dX5_takes_102 : decode cX5_takes 102 = .ok (.aload_n 0, 1) := by decide +kernel
theorem dX5_takes_103 : decode cX5_takes 103 = .ok (.invokevirtual 60, 3) := by decide +kernel
theorem dX5_takes_106 : decode cX5_takes 106 = .ok (.invokevirtual 53, 3) := by decide +kernel
theorem dX5_takes_109 : decode cX5_takes 109 = .ok (.ireturn, 1) := by decide +kernel
set_option maxRecDepth 20000 in
theorem ggX5_startsNumber_X5_isDigit : GoodIn wsX5_startsNumber wsX5_isDigit := goodIn_r _ [6, 7, 8, 9] (by decide +kernel) (by decide +kernel)
set_option maxRecDepth 20000 in
theorem gX5_startsNumber_X5_isDigit : GoodIn wsX5_startsNumber (va_wsS RX5 67 yX5_isDigit wsX5_isDigit) := goodIn_app (goodIn_of _ (by decide +kernel)) ggX5_startsNumber_X5_isDigit
set_option maxRecDepth 20000 in
theorem ggX5_startsNumber_X9_within : GoodIn wsX5_startsNumber wsX9_within := goodIn_r _ [9] (by decide +kernel) (by decide +kernel)
set_option maxRecDepth 20000 in
theorem gX5_startsNumber_X9_within_n42 : GoodIn wsX5_startsNumber (wsX9_within) := ggX5_startsNumber_X9_within
theorem dX5_startsNumber_0 : decode cX5_startsNumber 0 = .ok (.aload_n 0, 1) := by decide +kernel
theorem dX5_startsNumber_1 : decode cX5_startsNumber 1 = .ok (.iload_n 1, 1) := by decide +kernel
theorem dX5_startsNumber_2 : decode cX5_startsNumber 2 = .ok (.bipush 48, 2) := by decide +kernel
theorem dX5_startsNumber_4 : decode cX5_startsNumber 4 = .ok (.isub, 1) := by decide +kernel
theorem dX5_startsNumber_5 : decode cX5_startsNumber 5 = .ok (.putfield 64, 3) := by decide +kernel
theorem dX5_startsNumber_8 : decode cX5_startsNumber 8 = .ok (.aload_n 0, 1) := by decide +kernel
theorem dX5_startsNumber_9 : decode cX5_startsNumber 9 = .ok (.iload 4, 2) := by decide +kernel
theorem dX5_startsNumber_11 : decode cX5_startsNumber 11 = .ok (.putfield 22, 3) := by decide +kernel
theorem dX5_startsNumber_14 : decode cX5_startsNumber 14 = .ok (.iload_n 1, 1) := by decide +kernel
theorem dX5_startsNumber_15 : decode cX5_startsNumber 15 = .ok (.invokestatic 67, 3) := by decide +kernel
theorem dX5_startsNumber_18 : decode cX5_startsNumber 18 = .ok (.ifCond .eq 19, 3) := by decide +kernel
theorem dX5_startsNumber_21 : decode cX5_startsNumber 21 = .ok (.aload_n 0, 1) := by decide +kernel
theorem dX5_startsNumber_22 : decode cX5_startsNumber 22 = .ok (.getfield 64, 3) := by decide +kernel
theorem dX5_startsNumber_25 : decode cX5_startsNumber 25 = .ok (.iload_n 2, 1) := by decide +kernel
theorem dX5_startsNumber_26 : decode cX5_startsNumber 26 = .ok (.iload_n 3, 1) := by decide +kernel
theorem dX5_startsNumber_27 : decode cX5_startsNumber 27 = .ok (.invokestatic 42, 3) := by decide +kernel
theorem dX5_startsNumber_30 : decode cX5_startsNumber 30 = .ok (.ifCond .eq 7, 3) := by decide +kernel
theorem dX5_startsNumber_33 : decode cX5_startsNumber 33 = .ok (.iconst 1, 1) := by decide +kernel
theorem dX5_startsNumber_34 : decode cX5_startsNumber 34 = .ok (.goto 4, 3) := by decide +kernel
theorem dX5_startsNumber_37 : decode cX5_startsNumber 37 = .ok (.iconst 0, 1) := by decide +kernel
theorem dX5_startsNumber_38 : decode cX5_startsNumber 38 = .ok (.ireturn, 1) := by decide +kernel
set_option maxRecDepth 20000 in
theorem ggX5_continuesNumber_X5_isDigit : GoodIn wsX5_continuesNumber wsX5_isDigit := goodIn_r _ [5, 6, 7, 8] (by decide +kernel) (by decide +kernel)
set_option maxRecDepth 20000 in
theorem gX5_continuesNumber_X5_isDigit : GoodIn wsX5_continuesNumber (va_wsS RX5 67 yX5_isDigit wsX5_isDigit) := goodIn_app (goodIn_of _ (by decide +kernel)) ggX5_continuesNumber_X5_isDigit
theorem dX5_continuesNumber_0 : decode cX5_continuesNumber 0 = .ok (.iload_n 1, 1) := by decide +kernel
theorem dX5_continuesNumber_1 : decode cX5_continuesNumber 1 = .ok (.invokestatic 67, 3) := by decide +kernel
theorem dX5_continuesNumber_4 : decode cX5_continuesNumber 4 = .ok (.ifCond .eq 10, 3) := by decide +kernel
theorem dX5_continuesNumber_7 : decode cX5_continuesNumber 7 = .ok (.aload_n 0, 1) := by decide +kernel
theorem dX5_continuesNumber_8 : decode cX5_continuesNumber 8 = .ok (.getfield 64, 3) := by decide +kernel
theorem dX5_continuesNumber_11 : decode cX5_continuesNumber 11 = .ok (.ifCond .ne 5, 3) := by decide +kernel
theorem dX5_continuesNumber_14 : decode cX5_continuesNumber 14 = .ok (.iconst 0, 1) := by decide +kernel
theorem dX5_continuesNumber_15 : decode cX5_continuesNumber 15 = .ok (.ireturn, 1) := by decide +kernel
theorem dX5_continuesNumber_16 : decode cX5_continuesNumber 16 = .ok (.aload_n 0, 1) := by decide +kernel
theorem dX5_continuesNumber_17 : decode cX5_continuesNumber 17 = .ok (.aload_n 0, 1) := by decide +kernel
theorem dX5_continuesNumber_18 : decode cX5_continuesNumber 18 = .ok (.getfield 64, 3) := by decide +kernel
theorem dX5_continuesNumber_21 : decode cX5_continuesNumber 21 = .ok (.bipush 10, 2) := by decide +kernel
theorem dX5_continuesNumber_23 : decode cX5_continuesNumber 23 = .ok (.imul, 1) := by decide +kernel
theorem dX5_continuesNumber_24 : decode cX5_continuesNumber 24 = .ok (.iload_n 1, 1) := by decide +kernel
theorem dX5_continuesNumber_25 : decode cX5_continuesNumber 25 = .ok (.iadd, 1) := by decide +kernel
theorem dX5_continuesNumber_26 : decode cX5_continuesNumber 26 = .ok (.bipush 48, 2) := by decide +kernel
theorem dX5_continuesNumber_28 : decode cX5_continuesNumber 28 = .ok (.isub, 1) := by decide +kernel
theorem dX5_continuesNumber_29 : decode cX5_continuesNumber 29 = .ok (.putfield 64, 3) := by decide +kernel
theorem dX5_continuesNumber_32 : decode cX5_continuesNumber 32 = .ok (.aload_n 0, 1) := by decide +kernel
theorem dX5_continuesNumber_33 : decode cX5_continuesNumber 33 = .ok (.getfield 64, 3) := by decide +kernel
theorem dX5_continuesNumber_36 : decode cX5_continuesNumber 36 = .ok (.iload_n 2, 1) := by decide +kernel
theorem dX5_continuesNumber_37 : decode cX5_continuesNumber 37 = .ok (.if_icmp .gt 7, 3) := by decide +kernel
theorem dX5_continuesNumber_40 : decode cX5_continuesNumber 40 = .ok (.iconst 1, 1) := by decide +kernel
theorem dX5_continuesNumber_41 : decode cX5_continuesNumber 41 = .ok (.goto 4, 3) := by decide +kernel
theorem dX5_continuesNumber_44 : decode cX5_continuesNumber 44 = .ok (.iconst 0, 1) := by decide +kernel
theorem dX5_continuesNumber_45 : decode cX5_continuesNumber 45 = .ok (.ireturn, 1) := by decide +kernel
theorem dX5_endsDuration_0 : decode cX5_endsDuration 0 = .ok (.aload_n 0, 1) := by decide +kernel
theorem dX5_endsDuration_1 : decode cX5_endsDuration 1 = .ok (.aload_n 0, 1) := by decide +kernel
theorem dX5_endsDuration_2 : decode cX5_endsDuration 2 = .ok (.getfield 64, 3) := by decide +kernel
theorem dX5_endsDuration_5 : decode cX5_endsDuration 5 = .ok (.putfield 70, 3) := by decide +kernel
theorem dX5_endsDuration_8 : decode cX5_endsDuration 8 = .ok (.aload_n 0, 1) := by decide +kernel
theorem dX5_endsDuration_9 : decode cX5_endsDuration 9 = .ok (.iconst 0, 1) := by decide +kernel
theorem dX5_endsDuration_10 : decode cX5_endsDuration 10 = .ok (.putfield 73, 3) := by decide +kernel
theorem dX5_endsDuration_13 : decode cX5_endsDuration 13 = .ok (.aload_n 0, 1) := by decide +kernel
theorem dX5_endsDuration_14 : decode cX5_endsDuration 14 = .ok (.iconst 2, 1) := by decide +kernel
theorem dX5_endsDuration_15 : decode cX5_endsDuration 15 = .ok (.putfield 22, 3) := by decide +kernel
theorem dX5_endsDuration_18 : decode cX5_endsDuration 18 = .ok (.iconst 1, 1) := by decide +kernel
theorem dX5_endsDuration_19 : decode cX5_endsDuration 19 = .ok (.ireturn, 1) := by decide +kernel
set_option maxRecDepth 20000 in
theorem ggX5_startsDegrees_X5_mostDegrees : GoodIn wsX5_startsDegrees wsX5_mostDegrees := goodIn_r _ [7, 1, 19, 20, 21, 22, 23, 24, 25] (by decide +kernel) (by decide +kernel)
set_option maxRecDepth 20000 in
theorem gX5_startsDegrees_X5_mostDegrees : GoodIn wsX5_startsDegrees (wsV RX5 60 RX5 yX5_mostDegrees wsX5_mostDegrees) := goodIn_app (goodIn_of _ (by decide +kernel)) ggX5_startsDegrees_X5_mostDegrees
set_option maxRecDepth 20000 in
theorem ggX5_startsDegrees_X5_startsNumber : GoodIn wsX5_startsDegrees wsX5_startsNumber := goodIn_r _ [11, 12, 2, 13, 14, 6, 15, 16, 17, 18, 19, 20, 21, 22, 23, 24, 25] (by decide +kernel) (by decide +kernel)
set_option maxRecDepth 20000 in
theorem gX5_startsDegrees_X5_startsNumber : GoodIn wsX5_startsDegrees (wsV RX5 46 RX5 yX5_startsNumber wsX5_startsNumber) := goodIn_app (goodIn_of _ (by decide +kernel)) ggX5_startsDegrees_X5_startsNumber
theorem dX5_startsDegrees_0 : decode cX5_startsDegrees 0 = .ok (.iload_n 1, 1) := by decide +kernel
theorem dX5_startsDegrees_1 : decode cX5_startsDegrees 1 = .ok (.bipush 45, 2) := by decide +kernel
theorem dX5_startsDegrees_3 : decode cX5_startsDegrees 3 = .ok (.if_icmp .eq 15, 3) := by decide +kernel
theorem dX5_startsDegrees_6 : decode cX5_startsDegrees 6 = .ok (.aload_n 0, 1) := by decide +kernel
theorem dX5_startsDegrees_7 : decode cX5_startsDegrees 7 = .ok (.iload_n 1, 1) := by decide +kernel
theorem dX5_startsDegrees_8 : decode cX5_startsDegrees 8 = .ok (.iconst 0, 1) := by decide +kernel
theorem dX5_startsDegrees_9 : decode cX5_startsDegrees 9 = .ok (.aload_n 0, 1) := by decide +kernel
theorem dX5_startsDegrees_10 : decode cX5_startsDegrees 10 = .ok (.invokevirtual 60, 3) := by decide +kernel
theorem dX5_startsDegrees_13 : decode cX5_startsDegrees 13 = .ok (.iconst 4, 1) := by decide +kernel
theorem dX5_startsDegrees_14 : decode cX5_startsDegrees 14 = .ok (.invokevirtual 46, 3) := by decide +kernel
theorem dX5_startsDegrees_17 : decode cX5_startsDegrees 17 = .ok (.ireturn, 1) := by decide +kernel
theorem dX5_startsDegrees_18 : decode cX5_startsDegrees 18 = .ok (.aload_n 0, 1) := by decide +kernel
theorem dX5_startsDegrees_19 : decode cX5_startsDegrees 19 = .ok (.iconst 1, 1) := by decide +kernel
theorem dX5_startsDegrees_20 : decode cX5_startsDegrees 20 = .ok (.putfield 73, 3) := by decide +kernel
theorem dX5_startsDegrees_23 : decode cX5_startsDegrees 23 = .ok (.aload_n 0, 1) := by decide +kernel
theorem dX5_startsDegrees_24 : decode cX5_startsDegrees 24 = .ok (.iconst 3, 1) := by decide +kernel
theorem dX5_startsDegrees_25 : decode cX5_startsDegrees 25 = .ok (.putfield 22, 3) := by decide +kernel
theorem dX5_startsDegrees_28 : decode cX5_startsDegrees 28 = .ok (.iconst 1, 1) := by decide +kernel
theorem dX5_startsDegrees_29 : decode cX5_startsDegrees 29 = .ok (.ireturn, 1) := by decide +kernel
theorem dX5_mostDegrees_0 : decode cX5_mostDegrees 0 = .ok (.aload_n 0, 1) := by decide +kernel
theorem dX5_mostDegrees_1 : decode cX5_mostDegrees 1 = .ok (.getfield 73, 3) := by decide +kernel
theorem dX5_mostDegrees_4 : decode cX5_mostDegrees 4 = .ok (.ifCond .eq 8, 3) := by decide +kernel
theorem dX5_mostDegrees_7 : decode cX5_mostDegrees 7 = .ok (.bipush 40, 2) := by decide +kernel
theorem dX5_mostDegrees_9 : decode cX5_mostDegrees 9 = .ok (.goto 5, 3) := by decide +kernel
theorem dX5_mostDegrees_12 : decode cX5_mostDegrees 12 = .ok (.bipush 50, 2) := by decide +kernel
theorem dX5_mostDegrees_14 : decode cX5_mostDegrees 14 = .ok (.ireturn, 1) := by decide +kernel
theorem dX5_endLeg_0 : decode cX5_endLeg 0 = .ok (.aload_n 0, 1) := by decide +kernel
theorem dX5_endLeg_1 : decode cX5_endLeg 1 = .ok (.getfield 18, 3) := by decide +kernel
theorem dX5_endLeg_4 : decode cX5_endLeg 4 = .ok (.bipush 20, 2) := by decide +kernel
theorem dX5_endLeg_6 : decode cX5_endLeg 6 = .ok (.if_icmp .ge 57, 3) := by decide +kernel
theorem dX5_endLeg_9 : decode cX5_endLeg 9 = .ok (.aload_n 0, 1) := by decide +kernel
theorem dX5_endLeg_10 : decode cX5_endLeg 10 = .ok (.getfield 11, 3) := by decide +kernel
theorem dX5_endLeg_13 : decode cX5_endLeg 13 = .ok (.aload_n 0, 1) := by decide +kernel
theorem dX5_endLeg_14 : decode cX5_endLeg 14 = .ok (.getfield 18, 3) := by decide +kernel
theorem dX5_endLeg_17 : decode cX5_endLeg 17 = .ok (.aload_n 0, 1) := by decide +kernel
theorem dX5_endLeg_18 : decode cX5_endLeg 18 = .ok (.getfield 70, 3) := by decide +kernel
theorem dX5_endLeg_21 : decode cX5_endLeg 21 = .ok (.iastore, 1) := by decide +kernel
theorem dX5_endLeg_22 : decode cX5_endLeg 22 = .ok (.aload_n 0, 1) := by decide +kernel
theorem dX5_endLeg_23 : decode cX5_endLeg 23 = .ok (.getfield 15, 3) := by decide +kernel
theorem dX5_endLeg_26 : decode cX5_endLeg 26 = .ok (.aload_n 0, 1) := by decide +kernel
theorem dX5_endLeg_27 : decode cX5_endLeg 27 = .ok (.getfield 18, 3) := by decide +kernel
theorem dX5_endLeg_30 : decode cX5_endLeg 30 = .ok (.aload_n 0, 1) := by decide +kernel
theorem dX5_endLeg_31 : decode cX5_endLeg 31 = .ok (.getfield 73, 3) := by decide +kernel
theorem dX5_endLeg_34 : decode cX5_endLeg 34 = .ok (.ifCond .eq 11, 3) := by decide +kernel
theorem dX5_endLeg_37 : decode cX5_endLeg 37 = .ok (.aload_n 0, 1) := by decide +kernel
theorem dX5_endLeg_38 : decode cX5_endLeg 38 = .ok (.getfield 64, 3) := by decide +kernel
theorem dX5_endLeg_41 : decode cX5_endLeg 41 = .ok (.ineg, 1) := by decide +kernel
theorem dX5_endLeg_42 : decode cX5_endLeg 42 = .ok (.goto 7, 3) := by decide +kernel
theorem dX5_endLeg_45 : decode cX5_endLeg 45 = .ok (.aload_n 0, 1) := by decide +kernel
theorem dX5_endLeg_46 : decode cX5_endLeg 46 = .ok (.getfield 64, 3) := by decide +kernel
theorem dX5_endLeg_49 : decode cX5_endLeg 49 = .ok (.bipush 100, 2) := by decide +kernel
theorem dX5_endLeg_51 : decode cX5_endLeg 51 = .ok (.imul, 1) := by decide +kernel
theorem dX5_endLeg_52 : decode cX5_endLeg 52 = .ok (.iastore, 1) := by decide +kernel
theorem dX5_endLeg_53 : decode cX5_endLeg 53 = .ok (.aload_n 0, 1) := by decide +kernel
theorem dX5_endLeg_54 : decode cX5_endLeg 54 = .ok (.dup, 1) := by decide +kernel
theorem dX5_endLeg_55 : decode cX5_endLeg 55 = .ok (.getfield 18, 3) := by decide +kernel
theorem dX5_endLeg_58 : decode cX5_endLeg 58 = .ok (.iconst 1, 1) := by decide +kernel
theorem dX5_endLeg_59 : decode cX5_endLeg 59 = .ok (.iadd, 1) := by decide +kernel
theorem dX5_endLeg_60 : decode cX5_endLeg 60 = .ok (.putfield 18, 3) := by decide +kernel
theorem dX5_endLeg_63 : decode cX5_endLeg 63 = .ok (.aload_n 0, 1) := by decide +kernel
theorem dX5_endLeg_64 : decode cX5_endLeg 64 = .ok (.iconst 0, 1) := by decide +kernel
theorem dX5_endLeg_65 : decode cX5_endLeg 65 = .ok (.putfield 22, 3) := by decide +kernel
theorem dX5_endLeg_68 : decode cX5_endLeg 68 = .ok (.iconst 1, 1) := by decide +kernel
theorem dX5_endLeg_69 : decode cX5_endLeg 69 = .ok (.ireturn, 1) := by decide +kernel
set_option maxRecDepth 20000 in
theorem ggX5_isDigit_X9_within : GoodIn wsX5_isDigit wsX9_within := goodIn_r _ [3] (by decide +kernel) (by decide +kernel)
set_option maxRecDepth 20000 in
theorem gX5_isDigit_X9_within_n42 : GoodIn wsX5_isDigit (wsX9_within) := ggX5_isDigit_X9_within
theorem dX5_isDigit_0 : decode cX5_isDigit 0 = .ok (.iload_n 0, 1) := by decide +kernel
theorem dX5_isDigit_1 : decode cX5_isDigit 1 = .ok (.bipush 48, 2) := by decide +kernel
theorem dX5_isDigit_3 : decode cX5_isDigit 3 = .ok (.bipush 57, 2) := by decide +kernel
theorem dX5_isDigit_5 : decode cX5_isDigit 5 = .ok (.invokestatic 42, 3) := by decide +kernel
theorem dX5_isDigit_8 : decode cX5_isDigit 8 = .ok (.ireturn, 1) := by decide +kernel
theorem dX6_init_0 : decode cX6_init 0 = .ok (.aload_n 0, 1) := by decide +kernel
theorem dX6_init_1 : decode cX6_init 1 = .ok (.invokespecial 3, 3) := by decide +kernel
theorem dX6_init_4 : decode cX6_init 4 = .ok (.aload_n 0, 1) := by decide +kernel
theorem dX6_init_5 : decode cX6_init 5 = .ok (.getstatic 9, 3) := by decide +kernel
theorem dX6_init_8 : decode cX6_init 8 = .ok (.invokevirtual 13, 3) := by decide +kernel
theorem dX6_init_11 : decode cX6_init 11 = .ok (.checkcast 14, 3) := by decide +kernel
theorem dX6_init_14 : decode cX6_init 14 = .ok (.putfield 18, 3) := by decide +kernel
theorem dX6_init_17 : decode cX6_init 17 = .ok (.return_, 1) := by decide +kernel
theorem dX6_becomeLike_0 : decode cX6_becomeLike 0 = .ok (.aload_n 1, 1) := by decide +kernel
theorem dX6_becomeLike_1 : decode cX6_becomeLike 1 = .ok (.getfield 18, 3) := by decide +kernel
theorem dX6_becomeLike_4 : decode cX6_becomeLike 4 = .ok (.iconst 0, 1) := by decide +kernel
theorem dX6_becomeLike_5 : decode cX6_becomeLike 5 = .ok (.aload_n 0, 1) := by decide +kernel
theorem dX6_becomeLike_6 : decode cX6_becomeLike 6 = .ok (.getfield 18, 3) := by decide +kernel
theorem dX6_becomeLike_9 : decode cX6_becomeLike 9 = .ok (.iconst 0, 1) := by decide +kernel
theorem dX6_becomeLike_10 : decode cX6_becomeLike 10 = .ok (.aload_n 0, 1) := by decide +kernel
theorem dX6_becomeLike_11 : decode cX6_becomeLike 11 = .ok (.getfield 18, 3) := by decide +kernel
theorem dX6_becomeLike_14 : decode cX6_becomeLike 14 = .ok (.arraylength, 1) := by decide +kernel
theorem dX6_becomeLike_15 : decode cX6_becomeLike 15 = .ok (.invokestatic 23, 3) := by decide +kernel
theorem dX6_becomeLike_18 : decode cX6_becomeLike 18 = .ok (.return_, 1) := by decide +kernel
set_option maxRecDepth 20000 in
theorem ggX6_allows_X9_within : GoodIn wsX6_allows wsX9_within := goodIn_r _ [3] (by decide +kernel) (by decide +kernel)
set_option maxRecDepth 20000 in
theorem gX6_allows_X9_within_n29 : GoodIn wsX6_allows (wsX9_within) := ggX6_allows_X9_within
theorem dX6_allows_0 : decode cX6_allows 0 = .ok (.iload_n 1, 1) := by decide +kernel
theorem dX6_allows_1 : decode cX6_allows 1 = .ok (.iconst 0, 1) := by decide +kernel
theorem dX6_allows_2 : decode cX6_allows 2 = .ok (.bipush 10, 2) := by decide +kernel
theorem dX6_allows_4 : decode cX6_allows 4 = .ok (.invokestatic 29, 3) := by decide +kernel
theorem dX6_allows_7 : decode cX6_allows 7 = .ok (.ifCond .eq 24, 3) := by decide +kernel
theorem dX6_allows_10 : decode cX6_allows 10 = .ok (.iload_n 2, 1) := by decide +kernel
theorem dX6_allows_11 : decode cX6_allows 11 = .ok (.getstatic 33, 3) := by decide +kernel
theorem dX6_allows_14 : decode cX6_allows 14 = .ok (.iload_n 1, 1) := by decide +kernel
theorem dX6_allows_15 : decode cX6_allows 15 = .ok (.iaload, 1) := by decide +kernel
theorem dX6_allows_16 : decode cX6_allows 16 = .ok (.getstatic 36, 3) := by decide +kernel
theorem dX6_allows_19 : decode cX6_allows 19 = .ok (.iload_n 1, 1) := by decide +kernel
theorem dX6_allows_20 : decode cX6_allows 20 = .ok (.iaload, 1) := by decide +kernel
theorem dX6_allows_21 : decode cX6_allows 21 = .ok (.invokestatic 29, 3) := by decide +kernel
theorem dX6_allows_24 : decode cX6_allows 24 = .ok (.ifCond .eq 7, 3) := by decide +kernel
theorem dX6_allows_27 : decode cX6_allows 27 = .ok (.iconst 1, 1) := by decide +kernel
theorem dX6_allows_28 : decode cX6_allows 28 = .ok (.goto 4, 3) := by decide +kernel
theorem dX6_allows_31 : decode cX6_allows 31 = .ok (.iconst 0, 1) := by decide +kernel
theorem dX6_allows_32 : decode cX6_allows 32 = .ok (.ireturn, 1) := by decide +kernel
set_option maxRecDepth 20000 in
theorem ggX6_value_X9_within : GoodIn wsX6_value wsX9_within := goodIn_r _ [4] (by decide +kernel) (by decide +kernel)
set_option maxRecDepth 20000 in
theorem gX6_value_X9_within_n29 : GoodIn wsX6_value (wsX9_within) := ggX6_value_X9_within
theorem dX6_value_0 : decode cX6_value 0 = .ok (.iload_n 1, 1) := by decide +kernel
theorem dX6_value_1 : decode cX6_value 1 = .ok (.iconst 0, 1) := by decide +kernel
theorem dX6_value_2 : decode cX6_value 2 = .ok (.bipush 10, 2) := by decide +kernel
theorem dX6_value_4 : decode cX6_value 4 = .ok (.invokestatic 29, 3) := by decide +kernel
theorem dX6_value_7 : decode cX6_value 7 = .ok (.ifCond .eq 12, 3) := by decide +kernel
theorem dX6_value_10 : decode cX6_value 10 = .ok (.aload_n 0, 1) := by decide +kernel
theorem dX6_value_11 : decode cX6_value 11 = .ok (.getfield 18, 3) := by decide +kernel
theorem dX6_value_14 : decode cX6_value 14 = .ok (.iload_n 1, 1) := by decide +kernel
theorem dX6_value_15 : decode cX6_value 15 = .ok (.iaload, 1) := by decide +kernel
theorem dX6_value_16 : decode cX6_value 16 = .ok (.goto 4, 3) := by decide +kernel
theorem dX6_value_19 : decode cX6_value 19 = .ok (.iconst 0, 1) := by decide +kernel
theorem dX6_value_20 : decode cX6_value 20 = .ok (.ireturn, 1) := by decide +kernel
set_option maxRecDepth 20000 in
theorem ggX6_change_X6_value : GoodIn wsX6_change wsX6_value := goodIn_r _ [6, 1, 7, 8, 9, 14] (by decide +kernel) (by decide +kernel)
set_option maxRecDepth 20000 in
theorem gX6_change_X6_value : GoodIn wsX6_change (wsV RX6 39 RX6 yX6_value wsX6_value) := goodIn_app (goodIn_of _ (by decide +kernel)) ggX6_change_X6_value
set_option maxRecDepth 20000 in
theorem ggX6_change_X6_allows : GoodIn wsX6_change wsX6_allows := goodIn_r _ [13, 7, 8, 9] (by decide +kernel) (by decide +kernel)
set_option maxRecDepth 20000 in
theorem gX6_change_X6_allows : GoodIn wsX6_change (wsV RX6 43 RX6 yX6_allows wsX6_allows) := goodIn_app (goodIn_of _ (by decide +kernel)) ggX6_change_X6_allows
theorem dX6_change_0 : decode cX6_change 0 = .ok (.aload_n 0, 1) := by decide +kernel
theorem dX6_change_1 : decode cX6_change 1 = .ok (.iload_n 1, 1) := by decide +kernel
theorem dX6_change_2 : decode cX6_change 2 = .ok (.invokevirtual 39, 3) := by decide +kernel
theorem dX6_change_5 : decode cX6_change 5 = .ok (.istore_n 3, 1) := by decide +kernel
theorem dX6_change_6 : decode cX6_change 6 = .ok (.aload_n 0, 1) := by decide +kernel
theorem dX6_change_7 : decode cX6_change 7 = .ok (.iload_n 1, 1) := by decide +kernel
theorem dX6_change_8 : decode cX6_change 8 = .ok (.iload_n 2, 1) := by decide +kernel
theorem dX6_change_9 : decode cX6_change 9 = .ok (.invokevirtual 43, 3) := by decide +kernel
theorem dX6_change_12 : decode cX6_change 12 = .ok (.ifCond .eq 10, 3) := by decide +kernel
theorem dX6_change_15 : decode cX6_change 15 = .ok (.aload_n 0, 1) := by decide +kernel
theorem dX6_change_16 : decode cX6_change 16 = .ok (.getfield 18, 3) := by decide +kernel
theorem dX6_change_19 : decode cX6_change 19 = .ok (.iload_n 1, 1) := by decide +kernel
theorem dX6_change_20 : decode cX6_change 20 = .ok (.iload_n 2, 1) := by decide +kernel
theorem dX6_change_21 : decode cX6_change 21 = .ok (.iastore, 1) := by decide +kernel
theorem dX6_change_22 : decode cX6_change 22 = .ok (.iload_n 3, 1) := by decide +kernel
theorem dX6_change_23 : decode cX6_change 23 = .ok (.ireturn, 1) := by decide +kernel
set_option maxRecDepth 20000 in
theorem ggX7_init_X8_init : GoodIn wsX7_init wsX8_init := goodIn_r _ [9, 10, 2, 3, 11, 12, 13, 14, 15, 16, 17, 18, 19, 20, 21, 22, 23, 24, 25, 26, 27, 28, 29, 30, 31, 32, 33, 34, 35, 36, 37, 38, 39, 40, 41, 42, 43, 44, 45, 46, 47, 48, 49, 50, 51, 52, 53, 54, 55, 56, 57, 58, 59, 72, 60, 61, 62, 63, 64, 65, 66, 67, 68, 69, 73, 74, 75, 76, 77, 78, 79, 80, 81, 82, 83, 84, 85, 86, 87, 88, 89, 90] (by decide +kernel) (by decide +kernel)
set_option maxRecDepth 20000 in
theorem gX7_init_X8_init_n9 : GoodIn wsX7_init (wsX8_init) := ggX7_init_X8_init
theorem dX7_init_0 : decode cX7_init 0 = .ok (.aload_n 0, 1) := by decide +kernel
theorem dX7_init_1 : decode cX7_init 1 = .ok (.invokespecial 1, 3) := by decide +kernel
theorem dX7_init_4 : decode cX7_init 4 = .ok (.aload_n 0, 1) := by decide +kernel
theorem dX7_init_5 : decode cX7_init 5 = .ok (.new 7, 3) := by decide +kernel
theorem dX7_init_8 : decode cX7_init 8 = .ok (.dup, 1) := by decide +kernel
theorem dX7_init_9 : decode cX7_init 9 = .ok (.invokespecial 9, 3) := by decide +kernel
theorem dX7_init_12 : decode cX7_init 12 = .ok (.putfield 10, 3) := by decide +kernel
theorem dX7_init_15 : decode cX7_init 15 = .ok (.return_, 1) := by decide +kernel
set_option maxRecDepth 20000 in
theorem ggX8_init_X6_init : GoodIn wsX8_init wsX6_init := goodIn_r _ [21, 22, 2, 3, 23, 24, 25, 26, 27, 28, 29, 53] (by decide +kernel) (by decide +kernel)
set_option maxRecDepth 20000 in
theorem gX8_init_X6_init_n11 : GoodIn wsX8_init (wsX6_init) := ggX8_init_X6_init
set_option maxRecDepth 20000 in
theorem ggX8_init_X2_init : GoodIn wsX8_init wsX2_init := goodIn_r _ [32, 33, 2, 3, 34, 35, 36, 37, 38, 39, 40, 64, 65, 78, 79, 80, 81] (by decide +kernel) (by decide +kernel)
set_option maxRecDepth 20000 in
theorem gX8_init_X2_init : GoodIn wsX8_init (wsX2_init) := ggX8_init_X2_init
set_option maxRecDepth 20000 in
theorem ggX8_init_X1_init : GoodIn wsX8_init wsX1_init := goodIn_r _ [42, 43, 2, 3, 44, 45, 66, 67, 68, 69, 70, 71, 72] (by decide +kernel) (by decide +kernel)
set_option maxRecDepth 20000 in
theorem gX8_init_X1_init_n27 : GoodIn wsX8_init (wsX1_init) := ggX8_init_X1_init
set_option maxRecDepth 20000 in
theorem ggX8_init_X4_init : GoodIn wsX8_init wsX4_init := goodIn_r _ [47, 48, 2, 3, 49, 50, 51, 52, 73, 74, 75, 76, 77] (by decide +kernel) (by decide +kernel)
set_option maxRecDepth 20000 in
theorem gX8_init_X4_init_n34 : GoodIn wsX8_init (wsX4_init) := ggX8_init_X4_init
theorem dX8_init_0 : decode cX8_init 0 = .ok (.aload_n 0, 1) := by decide +kernel
theorem dX8_init_1 : decode cX8_init 1 = .ok (.invokespecial 3, 3) := by decide +kernel
theorem dX8_init_4 : decode cX8_init 4 = .ok (.aload_n 0, 1) := by decide +kernel
theorem dX8_init_5 : decode cX8_init 5 = .ok (.new 9, 3) := by decide +kernel
theorem dX8_init_8 : decode cX8_init 8 = .ok (.dup, 1) := by decide +kernel
theorem dX8_init_9 : decode cX8_init 9 = .ok (.invokespecial 11, 3) := by decide +kernel
theorem dX8_init_12 : decode cX8_init 12 = .ok (.putfield 12, 3) := by decide +kernel
theorem dX8_init_15 : decode cX8_init 15 = .ok (.aload_n 0, 1) := by decide +kernel
theorem dX8_init_16 : decode cX8_init 16 = .ok (.new 18, 3) := by decide +kernel
theorem dX8_init_19 : decode cX8_init 19 = .ok (.dup, 1) := by decide +kernel
theorem dX8_init_20 : decode cX8_init 20 = .ok (.invokespecial 20, 3) := by decide +kernel
theorem dX8_init_23 : decode cX8_init 23 = .ok (.putfield 21, 3) := by decide +kernel
theorem dX8_init_26 : decode cX8_init 26 = .ok (.aload_n 0, 1) := by decide +kernel
theorem dX8_init_27 : decode cX8_init 27 = .ok (.new 25, 3) := by decide +kernel
theorem dX8_init_30 : decode cX8_init 30 = .ok (.dup, 1) := by decide +kernel
theorem dX8_init_31 : decode cX8_init 31 = .ok (.invokespecial 27, 3) := by decide +kernel
theorem dX8_init_34 : decode cX8_init 34 = .ok (.putfield 28, 3) := by decide +kernel
theorem dX8_init_37 : decode cX8_init 37 = .ok (.aload_n 0, 1) := by decide +kernel
theorem dX8_init_38 : decode cX8_init 38 = .ok (.new 32, 3) := by decide +kernel
theorem dX8_init_41 : decode cX8_init 41 = .ok (.dup, 1) := by decide +kernel
theorem dX8_init_42 : decode cX8_init 42 = .ok (.invokespecial 34, 3) := by decide +kernel
theorem dX8_init_45 : decode cX8_init 45 = .ok (.putfield 35, 3) := by decide +kernel
theorem dX8_init_48 : decode cX8_init 48 = .ok (.return_, 1) := by decide +kernel
set_option maxRecDepth 20000 in
theorem ggX8_becomeLike_X6_becomeLike : GoodIn wsX8_becomeLike wsX6_becomeLike := goodIn_r _ [15, 16, 17, 18, 19, 20, 70] (by decide +kernel) (by decide +kernel)
set_option maxRecDepth 20000 in
theorem gX8_becomeLike_X6_becomeLike : GoodIn wsX8_becomeLike (wsV RX8 39 RX6 yX6_becomeLike wsX6_becomeLike) := goodIn_app (goodIn_of _ (by decide +kernel)) ggX8_becomeLike_X6_becomeLike
set_option maxRecDepth 20000 in
theorem ggX8_becomeLike_X2_becomeLike : GoodIn wsX8_becomeLike wsX2_becomeLike := goodIn_r _ [25, 26, 27, 28, 29, 30, 31, 32, 33, 34, 35, 36, 71, 72, 73, 74, 75, 76] (by decide +kernel) (by decide +kernel)
set_option maxRecDepth 20000 in
theorem gX8_becomeLike_X2_becomeLike : GoodIn wsX8_becomeLike (wsV RX8 43 RX2 yX2_becomeLike wsX2_becomeLike) := goodIn_app (goodIn_of _ (by decide +kernel)) ggX8_becomeLike_X2_becomeLike
set_option maxRecDepth 20000 in
theorem ggX8_becomeLike_X1_becomeLike : GoodIn wsX8_becomeLike wsX1_becomeLike := goodIn_r _ [41, 42, 43, 44, 45, 46, 47, 48, 77, 78, 79, 80, 81, 82, 83] (by decide +kernel) (by decide +kernel)
set_option maxRecDepth 20000 in
theorem gX8_becomeLike_X1_becomeLike : GoodIn wsX8_becomeLike (wsV RX8 46 RX1 yX1_becomeLike wsX1_becomeLike) := goodIn_app (goodIn_of _ (by decide +kernel)) ggX8_becomeLike_X1_becomeLike
set_option maxRecDepth 20000 in
theorem ggX8_becomeLike_X4_becomeLike : GoodIn wsX8_becomeLike wsX4_becomeLike := goodIn_r _ [53, 54, 55, 18, 19, 20, 56, 57, 58, 59, 84, 85, 86, 87, 88] (by decide +kernel) (by decide +kernel)
set_option maxRecDepth 20000 in
theorem gX8_becomeLike_X4_becomeLike : GoodIn wsX8_becomeLike (wsV RX8 49 RX4 yX4_becomeLike wsX4_becomeLike) := goodIn_app (goodIn_of _ (by decide +kernel)) ggX8_becomeLike_X4_becomeLike
theorem dX8_becomeLike_0 : decode cX8_becomeLike 0 = .ok (.aload_n 0, 1) := by decide +kernel
theorem dX8_becomeLike_1 : decode cX8_becomeLike 1 = .ok (.getfield 12, 3) := by decide +kernel
theorem dX8_becomeLike_4 : decode cX8_becomeLike 4 = .ok (.aload_n 1, 1) := by decide +kernel
theorem dX8_becomeLike_5 : decode cX8_becomeLike 5 = .ok (.getfield 12, 3) := by decide +kernel
theorem dX8_becomeLike_8 : decode cX8_becomeLike 8 = .ok (.invokevirtual 39, 3) := by decide +kernel
theorem dX8_becomeLike_11 : decode cX8_becomeLike 11 = .ok (.aload_n 0, 1) := by decide +kernel
theorem dX8_becomeLike_12 : decode cX8_becomeLike 12 = .ok (.getfield 21, 3) := by decide +kernel
theorem dX8_becomeLike_15 : decode cX8_becomeLike 15 = .ok (.aload_n 1, 1) := by decide +kernel
theorem dX8_becomeLike_16 : decode cX8_becomeLike 16 = .ok (.getfield 21, 3) := by decide +kernel
theorem dX8_becomeLike_19 : decode cX8_becomeLike 19 = .ok (.invokevirtual 43, 3) := by decide +kernel
theorem dX8_becomeLike_22 : decode cX8_becomeLike 22 = .ok (.aload_n 0, 1) := by decide +kernel
theorem dX8_becomeLike_23 : decode cX8_becomeLike 23 = .ok (.getfield 28, 3) := by decide +kernel
theorem dX8_becomeLike_26 : decode cX8_becomeLike 26 = .ok (.aload_n 1, 1) := by decide +kernel
theorem dX8_becomeLike_27 : decode cX8_becomeLike 27 = .ok (.getfield 28, 3) := by decide +kernel
theorem dX8_becomeLike_30 : decode cX8_becomeLike 30 = .ok (.invokevirtual 46, 3) := by decide +kernel
theorem dX8_becomeLike_33 : decode cX8_becomeLike 33 = .ok (.aload_n 0, 1) := by decide +kernel
theorem dX8_becomeLike_34 : decode cX8_becomeLike 34 = .ok (.getfield 35, 3) := by decide +kernel
theorem dX8_becomeLike_37 : decode cX8_becomeLike 37 = .ok (.aload_n 1, 1) := by decide +kernel
theorem dX8_becomeLike_38 : decode cX8_becomeLike 38 = .ok (.getfield 35, 3) := by decide +kernel
theorem dX8_becomeLike_41 : decode cX8_becomeLike 41 = .ok (.invokevirtual 49, 3) := by decide +kernel
theorem dX8_becomeLike_44 : decode cX8_becomeLike 44 = .ok (.aload_n 0, 1) := by decide +kernel
theorem dX8_becomeLike_45 : decode cX8_becomeLike 45 = .ok (.aload_n 1, 1) := by decide +kernel
theorem dX8_becomeLike_46 : decode cX8_becomeLike 46 = .ok (.getfield 52, 3) := by decide +kernel
theorem dX8_becomeLike_49 : decode cX8_becomeLike 49 = .ok (.putfield 52, 3) := by decide +kernel
theorem dX8_becomeLike_52 : decode cX8_becomeLike 52 = .ok (.aload_n 0, 1) := by decide +kernel
theorem dX8_becomeLike_53 : decode cX8_becomeLike 53 = .ok (.aload_n 1, 1) := by decide +kernel
theorem dX8_becomeLike_54 : decode cX8_becomeLike 54 = .ok (.getfield 56, 3) := by decide +kernel
theorem dX8_becomeLike_57 : decode cX8_becomeLike 57 = .ok (.putfield 56, 3) := by decide +kernel
theorem dX8_becomeLike_60 : decode cX8_becomeLike 60 = .ok (.aload_n 0, 1) := by decide +kernel
theorem dX8_becomeLike_61 : decode cX8_becomeLike 61 = .ok (.aload_n 1, 1) := by decide +kernel
theorem dX8_becomeLike_62 : decode cX8_becomeLike 62 = .ok (.getfield 60, 3) := by decide +kernel
theorem dX8_becomeLike_65 : decode cX8_becomeLike 65 = .ok (.putfield 60, 3) := by decide +kernel
theorem dX8_becomeLike_68 : decode cX8_becomeLike 68 = .ok (.aload_n 0, 1) := by decide +kernel
theorem dX8_becomeLike_69 : decode cX8_becomeLike 69 = .ok (.aload_n 1, 1) := by decide +kernel
theorem dX8_becomeLike_70 : decode cX8_becomeLike 70 = .ok (.getfield 63, 3) := by decide +kernel
theorem dX8_becomeLike_73 : decode cX8_becomeLike 73 = .ok (.putfield 63, 3) := by decide +kernel
theorem dX8_becomeLike_76 : decode cX8_becomeLike 76 = .ok (.aload_n 0, 1) := by decide +kernel
theorem dX8_becomeLike_77 : decode cX8_becomeLike 77 = .ok (.aload_n 1, 1) := by decide +kernel
theorem dX8_becomeLike_78 : decode cX8_becomeLike 78 = .ok (.getfield 66, 3) := by decide +kernel
theorem dX8_becomeLike_81 : decode cX8_becomeLike 81 = .ok (.putfield 66, 3) := by decide +kernel
theorem dX8_becomeLike_84 : decode cX8_becomeLike 84 = .ok (.aload_n 0, 1) := by decide +kernel
theorem dX8_becomeLike_85 : decode cX8_becomeLike 85 = .ok (.aload_n 1, 1) := by decide +kernel
theorem dX8_becomeLike_86 : decode cX8_becomeLike 86 = .ok (.getfield 69, 3) := by decide +kernel
theorem dX8_becomeLike_89 : decode cX8_becomeLike 89 = .ok (.putfield 69, 3) := by decide +kernel
theorem dX8_becomeLike_92 : decode cX8_becomeLike 92 = .ok (.return_, 1) := by decide +kernel
set_option maxRecDepth 20000 in
theorem ggX8_concentration_X1_concentration : GoodIn wsX8_concentration wsX1_concentration := goodIn_r _ [7, 8, 9, 10, 11, 12, 13, 14, 15, 16, 17, 18, 19, 20, 31, 32, 33, 34, 35, 36, 37, 38] (by decide +kernel) (by decide +kernel)
set_option maxRecDepth 20000 in
theorem gX8_concentration_X1_concentration : GoodIn wsX8_concentration (wsV RX8 72 RX1 yX1_concentration wsX1_concentration) := goodIn_app (goodIn_of _ (by decide +kernel)) ggX8_concentration_X1_concentration
theorem dX8_concentration_0 : decode cX8_concentration 0 = .ok (.aload_n 0, 1) := by decide +kernel
theorem dX8_concentration_1 : decode cX8_concentration 1 = .ok (.getfield 28, 3) := by decide +kernel
theorem dX8_concentration_4 : decode cX8_concentration 4 = .ok (.aload_n 0, 1) := by decide +kernel
theorem dX8_concentration_5 : decode cX8_concentration 5 = .ok (.getfield 12, 3) := by decide +kernel
theorem dX8_concentration_8 : decode cX8_concentration 8 = .ok (.invokevirtual 72, 3) := by decide +kernel
theorem dX8_concentration_11 : decode cX8_concentration 11 = .ok (.lreturn, 1) := by decide +kernel
set_option maxRecDepth 20000 in
theorem ggX8_isSafe_X8_concentration : GoodIn wsX8_isSafe wsX8_concentration := goodIn_r _ [6, 7, 1, 8, 9, 10, 11, 12, 13, 14, 15, 16, 17, 18, 19, 20, 21, 22, 23, 24, 25, 27, 28, 29, 30, 31, 32, 33, 34, 35, 36, 37, 38, 39, 40, 41, 42, 43, 44] (by decide +kernel) (by decide +kernel)
set_option maxRecDepth 20000 in
theorem gX8_isSafe_X8_concentration : GoodIn wsX8_isSafe (wsV RX8 76 RX8 yX8_concentration wsX8_concentration) := goodIn_app (goodIn_of _ (by decide +kernel)) ggX8_isSafe_X8_concentration
set_option maxRecDepth 20000 in
theorem ggX8_isSafe_X6_value : GoodIn wsX8_isSafe wsX6_value := goodIn_r _ [19, 20, 21, 22, 23, 44] (by decide +kernel) (by decide +kernel)
set_option maxRecDepth 20000 in
theorem gX8_isSafe_X6_value : GoodIn wsX8_isSafe (wsV RX8 79 RX6 yX6_value wsX6_value) := goodIn_app (goodIn_of _ (by decide +kernel)) ggX8_isSafe_X6_value
theorem dX8_isSafe_0 : decode cX8_isSafe 0 = .ok (.aload_n 0, 1) := by decide +kernel
theorem dX8_isSafe_1 : decode cX8_isSafe 1 = .ok (.invokevirtual 76, 3) := by decide +kernel
theorem dX8_isSafe_4 : decode cX8_isSafe 4 = .ok (.aload_n 0, 1) := by decide +kernel
theorem dX8_isSafe_5 : decode cX8_isSafe 5 = .ok (.getfield 12, 3) := by decide +kernel
theorem dX8_isSafe_8 : decode cX8_isSafe 8 = .ok (.bipush 8, 2) := by decide +kernel
theorem dX8_isSafe_10 : decode cX8_isSafe 10 = .ok (.invokevirtual 79, 3) := by decide +kernel
theorem dX8_isSafe_13 : decode cX8_isSafe 13 = .ok (.i2l, 1) := by decide +kernel
theorem dX8_isSafe_14 : decode cX8_isSafe 14 = .ok (.lcmp, 1) := by decide +kernel
theorem dX8_isSafe_15 : decode cX8_isSafe 15 = .ok (.ifCond .ge 7, 3) := by decide +kernel
theorem dX8_isSafe_18 : decode cX8_isSafe 18 = .ok (.iconst 1, 1) := by decide +kernel
theorem dX8_isSafe_19 : decode cX8_isSafe 19 = .ok (.goto 4, 3) := by decide +kernel
theorem dX8_isSafe_22 : decode cX8_isSafe 22 = .ok (.iconst 0, 1) := by decide +kernel
theorem dX8_isSafe_23 : decode cX8_isSafe 23 = .ok (.ireturn, 1) := by decide +kernel
set_option maxRecDepth 20000 in
theorem ggX8_letPass_X8_letMinutePass : GoodIn wsX8_letPass wsX8_letMinutePass := goodIn_r _ [5, 6, 7, 8, 9, 10, 11, 12, 13, 14, 15, 16, 17, 18, 19, 20, 21, 22, 23, 24, 25, 26, 27, 28, 29, 30, 31, 32, 33, 34, 35, 36, 37, 38, 39, 40, 41, 42, 43, 44, 45, 46, 47, 48, 49, 50, 51, 52, 53, 54, 55, 56, 57, 58, 59, 60, 61, 62, 63, 64, 65, 66, 67, 68, 69, 70, 71, 72, 73, 74, 75, 76, 77, 78, 79, 80, 81, 82, 83, 84, 85, 86, 87, 88, 89, 90, 91, 92, 93, 94, 95, 96, 97, 98, 99, 100, 101, 102, 103, 104, 105, 106, 107, 108, 109, 110, 111, 112, 113, 114, 115, 116, 117, 118, 119, 120, 121, 122, 123, 124, 125, 126, 127, 128, 129, 130, 131, 132, 133, 134, 135, 136, 137, 138, 139, 140, 141, 142, 143, 144, 145, 146, 147, 148, 149, 150] (by decide +kernel) (by decide +kernel)
set_option maxRecDepth 20000 in
theorem gX8_letPass_X8_letMinutePass : GoodIn wsX8_letPass (wsV RX8 83 RX8 yX8_letMinutePass wsX8_letMinutePass) := goodIn_app (goodIn_of _ (by decide +kernel)) ggX8_letPass_X8_letMinutePass
theorem dX8_letPass_0 : decode cX8_letPass 0 = .ok (.iconst 0, 1) := by decide +kernel
theorem dX8_letPass_1 : decode cX8_letPass 1 = .ok (.istore_n 2, 1) := by decide +kernel
theorem dX8_letPass_2 : decode cX8_letPass 2 = .ok (.iload_n 2, 1) := by decide +kernel
theorem dX8_letPass_3 : decode cX8_letPass 3 = .ok (.iload_n 1, 1) := by decide +kernel
theorem dX8_letPass_4 : decode cX8_letPass 4 = .ok (.if_icmp .ge 13, 3) := by decide +kernel
theorem dX8_letPass_7 : decode cX8_letPass 7 = .ok (.aload_n 0, 1) := by decide +kernel
theorem dX8_letPass_8 : decode cX8_letPass 8 = .ok (.invokevirtual 83, 3) := by decide +kernel
theorem dX8_letPass_11 : decode cX8_letPass 11 = .ok (.iinc 2 1, 3) := by decide +kernel
theorem dX8_letPass_14 : decode cX8_letPass 14 = .ok (.goto (-12), 3) := by decide +kernel
theorem dX8_letPass_17 : decode cX8_letPass 17 = .ok (.return_, 1) := by decide +kernel
set_option maxRecDepth 20000 in
theorem ggX8_letMinutePass_X6_value : GoodIn wsX8_letMinutePass wsX6_value := goodIn_r _ [12, 13, 14, 15, 16, 134] (by decide +kernel) (by decide +kernel)
set_option maxRecDepth 20000 in
theorem gX8_letMinutePass_X6_value : GoodIn wsX8_letMinutePass (wsV RX8 79 RX6 yX6_value wsX6_value) := goodIn_app (goodIn_of _ (by decide +kernel)) ggX8_letMinutePass_X6_value
set_option maxRecDepth 20000 in
theorem ggX8_letMinutePass_X2_letGoOff : GoodIn wsX8_letMinutePass wsX2_letGoOff := goodIn_r _ [21, 22, 23, 24, 25, 26, 27, 28, 29, 30, 31, 32, 33, 34, 35, 36, 37, 38, 39, 15, 40, 41, 42, 43, 44, 45, 46, 47, 48, 135, 136, 137, 138, 139, 140] (by decide +kernel) (by decide +kernel)
set_option maxRecDepth 20000 in
theorem gX8_letMinutePass_X2_letGoOff : GoodIn wsX8_letMinutePass (wsV RX8 89 RX2 yX2_letGoOff wsX2_letGoOff) := goodIn_app (goodIn_of _ (by decide +kernel)) ggX8_letMinutePass_X2_letGoOff
set_option maxRecDepth 20000 in
theorem ggX8_letMinutePass_X4_outsideNow : GoodIn wsX8_letMinutePass wsX4_outsideNow := goodIn_r _ [53, 54, 55, 56, 57, 58, 52, 59, 60, 14, 15, 16, 141, 142, 143, 144, 145] (by decide +kernel) (by decide +kernel)
set_option maxRecDepth 20000 in
theorem gX8_letMinutePass_X4_outsideNow : GoodIn wsX8_letMinutePass (wsV RX8 93 RX4 yX4_outsideNow wsX4_outsideNow) := goodIn_app (goodIn_of _ (by decide +kernel)) ggX8_letMinutePass_X4_outsideNow
set_option maxRecDepth 20000 in
theorem ggX8_letMinutePass_X1_letMinutePass : GoodIn wsX8_letMinutePass wsX1_letMinutePass := goodIn_r _ [65, 66, 67, 68, 69, 70, 71, 64, 72, 73, 74, 75, 76, 33, 77, 78, 47, 48, 79, 9, 10, 11, 12, 13, 14, 15, 16, 39, 40, 80, 81, 82, 83, 84, 85, 86, 87, 88, 89, 90, 91, 92, 93, 94, 95, 96, 97, 98, 99, 100, 101, 102, 103, 104, 105, 106, 107, 127, 128, 129, 130, 131, 132, 133, 134] (by decide +kernel) (by decide +kernel)
set_option maxRecDepth 20000 in
theorem gX8_letMinutePass_X1_letMinutePass : GoodIn wsX8_letMinutePass (wsV RX8 97 RX1 yX1_letMinutePass wsX1_letMinutePass) := goodIn_app (goodIn_of _ (by decide +kernel)) ggX8_letMinutePass_X1_letMinutePass
set_option maxRecDepth 20000 in
theorem ggX8_letMinutePass_X4_letMinutePass : GoodIn wsX8_letMinutePass wsX4_letMinutePass := goodIn_r _ [111, 112, 113, 114, 115, 52, 116, 141, 142, 143, 144, 145] (by decide +kernel) (by decide +kernel)
set_option maxRecDepth 20000 in
theorem gX8_letMinutePass_X4_letMinutePass : GoodIn wsX8_letMinutePass (wsV RX8 100 RX4 yX4_letMinutePass wsX4_letMinutePass) := goodIn_app (goodIn_of _ (by decide +kernel)) ggX8_letMinutePass_X4_letMinutePass
theorem dX8_letMinutePass_0 : decode cX8_letMinutePass 0 = .ok (.aload_n 0, 1) := by decide +kernel
theorem dX8_letMinutePass_1 : decode cX8_letMinutePass 1 = .ok (.getfield 21, 3) := by decide +kernel
theorem dX8_letMinutePass_4 : decode cX8_letMinutePass 4 = .ok (.aload_n 0, 1) := by decide +kernel
theorem dX8_letMinutePass_5 : decode cX8_letMinutePass 5 = .ok (.getfield 28, 3) := by decide +kernel
theorem dX8_letMinutePass_8 : decode cX8_letMinutePass 8 = .ok (.getfield 86, 3) := by decide +kernel
theorem dX8_letMinutePass_11 : decode cX8_letMinutePass 11 = .ok (.aload_n 0, 1) := by decide +kernel
theorem dX8_letMinutePass_12 : decode cX8_letMinutePass 12 = .ok (.getfield 12, 3) := by decide +kernel
theorem dX8_letMinutePass_15 : decode cX8_letMinutePass 15 = .ok (.iconst 0, 1) := by decide +kernel
theorem dX8_letMinutePass_16 : decode cX8_letMinutePass 16 = .ok (.invokevirtual 79, 3) := by decide +kernel
theorem dX8_letMinutePass_19 : decode cX8_letMinutePass 19 = .ok (.invokevirtual 89, 3) := by decide +kernel
theorem dX8_letMinutePass_22 : decode cX8_letMinutePass 22 = .ok (.istore_n 1, 1) := by decide +kernel
theorem dX8_letMinutePass_23 : decode cX8_letMinutePass 23 = .ok (.aload_n 0, 1) := by decide +kernel
theorem dX8_letMinutePass_24 : decode cX8_letMinutePass 24 = .ok (.dup, 1) := by decide +kernel
theorem dX8_letMinutePass_25 : decode cX8_letMinutePass 25 = .ok (.getfield 63, 3) := by decide +kernel
theorem dX8_letMinutePass_28 : decode cX8_letMinutePass 28 = .ok (.iload_n 1, 1) := by decide +kernel
theorem dX8_letMinutePass_29 : decode cX8_letMinutePass 29 = .ok (.i2l, 1) := by decide +kernel
theorem dX8_letMinutePass_30 : decode cX8_letMinutePass 30 = .ok (.ladd, 1) := by decide +kernel
theorem dX8_letMinutePass_31 : decode cX8_letMinutePass 31 = .ok (.putfield 63, 3) := by decide +kernel
theorem dX8_letMinutePass_34 : decode cX8_letMinutePass 34 = .ok (.aload_n 0, 1) := by decide +kernel
theorem dX8_letMinutePass_35 : decode cX8_letMinutePass 35 = .ok (.getfield 28, 3) := by decide +kernel
theorem dX8_letMinutePass_38 : decode cX8_letMinutePass 38 = .ok (.iload_n 1, 1) := by decide +kernel
theorem dX8_letMinutePass_39 : decode cX8_letMinutePass 39 = .ok (.aload_n 0, 1) := by decide +kernel
theorem dX8_letMinutePass_40 : decode cX8_letMinutePass 40 = .ok (.getfield 35, 3) := by decide +kernel
theorem dX8_letMinutePass_43 : decode cX8_letMinutePass 43 = .ok (.invokevirtual 93, 3) := by decide +kernel
theorem dX8_letMinutePass_46 : decode cX8_letMinutePass 46 = .ok (.aload_n 0, 1) := by decide +kernel
theorem dX8_letMinutePass_47 : decode cX8_letMinutePass 47 = .ok (.getfield 12, 3) := by decide +kernel
theorem dX8_letMinutePass_50 : decode cX8_letMinutePass 50 = .ok (.invokevirtual 97, 3) := by decide +kernel
theorem dX8_letMinutePass_53 : decode cX8_letMinutePass 53 = .ok (.aload_n 0, 1) := by decide +kernel
theorem dX8_letMinutePass_54 : decode cX8_letMinutePass 54 = .ok (.getfield 35, 3) := by decide +kernel
theorem dX8_letMinutePass_57 : decode cX8_letMinutePass 57 = .ok (.invokevirtual 100, 3) := by decide +kernel
theorem dX8_letMinutePass_60 : decode cX8_letMinutePass 60 = .ok (.aload_n 0, 1) := by decide +kernel
theorem dX8_letMinutePass_61 : decode cX8_letMinutePass 61 = .ok (.dup, 1) := by decide +kernel
theorem dX8_letMinutePass_62 : decode cX8_letMinutePass 62 = .ok (.getfield 52, 3) := by decide +kernel
theorem dX8_letMinutePass_65 : decode cX8_letMinutePass 65 = .ok (.iconst 1, 1) := by decide +kernel
theorem dX8_letMinutePass_66 : decode cX8_letMinutePass 66 = .ok (.iadd, 1) := by decide +kernel
theorem dX8_letMinutePass_67 : decode cX8_letMinutePass 67 = .ok (.putfield 52, 3) := by decide +kernel
theorem dX8_letMinutePass_70 : decode cX8_letMinutePass 70 = .ok (.return_, 1) := by decide +kernel
set_option maxRecDepth 20000 in
theorem ggX8_driveToEnd_X4_isOnTheWay : GoodIn wsX8_driveToEnd wsX4_isOnTheWay := goodIn_r _ [7, 8, 148, 149, 150, 151, 152] (by decide +kernel) (by decide +kernel)
set_option maxRecDepth 20000 in
theorem gX8_driveToEnd_X4_isOnTheWay : GoodIn wsX8_driveToEnd (wsV RX8 101 RX4 yX4_isOnTheWay wsX4_isOnTheWay) := goodIn_app (goodIn_of _ (by decide +kernel)) ggX8_driveToEnd_X4_isOnTheWay
set_option maxRecDepth 20000 in
theorem ggX8_driveToEnd_X8_letPass : GoodIn wsX8_driveToEnd wsX8_letPass := goodIn_r _ [13, 14, 15, 16, 12, 17, 18, 19, 20, 21, 22, 1, 23, 24, 25, 26, 27, 28, 29, 30, 31, 32, 33, 34, 35, 36, 37, 38, 39, 40, 41, 42, 43, 44, 45, 46, 47, 48, 49, 50, 51, 52, 53, 54, 55, 56, 57, 58, 59, 60, 61, 62, 63, 64, 65, 66, 67, 6, 68, 69, 70, 71, 72, 73, 74, 75, 76, 77, 78, 79, 80, 81, 82, 83, 84, 85, 86, 87, 88, 89, 90, 91, 92, 93, 94, 95, 96, 97, 98, 99, 100, 101, 102, 103, 104, 105, 106, 107, 108, 109, 110, 111, 112, 113, 114, 115, 116, 117, 118, 119, 120, 121, 122, 123, 124, 125, 126, 8, 127, 4, 5, 7, 138, 139, 140, 141, 142, 143, 144, 145, 146, 147, 153, 154, 155, 156, 157, 158, 159, 160, 161, 162, 163, 164, 165, 166, 148, 149, 150, 151, 152] (by decide +kernel) (by decide +kernel)
set_option maxRecDepth 20000 in
theorem gX8_driveToEnd_X8_letPass : GoodIn wsX8_driveToEnd (wsV RX8 108 RX8 yX8_letPass wsX8_letPass) := goodIn_app (goodIn_of _ (by decide +kernel)) ggX8_driveToEnd_X8_letPass
set_option maxRecDepth 20000 in
theorem ggX8_driveToEnd_X4_hasNextLeg : GoodIn wsX8_driveToEnd wsX4_hasNextLeg := goodIn_r _ [131, 69, 71, 72, 73, 6, 74, 75, 30, 31, 32, 148, 149, 150, 151, 152] (by decide +kernel) (by decide +kernel)
set_option maxRecDepth 20000 in
theorem gX8_driveToEnd_X4_hasNextLeg : GoodIn wsX8_driveToEnd (wsV RX8 112 RX4 yX4_hasNextLeg wsX4_hasNextLeg) := goodIn_app (goodIn_of _ (by decide +kernel)) ggX8_driveToEnd_X4_hasNextLeg
set_option maxRecDepth 20000 in
theorem ggX8_driveToEnd_X4_beginNextLeg : GoodIn wsX8_driveToEnd wsX4_beginNextLeg := goodIn_r _ [135, 69, 136, 8, 137, 129, 130, 6, 131, 71, 72, 73, 74, 75, 30, 31, 32, 148, 149, 150, 151, 152] (by decide +kernel) (by decide +kernel)
set_option maxRecDepth 20000 in
theorem gX8_driveToEnd_X4_beginNextLeg : GoodIn wsX8_driveToEnd (wsV RX8 115 RX4 yX4_beginNextLeg wsX4_beginNextLeg) := goodIn_app (goodIn_of _ (by decide +kernel)) ggX8_driveToEnd_X4_beginNextLeg
theorem dX8_driveToEnd_0 : decode cX8_driveToEnd 0 = .ok (.aload_n 0, 1) := by decide +kernel
theorem dX8_driveToEnd_1 : decode cX8_driveToEnd 1 = .ok (.getfield 35, 3) := by decide +kernel
theorem dX8_driveToEnd_4 : decode cX8_driveToEnd 4 = .ok (.invokevirtual 101, 3) := by decide +kernel
theorem dX8_driveToEnd_7 : decode cX8_driveToEnd 7 = .ok (.istore_n 2, 1) := by decide +kernel
theorem dX8_driveToEnd_8 : decode cX8_driveToEnd 8 = .ok (.aload_n 0, 1) := by decide +kernel
theorem dX8_driveToEnd_9 : decode cX8_driveToEnd 9 = .ok (.aload_n 0, 1) := by decide +kernel
theorem dX8_driveToEnd_10 : decode cX8_driveToEnd 10 = .ok (.getfield 35, 3) := by decide +kernel
theorem dX8_driveToEnd_13 : decode cX8_driveToEnd 13 = .ok (.getfield 105, 3) := by decide +kernel
theorem dX8_driveToEnd_16 : decode cX8_driveToEnd 16 = .ok (.invokevirtual 108, 3) := by decide +kernel
theorem dX8_driveToEnd_19 : decode cX8_driveToEnd 19 = .ok (.iconst 0, 1) := by decide +kernel
theorem dX8_driveToEnd_20 : decode cX8_driveToEnd 20 = .ok (.istore_n 3, 1) := by decide +kernel
theorem dX8_driveToEnd_21 : decode cX8_driveToEnd 21 = .ok (.iload_n 3, 1) := by decide +kernel
theorem dX8_driveToEnd_22 : decode cX8_driveToEnd 22 = .ok (.bipush 12, 2) := by decide +kernel
theorem dX8_driveToEnd_24 : decode cX8_driveToEnd 24 = .ok (.if_icmp .ge 48, 3) := by decide +kernel
theorem dX8_driveToEnd_27 : decode cX8_driveToEnd 27 = .ok (.aload_n 0, 1) := by decide +kernel
theorem dX8_driveToEnd_28 : decode cX8_driveToEnd 28 = .ok (.getfield 35, 3) := by decide +kernel
theorem dX8_driveToEnd_31 : decode cX8_driveToEnd 31 = .ok (.invokevirtual 112, 3) := by decide +kernel
theorem dX8_driveToEnd_34 : decode cX8_driveToEnd 34 = .ok (.ifCond .eq 38, 3) := by decide +kernel
theorem dX8_driveToEnd_37 : decode cX8_driveToEnd 37 = .ok (.iload_n 2, 1) := by decide +kernel
theorem dX8_driveToEnd_38 : decode cX8_driveToEnd 38 = .ok (.ifCond .eq 8, 3) := by decide +kernel
theorem dX8_driveToEnd_41 : decode cX8_driveToEnd 41 = .ok (.aload_n 0, 1) := by decide +kernel
theorem dX8_driveToEnd_42 : decode cX8_driveToEnd 42 = .ok (.iload_n 1, 1) := by decide +kernel
theorem dX8_driveToEnd_43 : decode cX8_driveToEnd 43 = .ok (.invokevirtual 108, 3) := by decide +kernel
theorem dX8_driveToEnd_46 : decode cX8_driveToEnd 46 = .ok (.aload_n 0, 1) := by decide +kernel
theorem dX8_driveToEnd_47 : decode cX8_driveToEnd 47 = .ok (.getfield 35, 3) := by decide +kernel
theorem dX8_driveToEnd_50 : decode cX8_driveToEnd 50 = .ok (.invokevirtual 115, 3) := by decide +kernel
theorem dX8_driveToEnd_53 : decode cX8_driveToEnd 53 = .ok (.aload_n 0, 1) := by decide +kernel
theorem dX8_driveToEnd_54 : decode cX8_driveToEnd 54 = .ok (.aload_n 0, 1) := by decide +kernel
theorem dX8_driveToEnd_55 : decode cX8_driveToEnd 55 = .ok (.getfield 35, 3) := by decide +kernel
theorem dX8_driveToEnd_58 : decode cX8_driveToEnd 58 = .ok (.getfield 105, 3) := by decide +kernel
theorem dX8_driveToEnd_61 : decode cX8_driveToEnd 61 = .ok (.invokevirtual 108, 3) := by decide +kernel
theorem dX8_driveToEnd_64 : decode cX8_driveToEnd 64 = .ok (.iconst 1, 1) := by decide +kernel
theorem dX8_driveToEnd_65 : decode cX8_driveToEnd 65 = .ok (.istore_n 2, 1) := by decide +kernel
theorem dX8_driveToEnd_66 : decode cX8_driveToEnd 66 = .ok (.iinc 3 1, 3) := by decide +kernel
theorem dX8_driveToEnd_69 : decode cX8_driveToEnd 69 = .ok (.goto (-48), 3) := by decide +kernel
theorem dX8_driveToEnd_72 : decode cX8_driveToEnd 72 = .ok (.return_, 1) := by decide +kernel
end
section
set_option maxRecDepth 20000 in
theorem ggX9_init_X8_init : GoodIn wsX9_init wsX8_init := goodIn_r _ [23, 24, 2, 3, 25, 26, 27, 28, 29, 30, 31, 32, 33, 34, 35, 36, 37, 38, 39, 40, 41, 42, 43, 44, 45, 46, 47, 48, 49, 50, 51, 52, 53, 54, 55, 56, 57, 58, 59, 60, 61, 62, 63, 64, 65, 66, 67, 68, 69, 70, 71, 72, 73, 115, 88, 89, 90, 91, 92, 93, 94, 95, 96, 97, 116, 117, 118, 119, 120, 121, 122, 123, 124, 125, 126, 127, 128, 129, 130, 131, 132, 133] (by decide +kernel) (by decide +kernel)
set_option maxRecDepth 20000 in
theorem gX9_init_X8_init_n9 : GoodIn wsX9_init (wsX8_init) := ggX9_init_X8_init
set_option maxRecDepth 20000 in
theorem ggX9_init_X7_init : GoodIn wsX9_init wsX7_init := goodIn_r _ [75, 76, 2, 3, 77, 5, 6, 78, 22, 23, 24, 25, 26, 27, 28, 29, 30, 31, 32, 33, 34, 35, 36, 37, 38, 39, 40, 41, 42, 43, 44, 45, 46, 47, 48, 49, 50, 51, 52, 53, 54, 55, 56, 57, 58, 59, 60, 61, 62, 63, 64, 65, 66, 67, 68, 69, 70, 71, 72, 73, 88, 89, 90, 91, 92, 93, 94, 95, 96, 97, 104, 105, 115, 116, 117, 118, 119, 120, 121, 122, 123, 124, 125, 126, 127, 128, 129, 130, 131, 132, 133] (by decide +kernel) (by decide +kernel)
set_option maxRecDepth 20000 in
theorem gX9_init_X7_init_n21 : GoodIn wsX9_init (wsX7_init) := ggX9_init_X7_init
set_option maxRecDepth 20000 in
theorem ggX9_init_X3_init : GoodIn wsX9_init wsX3_init := goodIn_r _ [80, 81, 2, 3, 70, 82, 106, 107] (by decide +kernel) (by decide +kernel)
set_option maxRecDepth 20000 in
theorem gX9_init_X3_init_n31 : GoodIn wsX9_init (wsX3_init) := ggX9_init_X3_init
set_option maxRecDepth 20000 in
theorem ggX9_init_X5_init : GoodIn wsX9_init wsX5_init := goodIn_r _ [84, 85, 2, 3, 70, 86, 87, 108, 109, 110, 111, 112, 113, 114] (by decide +kernel) (by decide +kernel)
set_option maxRecDepth 20000 in
theorem gX9_init_X5_init_n38 : GoodIn wsX9_init (wsX5_init) := ggX9_init_X5_init
theorem dX9_init_0 : decode cX9_init 0 = .ok (.aload_n 0, 1) := by decide +kernel
theorem dX9_init_1 : decode cX9_init 1 = .ok (.invokespecial 1, 3) := by decide +kernel
theorem dX9_init_4 : decode cX9_init 4 = .ok (.aload_n 0, 1) := by decide +kernel
theorem dX9_init_5 : decode cX9_init 5 = .ok (.new 7, 3) := by decide +kernel
theorem dX9_init_8 : decode cX9_init 8 = .ok (.dup, 1) := by decide +kernel
theorem dX9_init_9 : decode cX9_init 9 = .ok (.invokespecial 9, 3) := by decide +kernel
theorem dX9_init_12 : decode cX9_init 12 = .ok (.putfield 10, 3) := by decide +kernel
theorem dX9_init_15 : decode cX9_init 15 = .ok (.aload_n 0, 1) := by decide +kernel
theorem dX9_init_16 : decode cX9_init 16 = .ok (.new 7, 3) := by decide +kernel
theorem dX9_init_19 : decode cX9_init 19 = .ok (.dup, 1) := by decide +kernel
theorem dX9_init_20 : decode cX9_init 20 = .ok (.invokespecial 9, 3) := by decide +kernel
theorem dX9_init_23 : decode cX9_init 23 = .ok (.putfield 16, 3) := by decide +kernel
theorem dX9_init_26 : decode cX9_init 26 = .ok (.aload_n 0, 1) := by decide +kernel
theorem dX9_init_27 : decode cX9_init 27 = .ok (.new 19, 3) := by decide +kernel
theorem dX9_init_30 : decode cX9_init 30 = .ok (.dup, 1) := by decide +kernel
theorem dX9_init_31 : decode cX9_init 31 = .ok (.invokespecial 21, 3) := by decide +kernel
theorem dX9_init_34 : decode cX9_init 34 = .ok (.putfield 22, 3) := by decide +kernel
theorem dX9_init_37 : decode cX9_init 37 = .ok (.aload_n 0, 1) := by decide +kernel
theorem dX9_init_38 : decode cX9_init 38 = .ok (.new 19, 3) := by decide +kernel
theorem dX9_init_41 : decode cX9_init 41 = .ok (.dup, 1) := by decide +kernel
theorem dX9_init_42 : decode cX9_init 42 = .ok (.invokespecial 21, 3) := by decide +kernel
theorem dX9_init_45 : decode cX9_init 45 = .ok (.putfield 26, 3) := by decide +kernel
theorem dX9_init_48 : decode cX9_init 48 = .ok (.aload_n 0, 1) := by decide +kernel
theorem dX9_init_49 : decode cX9_init 49 = .ok (.new 29, 3) := by decide +kernel
theorem dX9_init_52 : decode cX9_init 52 = .ok (.dup, 1) := by decide +kernel
theorem dX9_init_53 : decode cX9_init 53 = .ok (.invokespecial 31, 3) := by decide +kernel
theorem dX9_init_56 : decode cX9_init 56 = .ok (.putfield 32, 3) := by decide +kernel
theorem dX9_init_59 : decode cX9_init 59 = .ok (.aload_n 0, 1) := by decide +kernel
theorem dX9_init_60 : decode cX9_init 60 = .ok (.new 36, 3) := by decide +kernel
theorem dX9_init_63 : decode cX9_init 63 = .ok (.dup, 1) := by decide +kernel
theorem dX9_init_64 : decode cX9_init 64 = .ok (.invokespecial 38, 3) := by decide +kernel
theorem dX9_init_67 : decode cX9_init 67 = .ok (.putfield 39, 3) := by decide +kernel
theorem dX9_init_70 : decode cX9_init 70 = .ok (.return_, 1) := by decide +kernel
set_option maxRecDepth 20000 in
theorem ggX9_load_X9_within : GoodIn wsX9_load wsX9_within := goodIn_r _ [12] (by decide +kernel) (by decide +kernel)
set_option maxRecDepth 20000 in
theorem gX9_load_X9_within : GoodIn wsX9_load (va_wsS RX9 43 yX9_within wsX9_within) := goodIn_app (goodIn_of _ (by decide +kernel)) ggX9_load_X9_within
set_option maxRecDepth 20000 in
theorem ggX9_load_X2_append : GoodIn wsX9_load wsX2_append := goodIn_r _ [17, 18, 19, 20, 21, 22, 23, 40, 41, 49, 50, 51, 52] (by decide +kernel) (by decide +kernel)
set_option maxRecDepth 20000 in
theorem gX9_load_X2_append : GoodIn wsX9_load (wsV RX9 69 RX2 yX2_append wsX2_append) := goodIn_app (goodIn_of _ (by decide +kernel)) ggX9_load_X2_append
theorem dX9_load_0 : decode cX9_load 0 = .ok (.iload_n 1, 1) := by decide +kernel
theorem dX9_load_1 : decode cX9_load 1 = .ok (.iconst 1, 1) := by decide +kernel
theorem dX9_load_2 : decode cX9_load 2 = .ok (.bipush 100, 2) := by decide +kernel
theorem dX9_load_4 : decode cX9_load 4 = .ok (.invokestatic 43, 3) := by decide +kernel
theorem dX9_load_7 : decode cX9_load 7 = .ok (.ifCond .eq 23, 3) := by decide +kernel
theorem dX9_load_10 : decode cX9_load 10 = .ok (.iload_n 2, 1) := by decide +kernel
theorem dX9_load_11 : decode cX9_load 11 = .ok (.iconst 0, 1) := by decide +kernel
theorem dX9_load_12 : decode cX9_load 12 = .ok (.ldc 47, 2) := by decide +kernel
theorem dX9_load_14 : decode cX9_load 14 = .ok (.invokestatic 43, 3) := by decide +kernel
theorem dX9_load_17 : decode cX9_load 17 = .ok (.ifCond .eq 13, 3) := by decide +kernel
theorem dX9_load_20 : decode cX9_load 20 = .ok (.iload_n 3, 1) := by decide +kernel
theorem dX9_load_21 : decode cX9_load 21 = .ok (.iconst 0, 1) := by decide +kernel
theorem dX9_load_22 : decode cX9_load 22 = .ok (.ldc 48, 2) := by decide +kernel
theorem dX9_load_24 : decode cX9_load 24 = .ok (.invokestatic 43, 3) := by decide +kernel
theorem dX9_load_27 : decode cX9_load 27 = .ok (.ifCond .ne 6, 3) := by decide +kernel
theorem dX9_load_30 : decode cX9_load 30 = .ok (.bipush (-2), 2) := by decide +kernel
theorem dX9_load_32 : decode cX9_load 32 = .ok (.ireturn, 1) := by decide +kernel
theorem dX9_load_33 : decode cX9_load 33 = .ok (.aload_n 0, 1) := by decide +kernel
theorem dX9_load_34 : decode cX9_load 34 = .ok (.getfield 10, 3) := by decide +kernel
theorem dX9_load_37 : decode cX9_load 37 = .ok (.getfield 49, 3) := by decide +kernel
theorem dX9_load_40 : decode cX9_load 40 = .ok (.getfield 53, 3) := by decide +kernel
theorem dX9_load_43 : decode cX9_load 43 = .ok (.bipush 10, 2) := by decide +kernel
theorem dX9_load_45 : decode cX9_load 45 = .ok (.if_icmp .lt 6, 3) := by decide +kernel
theorem dX9_load_48 : decode cX9_load 48 = .ok (.bipush (-4), 2) := by decide +kernel
theorem dX9_load_50 : decode cX9_load 50 = .ok (.ireturn, 1) := by decide +kernel
theorem dX9_load_51 : decode cX9_load 51 = .ok (.aload_n 0, 1) := by decide +kernel
theorem dX9_load_52 : decode cX9_load 52 = .ok (.getfield 10, 3) := by decide +kernel
theorem dX9_load_55 : decode cX9_load 55 = .ok (.getfield 59, 3) := by decide +kernel
theorem dX9_load_58 : decode cX9_load 58 = .ok (.getfield 63, 3) := by decide +kernel
theorem dX9_load_61 : decode cX9_load 61 = .ok (.ifCond .ne 6, 3) := by decide +kernel
theorem dX9_load_64 : decode cX9_load 64 = .ok (.bipush (-5), 2) := by decide +kernel
theorem dX9_load_66 : decode cX9_load 66 = .ok (.ireturn, 1) := by decide +kernel
theorem dX9_load_67 : decode cX9_load 67 = .ok (.aload_n 0, 1) := by decide +kernel
theorem dX9_load_68 : decode cX9_load 68 = .ok (.getfield 10, 3) := by decide +kernel
theorem dX9_load_71 : decode cX9_load 71 = .ok (.getfield 49, 3) := by decide +kernel
theorem dX9_load_74 : decode cX9_load 74 = .ok (.iload_n 1, 1) := by decide +kernel
theorem dX9_load_75 : decode cX9_load 75 = .ok (.iload_n 2, 1) := by decide +kernel
theorem dX9_load_76 : decode cX9_load 76 = .ok (.iload_n 3, 1) := by decide +kernel
theorem dX9_load_77 : decode cX9_load 77 = .ok (.invokevirtual 69, 3) := by decide +kernel
theorem dX9_load_80 : decode cX9_load 80 = .ok (.aload_n 0, 1) := by decide +kernel
theorem dX9_load_81 : decode cX9_load 81 = .ok (.getfield 10, 3) := by decide +kernel
theorem dX9_load_84 : decode cX9_load 84 = .ok (.dup, 1) := by decide +kernel
theorem dX9_load_85 : decode cX9_load 85 = .ok (.getfield 73, 3) := by decide +kernel
theorem dX9_load_88 : decode cX9_load 88 = .ok (.iload_n 3, 1) := by decide +kernel
theorem dX9_load_89 : decode cX9_load 89 = .ok (.i2l, 1) := by decide +kernel
theorem dX9_load_90 : decode cX9_load 90 = .ok (.ladd, 1) := by decide +kernel
theorem dX9_load_91 : decode cX9_load 91 = .ok (.putfield 73, 3) := by decide +kernel
theorem dX9_load_94 : decode cX9_load 94 = .ok (.aload_n 0, 1) := by decide +kernel
theorem dX9_load_95 : decode cX9_load 95 = .ok (.getfield 10, 3) := by decide +kernel
theorem dX9_load_98 : decode cX9_load 98 = .ok (.getfield 49, 3) := by decide +kernel
theorem dX9_load_101 : decode cX9_load 101 = .ok (.getfield 53, 3) := by decide +kernel
theorem dX9_load_104 : decode cX9_load 104 = .ok (.iconst 1, 1) := by decide +kernel
theorem dX9_load_105 : decode cX9_load 105 = .ok (.isub, 1) := by decide +kernel
theorem dX9_load_106 : decode cX9_load 106 = .ok (.ireturn, 1) := by decide +kernel
set_option maxRecDepth 20000 in
theorem ggX9_unload_X2_boxAt : GoodIn wsX9_unload wsX2_boxAt := goodIn_r _ [11, 12, 13, 14, 15, 16, 52, 53] (by decide +kernel) (by decide +kernel)
set_option maxRecDepth 20000 in
theorem gX9_unload_X2_boxAt : GoodIn wsX9_unload (wsV RX9 77 RX2 yX2_boxAt wsX2_boxAt) := goodIn_app (goodIn_of _ (by decide +kernel)) ggX9_unload_X2_boxAt
set_option maxRecDepth 20000 in
theorem ggX9_unload_X2_takeOut : GoodIn wsX9_unload wsX2_takeOut := goodIn_r _ [20, 12, 14, 15, 16, 21, 22, 23, 10, 24, 13, 52, 53] (by decide +kernel) (by decide +kernel)
set_option maxRecDepth 20000 in
theorem gX9_unload_X2_takeOut : GoodIn wsX9_unload (wsV RX9 86 RX2 yX2_takeOut wsX2_takeOut) := goodIn_app (goodIn_of _ (by decide +kernel)) ggX9_unload_X2_takeOut
theorem dX9_unload_0 : decode cX9_unload 0 = .ok (.aload_n 0, 1) := by decide +kernel
theorem dX9_unload_1 : decode cX9_unload 1 = .ok (.getfield 10, 3) := by decide +kernel
theorem dX9_unload_4 : decode cX9_unload 4 = .ok (.getfield 49, 3) := by decide +kernel
theorem dX9_unload_7 : decode cX9_unload 7 = .ok (.iload_n 1, 1) := by decide +kernel
theorem dX9_unload_8 : decode cX9_unload 8 = .ok (.invokevirtual 77, 3) := by decide +kernel
theorem dX9_unload_11 : decode cX9_unload 11 = .ok (.astore_n 2, 1) := by decide +kernel
theorem dX9_unload_12 : decode cX9_unload 12 = .ok (.aload_n 2, 1) := by decide +kernel
theorem dX9_unload_13 : decode cX9_unload 13 = .ok (.ifnonnull 5, 3) := by decide +kernel
theorem dX9_unload_16 : decode cX9_unload 16 = .ok (.iconst (-1), 1) := by decide +kernel
theorem dX9_unload_17 : decode cX9_unload 17 = .ok (.ireturn, 1) := by decide +kernel
theorem dX9_unload_18 : decode cX9_unload 18 = .ok (.aload_n 0, 1) := by decide +kernel
theorem dX9_unload_19 : decode cX9_unload 19 = .ok (.getfield 10, 3) := by decide +kernel
theorem dX9_unload_22 : decode cX9_unload 22 = .ok (.getfield 59, 3) := by decide +kernel
theorem dX9_unload_25 : decode cX9_unload 25 = .ok (.getfield 63, 3) := by decide +kernel
theorem dX9_unload_28 : decode cX9_unload 28 = .ok (.ifCond .ne 6, 3) := by decide +kernel
theorem dX9_unload_31 : decode cX9_unload 31 = .ok (.bipush (-5), 2) := by decide +kernel
theorem dX9_unload_33 : decode cX9_unload 33 = .ok (.ireturn, 1) := by decide +kernel
theorem dX9_unload_34 : decode cX9_unload 34 = .ok (.aload_n 2, 1) := by decide +kernel
theorem dX9_unload_35 : decode cX9_unload 35 = .ok (.getfield 81, 3) := by decide +kernel
theorem dX9_unload_38 : decode cX9_unload 38 = .ok (.istore_n 3, 1) := by decide +kernel
theorem dX9_unload_39 : decode cX9_unload 39 = .ok (.aload_n 0, 1) := by decide +kernel
theorem dX9_unload_40 : decode cX9_unload 40 = .ok (.getfield 10, 3) := by decide +kernel
theorem dX9_unload_43 : decode cX9_unload 43 = .ok (.getfield 49, 3) := by decide +kernel
theorem dX9_unload_46 : decode cX9_unload 46 = .ok (.iload_n 1, 1) := by decide +kernel
theorem dX9_unload_47 : decode cX9_unload 47 = .ok (.invokevirtual 86, 3) := by decide +kernel
theorem dX9_unload_50 : decode cX9_unload 50 = .ok (.aload_n 0, 1) := by decide +kernel
theorem dX9_unload_51 : decode cX9_unload 51 = .ok (.getfield 10, 3) := by decide +kernel
theorem dX9_unload_54 : decode cX9_unload 54 = .ok (.dup, 1) := by decide +kernel
theorem dX9_unload_55 : decode cX9_unload 55 = .ok (.getfield 90, 3) := by decide +kernel
theorem dX9_unload_58 : decode cX9_unload 58 = .ok (.iload_n 3, 1) := by decide +kernel
theorem dX9_unload_59 : decode cX9_unload 59 = .ok (.i2l, 1) := by decide +kernel
theorem dX9_unload_60 : decode cX9_unload 60 = .ok (.ladd, 1) := by decide +kernel
theorem dX9_unload_61 : decode cX9_unload 61 = .ok (.putfield 90, 3) := by decide +kernel
theorem dX9_unload_64 : decode cX9_unload 64 = .ok (.iload_n 3, 1) := by decide +kernel
theorem dX9_unload_65 : decode cX9_unload 65 = .ok (.ireturn, 1) := by decide +kernel
set_option maxRecDepth 20000 in
theorem ggX9_shift_X2_boxAt : GoodIn wsX9_shift wsX2_boxAt := goodIn_r _ [8, 9, 10, 11, 12, 13, 38, 39] (by decide +kernel) (by decide +kernel)
set_option maxRecDepth 20000 in
theorem gX9_shift_X2_boxAt : GoodIn wsX9_shift (wsV RX9 77 RX2 yX2_boxAt wsX2_boxAt) := goodIn_app (goodIn_of _ (by decide +kernel)) ggX9_shift_X2_boxAt
set_option maxRecDepth 20000 in
theorem ggX9_shift_X2_move : GoodIn wsX9_shift wsX2_move := goodIn_r _ [17, 9, 10, 11, 12, 13, 38, 39] (by decide +kernel) (by decide +kernel)
set_option maxRecDepth 20000 in
theorem gX9_shift_X2_move : GoodIn wsX9_shift (wsV RX9 93 RX2 yX2_move wsX2_move) := goodIn_app (goodIn_of _ (by decide +kernel)) ggX9_shift_X2_move
theorem dX9_shift_0 : decode cX9_shift 0 = .ok (.aload_n 0, 1) := by decide +kernel
theorem dX9_shift_1 : decode cX9_shift 1 = .ok (.getfield 10, 3) := by decide +kernel
theorem dX9_shift_4 : decode cX9_shift 4 = .ok (.getfield 49, 3) := by decide +kernel
theorem dX9_shift_7 : decode cX9_shift 7 = .ok (.iload_n 1, 1) := by decide +kernel
theorem dX9_shift_8 : decode cX9_shift 8 = .ok (.invokevirtual 77, 3) := by decide +kernel
theorem dX9_shift_11 : decode cX9_shift 11 = .ok (.astore_n 3, 1) := by decide +kernel
theorem dX9_shift_12 : decode cX9_shift 12 = .ok (.aload_n 3, 1) := by decide +kernel
theorem dX9_shift_13 : decode cX9_shift 13 = .ok (.ifnull 17, 3) := by decide +kernel
theorem dX9_shift_16 : decode cX9_shift 16 = .ok (.aload_n 0, 1) := by decide +kernel
theorem dX9_shift_17 : decode cX9_shift 17 = .ok (.getfield 10, 3) := by decide +kernel
theorem dX9_shift_20 : decode cX9_shift 20 = .ok (.getfield 49, 3) := by decide +kernel
theorem dX9_shift_23 : decode cX9_shift 23 = .ok (.iload_n 2, 1) := by decide +kernel
theorem dX9_shift_24 : decode cX9_shift 24 = .ok (.invokevirtual 77, 3) := by decide +kernel
theorem dX9_shift_27 : decode cX9_shift 27 = .ok (.ifnonnull 5, 3) := by decide +kernel
theorem dX9_shift_30 : decode cX9_shift 30 = .ok (.iconst (-1), 1) := by decide +kernel
theorem dX9_shift_31 : decode cX9_shift 31 = .ok (.ireturn, 1) := by decide +kernel
theorem dX9_shift_32 : decode cX9_shift 32 = .ok (.aload_n 0, 1) := by decide +kernel
theorem dX9_shift_33 : decode cX9_shift 33 = .ok (.getfield 10, 3) := by decide +kernel
theorem dX9_shift_36 : decode cX9_shift 36 = .ok (.getfield 49, 3) := by decide +kernel
theorem dX9_shift_39 : decode cX9_shift 39 = .ok (.iload_n 1, 1) := by decide +kernel
theorem dX9_shift_40 : decode cX9_shift 40 = .ok (.iload_n 2, 1) := by decide +kernel
theorem dX9_shift_41 : decode cX9_shift 41 = .ok (.invokevirtual 93, 3) := by decide +kernel
theorem dX9_shift_44 : decode cX9_shift 44 = .ok (.aload_n 3, 1) := by decide +kernel
theorem dX9_shift_45 : decode cX9_shift 45 = .ok (.getfield 81, 3) := by decide +kernel
theorem dX9_shift_48 : decode cX9_shift 48 = .ok (.ireturn, 1) := by decide +kernel
set_option maxRecDepth 20000 in
theorem ggX9_set_X6_allows : GoodIn wsX9_set wsX6_allows := goodIn_r _ [7, 8, 9, 10] (by decide +kernel) (by decide +kernel)
set_option maxRecDepth 20000 in
theorem gX9_set_X6_allows : GoodIn wsX9_set (wsV RX9 101 RX6 yX6_allows wsX6_allows) := goodIn_app (goodIn_of _ (by decide +kernel)) ggX9_set_X6_allows
set_option maxRecDepth 20000 in
theorem ggX9_set_X6_change : GoodIn wsX9_set wsX6_change := goodIn_r _ [14, 15, 16, 17, 18, 6, 19, 8, 9, 10, 20, 4, 5, 7, 37] (by decide +kernel) (by decide +kernel)
set_option maxRecDepth 20000 in
theorem gX9_set_X6_change : GoodIn wsX9_set (wsV RX9 107 RX6 yX6_change wsX6_change) := goodIn_app (goodIn_of _ (by decide +kernel)) ggX9_set_X6_change
theorem dX9_set_0 : decode cX9_set 0 = .ok (.aload_n 0, 1) := by decide +kernel
theorem dX9_set_1 : decode cX9_set 1 = .ok (.getfield 10, 3) := by decide +kernel
theorem dX9_set_4 : decode cX9_set 4 = .ok (.getfield 97, 3) := by decide +kernel
theorem dX9_set_7 : decode cX9_set 7 = .ok (.iload_n 1, 1) := by decide +kernel
theorem dX9_set_8 : decode cX9_set 8 = .ok (.iload_n 2, 1) := by decide +kernel
theorem dX9_set_9 : decode cX9_set 9 = .ok (.invokevirtual 101, 3) := by decide +kernel
theorem dX9_set_12 : decode cX9_set 12 = .ok (.ifCond .ne 6, 3) := by decide +kernel
theorem dX9_set_15 : decode cX9_set 15 = .ok (.bipush (-2), 2) := by decide +kernel
theorem dX9_set_17 : decode cX9_set 17 = .ok (.ireturn, 1) := by decide +kernel
theorem dX9_set_18 : decode cX9_set 18 = .ok (.aload_n 0, 1) := by decide +kernel
theorem dX9_set_19 : decode cX9_set 19 = .ok (.getfield 10, 3) := by decide +kernel
theorem dX9_set_22 : decode cX9_set 22 = .ok (.getfield 97, 3) := by decide +kernel
theorem dX9_set_25 : decode cX9_set 25 = .ok (.iload_n 1, 1) := by decide +kernel
theorem dX9_set_26 : decode cX9_set 26 = .ok (.iload_n 2, 1) := by decide +kernel
theorem dX9_set_27 : decode cX9_set 27 = .ok (.invokevirtual 107, 3) := by decide +kernel
theorem dX9_set_30 : decode cX9_set 30 = .ok (.ireturn, 1) := by decide +kernel
set_option maxRecDepth 20000 in
theorem ggX9_leg_X9_within : GoodIn wsX9_leg wsX9_within := goodIn_r _ [7] (by decide +kernel) (by decide +kernel)
set_option maxRecDepth 20000 in
theorem gX9_leg_X9_within : GoodIn wsX9_leg (va_wsS RX9 43 yX9_within wsX9_within) := goodIn_app (goodIn_of _ (by decide +kernel)) ggX9_leg_X9_within
set_option maxRecDepth 20000 in
theorem ggX9_leg_X4_append : GoodIn wsX9_leg wsX4_append := goodIn_r _ [12, 13, 14, 15, 32, 33, 34, 35, 36] (by decide +kernel) (by decide +kernel)
set_option maxRecDepth 20000 in
theorem gX9_leg_X4_append : GoodIn wsX9_leg (wsV RX9 118 RX4 yX4_append wsX4_append) := goodIn_app (goodIn_of _ (by decide +kernel)) ggX9_leg_X4_append
theorem dX9_leg_0 : decode cX9_leg 0 = .ok (.iload_n 1, 1) := by decide +kernel
theorem dX9_leg_1 : decode cX9_leg 1 = .ok (.iconst 1, 1) := by decide +kernel
theorem dX9_leg_2 : decode cX9_leg 2 = .ok (.sipush 600, 3) := by decide +kernel
theorem dX9_leg_5 : decode cX9_leg 5 = .ok (.invokestatic 43, 3) := by decide +kernel
theorem dX9_leg_8 : decode cX9_leg 8 = .ok (.ifCond .eq 16, 3) := by decide +kernel
theorem dX9_leg_11 : decode cX9_leg 11 = .ok (.iload_n 2, 1) := by decide +kernel
theorem dX9_leg_12 : decode cX9_leg 12 = .ok (.sipush (-4000), 3) := by decide +kernel
theorem dX9_leg_15 : decode cX9_leg 15 = .ok (.sipush 5000, 3) := by decide +kernel
theorem dX9_leg_18 : decode cX9_leg 18 = .ok (.invokestatic 43, 3) := by decide +kernel
theorem dX9_leg_21 : decode cX9_leg 21 = .ok (.ifCond .ne 6, 3) := by decide +kernel
theorem dX9_leg_24 : decode cX9_leg 24 = .ok (.bipush (-2), 2) := by decide +kernel
theorem dX9_leg_26 : decode cX9_leg 26 = .ok (.ireturn, 1) := by decide +kernel
theorem dX9_leg_27 : decode cX9_leg 27 = .ok (.aload_n 0, 1) := by decide +kernel
theorem dX9_leg_28 : decode cX9_leg 28 = .ok (.getfield 10, 3) := by decide +kernel
theorem dX9_leg_31 : decode cX9_leg 31 = .ok (.getfield 111, 3) := by decide +kernel
theorem dX9_leg_34 : decode cX9_leg 34 = .ok (.getfield 115, 3) := by decide +kernel
theorem dX9_leg_37 : decode cX9_leg 37 = .ok (.bipush 12, 2) := by decide +kernel
theorem dX9_leg_39 : decode cX9_leg 39 = .ok (.if_icmp .lt 6, 3) := by decide +kernel
theorem dX9_leg_42 : decode cX9_leg 42 = .ok (.bipush (-4), 2) := by decide +kernel
theorem dX9_leg_44 : decode cX9_leg 44 = .ok (.ireturn, 1) := by decide +kernel
theorem dX9_leg_45 : decode cX9_leg 45 = .ok (.aload_n 0, 1) := by decide +kernel
theorem dX9_leg_46 : decode cX9_leg 46 = .ok (.getfield 10, 3) := by decide +kernel
theorem dX9_leg_49 : decode cX9_leg 49 = .ok (.getfield 111, 3) := by decide +kernel
theorem dX9_leg_52 : decode cX9_leg 52 = .ok (.iload_n 1, 1) := by decide +kernel
theorem dX9_leg_53 : decode cX9_leg 53 = .ok (.iload_n 2, 1) := by decide +kernel
theorem dX9_leg_54 : decode cX9_leg 54 = .ok (.invokevirtual 118, 3) := by decide +kernel
theorem dX9_leg_57 : decode cX9_leg 57 = .ok (.aload_n 0, 1) := by decide +kernel
theorem dX9_leg_58 : decode cX9_leg 58 = .ok (.getfield 10, 3) := by decide +kernel
theorem dX9_leg_61 : decode cX9_leg 61 = .ok (.getfield 111, 3) := by decide +kernel
theorem dX9_leg_64 : decode cX9_leg 64 = .ok (.getfield 115, 3) := by decide +kernel
theorem dX9_leg_67 : decode cX9_leg 67 = .ok (.iconst 1, 1) := by decide +kernel
theorem dX9_leg_68 : decode cX9_leg 68 = .ok (.isub, 1) := by decide +kernel
theorem dX9_leg_69 : decode cX9_leg 69 = .ok (.ireturn, 1) := by decide +kernel
set_option maxRecDepth 20000 in
theorem ggX9_cut_X4_hasNextLeg : GoodIn wsX9_cut wsX4_hasNextLeg := goodIn_r _ [8, 9, 10, 11, 12, 7, 13, 14, 15, 16, 17, 34, 35, 36, 37, 38] (by decide +kernel) (by decide +kernel)
set_option maxRecDepth 20000 in
theorem gX9_cut_X4_hasNextLeg : GoodIn wsX9_cut (wsV RX9 120 RX4 yX4_hasNextLeg wsX4_hasNextLeg) := goodIn_app (goodIn_of _ (by decide +kernel)) ggX9_cut_X4_hasNextLeg
theorem dX9_cut_0 : decode cX9_cut 0 = .ok (.aload_n 0, 1) := by decide +kernel
theorem dX9_cut_1 : decode cX9_cut 1 = .ok (.getfield 10, 3) := by decide +kernel
theorem dX9_cut_4 : decode cX9_cut 4 = .ok (.getfield 111, 3) := by decide +kernel
theorem dX9_cut_7 : decode cX9_cut 7 = .ok (.invokevirtual 120, 3) := by decide +kernel
theorem dX9_cut_10 : decode cX9_cut 10 = .ok (.ifCond .ne 6, 3) := by decide +kernel
theorem dX9_cut_13 : decode cX9_cut 13 = .ok (.bipush (-5), 2) := by decide +kernel
theorem dX9_cut_15 : decode cX9_cut 15 = .ok (.ireturn, 1) := by decide +kernel
theorem dX9_cut_16 : decode cX9_cut 16 = .ok (.aload_n 0, 1) := by decide +kernel
theorem dX9_cut_17 : decode cX9_cut 17 = .ok (.getfield 10, 3) := by decide +kernel
theorem dX9_cut_20 : decode cX9_cut 20 = .ok (.getfield 111, 3) := by decide +kernel
theorem dX9_cut_23 : decode cX9_cut 23 = .ok (.dup, 1) := by decide +kernel
theorem dX9_cut_24 : decode cX9_cut 24 = .ok (.getfield 115, 3) := by decide +kernel
theorem dX9_cut_27 : decode cX9_cut 27 = .ok (.iconst 1, 1) := by decide +kernel
theorem dX9_cut_28 : decode cX9_cut 28 = .ok (.isub, 1) := by decide +kernel
theorem dX9_cut_29 : decode cX9_cut 29 = .ok (.putfield 115, 3) := by decide +kernel
theorem dX9_cut_32 : decode cX9_cut 32 = .ok (.aload_n 0, 1) := by decide +kernel
theorem dX9_cut_33 : decode cX9_cut 33 = .ok (.getfield 10, 3) := by decide +kernel
theorem dX9_cut_36 : decode cX9_cut 36 = .ok (.getfield 111, 3) := by decide +kernel
theorem dX9_cut_39 : decode cX9_cut 39 = .ok (.getfield 115, 3) := by decide +kernel
theorem dX9_cut_42 : decode cX9_cut 42 = .ok (.ireturn, 1) := by decide +kernel
set_option maxRecDepth 20000 in
theorem ggX9_depart_X4_isOnTheWay : GoodIn wsX9_depart wsX4_isOnTheWay := goodIn_r _ [10, 11, 54, 55, 56, 57, 58] (by decide +kernel) (by decide +kernel)
set_option maxRecDepth 20000 in
theorem gX9_depart_X4_isOnTheWay : GoodIn wsX9_depart (wsV RX9 124 RX4 yX4_isOnTheWay wsX4_isOnTheWay) := goodIn_app (goodIn_of _ (by decide +kernel)) ggX9_depart_X4_isOnTheWay
set_option maxRecDepth 20000 in
theorem ggX9_depart_X4_hasNextLeg : GoodIn wsX9_depart wsX4_hasNextLeg := goodIn_r _ [15, 16, 17, 18, 19, 9, 20, 21, 22, 23, 24, 54, 55, 56, 57, 58] (by decide +kernel) (by decide +kernel)
set_option maxRecDepth 20000 in
theorem gX9_depart_X4_hasNextLeg : GoodIn wsX9_depart (wsV RX9 120 RX4 yX4_hasNextLeg wsX4_hasNextLeg) := goodIn_app (goodIn_of _ (by decide +kernel)) ggX9_depart_X4_hasNextLeg
set_option maxRecDepth 20000 in
theorem ggX9_depart_X4_beginNextLeg : GoodIn wsX9_depart wsX4_beginNextLeg := goodIn_r _ [28, 16, 29, 11, 30, 13, 14, 9, 15, 17, 18, 19, 20, 21, 22, 23, 24, 54, 55, 56, 57, 58] (by decide +kernel) (by decide +kernel)
set_option maxRecDepth 20000 in
theorem gX9_depart_X4_beginNextLeg : GoodIn wsX9_depart (wsV RX9 127 RX4 yX4_beginNextLeg wsX4_beginNextLeg) := goodIn_app (goodIn_of _ (by decide +kernel)) ggX9_depart_X4_beginNextLeg
theorem dX9_depart_0 : decode cX9_depart 0 = .ok (.aload_n 0, 1) := by decide +kernel
theorem dX9_depart_1 : decode cX9_depart 1 = .ok (.getfield 10, 3) := by decide +kernel
theorem dX9_depart_4 : decode cX9_depart 4 = .ok (.getfield 111, 3) := by decide +kernel
theorem dX9_depart_7 : decode cX9_depart 7 = .ok (.invokevirtual 124, 3) := by decide +kernel
theorem dX9_depart_10 : decode cX9_depart 10 = .ok (.ifCond .ne 29, 3) := by decide +kernel
theorem dX9_depart_13 : decode cX9_depart 13 = .ok (.aload_n 0, 1) := by decide +kernel
theorem dX9_depart_14 : decode cX9_depart 14 = .ok (.getfield 10, 3) := by decide +kernel
theorem dX9_depart_17 : decode cX9_depart 17 = .ok (.getfield 59, 3) := by decide +kernel
theorem dX9_depart_20 : decode cX9_depart 20 = .ok (.getfield 63, 3) := by decide +kernel
theorem dX9_depart_23 : decode cX9_depart 23 = .ok (.ifCond .ne 16, 3) := by decide +kernel
theorem dX9_depart_26 : decode cX9_depart 26 = .ok (.aload_n 0, 1) := by decide +kernel
theorem dX9_depart_27 : decode cX9_depart 27 = .ok (.getfield 10, 3) := by decide +kernel
theorem dX9_depart_30 : decode cX9_depart 30 = .ok (.getfield 111, 3) := by decide +kernel
theorem dX9_depart_33 : decode cX9_depart 33 = .ok (.invokevirtual 120, 3) := by decide +kernel
theorem dX9_depart_36 : decode cX9_depart 36 = .ok (.ifCond .ne 6, 3) := by decide +kernel
theorem dX9_depart_39 : decode cX9_depart 39 = .ok (.bipush (-5), 2) := by decide +kernel
theorem dX9_depart_41 : decode cX9_depart 41 = .ok (.ireturn, 1) := by decide +kernel
theorem dX9_depart_42 : decode cX9_depart 42 = .ok (.aload_n 0, 1) := by decide +kernel
theorem dX9_depart_43 : decode cX9_depart 43 = .ok (.getfield 10, 3) := by decide +kernel
theorem dX9_depart_46 : decode cX9_depart 46 = .ok (.getfield 111, 3) := by decide +kernel
theorem dX9_depart_49 : decode cX9_depart 49 = .ok (.invokevirtual 127, 3) := by decide +kernel
theorem dX9_depart_52 : decode cX9_depart 52 = .ok (.aload_n 0, 1) := by decide +kernel
theorem dX9_depart_53 : decode cX9_depart 53 = .ok (.getfield 10, 3) := by decide +kernel
theorem dX9_depart_56 : decode cX9_depart 56 = .ok (.getfield 111, 3) := by decide +kernel
theorem dX9_depart_59 : decode cX9_depart 59 = .ok (.getfield 130, 3) := by decide +kernel
theorem dX9_depart_62 : decode cX9_depart 62 = .ok (.ireturn, 1) := by decide +kernel
set_option maxRecDepth 20000 in
theorem ggX9_pass_X9_within : GoodIn wsX9_pass wsX9_within := goodIn_r _ [13] (by decide +kernel) (by decide +kernel)
set_option maxRecDepth 20000 in
theorem gX9_pass_X9_within : GoodIn wsX9_pass (va_wsS RX9 43 yX9_within wsX9_within) := goodIn_app (goodIn_of _ (by decide +kernel)) ggX9_pass_X9_within
set_option maxRecDepth 20000 in
theorem ggX9_pass_X8_letPass : GoodIn wsX9_pass wsX8_letPass := goodIn_r _ [18, 19, 20, 21, 17, 22, 23, 24, 25, 26, 27, 28, 29, 30, 31, 32, 33, 34, 35, 11, 12, 13, 36, 37, 38, 39, 40, 41, 42, 43, 44, 45, 46, 47, 48, 49, 50, 51, 8, 52, 53, 54, 55, 56, 57, 58, 59, 60, 61, 62, 63, 64, 65, 66, 67, 68, 69, 70, 71, 72, 73, 74, 75, 76, 77, 78, 79, 80, 81, 82, 83, 84, 85, 86, 87, 88, 89, 90, 91, 92, 93, 7, 9, 94, 95, 96, 97, 98, 99, 100, 101, 102, 103, 104, 105, 106, 107, 108, 109, 110, 111, 112, 113, 114, 115, 116, 117, 118, 119, 120, 121, 122, 123, 124, 125, 126, 127, 128, 129, 130, 131, 132, 139, 140, 141, 142, 143, 144, 145, 146, 147, 148, 154, 155, 156, 157, 158, 159, 160, 161, 162, 163, 164, 165, 166, 167, 149, 150, 151, 152, 153] (by decide +kernel) (by decide +kernel)
set_option maxRecDepth 20000 in
theorem gX9_pass_X8_letPass : GoodIn wsX9_pass (wsV RX9 145 RX8 yX8_letPass wsX8_letPass) := goodIn_app (goodIn_of _ (by decide +kernel)) ggX9_pass_X8_letPass
theorem dX9_pass_0 : decode cX9_pass 0 = .ok (.iload_n 1, 1) := by decide +kernel
theorem dX9_pass_1 : decode cX9_pass 1 = .ok (.iconst 1, 1) := by decide +kernel
theorem dX9_pass_2 : decode cX9_pass 2 = .ok (.sipush 1000, 3) := by decide +kernel
theorem dX9_pass_5 : decode cX9_pass 5 = .ok (.invokestatic 43, 3) := by decide +kernel
theorem dX9_pass_8 : decode cX9_pass 8 = .ok (.ifCond .ne 6, 3) := by decide +kernel
theorem dX9_pass_11 : decode cX9_pass 11 = .ok (.bipush (-2), 2) := by decide +kernel
theorem dX9_pass_13 : decode cX9_pass 13 = .ok (.ireturn, 1) := by decide +kernel
theorem dX9_pass_14 : decode cX9_pass 14 = .ok (.aload_n 0, 1) := by decide +kernel
theorem dX9_pass_15 : decode cX9_pass 15 = .ok (.getfield 10, 3) := by decide +kernel
theorem dX9_pass_18 : decode cX9_pass 18 = .ok (.getfield 133, 3) := by decide +kernel
theorem dX9_pass_21 : decode cX9_pass 21 = .ok (.iload_n 1, 1) := by decide +kernel
theorem dX9_pass_22 : decode cX9_pass 22 = .ok (.iadd, 1) := by decide +kernel
theorem dX9_pass_23 : decode cX9_pass 23 = .ok (.ldc 136, 2) := by decide +kernel
theorem dX9_pass_25 : decode cX9_pass 25 = .ok (.if_icmp .le 6, 3) := by decide +kernel
theorem dX9_pass_28 : decode cX9_pass 28 = .ok (.bipush (-5), 2) := by decide +kernel
theorem dX9_pass_30 : decode cX9_pass 30 = .ok (.ireturn, 1) := by decide +kernel
theorem dX9_pass_31 : decode cX9_pass 31 = .ok (.iload_n 1, 1) := by decide +kernel
theorem dX9_pass_32 : decode cX9_pass 32 = .ok (.aload_n 0, 1) := by decide +kernel
theorem dX9_pass_33 : decode cX9_pass 33 = .ok (.getfield 10, 3) := by decide +kernel
theorem dX9_pass_36 : decode cX9_pass 36 = .ok (.getfield 111, 3) := by decide +kernel
theorem dX9_pass_39 : decode cX9_pass 39 = .ok (.getfield 137, 3) := by decide +kernel
theorem dX9_pass_42 : decode cX9_pass 42 = .ok (.invokestatic 140, 3) := by decide +kernel
theorem dX9_pass_45 : decode cX9_pass 45 = .ok (.istore_n 2, 1) := by decide +kernel
theorem dX9_pass_46 : decode cX9_pass 46 = .ok (.aload_n 0, 1) := by decide +kernel
theorem dX9_pass_47 : decode cX9_pass 47 = .ok (.getfield 10, 3) := by decide +kernel
theorem dX9_pass_50 : decode cX9_pass 50 = .ok (.iload_n 1, 1) := by decide +kernel
theorem dX9_pass_51 : decode cX9_pass 51 = .ok (.invokevirtual 145, 3) := by decide +kernel
theorem dX9_pass_54 : decode cX9_pass 54 = .ok (.iload_n 2, 1) := by decide +kernel
theorem dX9_pass_55 : decode cX9_pass 55 = .ok (.ireturn, 1) := by decide +kernel
set_option maxRecDepth 20000 in
theorem ggX9_vent_X9_within : GoodIn wsX9_vent wsX9_within := goodIn_r _ [7] (by decide +kernel) (by decide +kernel)
set_option maxRecDepth 20000 in
theorem gX9_vent_X9_within : GoodIn wsX9_vent (va_wsS RX9 43 yX9_within wsX9_within) := goodIn_app (goodIn_of _ (by decide +kernel)) ggX9_vent_X9_within
set_option maxRecDepth 20000 in
theorem ggX9_vent_X1_setVentMode : GoodIn wsX9_vent wsX1_setVentMode := goodIn_r _ [12, 13, 14, 15, 16, 11, 17, 18, 19, 20, 21, 22, 23, 24, 25, 26, 27, 44, 45, 46, 47, 48, 49, 50] (by decide +kernel) (by decide +kernel)
set_option maxRecDepth 20000 in
theorem gX9_vent_X1_setVentMode : GoodIn wsX9_vent (wsV RX9 151 RX1 yX1_setVentMode wsX1_setVentMode) := goodIn_app (goodIn_of _ (by decide +kernel)) ggX9_vent_X1_setVentMode
theorem dX9_vent_0 : decode cX9_vent 0 = .ok (.iload_n 1, 1) := by decide +kernel
theorem dX9_vent_1 : decode cX9_vent 1 = .ok (.iconst 0, 1) := by decide +kernel
theorem dX9_vent_2 : decode cX9_vent 2 = .ok (.iconst 2, 1) := by decide +kernel
theorem dX9_vent_3 : decode cX9_vent 3 = .ok (.invokestatic 43, 3) := by decide +kernel
theorem dX9_vent_6 : decode cX9_vent 6 = .ok (.ifCond .ne 6, 3) := by decide +kernel
theorem dX9_vent_9 : decode cX9_vent 9 = .ok (.bipush (-2), 2) := by decide +kernel
theorem dX9_vent_11 : decode cX9_vent 11 = .ok (.ireturn, 1) := by decide +kernel
theorem dX9_vent_12 : decode cX9_vent 12 = .ok (.aload_n 0, 1) := by decide +kernel
theorem dX9_vent_13 : decode cX9_vent 13 = .ok (.getfield 10, 3) := by decide +kernel
theorem dX9_vent_16 : decode cX9_vent 16 = .ok (.getfield 59, 3) := by decide +kernel
theorem dX9_vent_19 : decode cX9_vent 19 = .ok (.getfield 148, 3) := by decide +kernel
theorem dX9_vent_22 : decode cX9_vent 22 = .ok (.istore_n 2, 1) := by decide +kernel
theorem dX9_vent_23 : decode cX9_vent 23 = .ok (.aload_n 0, 1) := by decide +kernel
theorem dX9_vent_24 : decode cX9_vent 24 = .ok (.getfield 10, 3) := by decide +kernel
theorem dX9_vent_27 : decode cX9_vent 27 = .ok (.getfield 59, 3) := by decide +kernel
theorem dX9_vent_30 : decode cX9_vent 30 = .ok (.iload_n 1, 1) := by decide +kernel
theorem dX9_vent_31 : decode cX9_vent 31 = .ok (.invokevirtual 151, 3) := by decide +kernel
theorem dX9_vent_34 : decode cX9_vent 34 = .ok (.iload_n 2, 1) := by decide +kernel
theorem dX9_vent_35 : decode cX9_vent 35 = .ok (.ireturn, 1) := by decide +kernel
set_option maxRecDepth 20000 in
theorem ggX9_open_X4_isOnTheWay : GoodIn wsX9_open wsX4_isOnTheWay := goodIn_r _ [9, 10, 70, 71, 72, 73, 74] (by decide +kernel) (by decide +kernel)
set_option maxRecDepth 20000 in
theorem gX9_open_X4_isOnTheWay : GoodIn wsX9_open (wsV RX9 124 RX4 yX4_isOnTheWay wsX4_isOnTheWay) := goodIn_app (goodIn_of _ (by decide +kernel)) ggX9_open_X4_isOnTheWay
set_option maxRecDepth 20000 in
theorem ggX9_open_X8_isSafe : GoodIn wsX9_open wsX8_isSafe := goodIn_r _ [15, 16, 17, 18, 19, 14, 20, 21, 22, 23, 24, 25, 26, 27, 28, 29, 30, 31, 32, 33, 34, 35, 36, 37, 38, 39, 40, 53, 54, 55, 56, 57, 58, 59, 60, 61, 62, 63, 64, 65, 66, 67, 68, 69, 75] (by decide +kernel) (by decide +kernel)
set_option maxRecDepth 20000 in
theorem gX9_open_X8_isSafe : GoodIn wsX9_open (wsV RX9 154 RX8 yX8_isSafe wsX8_isSafe) := goodIn_app (goodIn_of _ (by decide +kernel)) ggX9_open_X8_isSafe
set_option maxRecDepth 20000 in
theorem ggX9_open_X1_openVent : GoodIn wsX9_open wsX1_openVent := goodIn_r _ [44, 45, 63, 64, 65, 66, 67, 68, 69] (by decide +kernel) (by decide +kernel)
set_option maxRecDepth 20000 in
theorem gX9_open_X1_openVent : GoodIn wsX9_open (wsV RX9 157 RX1 yX1_openVent wsX1_openVent) := goodIn_app (goodIn_of _ (by decide +kernel)) ggX9_open_X1_openVent
set_option maxRecDepth 20000 in
theorem ggX9_open_X8_concentration : GoodIn wsX9_open wsX8_concentration := goodIn_r _ [20, 21, 16, 22, 23, 24, 25, 26, 27, 28, 29, 30, 31, 32, 33, 34, 35, 36, 37, 38, 39, 53, 54, 55, 56, 57, 58, 59, 60, 61, 62, 63, 64, 65, 66, 67, 68, 69, 75] (by decide +kernel) (by decide +kernel)
set_option maxRecDepth 20000 in
theorem gX9_open_X8_concentration : GoodIn wsX9_open (wsV RX9 160 RX8 yX8_concentration wsX8_concentration) := goodIn_app (goodIn_of _ (by decide +kernel)) ggX9_open_X8_concentration
theorem dX9_open_0 : decode cX9_open 0 = .ok (.aload_n 0, 1) := by decide +kernel
theorem dX9_open_1 : decode cX9_open 1 = .ok (.getfield 10, 3) := by decide +kernel
theorem dX9_open_4 : decode cX9_open 4 = .ok (.getfield 111, 3) := by decide +kernel
theorem dX9_open_7 : decode cX9_open 7 = .ok (.invokevirtual 124, 3) := by decide +kernel
theorem dX9_open_10 : decode cX9_open 10 = .ok (.ifCond .ne 16, 3) := by decide +kernel
theorem dX9_open_13 : decode cX9_open 13 = .ok (.aload_n 0, 1) := by decide +kernel
theorem dX9_open_14 : decode cX9_open 14 = .ok (.getfield 10, 3) := by decide +kernel
theorem dX9_open_17 : decode cX9_open 17 = .ok (.getfield 59, 3) := by decide +kernel
theorem dX9_open_20 : decode cX9_open 20 = .ok (.getfield 63, 3) := by decide +kernel
theorem dX9_open_23 : decode cX9_open 23 = .ok (.ifCond .eq 6, 3) := by decide +kernel
theorem dX9_open_26 : decode cX9_open 26 = .ok (.bipush (-5), 2) := by decide +kernel
theorem dX9_open_28 : decode cX9_open 28 = .ok (.ireturn, 1) := by decide +kernel
theorem dX9_open_29 : decode cX9_open 29 = .ok (.aload_n 0, 1) := by decide +kernel
theorem dX9_open_30 : decode cX9_open 30 = .ok (.getfield 10, 3) := by decide +kernel
theorem dX9_open_33 : decode cX9_open 33 = .ok (.invokevirtual 154, 3) := by decide +kernel
theorem dX9_open_36 : decode cX9_open 36 = .ok (.ifCond .ne 16, 3) := by decide +kernel
theorem dX9_open_39 : decode cX9_open 39 = .ok (.aload_n 0, 1) := by decide +kernel
theorem dX9_open_40 : decode cX9_open 40 = .ok (.getfield 10, 3) := by decide +kernel
theorem dX9_open_43 : decode cX9_open 43 = .ok (.getfield 59, 3) := by decide +kernel
theorem dX9_open_46 : decode cX9_open 46 = .ok (.invokevirtual 157, 3) := by decide +kernel
theorem dX9_open_49 : decode cX9_open 49 = .ok (.bipush (-6), 2) := by decide +kernel
theorem dX9_open_51 : decode cX9_open 51 = .ok (.ireturn, 1) := by decide +kernel
theorem dX9_open_52 : decode cX9_open 52 = .ok (.aload_n 0, 1) := by decide +kernel
theorem dX9_open_53 : decode cX9_open 53 = .ok (.getfield 10, 3) := by decide +kernel
theorem dX9_open_56 : decode cX9_open 56 = .ok (.getfield 59, 3) := by decide +kernel
theorem dX9_open_59 : decode cX9_open 59 = .ok (.iconst 1, 1) := by decide +kernel
theorem dX9_open_60 : decode cX9_open 60 = .ok (.putfield 63, 3) := by decide +kernel
theorem dX9_open_63 : decode cX9_open 63 = .ok (.aload_n 0, 1) := by decide +kernel
theorem dX9_open_64 : decode cX9_open 64 = .ok (.getfield 10, 3) := by decide +kernel
theorem dX9_open_67 : decode cX9_open 67 = .ok (.invokevirtual 160, 3) := by decide +kernel
theorem dX9_open_70 : decode cX9_open 70 = .ok (.l2i, 1) := by decide +kernel
theorem dX9_open_71 : decode cX9_open 71 = .ok (.ireturn, 1) := by decide +kernel
set_option maxRecDepth 20000 in
theorem ggX9_shut_X8_concentration : GoodIn wsX9_shut wsX8_concentration := goodIn_r _ [8, 9, 10, 11, 12, 13, 14, 15, 16, 17, 18, 19, 20, 21, 22, 23, 24, 25, 26, 27, 28, 35, 36, 37, 38, 39, 40, 41, 42, 43, 44, 45, 46, 47, 48, 49, 50, 51, 52] (by decide +kernel) (by decide +kernel)
set_option maxRecDepth 20000 in
theorem gX9_shut_X8_concentration : GoodIn wsX9_shut (wsV RX9 160 RX8 yX8_concentration wsX8_concentration) := goodIn_app (goodIn_of _ (by decide +kernel)) ggX9_shut_X8_concentration
theorem dX9_shut_0 : decode cX9_shut 0 = .ok (.aload_n 0, 1) := by decide +kernel
theorem dX9_shut_1 : decode cX9_shut 1 = .ok (.getfield 10, 3) := by decide +kernel
theorem dX9_shut_4 : decode cX9_shut 4 = .ok (.getfield 59, 3) := by decide +kernel
theorem dX9_shut_7 : decode cX9_shut 7 = .ok (.getfield 63, 3) := by decide +kernel
theorem dX9_shut_10 : decode cX9_shut 10 = .ok (.ifCond .ne 6, 3) := by decide +kernel
theorem dX9_shut_13 : decode cX9_shut 13 = .ok (.bipush (-5), 2) := by decide +kernel
theorem dX9_shut_15 : decode cX9_shut 15 = .ok (.ireturn, 1) := by decide +kernel
theorem dX9_shut_16 : decode cX9_shut 16 = .ok (.aload_n 0, 1) := by decide +kernel
theorem dX9_shut_17 : decode cX9_shut 17 = .ok (.getfield 10, 3) := by decide +kernel
theorem dX9_shut_20 : decode cX9_shut 20 = .ok (.getfield 59, 3) := by decide +kernel
theorem dX9_shut_23 : decode cX9_shut 23 = .ok (.iconst 0, 1) := by decide +kernel
theorem dX9_shut_24 : decode cX9_shut 24 = .ok (.putfield 63, 3) := by decide +kernel
theorem dX9_shut_27 : decode cX9_shut 27 = .ok (.aload_n 0, 1) := by decide +kernel
theorem dX9_shut_28 : decode cX9_shut 28 = .ok (.getfield 10, 3) := by decide +kernel
theorem dX9_shut_31 : decode cX9_shut 31 = .ok (.invokevirtual 160, 3) := by decide +kernel
theorem dX9_shut_34 : decode cX9_shut 34 = .ok (.l2i, 1) := by decide +kernel
theorem dX9_shut_35 : decode cX9_shut 35 = .ok (.ireturn, 1) := by decide +kernel
set_option maxRecDepth 20000 in
theorem ggX9_sell_X9_within : GoodIn wsX9_sell wsX9_within := goodIn_r _ [10] (by decide +kernel) (by decide +kernel)
set_option maxRecDepth 20000 in
theorem gX9_sell_X9_within : GoodIn wsX9_sell (va_wsS RX9 43 yX9_within wsX9_within) := goodIn_app (goodIn_of _ (by decide +kernel)) ggX9_sell_X9_within
set_option maxRecDepth 20000 in
theorem ggX9_sell_X2_iceOfAll : GoodIn wsX9_sell wsX2_iceOfAll := goodIn_r _ [15, 16, 17, 18, 60, 61, 62, 63, 64, 65] (by decide +kernel) (by decide +kernel)
set_option maxRecDepth 20000 in
theorem gX9_sell_X2_iceOfAll : GoodIn wsX9_sell (wsV RX9 165 RX2 yX2_iceOfAll wsX2_iceOfAll) := goodIn_app (goodIn_of _ (by decide +kernel)) ggX9_sell_X2_iceOfAll
set_option maxRecDepth 20000 in
theorem ggX9_sell_X2_takeFromFront : GoodIn wsX9_sell wsX2_takeFromFront := goodIn_r _ [22, 16, 17, 18, 23, 24, 25, 26, 27, 28, 29, 30, 31, 32, 33, 34, 35, 36, 60, 61, 62, 63, 64, 65] (by decide +kernel) (by decide +kernel)
set_option maxRecDepth 20000 in
theorem gX9_sell_X2_takeFromFront : GoodIn wsX9_sell (wsV RX9 172 RX2 yX2_takeFromFront wsX2_takeFromFront) := goodIn_app (goodIn_of _ (by decide +kernel)) ggX9_sell_X2_takeFromFront
theorem dX9_sell_0 : decode cX9_sell 0 = .ok (.iload_n 1, 1) := by decide +kernel
theorem dX9_sell_1 : decode cX9_sell 1 = .ok (.iconst 1, 1) := by decide +kernel
theorem dX9_sell_2 : decode cX9_sell 2 = .ok (.ldc 164, 2) := by decide +kernel
theorem dX9_sell_4 : decode cX9_sell 4 = .ok (.invokestatic 43, 3) := by decide +kernel
theorem dX9_sell_7 : decode cX9_sell 7 = .ok (.ifCond .ne 6, 3) := by decide +kernel
theorem dX9_sell_10 : decode cX9_sell 10 = .ok (.bipush (-2), 2) := by decide +kernel
theorem dX9_sell_12 : decode cX9_sell 12 = .ok (.ireturn, 1) := by decide +kernel
theorem dX9_sell_13 : decode cX9_sell 13 = .ok (.aload_n 0, 1) := by decide +kernel
theorem dX9_sell_14 : decode cX9_sell 14 = .ok (.getfield 10, 3) := by decide +kernel
theorem dX9_sell_17 : decode cX9_sell 17 = .ok (.getfield 59, 3) := by decide +kernel
theorem dX9_sell_20 : decode cX9_sell 20 = .ok (.getfield 63, 3) := by decide +kernel
theorem dX9_sell_23 : decode cX9_sell 23 = .ok (.ifCond .eq 17, 3) := by decide +kernel
theorem dX9_sell_26 : decode cX9_sell 26 = .ok (.iload_n 1, 1) := by decide +kernel
theorem dX9_sell_27 : decode cX9_sell 27 = .ok (.aload_n 0, 1) := by decide +kernel
theorem dX9_sell_28 : decode cX9_sell 28 = .ok (.getfield 10, 3) := by decide +kernel
theorem dX9_sell_31 : decode cX9_sell 31 = .ok (.getfield 49, 3) := by decide +kernel
theorem dX9_sell_34 : decode cX9_sell 34 = .ok (.invokevirtual 165, 3) := by decide +kernel
theorem dX9_sell_37 : decode cX9_sell 37 = .ok (.if_icmp .le 6, 3) := by decide +kernel
theorem dX9_sell_40 : decode cX9_sell 40 = .ok (.bipush (-5), 2) := by decide +kernel
theorem dX9_sell_42 : decode cX9_sell 42 = .ok (.ireturn, 1) := by decide +kernel
theorem dX9_sell_43 : decode cX9_sell 43 = .ok (.aload_n 0, 1) := by decide +kernel
theorem dX9_sell_44 : decode cX9_sell 44 = .ok (.getfield 10, 3) := by decide +kernel
theorem dX9_sell_47 : decode cX9_sell 47 = .ok (.dup, 1) := by decide +kernel
theorem dX9_sell_48 : decode cX9_sell 48 = .ok (.getfield 169, 3) := by decide +kernel
theorem dX9_sell_51 : decode cX9_sell 51 = .ok (.iload_n 1, 1) := by decide +kernel
theorem dX9_sell_52 : decode cX9_sell 52 = .ok (.i2l, 1) := by decide +kernel
theorem dX9_sell_53 : decode cX9_sell 53 = .ok (.ladd, 1) := by decide +kernel
theorem dX9_sell_54 : decode cX9_sell 54 = .ok (.putfield 169, 3) := by decide +kernel
theorem dX9_sell_57 : decode cX9_sell 57 = .ok (.aload_n 0, 1) := by decide +kernel
theorem dX9_sell_58 : decode cX9_sell 58 = .ok (.getfield 10, 3) := by decide +kernel
theorem dX9_sell_61 : decode cX9_sell 61 = .ok (.getfield 49, 3) := by decide +kernel
theorem dX9_sell_64 : decode cX9_sell 64 = .ok (.iload_n 1, 1) := by decide +kernel
theorem dX9_sell_65 : decode cX9_sell 65 = .ok (.invokevirtual 172, 3) := by decide +kernel
theorem dX9_sell_68 : decode cX9_sell 68 = .ok (.ireturn, 1) := by decide +kernel
set_option maxRecDepth 20000 in
theorem ggX9_spill_X2_boxAt : GoodIn wsX9_spill wsX2_boxAt := goodIn_r _ [10, 11, 12, 13, 14, 15, 37, 38] (by decide +kernel) (by decide +kernel)
set_option maxRecDepth 20000 in
theorem gX9_spill_X2_boxAt : GoodIn wsX9_spill (wsV RX9 77 RX2 yX2_boxAt wsX2_boxAt) := goodIn_app (goodIn_of _ (by decide +kernel)) ggX9_spill_X2_boxAt
set_option maxRecDepth 20000 in
theorem ggX9_spill_X9_within : GoodIn wsX9_spill wsX9_within := goodIn_r _ [15] (by decide +kernel) (by decide +kernel)
set_option maxRecDepth 20000 in
theorem gX9_spill_X9_within : GoodIn wsX9_spill (va_wsS RX9 43 yX9_within wsX9_within) := goodIn_app (goodIn_of _ (by decide +kernel)) ggX9_spill_X9_within
theorem dX9_spill_0 : decode cX9_spill 0 = .ok (.aload_n 0, 1) := by decide +kernel
theorem dX9_spill_1 : decode cX9_spill 1 = .ok (.getfield 10, 3) := by decide +kernel
theorem dX9_spill_4 : decode cX9_spill 4 = .ok (.getfield 49, 3) := by decide +kernel
theorem dX9_spill_7 : decode cX9_spill 7 = .ok (.iload_n 1, 1) := by decide +kernel
theorem dX9_spill_8 : decode cX9_spill 8 = .ok (.invokevirtual 77, 3) := by decide +kernel
theorem dX9_spill_11 : decode cX9_spill 11 = .ok (.astore_n 3, 1) := by decide +kernel
theorem dX9_spill_12 : decode cX9_spill 12 = .ok (.aload_n 3, 1) := by decide +kernel
theorem dX9_spill_13 : decode cX9_spill 13 = .ok (.ifnonnull 5, 3) := by decide +kernel
theorem dX9_spill_16 : decode cX9_spill 16 = .ok (.iconst (-1), 1) := by decide +kernel
theorem dX9_spill_17 : decode cX9_spill 17 = .ok (.ireturn, 1) := by decide +kernel
theorem dX9_spill_18 : decode cX9_spill 18 = .ok (.iload_n 2, 1) := by decide +kernel
theorem dX9_spill_19 : decode cX9_spill 19 = .ok (.iconst 1, 1) := by decide +kernel
theorem dX9_spill_20 : decode cX9_spill 20 = .ok (.ldc 48, 2) := by decide +kernel
theorem dX9_spill_22 : decode cX9_spill 22 = .ok (.invokestatic 43, 3) := by decide +kernel
theorem dX9_spill_25 : decode cX9_spill 25 = .ok (.ifCond .eq 11, 3) := by decide +kernel
theorem dX9_spill_28 : decode cX9_spill 28 = .ok (.iload_n 2, 1) := by decide +kernel
theorem dX9_spill_29 : decode cX9_spill 29 = .ok (.aload_n 3, 1) := by decide +kernel
theorem dX9_spill_30 : decode cX9_spill 30 = .ok (.getfield 81, 3) := by decide +kernel
theorem dX9_spill_33 : decode cX9_spill 33 = .ok (.if_icmp .le 6, 3) := by decide +kernel
theorem dX9_spill_36 : decode cX9_spill 36 = .ok (.bipush (-2), 2) := by decide +kernel
theorem dX9_spill_38 : decode cX9_spill 38 = .ok (.ireturn, 1) := by decide +kernel
theorem dX9_spill_39 : decode cX9_spill 39 = .ok (.aload_n 3, 1) := by decide +kernel
theorem dX9_spill_40 : decode cX9_spill 40 = .ok (.dup, 1) := by decide +kernel
theorem dX9_spill_41 : decode cX9_spill 41 = .ok (.getfield 81, 3) := by decide +kernel
theorem dX9_spill_44 : decode cX9_spill 44 = .ok (.iload_n 2, 1) := by decide +kernel
theorem dX9_spill_45 : decode cX9_spill 45 = .ok (.isub, 1) := by decide +kernel
theorem dX9_spill_46 : decode cX9_spill 46 = .ok (.putfield 81, 3) := by decide +kernel
theorem dX9_spill_49 : decode cX9_spill 49 = .ok (.aload_n 0, 1) := by decide +kernel
theorem dX9_spill_50 : decode cX9_spill 50 = .ok (.getfield 10, 3) := by decide +kernel
theorem dX9_spill_53 : decode cX9_spill 53 = .ok (.dup, 1) := by decide +kernel
theorem dX9_spill_54 : decode cX9_spill 54 = .ok (.getfield 176, 3) := by decide +kernel
theorem dX9_spill_57 : decode cX9_spill 57 = .ok (.iload_n 2, 1) := by decide +kernel
theorem dX9_spill_58 : decode cX9_spill 58 = .ok (.i2l, 1) := by decide +kernel
theorem dX9_spill_59 : decode cX9_spill 59 = .ok (.ladd, 1) := by decide +kernel
theorem dX9_spill_60 : decode cX9_spill 60 = .ok (.putfield 176, 3) := by decide +kernel
theorem dX9_spill_63 : decode cX9_spill 63 = .ok (.aload_n 3, 1) := by decide +kernel
theorem dX9_spill_64 : decode cX9_spill 64 = .ok (.getfield 81, 3) := by decide +kernel
theorem dX9_spill_67 : decode cX9_spill 67 = .ok (.ireturn, 1) := by decide +kernel
set_option maxRecDepth 20000 in
theorem ggX9_weigh_X2_boxAt : GoodIn wsX9_weigh wsX2_boxAt := goodIn_r _ [10, 11, 12, 13, 14, 15, 42, 43] (by decide +kernel) (by decide +kernel)
set_option maxRecDepth 20000 in
theorem gX9_weigh_X2_boxAt : GoodIn wsX9_weigh (wsV RX9 77 RX2 yX2_boxAt wsX2_boxAt) := goodIn_app (goodIn_of _ (by decide +kernel)) ggX9_weigh_X2_boxAt
set_option maxRecDepth 20000 in
theorem ggX9_weigh_X4_isOnTheWay : GoodIn wsX9_weigh wsX4_isOnTheWay := goodIn_r _ [20, 21, 44, 45, 46, 47, 48] (by decide +kernel) (by decide +kernel)
set_option maxRecDepth 20000 in
theorem gX9_weigh_X4_isOnTheWay : GoodIn wsX9_weigh (wsV RX9 124 RX4 yX4_isOnTheWay wsX4_isOnTheWay) := goodIn_app (goodIn_of _ (by decide +kernel)) ggX9_weigh_X4_isOnTheWay
theorem dX9_weigh_0 : decode cX9_weigh 0 = .ok (.aload_n 0, 1) := by decide +kernel
theorem dX9_weigh_1 : decode cX9_weigh 1 = .ok (.getfield 10, 3) := by decide +kernel
theorem dX9_weigh_4 : decode cX9_weigh 4 = .ok (.getfield 49, 3) := by decide +kernel
theorem dX9_weigh_7 : decode cX9_weigh 7 = .ok (.iload_n 1, 1) := by decide +kernel
theorem dX9_weigh_8 : decode cX9_weigh 8 = .ok (.invokevirtual 77, 3) := by decide +kernel
theorem dX9_weigh_11 : decode cX9_weigh 11 = .ok (.astore_n 2, 1) := by decide +kernel
theorem dX9_weigh_12 : decode cX9_weigh 12 = .ok (.aload_n 2, 1) := by decide +kernel
theorem dX9_weigh_13 : decode cX9_weigh 13 = .ok (.ifnonnull 5, 3) := by decide +kernel
theorem dX9_weigh_16 : decode cX9_weigh 16 = .ok (.iconst (-1), 1) := by decide +kernel
theorem dX9_weigh_17 : decode cX9_weigh 17 = .ok (.ireturn, 1) := by decide +kernel
theorem dX9_weigh_18 : decode cX9_weigh 18 = .ok (.aload_n 0, 1) := by decide +kernel
theorem dX9_weigh_19 : decode cX9_weigh 19 = .ok (.getfield 10, 3) := by decide +kernel
theorem dX9_weigh_22 : decode cX9_weigh 22 = .ok (.getfield 111, 3) := by decide +kernel
theorem dX9_weigh_25 : decode cX9_weigh 25 = .ok (.invokevirtual 124, 3) := by decide +kernel
theorem dX9_weigh_28 : decode cX9_weigh 28 = .ok (.ifCond .eq 8, 3) := by decide +kernel
theorem dX9_weigh_31 : decode cX9_weigh 31 = .ok (.bipush (-5), 2) := by decide +kernel
theorem dX9_weigh_33 : decode cX9_weigh 33 = .ok (.goto 12, 3) := by decide +kernel
theorem dX9_weigh_36 : decode cX9_weigh 36 = .ok (.aload_n 2, 1) := by decide +kernel
theorem dX9_weigh_37 : decode cX9_weigh 37 = .ok (.getfield 179, 3) := by decide +kernel
theorem dX9_weigh_40 : decode cX9_weigh 40 = .ok (.aload_n 2, 1) := by decide +kernel
theorem dX9_weigh_41 : decode cX9_weigh 41 = .ok (.getfield 81, 3) := by decide +kernel
theorem dX9_weigh_44 : decode cX9_weigh 44 = .ok (.iadd, 1) := by decide +kernel
theorem dX9_weigh_45 : decode cX9_weigh 45 = .ok (.ireturn, 1) := by decide +kernel
set_option maxRecDepth 20000 in
theorem ggX9_check_X2_boxAt : GoodIn wsX9_check wsX2_boxAt := goodIn_r _ [12, 13, 14, 15, 16, 17, 44, 45] (by decide +kernel) (by decide +kernel)
set_option maxRecDepth 20000 in
theorem gX9_check_X2_boxAt : GoodIn wsX9_check (wsV RX9 77 RX2 yX2_boxAt wsX2_boxAt) := goodIn_app (goodIn_of _ (by decide +kernel)) ggX9_check_X2_boxAt
set_option maxRecDepth 20000 in
theorem ggX9_check_X4_isOnTheWay : GoodIn wsX9_check wsX4_isOnTheWay := goodIn_r _ [22, 23, 46, 47, 48, 49, 50] (by decide +kernel) (by decide +kernel)
set_option maxRecDepth 20000 in
theorem gX9_check_X4_isOnTheWay : GoodIn wsX9_check (wsV RX9 124 RX4 yX4_isOnTheWay wsX4_isOnTheWay) := goodIn_app (goodIn_of _ (by decide +kernel)) ggX9_check_X4_isOnTheWay
theorem dX9_check_0 : decode cX9_check 0 = .ok (.aload_n 0, 1) := by decide +kernel
theorem dX9_check_1 : decode cX9_check 1 = .ok (.getfield 10, 3) := by decide +kernel
theorem dX9_check_4 : decode cX9_check 4 = .ok (.getfield 49, 3) := by decide +kernel
theorem dX9_check_7 : decode cX9_check 7 = .ok (.iload_n 1, 1) := by decide +kernel
theorem dX9_check_8 : decode cX9_check 8 = .ok (.invokevirtual 77, 3) := by decide +kernel
theorem dX9_check_11 : decode cX9_check 11 = .ok (.astore_n 2, 1) := by decide +kernel
theorem dX9_check_12 : decode cX9_check 12 = .ok (.aload_n 2, 1) := by decide +kernel
theorem dX9_check_13 : decode cX9_check 13 = .ok (.ifnonnull 6, 3) := by decide +kernel
theorem dX9_check_16 : decode cX9_check 16 = .ok (.ldc 182, 2) := by decide +kernel
theorem dX9_check_18 : decode cX9_check 18 = .ok (.ireturn, 1) := by decide +kernel
theorem dX9_check_19 : decode cX9_check 19 = .ok (.aload_n 0, 1) := by decide +kernel
theorem dX9_check_20 : decode cX9_check 20 = .ok (.getfield 10, 3) := by decide +kernel
theorem dX9_check_23 : decode cX9_check 23 = .ok (.getfield 111, 3) := by decide +kernel
theorem dX9_check_26 : decode cX9_check 26 = .ok (.invokevirtual 124, 3) := by decide +kernel
theorem dX9_check_29 : decode cX9_check 29 = .ok (.ifCond .eq 6, 3) := by decide +kernel
theorem dX9_check_32 : decode cX9_check 32 = .ok (.ldc 183, 2) := by decide +kernel
theorem dX9_check_34 : decode cX9_check 34 = .ok (.ireturn, 1) := by decide +kernel
theorem dX9_check_35 : decode cX9_check 35 = .ok (.aload_n 2, 1) := by decide +kernel
theorem dX9_check_36 : decode cX9_check 36 = .ok (.getfield 184, 3) := by decide +kernel
theorem dX9_check_39 : decode cX9_check 39 = .ok (.aload_n 2, 1) := by decide +kernel
theorem dX9_check_40 : decode cX9_check 40 = .ok (.getfield 81, 3) := by decide +kernel
theorem dX9_check_43 : decode cX9_check 43 = .ok (.isub, 1) := by decide +kernel
theorem dX9_check_44 : decode cX9_check 44 = .ok (.istore_n 3, 1) := by decide +kernel
theorem dX9_check_45 : decode cX9_check 45 = .ok (.aload_n 2, 1) := by decide +kernel
theorem dX9_check_46 : decode cX9_check 46 = .ok (.aload_n 2, 1) := by decide +kernel
theorem dX9_check_47 : decode cX9_check 47 = .ok (.getfield 81, 3) := by decide +kernel
theorem dX9_check_50 : decode cX9_check 50 = .ok (.putfield 184, 3) := by decide +kernel
theorem dX9_check_53 : decode cX9_check 53 = .ok (.iload_n 3, 1) := by decide +kernel
theorem dX9_check_54 : decode cX9_check 54 = .ok (.ireturn, 1) := by decide +kernel
set_option maxRecDepth 20000 in
theorem ggX9_box_X2_boxAt : GoodIn wsX9_box wsX2_boxAt := goodIn_r _ [14, 15, 16, 17, 18, 19, 70, 71] (by decide +kernel) (by decide +kernel)
set_option maxRecDepth 20000 in
theorem gX9_box_X2_boxAt : GoodIn wsX9_box (wsV RX9 77 RX2 yX2_boxAt wsX2_boxAt) := goodIn_app (goodIn_of _ (by decide +kernel)) ggX9_box_X2_boxAt
set_option maxRecDepth 20000 in
theorem ggX9_box_X6_value : GoodIn wsX9_box wsX6_value := goodIn_r _ [24, 25, 17, 18, 19, 72] (by decide +kernel) (by decide +kernel)
set_option maxRecDepth 20000 in
theorem gX9_box_X6_value : GoodIn wsX9_box (wsV RX9 193 RX6 yX6_value wsX6_value) := goodIn_app (goodIn_of _ (by decide +kernel)) ggX9_box_X6_value
set_option maxRecDepth 20000 in
theorem ggX9_box_X0_goingOff : GoodIn wsX9_box wsX0_goingOff := goodIn_r _ [30, 31, 32, 33, 34, 35, 36, 37, 38, 39, 40, 41, 18, 42, 59, 60, 61, 62] (by decide +kernel) (by decide +kernel)
set_option maxRecDepth 20000 in
theorem gX9_box_X0_goingOff : GoodIn wsX9_box (wsV RX9 196 RX0 yX0_goingOff wsX0_goingOff) := goodIn_app (goodIn_of _ (by decide +kernel)) ggX9_box_X0_goingOff
theorem dX9_box_0 : decode cX9_box 0 = .ok (.aload_n 0, 1) := by decide +kernel
theorem dX9_box_1 : decode cX9_box 1 = .ok (.getfield 10, 3) := by decide +kernel
theorem dX9_box_4 : decode cX9_box 4 = .ok (.getfield 49, 3) := by decide +kernel
theorem dX9_box_7 : decode cX9_box 7 = .ok (.iload_n 1, 1) := by decide +kernel
theorem dX9_box_8 : decode cX9_box 8 = .ok (.invokevirtual 77, 3) := by decide +kernel
theorem dX9_box_11 : decode cX9_box 11 = .ok (.astore_n 3, 1) := by decide +kernel
theorem dX9_box_12 : decode cX9_box 12 = .ok (.aload_n 3, 1) := by decide +kernel
theorem dX9_box_13 : decode cX9_box 13 = .ok (.ifnonnull 5, 3) := by decide +kernel
theorem dX9_box_16 : decode cX9_box 16 = .ok (.iconst (-1), 1) := by decide +kernel
theorem dX9_box_17 : decode cX9_box 17 = .ok (.ireturn, 1) := by decide +kernel
theorem dX9_box_18 : decode cX9_box 18 = .ok (.iload_n 2, 1) := by decide +kernel
theorem dX9_box_19 : decode cX9_box 19 = .ok (.tableswitch 79 0 4 #[33, 38, 43, 48, 53], 33) := by decide +kernel
theorem dX9_box_52 : decode cX9_box 52 = .ok (.aload_n 3, 1) := by decide +kernel
theorem dX9_box_53 : decode cX9_box 53 = .ok (.getfield 187, 3) := by decide +kernel
theorem dX9_box_56 : decode cX9_box 56 = .ok (.ireturn, 1) := by decide +kernel
theorem dX9_box_57 : decode cX9_box 57 = .ok (.aload_n 3, 1) := by decide +kernel
theorem dX9_box_58 : decode cX9_box 58 = .ok (.getfield 179, 3) := by decide +kernel
theorem dX9_box_61 : decode cX9_box 61 = .ok (.ireturn, 1) := by decide +kernel
theorem dX9_box_62 : decode cX9_box 62 = .ok (.aload_n 3, 1) := by decide +kernel
theorem dX9_box_63 : decode cX9_box 63 = .ok (.getfield 81, 3) := by decide +kernel
theorem dX9_box_66 : decode cX9_box 66 = .ok (.ireturn, 1) := by decide +kernel
theorem dX9_box_67 : decode cX9_box 67 = .ok (.aload_n 3, 1) := by decide +kernel
theorem dX9_box_68 : decode cX9_box 68 = .ok (.getfield 184, 3) := by decide +kernel
theorem dX9_box_71 : decode cX9_box 71 = .ok (.ireturn, 1) := by decide +kernel
theorem dX9_box_72 : decode cX9_box 72 = .ok (.aload_n 3, 1) := by decide +kernel
theorem dX9_box_73 : decode cX9_box 73 = .ok (.aload_n 0, 1) := by decide +kernel
theorem dX9_box_74 : decode cX9_box 74 = .ok (.getfield 10, 3) := by decide +kernel
theorem dX9_box_77 : decode cX9_box 77 = .ok (.getfield 59, 3) := by decide +kernel
theorem dX9_box_80 : decode cX9_box 80 = .ok (.getfield 190, 3) := by decide +kernel
theorem dX9_box_83 : decode cX9_box 83 = .ok (.aload_n 0, 1) := by decide +kernel
theorem dX9_box_84 : decode cX9_box 84 = .ok (.getfield 10, 3) := by decide +kernel
theorem dX9_box_87 : decode cX9_box 87 = .ok (.getfield 97, 3) := by decide +kernel
theorem dX9_box_90 : decode cX9_box 90 = .ok (.iconst 0, 1) := by decide +kernel
theorem dX9_box_91 : decode cX9_box 91 = .ok (.invokevirtual 193, 3) := by decide +kernel
theorem dX9_box_94 : decode cX9_box 94 = .ok (.invokevirtual 196, 3) := by decide +kernel
theorem dX9_box_97 : decode cX9_box 97 = .ok (.ireturn, 1) := by decide +kernel
theorem dX9_box_98 : decode cX9_box 98 = .ok (.bipush (-2), 2) := by decide +kernel
theorem dX9_box_100 : decode cX9_box 100 = .ok (.ireturn, 1) := by decide +kernel
set_option maxRecDepth 20000 in
theorem ggX9_van_X9_within : GoodIn wsX9_van wsX9_within := goodIn_r _ [25] (by decide +kernel) (by decide +kernel)
set_option maxRecDepth 20000 in
theorem gX9_van_X9_within : GoodIn wsX9_van (va_wsS RX9 43 yX9_within wsX9_within) := goodIn_app (goodIn_of _ (by decide +kernel)) ggX9_van_X9_within
set_option maxRecDepth 20000 in
theorem ggX9_van_X6_value : GoodIn wsX9_van wsX6_value := goodIn_r _ [30, 31, 23, 24, 25, 93] (by decide +kernel) (by decide +kernel)
set_option maxRecDepth 20000 in
theorem gX9_van_X6_value : GoodIn wsX9_van (wsV RX9 193 RX6 yX6_value wsX6_value) := goodIn_app (goodIn_of _ (by decide +kernel)) ggX9_van_X6_value
set_option maxRecDepth 20000 in
theorem ggX9_van_X4_outsideNow : GoodIn wsX9_van wsX4_outsideNow := goodIn_r _ [36, 37, 38, 39, 40, 41, 35, 42, 43, 23, 24, 25, 84, 85, 86, 87, 88] (by decide +kernel) (by decide +kernel)
set_option maxRecDepth 20000 in
theorem gX9_van_X4_outsideNow : GoodIn wsX9_van (wsV RX9 200 RX4 yX4_outsideNow wsX4_outsideNow) := goodIn_app (goodIn_of _ (by decide +kernel)) ggX9_van_X4_outsideNow
set_option maxRecDepth 20000 in
theorem ggX9_van_X8_concentration : GoodIn wsX9_van wsX8_concentration := goodIn_r _ [48, 49, 50, 51, 52, 53, 54, 55, 56, 57, 58, 27, 28, 29, 30, 31, 23, 24, 25, 59, 60, 67, 68, 69, 70, 71, 72, 73, 74, 75, 76, 77, 78, 79, 80, 81, 82, 83, 93] (by decide +kernel) (by decide +kernel)
set_option maxRecDepth 20000 in
theorem gX9_van_X8_concentration : GoodIn wsX9_van (wsV RX9 160 RX8 yX8_concentration wsX8_concentration) := goodIn_app (goodIn_of _ (by decide +kernel)) ggX9_van_X8_concentration
theorem dX9_van_0 : decode cX9_van 0 = .ok (.iload_n 1, 1) := by decide +kernel
theorem dX9_van_1 : decode cX9_van 1 = .ok (.iconst 0, 1) := by decide +kernel
theorem dX9_van_2 : decode cX9_van 2 = .ok (.bipush 25, 2) := by decide +kernel
theorem dX9_van_4 : decode cX9_van 4 = .ok (.invokestatic 43, 3) := by decide +kernel
theorem dX9_van_7 : decode cX9_van 7 = .ok (.ifCond .ne 6, 3) := by decide +kernel
theorem dX9_van_10 : decode cX9_van 10 = .ok (.ldc 199, 2) := by decide +kernel
theorem dX9_van_12 : decode cX9_van 12 = .ok (.ireturn, 1) := by decide +kernel
theorem dX9_van_13 : decode cX9_van 13 = .ok (.iload_n 1, 1) := by decide +kernel
theorem dX9_van_14 : decode cX9_van 14 = .ok (.bipush 15, 2) := by decide +kernel
theorem dX9_van_16 : decode cX9_van 16 = .ok (.if_icmp .lt 18, 3) := by decide +kernel
theorem dX9_van_19 : decode cX9_van 19 = .ok (.aload_n 0, 1) := by decide +kernel
theorem dX9_van_20 : decode cX9_van 20 = .ok (.getfield 10, 3) := by decide +kernel
theorem dX9_van_23 : decode cX9_van 23 = .ok (.getfield 97, 3) := by decide +kernel
theorem dX9_van_26 : decode cX9_van 26 = .ok (.iload_n 1, 1) := by decide +kernel
theorem dX9_van_27 : decode cX9_van 27 = .ok (.bipush 15, 2) := by decide +kernel
theorem dX9_van_29 : decode cX9_van 29 = .ok (.isub, 1) := by decide +kernel
theorem dX9_van_30 : decode cX9_van 30 = .ok (.invokevirtual 193, 3) := by decide +kernel
theorem dX9_van_33 : decode cX9_van 33 = .ok (.ireturn, 1) := by decide +kernel
theorem dX9_van_34 : decode cX9_van 34 = .ok (.iload_n 1, 1) := by decide +kernel
theorem dX9_van_35 : decode cX9_van 35 = .ok (.tableswitch 253 0 13 #[69, 77, 88, 99, 111, 120, 131, 150, 161, 180, 209, 220, 231, 242], 69) := by decide +kernel
theorem dX9_van_104 : decode cX9_van 104 = .ok (.aload_n 0, 1) := by decide +kernel
theorem dX9_van_105 : decode cX9_van 105 = .ok (.getfield 10, 3) := by decide +kernel
theorem dX9_van_108 : decode cX9_van 108 = .ok (.getfield 133, 3) := by decide +kernel
theorem dX9_van_111 : decode cX9_van 111 = .ok (.ireturn, 1) := by decide +kernel
theorem dX9_van_112 : decode cX9_van 112 = .ok (.aload_n 0, 1) := by decide +kernel
theorem dX9_van_113 : decode cX9_van 113 = .ok (.getfield 10, 3) := by decide +kernel
theorem dX9_van_116 : decode cX9_van 116 = .ok (.getfield 59, 3) := by decide +kernel
theorem dX9_van_119 : decode cX9_van 119 = .ok (.getfield 190, 3) := by decide +kernel
theorem dX9_van_122 : decode cX9_van 122 = .ok (.ireturn, 1) := by decide +kernel
theorem dX9_van_123 : decode cX9_van 123 = .ok (.aload_n 0, 1) := by decide +kernel
theorem dX9_van_124 : decode cX9_van 124 = .ok (.getfield 10, 3) := by decide +kernel
theorem dX9_van_127 : decode cX9_van 127 = .ok (.getfield 111, 3) := by decide +kernel
theorem dX9_van_130 : decode cX9_van 130 = .ok (.invokevirtual 200, 3) := by decide +kernel
theorem dX9_van_133 : decode cX9_van 133 = .ok (.ireturn, 1) := by decide +kernel
theorem dX9_van_134 : decode cX9_van 134 = .ok (.aload_n 0, 1) := by decide +kernel
theorem dX9_van_135 : decode cX9_van 135 = .ok (.getfield 10, 3) := by decide +kernel
theorem dX9_van_138 : decode cX9_van 138 = .ok (.getfield 59, 3) := by decide +kernel
theorem dX9_van_141 : decode cX9_van 141 = .ok (.getfield 203, 3) := by decide +kernel
theorem dX9_van_144 : decode cX9_van 144 = .ok (.l2i, 1) := by decide +kernel
theorem dX9_van_145 : decode cX9_van 145 = .ok (.ireturn, 1) := by decide +kernel
theorem dX9_van_146 : decode cX9_van 146 = .ok (.aload_n 0, 1) := by decide +kernel
theorem dX9_van_147 : decode cX9_van 147 = .ok (.getfield 10, 3) := by decide +kernel
theorem dX9_van_150 : decode cX9_van 150 = .ok (.invokevirtual 160, 3) := by decide +kernel
theorem dX9_van_153 : decode cX9_van 153 = .ok (.l2i, 1) := by decide +kernel
theorem dX9_van_154 : decode cX9_van 154 = .ok (.ireturn, 1) := by decide +kernel
theorem dX9_van_155 : decode cX9_van 155 = .ok (.aload_n 0, 1) := by decide +kernel
theorem dX9_van_156 : decode cX9_van 156 = .ok (.getfield 10, 3) := by decide +kernel
theorem dX9_van_159 : decode cX9_van 159 = .ok (.getfield 59, 3) := by decide +kernel
theorem dX9_van_162 : decode cX9_van 162 = .ok (.getfield 148, 3) := by decide +kernel
theorem dX9_van_165 : decode cX9_van 165 = .ok (.ireturn, 1) := by decide +kernel
theorem dX9_van_166 : decode cX9_van 166 = .ok (.aload_n 0, 1) := by decide +kernel
theorem dX9_van_167 : decode cX9_van 167 = .ok (.getfield 10, 3) := by decide +kernel
theorem dX9_van_170 : decode cX9_van 170 = .ok (.getfield 59, 3) := by decide +kernel
theorem dX9_van_173 : decode cX9_van 173 = .ok (.getfield 206, 3) := by decide +kernel
theorem dX9_van_176 : decode cX9_van 176 = .ok (.ifCond .eq 7, 3) := by decide +kernel
theorem dX9_van_179 : decode cX9_van 179 = .ok (.iconst 1, 1) := by decide +kernel
theorem dX9_van_180 : decode cX9_van 180 = .ok (.goto 4, 3) := by decide +kernel
theorem dX9_van_183 : decode cX9_van 183 = .ok (.iconst 0, 1) := by decide +kernel
theorem dX9_van_184 : decode cX9_van 184 = .ok (.ireturn, 1) := by decide +kernel
theorem dX9_van_185 : decode cX9_van 185 = .ok (.aload_n 0, 1) := by decide +kernel
theorem dX9_van_186 : decode cX9_van 186 = .ok (.getfield 10, 3) := by decide +kernel
theorem dX9_van_189 : decode cX9_van 189 = .ok (.getfield 59, 3) := by decide +kernel
theorem dX9_van_192 : decode cX9_van 192 = .ok (.getfield 209, 3) := by decide +kernel
theorem dX9_van_195 : decode cX9_van 195 = .ok (.ireturn, 1) := by decide +kernel
theorem dX9_van_196 : decode cX9_van 196 = .ok (.aload_n 0, 1) := by decide +kernel
theorem dX9_van_197 : decode cX9_van 197 = .ok (.getfield 10, 3) := by decide +kernel
theorem dX9_van_200 : decode cX9_van 200 = .ok (.getfield 59, 3) := by decide +kernel
theorem dX9_van_203 : decode cX9_van 203 = .ok (.getfield 63, 3) := by decide +kernel
theorem dX9_van_206 : decode cX9_van 206 = .ok (.ifCond .eq 7, 3) := by decide +kernel
theorem dX9_van_209 : decode cX9_van 209 = .ok (.iconst 1, 1) := by decide +kernel
theorem dX9_van_210 : decode cX9_van 210 = .ok (.goto 4, 3) := by decide +kernel
theorem dX9_van_213 : decode cX9_van 213 = .ok (.iconst 0, 1) := by decide +kernel
theorem dX9_van_214 : decode cX9_van 214 = .ok (.ireturn, 1) := by decide +kernel
theorem dX9_van_215 : decode cX9_van 215 = .ok (.aload_n 0, 1) := by decide +kernel
theorem dX9_van_216 : decode cX9_van 216 = .ok (.getfield 10, 3) := by decide +kernel
theorem dX9_van_219 : decode cX9_van 219 = .ok (.getfield 111, 3) := by decide +kernel
theorem dX9_van_222 : decode cX9_van 222 = .ok (.getfield 130, 3) := by decide +kernel
theorem dX9_van_225 : decode cX9_van 225 = .ok (.ifCond .ge 8, 3) := by decide +kernel
theorem dX9_van_228 : decode cX9_van 228 = .ok (.ldc 212, 2) := by decide +kernel
theorem dX9_van_230 : decode cX9_van 230 = .ok (.goto 13, 3) := by decide +kernel
theorem dX9_van_233 : decode cX9_van 233 = .ok (.aload_n 0, 1) := by decide +kernel
theorem dX9_van_234 : decode cX9_van 234 = .ok (.getfield 10, 3) := by decide +kernel
theorem dX9_van_237 : decode cX9_van 237 = .ok (.getfield 111, 3) := by decide +kernel
theorem dX9_van_240 : decode cX9_van 240 = .ok (.getfield 130, 3) := by decide +kernel
theorem dX9_van_243 : decode cX9_van 243 = .ok (.ireturn, 1) := by decide +kernel
theorem dX9_van_244 : decode cX9_van 244 = .ok (.aload_n 0, 1) := by decide +kernel
theorem dX9_van_245 : decode cX9_van 245 = .ok (.getfield 10, 3) := by decide +kernel
theorem dX9_van_248 : decode cX9_van 248 = .ok (.getfield 111, 3) := by decide +kernel
theorem dX9_van_251 : decode cX9_van 251 = .ok (.getfield 137, 3) := by decide +kernel
theorem dX9_van_254 : decode cX9_van 254 = .ok (.ireturn, 1) := by decide +kernel
theorem dX9_van_255 : decode cX9_van 255 = .ok (.aload_n 0, 1) := by decide +kernel
theorem dX9_van_256 : decode cX9_van 256 = .ok (.getfield 10, 3) := by decide +kernel
theorem dX9_van_259 : decode cX9_van 259 = .ok (.getfield 59, 3) := by decide +kernel
theorem dX9_van_262 : decode cX9_van 262 = .ok (.getfield 213, 3) := by decide +kernel
theorem dX9_van_265 : decode cX9_van 265 = .ok (.ireturn, 1) := by decide +kernel
theorem dX9_van_266 : decode cX9_van 266 = .ok (.aload_n 0, 1) := by decide +kernel
theorem dX9_van_267 : decode cX9_van 267 = .ok (.getfield 10, 3) := by decide +kernel
theorem dX9_van_270 : decode cX9_van 270 = .ok (.getfield 49, 3) := by decide +kernel
theorem dX9_van_273 : decode cX9_van 273 = .ok (.getfield 53, 3) := by decide +kernel
theorem dX9_van_276 : decode cX9_van 276 = .ok (.ireturn, 1) := by decide +kernel
theorem dX9_van_277 : decode cX9_van 277 = .ok (.aload_n 0, 1) := by decide +kernel
theorem dX9_van_278 : decode cX9_van 278 = .ok (.getfield 10, 3) := by decide +kernel
theorem dX9_van_281 : decode cX9_van 281 = .ok (.getfield 111, 3) := by decide +kernel
theorem dX9_van_284 : decode cX9_van 284 = .ok (.getfield 115, 3) := by decide +kernel
theorem dX9_van_287 : decode cX9_van 287 = .ok (.ireturn, 1) := by decide +kernel
theorem dX9_van_288 : decode cX9_van 288 = .ok (.aload_n 0, 1) := by decide +kernel
theorem dX9_van_289 : decode cX9_van 289 = .ok (.getfield 32, 3) := by decide +kernel
theorem dX9_van_292 : decode cX9_van 292 = .ok (.getfield 216, 3) := by decide +kernel
theorem dX9_van_295 : decode cX9_van 295 = .ok (.ireturn, 1) := by decide +kernel
set_option maxRecDepth 20000 in
theorem ggX9_way_X4_hasLeg : GoodIn wsX9_way wsX4_hasLeg := goodIn_r _ [9, 10, 11, 12, 13, 41, 42, 43, 44, 45] (by decide +kernel) (by decide +kernel)
set_option maxRecDepth 20000 in
theorem gX9_way_X4_hasLeg : GoodIn wsX9_way (wsV RX9 219 RX4 yX4_hasLeg wsX4_hasLeg) := goodIn_app (goodIn_of _ (by decide +kernel)) ggX9_way_X4_hasLeg
set_option maxRecDepth 20000 in
theorem ggX9_way_X4_durationOf : GoodIn wsX9_way wsX4_durationOf := goodIn_r _ [17, 18, 19, 6, 7, 8, 9, 10, 11, 12, 13, 41, 42, 43, 44, 45] (by decide +kernel) (by decide +kernel)
set_option maxRecDepth 20000 in
theorem gX9_way_X4_durationOf : GoodIn wsX9_way (wsV RX9 223 RX4 yX4_durationOf wsX4_durationOf) := goodIn_app (goodIn_of _ (by decide +kernel)) ggX9_way_X4_durationOf
set_option maxRecDepth 20000 in
theorem ggX9_way_X4_outsideOf : GoodIn wsX9_way wsX4_outsideOf := goodIn_r _ [23, 24, 19, 6, 7, 8, 9, 10, 11, 12, 13, 41, 42, 43, 44, 45] (by decide +kernel) (by decide +kernel)
set_option maxRecDepth 20000 in
theorem gX9_way_X4_outsideOf : GoodIn wsX9_way (wsV RX9 226 RX4 yX4_outsideOf wsX4_outsideOf) := goodIn_app (goodIn_of _ (by decide +kernel)) ggX9_way_X4_outsideOf
theorem dX9_way_0 : decode cX9_way 0 = .ok (.aload_n 0, 1) := by decide +kernel
theorem dX9_way_1 : decode cX9_way 1 = .ok (.getfield 10, 3) := by decide +kernel
theorem dX9_way_4 : decode cX9_way 4 = .ok (.getfield 111, 3) := by decide +kernel
theorem dX9_way_7 : decode cX9_way 7 = .ok (.iload_n 1, 1) := by decide +kernel
theorem dX9_way_8 : decode cX9_way 8 = .ok (.invokevirtual 219, 3) := by decide +kernel
theorem dX9_way_11 : decode cX9_way 11 = .ok (.ifCond .ne 6, 3) := by decide +kernel
theorem dX9_way_14 : decode cX9_way 14 = .ok (.ldc 182, 2) := by decide +kernel
theorem dX9_way_16 : decode cX9_way 16 = .ok (.ireturn, 1) := by decide +kernel
theorem dX9_way_17 : decode cX9_way 17 = .ok (.iload_n 2, 1) := by decide +kernel
theorem dX9_way_18 : decode cX9_way 18 = .ok (.lookupswitch 50 #[(0, 26), (1, 38)], 26) := by decide +kernel
theorem dX9_way_44 : decode cX9_way 44 = .ok (.aload_n 0, 1) := by decide +kernel
theorem dX9_way_45 : decode cX9_way 45 = .ok (.getfield 10, 3) := by decide +kernel
theorem dX9_way_48 : decode cX9_way 48 = .ok (.getfield 111, 3) := by decide +kernel
theorem dX9_way_51 : decode cX9_way 51 = .ok (.iload_n 1, 1) := by decide +kernel
theorem dX9_way_52 : decode cX9_way 52 = .ok (.invokevirtual 223, 3) := by decide +kernel
theorem dX9_way_55 : decode cX9_way 55 = .ok (.ireturn, 1) := by decide +kernel
theorem dX9_way_56 : decode cX9_way 56 = .ok (.aload_n 0, 1) := by decide +kernel
theorem dX9_way_57 : decode cX9_way 57 = .ok (.getfield 10, 3) := by decide +kernel
theorem dX9_way_60 : decode cX9_way 60 = .ok (.getfield 111, 3) := by decide +kernel
theorem dX9_way_63 : decode cX9_way 63 = .ok (.iload_n 1, 1) := by decide +kernel
theorem dX9_way_64 : decode cX9_way 64 = .ok (.invokevirtual 226, 3) := by decide +kernel
theorem dX9_way_67 : decode cX9_way 67 = .ok (.ireturn, 1) := by decide +kernel
theorem dX9_way_68 : decode cX9_way 68 = .ok (.ldc 199, 2) := by decide +kernel
theorem dX9_way_70 : decode cX9_way 70 = .ok (.ireturn, 1) := by decide +kernel
set_option maxRecDepth 20000 in
theorem ggX9_account_X2_iceOfAll : GoodIn wsX9_account wsX2_iceOfAll := goodIn_r _ [13, 14, 15, 16, 33, 34, 35, 36, 37, 38] (by decide +kernel) (by decide +kernel)
set_option maxRecDepth 20000 in
theorem gX9_account_X2_iceOfAll : GoodIn wsX9_account (wsV RX9 165 RX2 yX2_iceOfAll wsX2_iceOfAll) := goodIn_app (goodIn_of _ (by decide +kernel)) ggX9_account_X2_iceOfAll
theorem dX9_account_0 : decode cX9_account 0 = .ok (.iload_n 1, 1) := by decide +kernel
theorem dX9_account_1 : decode cX9_account 1 = .ok (.tableswitch 91 0 5 #[39, 51, 59, 67, 75, 83], 39) := by decide +kernel
theorem dX9_account_40 : decode cX9_account 40 = .ok (.aload_n 0, 1) := by decide +kernel
theorem dX9_account_41 : decode cX9_account 41 = .ok (.getfield 10, 3) := by decide +kernel
theorem dX9_account_44 : decode cX9_account 44 = .ok (.getfield 49, 3) := by decide +kernel
theorem dX9_account_47 : decode cX9_account 47 = .ok (.invokevirtual 165, 3) := by decide +kernel
theorem dX9_account_50 : decode cX9_account 50 = .ok (.i2l, 1) := by decide +kernel
theorem dX9_account_51 : decode cX9_account 51 = .ok (.lreturn, 1) := by decide +kernel
theorem dX9_account_52 : decode cX9_account 52 = .ok (.aload_n 0, 1) := by decide +kernel
theorem dX9_account_53 : decode cX9_account 53 = .ok (.getfield 10, 3) := by decide +kernel
theorem dX9_account_56 : decode cX9_account 56 = .ok (.getfield 73, 3) := by decide +kernel
theorem dX9_account_59 : decode cX9_account 59 = .ok (.lreturn, 1) := by decide +kernel
theorem dX9_account_60 : decode cX9_account 60 = .ok (.aload_n 0, 1) := by decide +kernel
theorem dX9_account_61 : decode cX9_account 61 = .ok (.getfield 10, 3) := by decide +kernel
theorem dX9_account_64 : decode cX9_account 64 = .ok (.getfield 90, 3) := by decide +kernel
theorem dX9_account_67 : decode cX9_account 67 = .ok (.lreturn, 1) := by decide +kernel
theorem dX9_account_68 : decode cX9_account 68 = .ok (.aload_n 0, 1) := by decide +kernel
theorem dX9_account_69 : decode cX9_account 69 = .ok (.getfield 10, 3) := by decide +kernel
theorem dX9_account_72 : decode cX9_account 72 = .ok (.getfield 229, 3) := by decide +kernel
theorem dX9_account_75 : decode cX9_account 75 = .ok (.lreturn, 1) := by decide +kernel
theorem dX9_account_76 : decode cX9_account 76 = .ok (.aload_n 0, 1) := by decide +kernel
theorem dX9_account_77 : decode cX9_account 77 = .ok (.getfield 10, 3) := by decide +kernel
theorem dX9_account_80 : decode cX9_account 80 = .ok (.getfield 169, 3) := by decide +kernel
theorem dX9_account_83 : decode cX9_account 83 = .ok (.lreturn, 1) := by decide +kernel
theorem dX9_account_84 : decode cX9_account 84 = .ok (.aload_n 0, 1) := by decide +kernel
theorem dX9_account_85 : decode cX9_account 85 = .ok (.getfield 10, 3) := by decide +kernel
theorem dX9_account_88 : decode cX9_account 88 = .ok (.getfield 176, 3) := by decide +kernel
theorem dX9_account_91 : decode cX9_account 91 = .ok (.lreturn, 1) := by decide +kernel
theorem dX9_account_92 : decode cX9_account 92 = .ok (.ldc2_w 232, 3) := by decide +kernel
theorem dX9_account_95 : decode cX9_account 95 = .ok (.lreturn, 1) := by decide +kernel
set_option maxRecDepth 20000 in
theorem ggX9_atEnd_X2_boxAt : GoodIn wsX9_atEnd wsX2_boxAt := goodIn_r _ [11, 12, 13, 14, 15, 16, 214, 215] (by decide +kernel) (by decide +kernel)
set_option maxRecDepth 20000 in
theorem gX9_atEnd_X2_boxAt : GoodIn wsX9_atEnd (wsV RX9 77 RX2 yX2_boxAt wsX2_boxAt) := goodIn_app (goodIn_of _ (by decide +kernel)) ggX9_atEnd_X2_boxAt
set_option maxRecDepth 20000 in
theorem ggX9_atEnd_X9_within : GoodIn wsX9_atEnd wsX9_within := goodIn_r _ [16] (by decide +kernel) (by decide +kernel)
set_option maxRecDepth 20000 in
theorem gX9_atEnd_X9_within : GoodIn wsX9_atEnd (va_wsS RX9 43 yX9_within wsX9_within) := goodIn_app (goodIn_of _ (by decide +kernel)) ggX9_atEnd_X9_within
set_option maxRecDepth 20000 in
theorem ggX9_atEnd_X8_becomeLike : GoodIn wsX9_atEnd wsX8_becomeLike := goodIn_r _ [22, 23, 24, 25, 26, 27, 28, 29, 30, 31, 32, 33, 34, 35, 36, 37, 38, 39, 40, 41, 42, 43, 44, 45, 10, 46, 12, 13, 47, 48, 49, 50, 51, 52, 53, 54, 55, 56, 57, 58, 59, 60, 61, 62, 63, 64, 65, 66, 67, 68, 69, 70, 71, 72, 73, 74, 75, 76, 77, 78, 193, 194, 195, 196, 197, 198, 199, 200, 201, 202, 216, 214, 215, 210, 211, 212, 213, 203, 204, 205, 206, 207, 208, 209, 217, 218, 219, 220, 221] (by decide +kernel) (by decide +kernel)
set_option maxRecDepth 20000 in
theorem gX9_atEnd_X8_becomeLike : GoodIn wsX9_atEnd (wsV RX9 234 RX8 yX8_becomeLike wsX8_becomeLike) := goodIn_app (goodIn_of _ (by decide +kernel)) ggX9_atEnd_X8_becomeLike
set_option maxRecDepth 20000 in
theorem ggX9_atEnd_X8_driveToEnd : GoodIn wsX9_atEnd wsX8_driveToEnd := goodIn_r _ [82, 26, 83, 84, 85, 86, 71, 87, 78, 88, 89, 90, 21, 91, 92, 93, 94, 95, 24, 25, 96, 23, 30, 27, 97, 98, 99, 36, 100, 38, 14, 15, 16, 101, 102, 103, 10, 104, 12, 13, 105, 106, 107, 50, 108, 109, 52, 110, 111, 112, 113, 54, 114, 115, 116, 117, 118, 119, 120, 121, 122, 55, 123, 124, 125, 126, 127, 128, 129, 77, 75, 130, 131, 132, 133, 76, 134, 135, 136, 59, 137, 62, 66, 67, 138, 139, 140, 141, 61, 64, 142, 143, 144, 145, 146, 147, 148, 149, 150, 151, 152, 153, 154, 155, 156, 157, 158, 159, 160, 63, 65, 161, 162, 163, 164, 165, 166, 167, 168, 169, 170, 171, 172, 173, 174, 175, 176, 177, 178, 179, 180, 181, 182, 183, 184, 185, 73, 186, 193, 194, 195, 196, 197, 198, 199, 200, 201, 202, 217, 218, 219, 220, 221, 203, 204, 205, 206, 207, 208, 209, 216, 214, 215, 210, 211, 212, 213] (by decide +kernel) (by decide +kernel)
set_option maxRecDepth 20000 in
theorem gX9_atEnd_X8_driveToEnd : GoodIn wsX9_atEnd (wsV RX9 238 RX8 yX8_driveToEnd wsX8_driveToEnd) := goodIn_app (goodIn_of _ (by decide +kernel)) ggX9_atEnd_X8_driveToEnd
theorem dX9_atEnd_0 : decode cX9_atEnd 0 = .ok (.aload_n 0, 1) := by decide +kernel
theorem dX9_atEnd_1 : decode cX9_atEnd 1 = .ok (.getfield 10, 3) := by decide +kernel
theorem dX9_atEnd_4 : decode cX9_atEnd 4 = .ok (.getfield 49, 3) := by decide +kernel
theorem dX9_atEnd_7 : decode cX9_atEnd 7 = .ok (.iload_n 1, 1) := by decide +kernel
theorem dX9_atEnd_8 : decode cX9_atEnd 8 = .ok (.invokevirtual 77, 3) := by decide +kernel
theorem dX9_atEnd_11 : decode cX9_atEnd 11 = .ok (.ifnonnull 5, 3) := by decide +kernel
theorem dX9_atEnd_14 : decode cX9_atEnd 14 = .ok (.iconst (-1), 1) := by decide +kernel
theorem dX9_atEnd_15 : decode cX9_atEnd 15 = .ok (.ireturn, 1) := by decide +kernel
theorem dX9_atEnd_16 : decode cX9_atEnd 16 = .ok (.iload_n 2, 1) := by decide +kernel
theorem dX9_atEnd_17 : decode cX9_atEnd 17 = .ok (.iconst 0, 1) := by decide +kernel
theorem dX9_atEnd_18 : decode cX9_atEnd 18 = .ok (.bipush 100, 2) := by decide +kernel
theorem dX9_atEnd_20 : decode cX9_atEnd 20 = .ok (.invokestatic 43, 3) := by decide +kernel
theorem dX9_atEnd_23 : decode cX9_atEnd 23 = .ok (.ifCond .ne 6, 3) := by decide +kernel
theorem dX9_atEnd_26 : decode cX9_atEnd 26 = .ok (.bipush (-2), 2) := by decide +kernel
theorem dX9_atEnd_28 : decode cX9_atEnd 28 = .ok (.ireturn, 1) := by decide +kernel
theorem dX9_atEnd_29 : decode cX9_atEnd 29 = .ok (.aload_n 0, 1) := by decide +kernel
theorem dX9_atEnd_30 : decode cX9_atEnd 30 = .ok (.getfield 16, 3) := by decide +kernel
theorem dX9_atEnd_33 : decode cX9_atEnd 33 = .ok (.aload_n 0, 1) := by decide +kernel
theorem dX9_atEnd_34 : decode cX9_atEnd 34 = .ok (.getfield 10, 3) := by decide +kernel
theorem dX9_atEnd_37 : decode cX9_atEnd 37 = .ok (.invokevirtual 234, 3) := by decide +kernel
theorem dX9_atEnd_40 : decode cX9_atEnd 40 = .ok (.aload_n 0, 1) := by decide +kernel
theorem dX9_atEnd_41 : decode cX9_atEnd 41 = .ok (.getfield 16, 3) := by decide +kernel
theorem dX9_atEnd_44 : decode cX9_atEnd 44 = .ok (.getfield 59, 3) := by decide +kernel
theorem dX9_atEnd_47 : decode cX9_atEnd 47 = .ok (.iconst 0, 1) := by decide +kernel
theorem dX9_atEnd_48 : decode cX9_atEnd 48 = .ok (.putfield 63, 3) := by decide +kernel
theorem dX9_atEnd_51 : decode cX9_atEnd 51 = .ok (.aload_n 0, 1) := by decide +kernel
theorem dX9_atEnd_52 : decode cX9_atEnd 52 = .ok (.getfield 16, 3) := by decide +kernel
theorem dX9_atEnd_55 : decode cX9_atEnd 55 = .ok (.iload_n 2, 1) := by decide +kernel
theorem dX9_atEnd_56 : decode cX9_atEnd 56 = .ok (.invokevirtual 238, 3) := by decide +kernel
theorem dX9_atEnd_59 : decode cX9_atEnd 59 = .ok (.aload_n 0, 1) := by decide +kernel
theorem dX9_atEnd_60 : decode cX9_atEnd 60 = .ok (.getfield 16, 3) := by decide +kernel
theorem dX9_atEnd_63 : decode cX9_atEnd 63 = .ok (.getfield 49, 3) := by decide +kernel
theorem dX9_atEnd_66 : decode cX9_atEnd 66 = .ok (.iload_n 1, 1) := by decide +kernel
theorem dX9_atEnd_67 : decode cX9_atEnd 67 = .ok (.invokevirtual 77, 3) := by decide +kernel
theorem dX9_atEnd_70 : decode cX9_atEnd 70 = .ok (.astore_n 3, 1) := by decide +kernel
theorem dX9_atEnd_71 : decode cX9_atEnd 71 = .ok (.aload_n 3, 1) := by decide +kernel
theorem dX9_atEnd_72 : decode cX9_atEnd 72 = .ok (.ifnonnull 7, 3) := by decide +kernel
theorem dX9_atEnd_75 : decode cX9_atEnd 75 = .ok (.iconst (-1), 1) := by decide +kernel
theorem dX9_atEnd_76 : decode cX9_atEnd 76 = .ok (.goto 7, 3) := by decide +kernel
theorem dX9_atEnd_79 : decode cX9_atEnd 79 = .ok (.aload_n 3, 1) := by decide +kernel
theorem dX9_atEnd_80 : decode cX9_atEnd 80 = .ok (.getfield 81, 3) := by decide +kernel
theorem dX9_atEnd_83 : decode cX9_atEnd 83 = .ok (.ireturn, 1) := by decide +kernel
set_option maxRecDepth 20000 in
theorem ggX9_worst_X9_within : GoodIn wsX9_worst wsX9_within := goodIn_r _ [10] (by decide +kernel) (by decide +kernel)
set_option maxRecDepth 20000 in
theorem gX9_worst_X9_within : GoodIn wsX9_worst (va_wsS RX9 43 yX9_within wsX9_within) := goodIn_app (goodIn_of _ (by decide +kernel)) ggX9_worst_X9_within
set_option maxRecDepth 20000 in
theorem ggX9_worst_X8_becomeLike : GoodIn wsX9_worst wsX8_becomeLike := goodIn_r _ [15, 16, 17, 18, 19, 20, 21, 22, 23, 24, 25, 26, 27, 28, 29, 30, 31, 32, 33, 34, 35, 36, 37, 38, 39, 40, 41, 42, 43, 44, 45, 46, 47, 48, 49, 50, 51, 52, 53, 54, 55, 56, 57, 58, 59, 60, 61, 62, 63, 64, 65, 66, 67, 68, 69, 70, 71, 72, 73, 74, 172, 173, 174, 175, 176, 177, 178, 179, 180, 181, 182, 183, 184, 185, 186, 187, 188, 189, 190, 191, 192, 193, 194, 195, 196, 197, 198, 199, 200] (by decide +kernel) (by decide +kernel)
set_option maxRecDepth 20000 in
theorem gX9_worst_X8_becomeLike : GoodIn wsX9_worst (wsV RX9 234 RX8 yX8_becomeLike wsX8_becomeLike) := goodIn_app (goodIn_of _ (by decide +kernel)) ggX9_worst_X8_becomeLike
set_option maxRecDepth 20000 in
theorem ggX9_worst_X8_letMinutePass : GoodIn wsX9_worst wsX8_letMinutePass := goodIn_r _ [78, 17, 18, 79, 16, 23, 19, 20, 80, 81, 82, 29, 83, 31, 8, 9, 10, 84, 85, 86, 39, 87, 41, 42, 88, 89, 90, 46, 91, 92, 48, 93, 4, 5, 6, 50, 94, 95, 96, 97, 98, 99, 100, 101, 102, 51, 103, 104, 105, 106, 107, 108, 67, 109, 73, 71, 110, 111, 112, 113, 72, 114, 115, 116, 55, 117, 58, 62, 63, 118, 119, 120, 121, 57, 60, 122, 123, 124, 125, 126, 127, 128, 129, 130, 131, 132, 133, 134, 135, 136, 137, 138, 139, 140, 59, 61, 141, 142, 143, 144, 145, 146, 147, 148, 149, 150, 151, 152, 153, 154, 155, 156, 74, 157, 158, 159, 160, 172, 173, 174, 175, 176, 177, 178, 179, 180, 181, 189, 190, 191, 192, 193, 194, 195, 182, 183, 184, 185, 186, 187, 188, 196, 197, 198, 199, 200] (by decide +kernel) (by decide +kernel)
set_option maxRecDepth 20000 in
theorem gX9_worst_X8_letMinutePass : GoodIn wsX9_worst (wsV RX9 241 RX8 yX8_letMinutePass wsX8_letMinutePass) := goodIn_app (goodIn_of _ (by decide +kernel)) ggX9_worst_X8_letMinutePass
set_option maxRecDepth 20000 in
theorem ggX9_worst_X8_concentration : GoodIn wsX9_worst wsX8_concentration := goodIn_r _ [164, 18, 16, 165, 133, 134, 55, 135, 58, 136, 126, 81, 82, 29, 83, 31, 8, 9, 10, 97, 98, 172, 173, 174, 175, 176, 177, 178, 179, 180, 181, 189, 190, 191, 192, 193, 194, 195, 182] (by decide +kernel) (by decide +kernel)
set_option maxRecDepth 20000 in
theorem gX9_worst_X8_concentration : GoodIn wsX9_worst (wsV RX9 160 RX8 yX8_concentration wsX8_concentration) := goodIn_app (goodIn_of _ (by decide +kernel)) ggX9_worst_X8_concentration
theorem dX9_worst_0 : decode cX9_worst 0 = .ok (.iload_n 1, 1) := by decide +kernel
theorem dX9_worst_1 : decode cX9_worst 1 = .ok (.iconst 1, 1) := by decide +kernel
theorem dX9_worst_2 : decode cX9_worst 2 = .ok (.sipush 1000, 3) := by decide +kernel
theorem dX9_worst_5 : decode cX9_worst 5 = .ok (.invokestatic 43, 3) := by decide +kernel
theorem dX9_worst_8 : decode cX9_worst 8 = .ok (.ifCond .ne 6, 3) := by decide +kernel
theorem dX9_worst_11 : decode cX9_worst 11 = .ok (.bipush (-2), 2) := by decide +kernel
theorem dX9_worst_13 : decode cX9_worst 13 = .ok (.ireturn, 1) := by decide +kernel
theorem dX9_worst_14 : decode cX9_worst 14 = .ok (.aload_n 0, 1) := by decide +kernel
theorem dX9_worst_15 : decode cX9_worst 15 = .ok (.getfield 16, 3) := by decide +kernel
theorem dX9_worst_18 : decode cX9_worst 18 = .ok (.aload_n 0, 1) := by decide +kernel
theorem dX9_worst_19 : decode cX9_worst 19 = .ok (.getfield 10, 3) := by decide +kernel
theorem dX9_worst_22 : decode cX9_worst 22 = .ok (.invokevirtual 234, 3) := by decide +kernel
theorem dX9_worst_25 : decode cX9_worst 25 = .ok (.lconst 0, 1) := by decide +kernel
theorem dX9_worst_26 : decode cX9_worst 26 = .ok (.lstore_n 2, 1) := by decide +kernel
theorem dX9_worst_27 : decode cX9_worst 27 = .ok (.iconst 0, 1) := by decide +kernel
theorem dX9_worst_28 : decode cX9_worst 28 = .ok (.istore 4, 2) := by decide +kernel
theorem dX9_worst_30 : decode cX9_worst 30 = .ok (.iload 4, 2) := by decide +kernel
theorem dX9_worst_32 : decode cX9_worst 32 = .ok (.iload_n 1, 1) := by decide +kernel
theorem dX9_worst_33 : decode cX9_worst 33 = .ok (.if_icmp .ge 28, 3) := by decide +kernel
theorem dX9_worst_36 : decode cX9_worst 36 = .ok (.aload_n 0, 1) := by decide +kernel
theorem dX9_worst_37 : decode cX9_worst 37 = .ok (.getfield 16, 3) := by decide +kernel
theorem dX9_worst_40 : decode cX9_worst 40 = .ok (.invokevirtual 241, 3) := by decide +kernel
theorem dX9_worst_43 : decode cX9_worst 43 = .ok (.lload_n 2, 1) := by decide +kernel
theorem dX9_worst_44 : decode cX9_worst 44 = .ok (.aload_n 0, 1) := by decide +kernel
theorem dX9_worst_45 : decode cX9_worst 45 = .ok (.getfield 16, 3) := by decide +kernel
theorem dX9_worst_48 : decode cX9_worst 48 = .ok (.invokevirtual 160, 3) := by decide +kernel
theorem dX9_worst_51 : decode cX9_worst 51 = .ok (.invokestatic 244, 3) := by decide +kernel
theorem dX9_worst_54 : decode cX9_worst 54 = .ok (.lstore_n 2, 1) := by decide +kernel
theorem dX9_worst_55 : decode cX9_worst 55 = .ok (.iinc 4 1, 3) := by decide +kernel
theorem dX9_worst_58 : decode cX9_worst 58 = .ok (.goto (-28), 3) := by decide +kernel
theorem dX9_worst_61 : decode cX9_worst 61 = .ok (.lload_n 2, 1) := by decide +kernel
theorem dX9_worst_62 : decode cX9_worst 62 = .ok (.l2i, 1) := by decide +kernel
theorem dX9_worst_63 : decode cX9_worst 63 = .ok (.ireturn, 1) := by decide +kernel
set_option maxRecDepth 20000 in
theorem ggX9_purge_X9_within : GoodIn wsX9_purge wsX9_within := goodIn_r _ [8] (by decide +kernel) (by decide +kernel)
set_option maxRecDepth 20000 in
theorem gX9_purge_X9_within : GoodIn wsX9_purge (va_wsS RX9 43 yX9_within wsX9_within) := goodIn_app (goodIn_of _ (by decide +kernel)) ggX9_purge_X9_within
set_option maxRecDepth 20000 in
theorem ggX9_purge_X8_becomeLike : GoodIn wsX9_purge wsX8_becomeLike := goodIn_r _ [13, 14, 15, 16, 17, 18, 19, 20, 21, 22, 23, 24, 25, 26, 27, 28, 29, 30, 31, 32, 33, 34, 35, 36, 37, 38, 39, 40, 41, 42, 43, 44, 45, 46, 47, 48, 49, 50, 51, 52, 53, 54, 55, 56, 57, 58, 59, 60, 61, 62, 63, 64, 65, 66, 67, 68, 69, 70, 71, 72, 181, 182, 183, 184, 185, 186, 187, 188, 189, 190, 198, 199, 200, 201, 202, 203, 204, 191, 192, 193, 194, 195, 196, 197, 205, 206, 207, 208, 209] (by decide +kernel) (by decide +kernel)
set_option maxRecDepth 20000 in
theorem gX9_purge_X8_becomeLike : GoodIn wsX9_purge (wsV RX9 234 RX8 yX8_becomeLike wsX8_becomeLike) := goodIn_app (goodIn_of _ (by decide +kernel)) ggX9_purge_X8_becomeLike
set_option maxRecDepth 20000 in
theorem ggX9_purge_X1_setVentMode : GoodIn wsX9_purge wsX1_setVentMode := goodIn_r _ [76, 57, 77, 78, 79, 53, 80, 81, 82, 83, 84, 58, 85, 86, 87, 88, 59, 191, 192, 193, 194, 195, 196, 197] (by decide +kernel) (by decide +kernel)
set_option maxRecDepth 20000 in
theorem gX9_purge_X1_setVentMode : GoodIn wsX9_purge (wsV RX9 151 RX1 yX1_setVentMode wsX1_setVentMode) := goodIn_app (goodIn_of _ (by decide +kernel)) ggX9_purge_X1_setVentMode
set_option maxRecDepth 20000 in
theorem ggX9_purge_X8_isSafe : GoodIn wsX9_purge wsX8_isSafe := goodIn_r _ [92, 14, 93, 94, 95, 12, 96, 16, 97, 98, 99, 53, 100, 56, 101, 102, 103, 104, 27, 105, 29, 6, 7, 8, 106, 107, 108, 181, 182, 183, 184, 185, 186, 187, 188, 189, 190, 191, 192, 193, 194, 195, 196, 197, 198] (by decide +kernel) (by decide +kernel)
set_option maxRecDepth 20000 in
theorem gX9_purge_X8_isSafe : GoodIn wsX9_purge (wsV RX9 154 RX8 yX8_isSafe wsX8_isSafe) := goodIn_app (goodIn_of _ (by decide +kernel)) ggX9_purge_X8_isSafe
set_option maxRecDepth 20000 in
theorem ggX9_purge_X8_letMinutePass : GoodIn wsX9_purge wsX8_letMinutePass := goodIn_r _ [112, 15, 16, 113, 14, 21, 17, 18, 108, 103, 104, 27, 105, 29, 6, 7, 8, 114, 115, 116, 37, 117, 39, 40, 118, 119, 120, 44, 121, 122, 46, 123, 124, 125, 126, 48, 127, 128, 129, 106, 107, 130, 131, 132, 133, 49, 134, 135, 136, 137, 138, 139, 65, 140, 71, 69, 141, 142, 143, 144, 70, 145, 146, 147, 53, 148, 56, 60, 61, 149, 150, 151, 152, 55, 58, 153, 154, 155, 156, 102, 157, 158, 159, 160, 161, 162, 98, 99, 100, 101, 163, 164, 165, 166, 57, 59, 77, 78, 79, 80, 81, 82, 83, 84, 85, 86, 87, 88, 167, 168, 169, 170, 72, 171, 172, 173, 174, 181, 182, 183, 184, 185, 186, 187, 188, 189, 190, 191, 192, 193, 194, 195, 196, 197, 198, 199, 200, 201, 202, 203, 204, 205, 206, 207, 208, 209] (by decide +kernel) (by decide +kernel)
set_option maxRecDepth 20000 in
theorem gX9_purge_X8_letMinutePass : GoodIn wsX9_purge (wsV RX9 241 RX8 yX8_letMinutePass wsX8_letMinutePass) := goodIn_app (goodIn_of _ (by decide +kernel)) ggX9_purge_X8_letMinutePass
theorem dX9_purge_0 : decode cX9_purge 0 = .ok (.iload_n 1, 1) := by decide +kernel
theorem dX9_purge_1 : decode cX9_purge 1 = .ok (.iconst 1, 1) := by decide +kernel
theorem dX9_purge_2 : decode cX9_purge 2 = .ok (.sipush 1000, 3) := by decide +kernel
theorem dX9_purge_5 : decode cX9_purge 5 = .ok (.invokestatic 43, 3) := by decide +kernel
theorem dX9_purge_8 : decode cX9_purge 8 = .ok (.ifCond .ne 6, 3) := by decide +kernel
theorem dX9_purge_11 : decode cX9_purge 11 = .ok (.bipush (-2), 2) := by decide +kernel
theorem dX9_purge_13 : decode cX9_purge 13 = .ok (.ireturn, 1) := by decide +kernel
theorem dX9_purge_14 : decode cX9_purge 14 = .ok (.aload_n 0, 1) := by decide +kernel
theorem dX9_purge_15 : decode cX9_purge 15 = .ok (.getfield 16, 3) := by decide +kernel
theorem dX9_purge_18 : decode cX9_purge 18 = .ok (.aload_n 0, 1) := by decide +kernel
theorem dX9_purge_19 : decode cX9_purge 19 = .ok (.getfield 10, 3) := by decide +kernel
theorem dX9_purge_22 : decode cX9_purge 22 = .ok (.invokevirtual 234, 3) := by decide +kernel
theorem dX9_purge_25 : decode cX9_purge 25 = .ok (.aload_n 0, 1) := by decide +kernel
theorem dX9_purge_26 : decode cX9_purge 26 = .ok (.getfield 16, 3) := by decide +kernel
theorem dX9_purge_29 : decode cX9_purge 29 = .ok (.getfield 59, 3) := by decide +kernel
theorem dX9_purge_32 : decode cX9_purge 32 = .ok (.iconst 0, 1) := by decide +kernel
theorem dX9_purge_33 : decode cX9_purge 33 = .ok (.putfield 63, 3) := by decide +kernel
theorem dX9_purge_36 : decode cX9_purge 36 = .ok (.aload_n 0, 1) := by decide +kernel
theorem dX9_purge_37 : decode cX9_purge 37 = .ok (.getfield 16, 3) := by decide +kernel
theorem dX9_purge_40 : decode cX9_purge 40 = .ok (.getfield 59, 3) := by decide +kernel
theorem dX9_purge_43 : decode cX9_purge 43 = .ok (.iconst 2, 1) := by decide +kernel
theorem dX9_purge_44 : decode cX9_purge 44 = .ok (.invokevirtual 151, 3) := by decide +kernel
theorem dX9_purge_47 : decode cX9_purge 47 = .ok (.iconst 0, 1) := by decide +kernel
theorem dX9_purge_48 : decode cX9_purge 48 = .ok (.istore_n 2, 1) := by decide +kernel
theorem dX9_purge_49 : decode cX9_purge 49 = .ok (.iload_n 2, 1) := by decide +kernel
theorem dX9_purge_50 : decode cX9_purge 50 = .ok (.iload_n 1, 1) := by decide +kernel
theorem dX9_purge_51 : decode cX9_purge 51 = .ok (.if_icmp .gt 28, 3) := by decide +kernel
theorem dX9_purge_54 : decode cX9_purge 54 = .ok (.aload_n 0, 1) := by decide +kernel
theorem dX9_purge_55 : decode cX9_purge 55 = .ok (.getfield 16, 3) := by decide +kernel
theorem dX9_purge_58 : decode cX9_purge 58 = .ok (.invokevirtual 154, 3) := by decide +kernel
theorem dX9_purge_61 : decode cX9_purge 61 = .ok (.ifCond .eq 5, 3) := by decide +kernel
theorem dX9_purge_64 : decode cX9_purge 64 = .ok (.iload_n 2, 1) := by decide +kernel
theorem dX9_purge_65 : decode cX9_purge 65 = .ok (.ireturn, 1) := by decide +kernel
theorem dX9_purge_66 : decode cX9_purge 66 = .ok (.aload_n 0, 1) := by decide +kernel
theorem dX9_purge_67 : decode cX9_purge 67 = .ok (.getfield 16, 3) := by decide +kernel
theorem dX9_purge_70 : decode cX9_purge 70 = .ok (.invokevirtual 241, 3) := by decide +kernel
theorem dX9_purge_73 : decode cX9_purge 73 = .ok (.iinc 2 1, 3) := by decide +kernel
theorem dX9_purge_76 : decode cX9_purge 76 = .ok (.goto (-27), 3) := by decide +kernel
theorem dX9_purge_79 : decode cX9_purge 79 = .ok (.bipush (-6), 2) := by decide +kernel
theorem dX9_purge_81 : decode cX9_purge 81 = .ok (.ireturn, 1) := by decide +kernel
set_option maxRecDepth 20000 in
theorem ggX9_front_X9_within : GoodIn wsX9_front wsX9_within := goodIn_r _ [8] (by decide +kernel) (by decide +kernel)
set_option maxRecDepth 20000 in
theorem gX9_front_X9_within : GoodIn wsX9_front (va_wsS RX9 43 yX9_within wsX9_within) := goodIn_app (goodIn_of _ (by decide +kernel)) ggX9_front_X9_within
set_option maxRecDepth 20000 in
theorem ggX9_front_X2_iceOfAll : GoodIn wsX9_front wsX2_iceOfAll := goodIn_r _ [13, 14, 15, 16, 201, 202, 203, 204, 205, 206] (by decide +kernel) (by decide +kernel)
set_option maxRecDepth 20000 in
theorem gX9_front_X2_iceOfAll : GoodIn wsX9_front (wsV RX9 165 RX2 yX2_iceOfAll wsX2_iceOfAll) := goodIn_app (goodIn_of _ (by decide +kernel)) ggX9_front_X2_iceOfAll
set_option maxRecDepth 20000 in
theorem ggX9_front_X9_iceLeftWithFront : GoodIn wsX9_front wsX9_iceLeftWithFront := goodIn_r _ [20, 21, 2, 3, 22, 23, 24, 25, 26, 27, 28, 29, 30, 31, 32, 33, 34, 35, 36, 37, 38, 39, 40, 41, 42, 43, 44, 45, 46, 47, 48, 49, 12, 50, 14, 15, 51, 52, 53, 54, 55, 56, 57, 58, 59, 60, 61, 62, 63, 64, 65, 66, 67, 68, 69, 70, 71, 72, 73, 74, 75, 76, 77, 78, 79, 80, 81, 82, 83, 84, 85, 86, 6, 7, 8, 87, 88, 89, 90, 16, 91, 92, 93, 94, 95, 96, 97, 98, 99, 100, 101, 102, 103, 104, 105, 106, 107, 108, 109, 110, 111, 112, 113, 114, 115, 116, 117, 118, 119, 120, 121, 122, 123, 124, 125, 126, 127, 128, 129, 130, 131, 132, 133, 134, 135, 136, 137, 138, 139, 140, 141, 142, 143, 144, 145, 146, 147, 148, 149, 150, 151, 152, 153, 154, 155, 156, 157, 158, 159, 160, 161, 162, 163, 164, 165, 166, 167, 168, 169, 170, 171, 172, 173, 174, 175, 176, 177, 178, 179, 180, 181, 182, 183, 184, 9, 10, 11, 13, 185, 186, 187, 188, 189, 190, 191, 192, 193, 194, 195, 196, 197, 198, 199, 200, 207, 201, 202, 203, 204, 205, 206, 208, 209, 210, 211, 212, 213, 214, 215, 216, 217, 218, 219] (by decide +kernel) (by decide +kernel)
set_option maxRecDepth 20000 in
theorem gX9_front_X9_iceLeftWithFront : GoodIn wsX9_front (wsV RX9 248 RX9 yX9_iceLeftWithFront wsX9_iceLeftWithFront) := goodIn_app (goodIn_of _ (by decide +kernel)) ggX9_front_X9_iceLeftWithFront
theorem dX9_front_0 : decode cX9_front 0 = .ok (.iload_n 1, 1) := by decide +kernel
theorem dX9_front_1 : decode cX9_front 1 = .ok (.iconst 1, 1) := by decide +kernel
theorem dX9_front_2 : decode cX9_front 2 = .ok (.ldc 164, 2) := by decide +kernel
theorem dX9_front_4 : decode cX9_front 4 = .ok (.invokestatic 43, 3) := by decide +kernel
theorem dX9_front_7 : decode cX9_front 7 = .ok (.ifCond .eq 13, 3) := by decide +kernel
theorem dX9_front_10 : decode cX9_front 10 = .ok (.iload_n 2, 1) := by decide +kernel
theorem dX9_front_11 : decode cX9_front 11 = .ok (.iconst 1, 1) := by decide +kernel
theorem dX9_front_12 : decode cX9_front 12 = .ok (.bipush 100, 2) := by decide +kernel
theorem dX9_front_14 : decode cX9_front 14 = .ok (.invokestatic 43, 3) := by decide +kernel
theorem dX9_front_17 : decode cX9_front 17 = .ok (.ifCond .ne 6, 3) := by decide +kernel
theorem dX9_front_20 : decode cX9_front 20 = .ok (.bipush (-2), 2) := by decide +kernel
theorem dX9_front_22 : decode cX9_front 22 = .ok (.ireturn, 1) := by decide +kernel
theorem dX9_front_23 : decode cX9_front 23 = .ok (.iload_n 1, 1) := by decide +kernel
theorem dX9_front_24 : decode cX9_front 24 = .ok (.aload_n 0, 1) := by decide +kernel
theorem dX9_front_25 : decode cX9_front 25 = .ok (.getfield 10, 3) := by decide +kernel
theorem dX9_front_28 : decode cX9_front 28 = .ok (.getfield 49, 3) := by decide +kernel
theorem dX9_front_31 : decode cX9_front 31 = .ok (.invokevirtual 165, 3) := by decide +kernel
theorem dX9_front_34 : decode cX9_front 34 = .ok (.if_icmp .le 6, 3) := by decide +kernel
theorem dX9_front_37 : decode cX9_front 37 = .ok (.bipush (-5), 2) := by decide +kernel
theorem dX9_front_39 : decode cX9_front 39 = .ok (.ireturn, 1) := by decide +kernel
theorem dX9_front_40 : decode cX9_front 40 = .ok (.iconst 0, 1) := by decide +kernel
theorem dX9_front_41 : decode cX9_front 41 = .ok (.istore_n 3, 1) := by decide +kernel
theorem dX9_front_42 : decode cX9_front 42 = .ok (.iconst (-1), 1) := by decide +kernel
theorem dX9_front_43 : decode cX9_front 43 = .ok (.istore 4, 2) := by decide +kernel
theorem dX9_front_45 : decode cX9_front 45 = .ok (.iconst 0, 1) := by decide +kernel
theorem dX9_front_46 : decode cX9_front 46 = .ok (.istore 5, 2) := by decide +kernel
theorem dX9_front_48 : decode cX9_front 48 = .ok (.iload 5, 2) := by decide +kernel
theorem dX9_front_50 : decode cX9_front 50 = .ok (.aload_n 0, 1) := by decide +kernel
theorem dX9_front_51 : decode cX9_front 51 = .ok (.getfield 10, 3) := by decide +kernel
theorem dX9_front_54 : decode cX9_front 54 = .ok (.getfield 49, 3) := by decide +kernel
theorem dX9_front_57 : decode cX9_front 57 = .ok (.getfield 53, 3) := by decide +kernel
theorem dX9_front_60 : decode cX9_front 60 = .ok (.if_icmp .ge 33, 3) := by decide +kernel
theorem dX9_front_63 : decode cX9_front 63 = .ok (.aload_n 0, 1) := by decide +kernel
theorem dX9_front_64 : decode cX9_front 64 = .ok (.iload 5, 2) := by decide +kernel
theorem dX9_front_66 : decode cX9_front 66 = .ok (.iload_n 1, 1) := by decide +kernel
theorem dX9_front_67 : decode cX9_front 67 = .ok (.iload_n 2, 1) := by decide +kernel
theorem dX9_front_68 : decode cX9_front 68 = .ok (.invokevirtual 248, 3) := by decide +kernel
theorem dX9_front_71 : decode cX9_front 71 = .ok (.istore 6, 2) := by decide +kernel
theorem dX9_front_73 : decode cX9_front 73 = .ok (.iload 6, 2) := by decide +kernel
theorem dX9_front_75 : decode cX9_front 75 = .ok (.iload 4, 2) := by decide +kernel
theorem dX9_front_77 : decode cX9_front 77 = .ok (.if_icmp .le 10, 3) := by decide +kernel
theorem dX9_front_80 : decode cX9_front 80 = .ok (.iload 5, 2) := by decide +kernel
theorem dX9_front_82 : decode cX9_front 82 = .ok (.istore_n 3, 1) := by decide +kernel
theorem dX9_front_83 : decode cX9_front 83 = .ok (.iload 6, 2) := by decide +kernel
theorem dX9_front_85 : decode cX9_front 85 = .ok (.istore 4, 2) := by decide +kernel
theorem dX9_front_87 : decode cX9_front 87 = .ok (.iinc 5 1, 3) := by decide +kernel
theorem dX9_front_90 : decode cX9_front 90 = .ok (.goto (-42), 3) := by decide +kernel
theorem dX9_front_93 : decode cX9_front 93 = .ok (.iload_n 3, 1) := by decide +kernel
theorem dX9_front_94 : decode cX9_front 94 = .ok (.ireturn, 1) := by decide +kernel
set_option maxRecDepth 20000 in
theorem ggX9_iceLeftWithFront_X8_becomeLike : GoodIn wsX9_iceLeftWithFront wsX8_becomeLike := goodIn_r _ [8, 9, 10, 11, 12, 13, 14, 15, 16, 17, 18, 19, 20, 21, 22, 23, 24, 25, 26, 27, 28, 29, 30, 31, 32, 33, 34, 35, 36, 37, 38, 39, 40, 41, 42, 43, 44, 45, 46, 47, 48, 49, 50, 51, 52, 53, 54, 55, 56, 57, 58, 59, 60, 61, 62, 63, 64, 65, 66, 67, 184, 185, 186, 187, 188, 189, 190, 191, 192, 193, 194, 195, 196, 197, 198, 199, 200, 201, 202, 203, 204, 205, 206, 207, 208, 209, 210, 211, 212] (by decide +kernel) (by decide +kernel)
set_option maxRecDepth 20000 in
theorem gX9_iceLeftWithFront_X8_becomeLike : GoodIn wsX9_iceLeftWithFront (wsV RX9 234 RX8 yX8_becomeLike wsX8_becomeLike) := goodIn_app (goodIn_of _ (by decide +kernel)) ggX9_iceLeftWithFront_X8_becomeLike
set_option maxRecDepth 20000 in
theorem ggX9_iceLeftWithFront_X2_move : GoodIn wsX9_iceLeftWithFront wsX2_move := goodIn_r _ [71, 34, 35, 72, 73, 74, 195, 196] (by decide +kernel) (by decide +kernel)
set_option maxRecDepth 20000 in
theorem gX9_iceLeftWithFront_X2_move : GoodIn wsX9_iceLeftWithFront (wsV RX9 93 RX2 yX2_move wsX2_move) := goodIn_app (goodIn_of _ (by decide +kernel)) ggX9_iceLeftWithFront_X2_move
set_option maxRecDepth 20000 in
theorem ggX9_iceLeftWithFront_X2_takeFromFront : GoodIn wsX9_iceLeftWithFront wsX2_takeFromFront := goodIn_r _ [78, 34, 35, 79, 80, 81, 82, 83, 84, 85, 86, 39, 87, 43, 44, 88, 89, 90, 195, 196, 197, 198, 199, 200] (by decide +kernel) (by decide +kernel)
set_option maxRecDepth 20000 in
theorem gX9_iceLeftWithFront_X2_takeFromFront : GoodIn wsX9_iceLeftWithFront (wsV RX9 172 RX2 yX2_takeFromFront wsX2_takeFromFront) := goodIn_app (goodIn_of _ (by decide +kernel)) ggX9_iceLeftWithFront_X2_takeFromFront
set_option maxRecDepth 20000 in
theorem ggX9_iceLeftWithFront_X8_letPass : GoodIn wsX9_iceLeftWithFront wsX8_letPass := goodIn_r _ [94, 95, 96, 97, 7, 98, 10, 11, 99, 9, 16, 12, 13, 100, 101, 102, 22, 103, 24, 72, 73, 74, 104, 105, 106, 32, 107, 34, 35, 108, 109, 110, 39, 111, 112, 41, 113, 114, 82, 115, 43, 116, 117, 118, 119, 120, 84, 85, 86, 87, 44, 88, 89, 90, 121, 122, 123, 60, 124, 66, 64, 125, 126, 127, 128, 65, 129, 130, 131, 48, 132, 51, 55, 56, 133, 134, 135, 136, 50, 53, 137, 81, 83, 138, 139, 140, 141, 142, 143, 144, 145, 146, 147, 148, 149, 150, 151, 152, 153, 52, 54, 154, 155, 156, 157, 158, 159, 160, 161, 162, 163, 164, 165, 166, 167, 168, 169, 67, 170, 171, 172, 173, 184, 185, 186, 187, 188, 189, 190, 191, 192, 193, 201, 202, 203, 204, 205, 206, 207, 194, 195, 196, 197, 198, 199, 200, 208, 209, 210, 211, 212] (by decide +kernel) (by decide +kernel)
set_option maxRecDepth 20000 in
theorem gX9_iceLeftWithFront_X8_letPass : GoodIn wsX9_iceLeftWithFront (wsV RX9 145 RX8 yX8_letPass wsX8_letPass) := goodIn_app (goodIn_of _ (by decide +kernel)) ggX9_iceLeftWithFront_X8_letPass
set_option maxRecDepth 20000 in
theorem ggX9_iceLeftWithFront_X2_iceOfAll : GoodIn wsX9_iceLeftWithFront wsX2_iceOfAll := goodIn_r _ [177, 34, 35, 79, 195, 196, 197, 198, 199, 200] (by decide +kernel) (by decide +kernel)
set_option maxRecDepth 20000 in
theorem gX9_iceLeftWithFront_X2_iceOfAll : GoodIn wsX9_iceLeftWithFront (wsV RX9 165 RX2 yX2_iceOfAll wsX2_iceOfAll) := goodIn_app (goodIn_of _ (by decide +kernel)) ggX9_iceLeftWithFront_X2_iceOfAll
theorem dX9_iceLeftWithFront_0 : decode cX9_iceLeftWithFront 0 = .ok (.aload_n 0, 1) := by decide +kernel
theorem dX9_iceLeftWithFront_1 : decode cX9_iceLeftWithFront 1 = .ok (.getfield 16, 3) := by decide +kernel
theorem dX9_iceLeftWithFront_4 : decode cX9_iceLeftWithFront 4 = .ok (.aload_n 0, 1) := by decide +kernel
theorem dX9_iceLeftWithFront_5 : decode cX9_iceLeftWithFront 5 = .ok (.getfield 10, 3) := by decide +kernel
theorem dX9_iceLeftWithFront_8 : decode cX9_iceLeftWithFront 8 = .ok (.invokevirtual 234, 3) := by decide +kernel
theorem dX9_iceLeftWithFront_11 : decode cX9_iceLeftWithFront 11 = .ok (.aload_n 0, 1) := by decide +kernel
theorem dX9_iceLeftWithFront_12 : decode cX9_iceLeftWithFront 12 = .ok (.getfield 16, 3) := by decide +kernel
theorem dX9_iceLeftWithFront_15 : decode cX9_iceLeftWithFront 15 = .ok (.getfield 49, 3) := by decide +kernel
theorem dX9_iceLeftWithFront_18 : decode cX9_iceLeftWithFront 18 = .ok (.iload_n 1, 1) := by decide +kernel
theorem dX9_iceLeftWithFront_19 : decode cX9_iceLeftWithFront 19 = .ok (.iconst 0, 1) := by decide +kernel
theorem dX9_iceLeftWithFront_20 : decode cX9_iceLeftWithFront 20 = .ok (.invokevirtual 93, 3) := by decide +kernel
theorem dX9_iceLeftWithFront_23 : decode cX9_iceLeftWithFront 23 = .ok (.aload_n 0, 1) := by decide +kernel
theorem dX9_iceLeftWithFront_24 : decode cX9_iceLeftWithFront 24 = .ok (.getfield 16, 3) := by decide +kernel
theorem dX9_iceLeftWithFront_27 : decode cX9_iceLeftWithFront 27 = .ok (.getfield 49, 3) := by decide +kernel
theorem dX9_iceLeftWithFront_30 : decode cX9_iceLeftWithFront 30 = .ok (.iload_n 2, 1) := by decide +kernel
theorem dX9_iceLeftWithFront_31 : decode cX9_iceLeftWithFront 31 = .ok (.invokevirtual 172, 3) := by decide +kernel
theorem dX9_iceLeftWithFront_34 : decode cX9_iceLeftWithFront 34 = .ok (.pop, 1) := by decide +kernel
theorem dX9_iceLeftWithFront_35 : decode cX9_iceLeftWithFront 35 = .ok (.aload_n 0, 1) := by decide +kernel
theorem dX9_iceLeftWithFront_36 : decode cX9_iceLeftWithFront 36 = .ok (.getfield 16, 3) := by decide +kernel
theorem dX9_iceLeftWithFront_39 : decode cX9_iceLeftWithFront 39 = .ok (.iload_n 3, 1) := by decide +kernel
theorem dX9_iceLeftWithFront_40 : decode cX9_iceLeftWithFront 40 = .ok (.invokevirtual 145, 3) := by decide +kernel
theorem dX9_iceLeftWithFront_43 : decode cX9_iceLeftWithFront 43 = .ok (.aload_n 0, 1) := by decide +kernel
theorem dX9_iceLeftWithFront_44 : decode cX9_iceLeftWithFront 44 = .ok (.getfield 16, 3) := by decide +kernel
theorem dX9_iceLeftWithFront_47 : decode cX9_iceLeftWithFront 47 = .ok (.getfield 49, 3) := by decide +kernel
theorem dX9_iceLeftWithFront_50 : decode cX9_iceLeftWithFront 50 = .ok (.invokevirtual 165, 3) := by decide +kernel
theorem dX9_iceLeftWithFront_53 : decode cX9_iceLeftWithFront 53 = .ok (.ireturn, 1) := by decide +kernel
set_option maxRecDepth 20000 in
theorem ggX9_say_X9_within : GoodIn wsX9_say wsX9_within := goodIn_r _ [6] (by decide +kernel) (by decide +kernel)
set_option maxRecDepth 20000 in
theorem gX9_say_X9_within : GoodIn wsX9_say (va_wsS RX9 43 yX9_within wsX9_within) := goodIn_app (goodIn_of _ (by decide +kernel)) ggX9_say_X9_within
set_option maxRecDepth 20000 in
theorem ggX9_say_X3_append : GoodIn wsX9_say wsX3_append := goodIn_r _ [11, 12, 13, 20, 21] (by decide +kernel) (by decide +kernel)
set_option maxRecDepth 20000 in
theorem gX9_say_X3_append : GoodIn wsX9_say (wsV RX9 252 RX3 yX3_append wsX3_append) := goodIn_app (goodIn_of _ (by decide +kernel)) ggX9_say_X3_append
theorem dX9_say_0 : decode cX9_say 0 = .ok (.iload_n 1, 1) := by decide +kernel
theorem dX9_say_1 : decode cX9_say 1 = .ok (.bipush 33, 2) := by decide +kernel
theorem dX9_say_3 : decode cX9_say 3 = .ok (.bipush 126, 2) := by decide +kernel
theorem dX9_say_5 : decode cX9_say 5 = .ok (.invokestatic 43, 3) := by decide +kernel
theorem dX9_say_8 : decode cX9_say 8 = .ok (.ifCond .ne 6, 3) := by decide +kernel
theorem dX9_say_11 : decode cX9_say 11 = .ok (.bipush (-2), 2) := by decide +kernel
theorem dX9_say_13 : decode cX9_say 13 = .ok (.ireturn, 1) := by decide +kernel
theorem dX9_say_14 : decode cX9_say 14 = .ok (.aload_n 0, 1) := by decide +kernel
theorem dX9_say_15 : decode cX9_say 15 = .ok (.getfield 32, 3) := by decide +kernel
theorem dX9_say_18 : decode cX9_say 18 = .ok (.getfield 216, 3) := by decide +kernel
theorem dX9_say_21 : decode cX9_say 21 = .ok (.bipush 80, 2) := by decide +kernel
theorem dX9_say_23 : decode cX9_say 23 = .ok (.if_icmp .lt 6, 3) := by decide +kernel
theorem dX9_say_26 : decode cX9_say 26 = .ok (.bipush (-4), 2) := by decide +kernel
theorem dX9_say_28 : decode cX9_say 28 = .ok (.ireturn, 1) := by decide +kernel
theorem dX9_say_29 : decode cX9_say 29 = .ok (.aload_n 0, 1) := by decide +kernel
theorem dX9_say_30 : decode cX9_say 30 = .ok (.getfield 32, 3) := by decide +kernel
theorem dX9_say_33 : decode cX9_say 33 = .ok (.iload_n 1, 1) := by decide +kernel
theorem dX9_say_34 : decode cX9_say 34 = .ok (.invokevirtual 252, 3) := by decide +kernel
theorem dX9_say_37 : decode cX9_say 37 = .ok (.aload_n 0, 1) := by decide +kernel
theorem dX9_say_38 : decode cX9_say 38 = .ok (.getfield 32, 3) := by decide +kernel
theorem dX9_say_41 : decode cX9_say 41 = .ok (.getfield 216, 3) := by decide +kernel
theorem dX9_say_44 : decode cX9_say 44 = .ok (.ireturn, 1) := by decide +kernel
theorem dX9_wipe_0 : decode cX9_wipe 0 = .ok (.aload_n 0, 1) := by decide +kernel
theorem dX9_wipe_1 : decode cX9_wipe 1 = .ok (.getfield 32, 3) := by decide +kernel
theorem dX9_wipe_4 : decode cX9_wipe 4 = .ok (.getfield 216, 3) := by decide +kernel
theorem dX9_wipe_7 : decode cX9_wipe 7 = .ok (.istore_n 1, 1) := by decide +kernel
theorem dX9_wipe_8 : decode cX9_wipe 8 = .ok (.aload_n 0, 1) := by decide +kernel
theorem dX9_wipe_9 : decode cX9_wipe 9 = .ok (.getfield 32, 3) := by decide +kernel
theorem dX9_wipe_12 : decode cX9_wipe 12 = .ok (.iconst 0, 1) := by decide +kernel
theorem dX9_wipe_13 : decode cX9_wipe 13 = .ok (.putfield 216, 3) := by decide +kernel
theorem dX9_wipe_16 : decode cX9_wipe 16 = .ok (.iload_n 1, 1) := by decide +kernel
theorem dX9_wipe_17 : decode cX9_wipe 17 = .ok (.ireturn, 1) := by decide +kernel
set_option maxRecDepth 20000 in
theorem ggX9_fault_X5_faultOf : GoodIn wsX9_fault wsX5_faultOf := goodIn_r _ [7, 8, 9, 10, 11, 12, 13, 14, 15, 16, 17, 18, 19, 20, 21, 22, 23, 6, 24, 25, 26, 27, 28, 29, 30, 31, 32, 33, 34, 35, 36, 37, 38, 39, 40, 41, 42, 43, 44, 45, 46, 47, 48, 49, 50, 51, 52, 53, 54, 55, 56, 63, 64, 65, 66, 67, 68, 69, 70, 71] (by decide +kernel) (by decide +kernel)
set_option maxRecDepth 20000 in
theorem gX9_fault_X5_faultOf : GoodIn wsX9_fault (wsV RX9 254 RX5 yX5_faultOf wsX5_faultOf) := goodIn_app (goodIn_of _ (by decide +kernel)) ggX9_fault_X5_faultOf
theorem dX9_fault_0 : decode cX9_fault 0 = .ok (.aload_n 0, 1) := by decide +kernel
theorem dX9_fault_1 : decode cX9_fault 1 = .ok (.getfield 39, 3) := by decide +kernel
theorem dX9_fault_4 : decode cX9_fault 4 = .ok (.aload_n 0, 1) := by decide +kernel
theorem dX9_fault_5 : decode cX9_fault 5 = .ok (.getfield 32, 3) := by decide +kernel
theorem dX9_fault_8 : decode cX9_fault 8 = .ok (.invokevirtual 254, 3) := by decide +kernel
theorem dX9_fault_11 : decode cX9_fault 11 = .ok (.ireturn, 1) := by decide +kernel
set_option maxRecDepth 20000 in
theorem ggX9_read_X5_faultOf : GoodIn wsX9_read wsX5_faultOf := goodIn_r _ [12, 13, 14, 15, 16, 17, 18, 19, 20, 21, 22, 23, 24, 25, 26, 27, 28, 11, 29, 30, 31, 32, 33, 34, 35, 36, 37, 38, 39, 40, 41, 42, 43, 44, 45, 46, 47, 48, 49, 50, 51, 52, 53, 54, 55, 56, 57, 58, 59, 60, 61, 99, 100, 101, 102, 103, 104, 105, 106, 107] (by decide +kernel) (by decide +kernel)
set_option maxRecDepth 20000 in
theorem gX9_read_X5_faultOf : GoodIn wsX9_read (wsV RX9 254 RX5 yX5_faultOf wsX5_faultOf) := goodIn_app (goodIn_of _ (by decide +kernel)) ggX9_read_X5_faultOf
set_option maxRecDepth 20000 in
theorem ggX9_read_X5_durationOf : GoodIn wsX9_read wsX5_durationOf := goodIn_r _ [65, 60, 23, 24, 25, 99, 100, 101, 102, 103, 104, 105] (by decide +kernel) (by decide +kernel)
set_option maxRecDepth 20000 in
theorem gX9_read_X5_durationOf : GoodIn wsX9_read (wsV RX9 261 RX5 yX5_durationOf wsX5_durationOf) := goodIn_app (goodIn_of _ (by decide +kernel)) ggX9_read_X5_durationOf
set_option maxRecDepth 20000 in
theorem ggX9_read_X5_outsideOf : GoodIn wsX9_read wsX5_outsideOf := goodIn_r _ [69, 61, 23, 24, 25, 99, 100, 101, 102, 103, 104, 105] (by decide +kernel) (by decide +kernel)
set_option maxRecDepth 20000 in
theorem gX9_read_X5_outsideOf : GoodIn wsX9_read (wsV RX9 262 RX5 yX5_outsideOf wsX5_outsideOf) := goodIn_app (goodIn_of _ (by decide +kernel)) ggX9_read_X5_outsideOf
set_option maxRecDepth 20000 in
theorem ggX9_read_X4_append : GoodIn wsX9_read wsX4_append := goodIn_r _ [74, 75, 76, 77, 94, 95, 96, 97, 98] (by decide +kernel) (by decide +kernel)
set_option maxRecDepth 20000 in
theorem gX9_read_X4_append : GoodIn wsX9_read (wsV RX9 118 RX4 yX4_append wsX4_append) := goodIn_app (goodIn_of _ (by decide +kernel)) ggX9_read_X4_append
theorem dX9_read_0 : decode cX9_read 0 = .ok (.aload_n 0, 1) := by decide +kernel
theorem dX9_read_1 : decode cX9_read 1 = .ok (.getfield 39, 3) := by decide +kernel
theorem dX9_read_4 : decode cX9_read 4 = .ok (.aload_n 0, 1) := by decide +kernel
theorem dX9_read_5 : decode cX9_read 5 = .ok (.getfield 32, 3) := by decide +kernel
theorem dX9_read_8 : decode cX9_read 8 = .ok (.invokevirtual 254, 3) := by decide +kernel
theorem dX9_read_11 : decode cX9_read 11 = .ok (.bipush (-6), 2) := by decide +kernel
theorem dX9_read_13 : decode cX9_read 13 = .ok (.if_icmp .eq 6, 3) := by decide +kernel
theorem dX9_read_16 : decode cX9_read 16 = .ok (.bipush (-3), 2) := by decide +kernel
theorem dX9_read_18 : decode cX9_read 18 = .ok (.ireturn, 1) := by decide +kernel
theorem dX9_read_19 : decode cX9_read 19 = .ok (.aload_n 0, 1) := by decide +kernel
theorem dX9_read_20 : decode cX9_read 20 = .ok (.getfield 10, 3) := by decide +kernel
theorem dX9_read_23 : decode cX9_read 23 = .ok (.getfield 111, 3) := by decide +kernel
theorem dX9_read_26 : decode cX9_read 26 = .ok (.getfield 115, 3) := by decide +kernel
theorem dX9_read_29 : decode cX9_read 29 = .ok (.aload_n 0, 1) := by decide +kernel
theorem dX9_read_30 : decode cX9_read 30 = .ok (.getfield 39, 3) := by decide +kernel
theorem dX9_read_33 : decode cX9_read 33 = .ok (.getfield 258, 3) := by decide +kernel
theorem dX9_read_36 : decode cX9_read 36 = .ok (.iadd, 1) := by decide +kernel
theorem dX9_read_37 : decode cX9_read 37 = .ok (.bipush 12, 2) := by decide +kernel
theorem dX9_read_39 : decode cX9_read 39 = .ok (.if_icmp .le 6, 3) := by decide +kernel
theorem dX9_read_42 : decode cX9_read 42 = .ok (.bipush (-4), 2) := by decide +kernel
theorem dX9_read_44 : decode cX9_read 44 = .ok (.ireturn, 1) := by decide +kernel
theorem dX9_read_45 : decode cX9_read 45 = .ok (.iconst 0, 1) := by decide +kernel
theorem dX9_read_46 : decode cX9_read 46 = .ok (.istore_n 1, 1) := by decide +kernel
theorem dX9_read_47 : decode cX9_read 47 = .ok (.iload_n 1, 1) := by decide +kernel
theorem dX9_read_48 : decode cX9_read 48 = .ok (.aload_n 0, 1) := by decide +kernel
theorem dX9_read_49 : decode cX9_read 49 = .ok (.getfield 39, 3) := by decide +kernel
theorem dX9_read_52 : decode cX9_read 52 = .ok (.getfield 258, 3) := by decide +kernel
theorem dX9_read_55 : decode cX9_read 55 = .ok (.if_icmp .ge 35, 3) := by decide +kernel
theorem dX9_read_58 : decode cX9_read 58 = .ok (.aload_n 0, 1) := by decide +kernel
theorem dX9_read_59 : decode cX9_read 59 = .ok (.getfield 10, 3) := by decide +kernel
theorem dX9_read_62 : decode cX9_read 62 = .ok (.getfield 111, 3) := by decide +kernel
theorem dX9_read_65 : decode cX9_read 65 = .ok (.aload_n 0, 1) := by decide +kernel
theorem dX9_read_66 : decode cX9_read 66 = .ok (.getfield 39, 3) := by decide +kernel
theorem dX9_read_69 : decode cX9_read 69 = .ok (.iload_n 1, 1) := by decide +kernel
theorem dX9_read_70 : decode cX9_read 70 = .ok (.invokevirtual 261, 3) := by decide +kernel
theorem dX9_read_73 : decode cX9_read 73 = .ok (.aload_n 0, 1) := by decide +kernel
theorem dX9_read_74 : decode cX9_read 74 = .ok (.getfield 39, 3) := by decide +kernel
theorem dX9_read_77 : decode cX9_read 77 = .ok (.iload_n 1, 1) := by decide +kernel
theorem dX9_read_78 : decode cX9_read 78 = .ok (.invokevirtual 262, 3) := by decide +kernel
theorem dX9_read_81 : decode cX9_read 81 = .ok (.invokevirtual 118, 3) := by decide +kernel
theorem dX9_read_84 : decode cX9_read 84 = .ok (.iinc 1 1, 3) := by decide +kernel
theorem dX9_read_87 : decode cX9_read 87 = .ok (.goto (-40), 3) := by decide +kernel
theorem dX9_read_90 : decode cX9_read 90 = .ok (.aload_n 0, 1) := by decide +kernel
theorem dX9_read_91 : decode cX9_read 91 = .ok (.getfield 32, 3) := by decide +kernel
theorem dX9_read_94 : decode cX9_read 94 = .ok (.iconst 0, 1) := by decide +kernel
theorem dX9_read_95 : decode cX9_read 95 = .ok (.putfield 216, 3) := by decide +kernel
theorem dX9_read_98 : decode cX9_read 98 = .ok (.aload_n 0, 1) := by decide +kernel
theorem dX9_read_99 : decode cX9_read 99 = .ok (.getfield 10, 3) := by decide +kernel
theorem dX9_read_102 : decode cX9_read 102 = .ok (.getfield 111, 3) := by decide +kernel
theorem dX9_read_105 : decode cX9_read 105 = .ok (.getfield 115, 3) := by decide +kernel
theorem dX9_read_108 : decode cX9_read 108 = .ok (.ireturn, 1) := by decide +kernel
set_option maxRecDepth 20000 in
theorem ggX9_save_X9_within : GoodIn wsX9_save wsX9_within := goodIn_r _ [8] (by decide +kernel) (by decide +kernel)
set_option maxRecDepth 20000 in
theorem gX9_save_X9_within : GoodIn wsX9_save (va_wsS RX9 43 yX9_within wsX9_within) := goodIn_app (goodIn_of _ (by decide +kernel)) ggX9_save_X9_within
set_option maxRecDepth 20000 in
theorem ggX9_save_X9_slotAt : GoodIn wsX9_save wsX9_slotAt := goodIn_r _ [12, 13, 14, 81, 82, 83, 84, 85, 86] (by decide +kernel) (by decide +kernel)
set_option maxRecDepth 20000 in
theorem gX9_save_X9_slotAt : GoodIn wsX9_save (wsV RX9 263 RX9 yX9_slotAt wsX9_slotAt) := goodIn_app (goodIn_of _ (by decide +kernel)) ggX9_save_X9_slotAt
set_option maxRecDepth 20000 in
theorem ggX9_save_X8_becomeLike : GoodIn wsX9_save wsX8_becomeLike := goodIn_r _ [19, 20, 21, 22, 23, 24, 25, 26, 27, 28, 29, 30, 31, 32, 33, 34, 35, 36, 37, 38, 39, 40, 41, 42, 43, 44, 45, 46, 47, 48, 49, 50, 51, 52, 53, 54, 55, 56, 57, 58, 59, 60, 61, 62, 63, 64, 65, 66, 67, 68, 69, 70, 71, 72, 73, 74, 75, 76, 77, 78, 87, 88, 89, 90, 91, 92, 93, 94, 95, 96, 97, 98, 99, 100, 101, 102, 103, 104, 105, 106, 107, 108, 109, 110, 111, 112, 113, 114, 115] (by decide +kernel) (by decide +kernel)
set_option maxRecDepth 20000 in
theorem gX9_save_X8_becomeLike : GoodIn wsX9_save (wsV RX9 234 RX8 yX8_becomeLike wsX8_becomeLike) := goodIn_app (goodIn_of _ (by decide +kernel)) ggX9_save_X8_becomeLike
theorem dX9_save_0 : decode cX9_save 0 = .ok (.iload_n 1, 1) := by decide +kernel
theorem dX9_save_1 : decode cX9_save 1 = .ok (.iconst 0, 1) := by decide +kernel
theorem dX9_save_2 : decode cX9_save 2 = .ok (.iconst 1, 1) := by decide +kernel
theorem dX9_save_3 : decode cX9_save 3 = .ok (.invokestatic 43, 3) := by decide +kernel
theorem dX9_save_6 : decode cX9_save 6 = .ok (.ifCond .ne 6, 3) := by decide +kernel
theorem dX9_save_9 : decode cX9_save 9 = .ok (.bipush (-2), 2) := by decide +kernel
theorem dX9_save_11 : decode cX9_save 11 = .ok (.ireturn, 1) := by decide +kernel
theorem dX9_save_12 : decode cX9_save 12 = .ok (.aload_n 0, 1) := by decide +kernel
theorem dX9_save_13 : decode cX9_save 13 = .ok (.iload_n 1, 1) := by decide +kernel
theorem dX9_save_14 : decode cX9_save 14 = .ok (.invokevirtual 263, 3) := by decide +kernel
theorem dX9_save_17 : decode cX9_save 17 = .ok (.astore_n 2, 1) := by decide +kernel
theorem dX9_save_18 : decode cX9_save 18 = .ok (.aload_n 2, 1) := by decide +kernel
theorem dX9_save_19 : decode cX9_save 19 = .ok (.getfield 267, 3) := by decide +kernel
theorem dX9_save_22 : decode cX9_save 22 = .ok (.aload_n 0, 1) := by decide +kernel
theorem dX9_save_23 : decode cX9_save 23 = .ok (.getfield 10, 3) := by decide +kernel
theorem dX9_save_26 : decode cX9_save 26 = .ok (.invokevirtual 234, 3) := by decide +kernel
theorem dX9_save_29 : decode cX9_save 29 = .ok (.aload_n 2, 1) := by decide +kernel
theorem dX9_save_30 : decode cX9_save 30 = .ok (.iconst 1, 1) := by decide +kernel
theorem dX9_save_31 : decode cX9_save 31 = .ok (.putfield 270, 3) := by decide +kernel
theorem dX9_save_34 : decode cX9_save 34 = .ok (.aload_n 0, 1) := by decide +kernel
theorem dX9_save_35 : decode cX9_save 35 = .ok (.getfield 10, 3) := by decide +kernel
theorem dX9_save_38 : decode cX9_save 38 = .ok (.getfield 133, 3) := by decide +kernel
theorem dX9_save_41 : decode cX9_save 41 = .ok (.ireturn, 1) := by decide +kernel
set_option maxRecDepth 20000 in
theorem ggX9_restore_X9_within : GoodIn wsX9_restore wsX9_within := goodIn_r _ [8] (by decide +kernel) (by decide +kernel)
set_option maxRecDepth 20000 in
theorem gX9_restore_X9_within : GoodIn wsX9_restore (va_wsS RX9 43 yX9_within wsX9_within) := goodIn_app (goodIn_of _ (by decide +kernel)) ggX9_restore_X9_within
set_option maxRecDepth 20000 in
theorem ggX9_restore_X9_slotAt : GoodIn wsX9_restore wsX9_slotAt := goodIn_r _ [12, 13, 14, 81, 82, 83, 84, 85, 86] (by decide +kernel) (by decide +kernel)
set_option maxRecDepth 20000 in
theorem gX9_restore_X9_slotAt : GoodIn wsX9_restore (wsV RX9 263 RX9 yX9_slotAt wsX9_slotAt) := goodIn_app (goodIn_of _ (by decide +kernel)) ggX9_restore_X9_slotAt
set_option maxRecDepth 20000 in
theorem ggX9_restore_X8_becomeLike : GoodIn wsX9_restore wsX8_becomeLike := goodIn_r _ [19, 20, 21, 22, 23, 24, 25, 26, 27, 28, 29, 30, 31, 32, 33, 34, 35, 36, 37, 38, 39, 40, 41, 42, 43, 44, 45, 46, 47, 48, 49, 50, 51, 52, 53, 54, 55, 56, 57, 58, 59, 60, 61, 62, 63, 64, 65, 66, 67, 68, 69, 70, 71, 72, 73, 74, 75, 76, 77, 78, 87, 88, 89, 90, 91, 92, 93, 94, 95, 96, 97, 98, 99, 100, 101, 102, 103, 104, 105, 106, 107, 108, 109, 110, 111, 112, 113, 114, 115] (by decide +kernel) (by decide +kernel)
set_option maxRecDepth 20000 in
theorem gX9_restore_X8_becomeLike : GoodIn wsX9_restore (wsV RX9 234 RX8 yX8_becomeLike wsX8_becomeLike) := goodIn_app (goodIn_of _ (by decide +kernel)) ggX9_restore_X8_becomeLike
theorem dX9_restore_0 : decode cX9_restore 0 = .ok (.iload_n 1, 1) := by decide +kernel
theorem dX9_restore_1 : decode cX9_restore 1 = .ok (.iconst 0, 1) := by decide +kernel
theorem dX9_restore_2 : decode cX9_restore 2 = .ok (.iconst 1, 1) := by decide +kernel
theorem dX9_restore_3 : decode cX9_restore 3 = .ok (.invokestatic 43, 3) := by decide +kernel
theorem dX9_restore_6 : decode cX9_restore 6 = .ok (.ifCond .ne 6, 3) := by decide +kernel
theorem dX9_restore_9 : decode cX9_restore 9 = .ok (.bipush (-2), 2) := by decide +kernel
theorem dX9_restore_11 : decode cX9_restore 11 = .ok (.ireturn, 1) := by decide +kernel
theorem dX9_restore_12 : decode cX9_restore 12 = .ok (.aload_n 0, 1) := by decide +kernel
theorem dX9_restore_13 : decode cX9_restore 13 = .ok (.iload_n 1, 1) := by decide +kernel
theorem dX9_restore_14 : decode cX9_restore 14 = .ok (.invokevirtual 263, 3) := by decide +kernel
theorem dX9_restore_17 : decode cX9_restore 17 = .ok (.astore_n 2, 1) := by decide +kernel
theorem dX9_restore_18 : decode cX9_restore 18 = .ok (.aload_n 2, 1) := by decide +kernel
theorem dX9_restore_19 : decode cX9_restore 19 = .ok (.getfield 270, 3) := by decide +kernel
theorem dX9_restore_22 : decode cX9_restore 22 = .ok (.ifCond .ne 6, 3) := by decide +kernel
theorem dX9_restore_25 : decode cX9_restore 25 = .ok (.bipush (-5), 2) := by decide +kernel
theorem dX9_restore_27 : decode cX9_restore 27 = .ok (.ireturn, 1) := by decide +kernel
theorem dX9_restore_28 : decode cX9_restore 28 = .ok (.aload_n 0, 1) := by decide +kernel
theorem dX9_restore_29 : decode cX9_restore 29 = .ok (.getfield 10, 3) := by decide +kernel
theorem dX9_restore_32 : decode cX9_restore 32 = .ok (.aload_n 2, 1) := by decide +kernel
theorem dX9_restore_33 : decode cX9_restore 33 = .ok (.getfield 267, 3) := by decide +kernel
theorem dX9_restore_36 : decode cX9_restore 36 = .ok (.invokevirtual 234, 3) := by decide +kernel
theorem dX9_restore_39 : decode cX9_restore 39 = .ok (.aload_n 0, 1) := by decide +kernel
theorem dX9_restore_40 : decode cX9_restore 40 = .ok (.getfield 10, 3) := by decide +kernel
theorem dX9_restore_43 : decode cX9_restore 43 = .ok (.getfield 133, 3) := by decide +kernel
theorem dX9_restore_46 : decode cX9_restore 46 = .ok (.ireturn, 1) := by decide +kernel
theorem dX9_slotAt_0 : decode cX9_slotAt 0 = .ok (.iload_n 1, 1) := by decide +kernel
theorem dX9_slotAt_1 : decode cX9_slotAt 1 = .ok (.ifCond .ne 10, 3) := by decide +kernel
theorem dX9_slotAt_4 : decode cX9_slotAt 4 = .ok (.aload_n 0, 1) := by decide +kernel
theorem dX9_slotAt_5 : decode cX9_slotAt 5 = .ok (.getfield 22, 3) := by decide +kernel
theorem dX9_slotAt_8 : decode cX9_slotAt 8 = .ok (.goto 7, 3) := by decide +kernel
theorem dX9_slotAt_11 : decode cX9_slotAt 11 = .ok (.aload_n 0, 1) := by decide +kernel
theorem dX9_slotAt_12 : decode cX9_slotAt 12 = .ok (.getfield 26, 3) := by decide +kernel
theorem dX9_slotAt_15 : decode cX9_slotAt 15 = .ok (.areturn, 1) := by decide +kernel
theorem dX9_within_0 : decode cX9_within 0 = .ok (.iload_n 0, 1) := by decide +kernel
theorem dX9_within_1 : decode cX9_within 1 = .ok (.iload_n 1, 1) := by decide +kernel
theorem dX9_within_2 : decode cX9_within 2 = .ok (.if_icmp .lt 12, 3) := by decide +kernel
theorem dX9_within_5 : decode cX9_within 5 = .ok (.iload_n 0, 1) := by decide +kernel
theorem dX9_within_6 : decode cX9_within 6 = .ok (.iload_n 2, 1) := by decide +kernel
theorem dX9_within_7 : decode cX9_within 7 = .ok (.if_icmp .gt 7, 3) := by decide +kernel
theorem dX9_within_10 : decode cX9_within 10 = .ok (.iconst 1, 1) := by decide +kernel
theorem dX9_within_11 : decode cX9_within 11 = .ok (.goto 4, 3) := by decide +kernel
theorem dX9_within_14 : decode cX9_within 14 = .ok (.iconst 0, 1) := by decide +kernel
theorem dX9_within_15 : decode cX9_within 15 = .ok (.ireturn, 1) := by decide +kernel
theorem dX9_quotient_0 : decode cX9_quotient 0 = .ok (.lload_n 2, 1) := by decide +kernel
theorem dX9_quotient_1 : decode cX9_quotient 1 = .ok (.lconst 1, 1) := by decide +kernel
theorem dX9_quotient_2 : decode cX9_quotient 2 = .ok (.lcmp, 1) := by decide +kernel
theorem dX9_quotient_3 : decode cX9_quotient 3 = .ok (.ifCond .ge 7, 3) := by decide +kernel
theorem dX9_quotient_6 : decode cX9_quotient 6 = .ok (.lconst 0, 1) := by decide +kernel
theorem dX9_quotient_7 : decode cX9_quotient 7 = .ok (.goto 6, 3) := by decide +kernel
theorem dX9_quotient_10 : decode cX9_quotient 10 = .ok (.lload_n 0, 1) := by decide +kernel
theorem dX9_quotient_11 : decode cX9_quotient 11 = .ok (.lload_n 2, 1) := by decide +kernel
theorem dX9_quotient_12 : decode cX9_quotient 12 = .ok (.ldiv, 1) := by decide +kernel
theorem dX9_quotient_13 : decode cX9_quotient 13 = .ok (.lreturn, 1) := by decide +kernel
end
section
theorem dX10_init_0 : decode cX10_init 0 = .ok (.aload_n 0, 1) := by decide +kernel
theorem dX10_init_1 : decode cX10_init 1 = .ok (.invokespecial 1, 3) := by decide +kernel
theorem dX10_init_4 : decode cX10_init 4 = .ok (.aload_n 0, 1) := by decide +kernel
theorem dX10_init_5 : decode cX10_init 5 = .ok (.bipush 93, 2) := by decide +kernel
theorem dX10_init_7 : decode cX10_init 7 = .ok (.newarray .long, 2) := by decide +kernel
theorem dX10_init_9 : decode cX10_init 9 = .ok (.putfield 7, 3) := by decide +kernel
theorem dX10_init_12 : decode cX10_init 12 = .ok (.aload_n 0, 1) := by decide +kernel
theorem dX10_init_13 : decode cX10_init 13 = .ok (.bipush 93, 2) := by decide +kernel
theorem dX10_init_15 : decode cX10_init 15 = .ok (.newarray .long, 2) := by decide +kernel
theorem dX10_init_17 : decode cX10_init 17 = .ok (.putfield 13, 3) := by decide +kernel
theorem dX10_init_20 : decode cX10_init 20 = .ok (.aload_n 0, 1) := by decide +kernel
theorem dX10_init_21 : decode cX10_init 21 = .ok (.sipush 186, 3) := by decide +kernel
theorem dX10_init_24 : decode cX10_init 24 = .ok (.newarray .long, 2) := by decide +kernel
theorem dX10_init_26 : decode cX10_init 26 = .ok (.putfield 16, 3) := by decide +kernel
theorem dX10_init_29 : decode cX10_init 29 = .ok (.aload_n 0, 1) := by decide +kernel
theorem dX10_init_30 : decode cX10_init 30 = .ok (.iconst 2, 1) := by decide +kernel
theorem dX10_init_31 : decode cX10_init 31 = .ok (.newarray .boolean, 2) := by decide +kernel
theorem dX10_init_33 : decode cX10_init 33 = .ok (.putfield 19, 3) := by decide +kernel
theorem dX10_init_36 : decode cX10_init 36 = .ok (.aload_n 0, 1) := by decide +kernel
theorem dX10_init_37 : decode cX10_init 37 = .ok (.bipush 80, 2) := by decide +kernel
theorem dX10_init_39 : decode cX10_init 39 = .ok (.newarray .int, 2) := by decide +kernel
theorem dX10_init_41 : decode cX10_init 41 = .ok (.putfield 23, 3) := by decide +kernel
theorem dX10_init_44 : decode cX10_init 44 = .ok (.aload_n 0, 1) := by decide +kernel
theorem dX10_init_45 : decode cX10_init 45 = .ok (.bipush 60, 2) := by decide +kernel
theorem dX10_init_47 : decode cX10_init 47 = .ok (.newarray .int, 2) := by decide +kernel
theorem dX10_init_49 : decode cX10_init 49 = .ok (.putfield 27, 3) := by decide +kernel
theorem dX10_init_52 : decode cX10_init 52 = .ok (.aload_n 0, 1) := by decide +kernel
theorem dX10_init_53 : decode cX10_init 53 = .ok (.getfield 7, 3) := by decide +kernel
theorem dX10_init_56 : decode cX10_init 56 = .ok (.bipush 78, 2) := by decide +kernel
theorem dX10_init_58 : decode cX10_init 58 = .ok (.ldc2_w 30, 3) := by decide +kernel
theorem dX10_init_61 : decode cX10_init 61 = .ok (.lastore, 1) := by decide +kernel
theorem dX10_init_62 : decode cX10_init 62 = .ok (.aload_n 0, 1) := by decide +kernel
theorem dX10_init_63 : decode cX10_init 63 = .ok (.getfield 7, 3) := by decide +kernel
theorem dX10_init_66 : decode cX10_init 66 = .ok (.bipush 84, 2) := by decide +kernel
theorem dX10_init_68 : decode cX10_init 68 = .ok (.ldc2_w 32, 3) := by decide +kernel
theorem dX10_init_71 : decode cX10_init 71 = .ok (.lastore, 1) := by decide +kernel
theorem dX10_init_72 : decode cX10_init 72 = .ok (.aload_n 0, 1) := by decide +kernel
theorem dX10_init_73 : decode cX10_init 73 = .ok (.getfield 7, 3) := by decide +kernel
theorem dX10_init_76 : decode cX10_init 76 = .ok (.bipush 64, 2) := by decide +kernel
theorem dX10_init_78 : decode cX10_init 78 = .ok (.ldc2_w 34, 3) := by decide +kernel
theorem dX10_init_81 : decode cX10_init 81 = .ok (.lastore, 1) := by decide +kernel
theorem dX10_init_82 : decode cX10_init 82 = .ok (.aload_n 0, 1) := by decide +kernel
theorem dX10_init_83 : decode cX10_init 83 = .ok (.getfield 7, 3) := by decide +kernel
theorem dX10_init_86 : decode cX10_init 86 = .ok (.bipush 65, 2) := by decide +kernel
theorem dX10_init_88 : decode cX10_init 88 = .ok (.ldc2_w 36, 3) := by decide +kernel
theorem dX10_init_91 : decode cX10_init 91 = .ok (.lastore, 1) := by decide +kernel
theorem dX10_init_92 : decode cX10_init 92 = .ok (.aload_n 0, 1) := by decide +kernel
theorem dX10_init_93 : decode cX10_init 93 = .ok (.getfield 7, 3) := by decide +kernel
theorem dX10_init_96 : decode cX10_init 96 = .ok (.bipush 66, 2) := by decide +kernel
theorem dX10_init_98 : decode cX10_init 98 = .ok (.ldc2_w 34, 3) := by decide +kernel
theorem dX10_init_101 : decode cX10_init 101 = .ok (.lastore, 1) := by decide +kernel
theorem dX10_init_102 : decode cX10_init 102 = .ok (.aload_n 0, 1) := by decide +kernel
theorem dX10_init_103 : decode cX10_init 103 = .ok (.getfield 7, 3) := by decide +kernel
theorem dX10_init_106 : decode cX10_init 106 = .ok (.bipush 67, 2) := by decide +kernel
theorem dX10_init_108 : decode cX10_init 108 = .ok (.ldc2_w 38, 3) := by decide +kernel
theorem dX10_init_111 : decode cX10_init 111 = .ok (.lastore, 1) := by decide +kernel
theorem dX10_init_112 : decode cX10_init 112 = .ok (.aload_n 0, 1) := by decide +kernel
theorem dX10_init_113 : decode cX10_init 113 = .ok (.getfield 7, 3) := by decide +kernel
theorem dX10_init_116 : decode cX10_init 116 = .ok (.bipush 68, 2) := by decide +kernel
theorem dX10_init_118 : decode cX10_init 118 = .ok (.ldc2_w 40, 3) := by decide +kernel
theorem dX10_init_121 : decode cX10_init 121 = .ok (.lastore, 1) := by decide +kernel
theorem dX10_init_122 : decode cX10_init 122 = .ok (.aload_n 0, 1) := by decide +kernel
theorem dX10_init_123 : decode cX10_init 123 = .ok (.getfield 7, 3) := by decide +kernel
theorem dX10_init_126 : decode cX10_init 126 = .ok (.bipush 69, 2) := by decide +kernel
theorem dX10_init_128 : decode cX10_init 128 = .ok (.ldc2_w 42, 3) := by decide +kernel
theorem dX10_init_131 : decode cX10_init 131 = .ok (.lastore, 1) := by decide +kernel
theorem dX10_init_132 : decode cX10_init 132 = .ok (.aload_n 0, 1) := by decide +kernel
theorem dX10_init_133 : decode cX10_init 133 = .ok (.getfield 7, 3) := by decide +kernel
theorem dX10_init_136 : decode cX10_init 136 = .ok (.bipush 70, 2) := by decide +kernel
theorem dX10_init_138 : decode cX10_init 138 = .ok (.ldc2_w 44, 3) := by decide +kernel
theorem dX10_init_141 : decode cX10_init 141 = .ok (.lastore, 1) := by decide +kernel
theorem dX10_init_142 : decode cX10_init 142 = .ok (.aload_n 0, 1) := by decide +kernel
theorem dX10_init_143 : decode cX10_init 143 = .ok (.getfield 7, 3) := by decide +kernel
theorem dX10_init_146 : decode cX10_init 146 = .ok (.bipush 71, 2) := by decide +kernel
theorem dX10_init_148 : decode cX10_init 148 = .ok (.ldc2_w 38, 3) := by decide +kernel
theorem dX10_init_151 : decode cX10_init 151 = .ok (.lastore, 1) := by decide +kernel
theorem dX10_init_152 : decode cX10_init 152 = .ok (.aload_n 0, 1) := by decide +kernel
theorem dX10_init_153 : decode cX10_init 153 = .ok (.getfield 7, 3) := by decide +kernel
theorem dX10_init_156 : decode cX10_init 156 = .ok (.bipush 72, 2) := by decide +kernel
theorem dX10_init_158 : decode cX10_init 158 = .ok (.ldc2_w 42, 3) := by decide +kernel
theorem dX10_init_161 : decode cX10_init 161 = .ok (.lastore, 1) := by decide +kernel
theorem dX10_init_162 : decode cX10_init 162 = .ok (.aload_n 0, 1) := by decide +kernel
theorem dX10_init_163 : decode cX10_init 163 = .ok (.getfield 7, 3) := by decide +kernel
theorem dX10_init_166 : decode cX10_init 166 = .ok (.bipush 73, 2) := by decide +kernel
theorem dX10_init_168 : decode cX10_init 168 = .ok (.ldc2_w 46, 3) := by decide +kernel
theorem dX10_init_171 : decode cX10_init 171 = .ok (.lastore, 1) := by decide +kernel
theorem dX10_init_172 : decode cX10_init 172 = .ok (.aload_n 0, 1) := by decide +kernel
theorem dX10_init_173 : decode cX10_init 173 = .ok (.getfield 7, 3) := by decide +kernel
theorem dX10_init_176 : decode cX10_init 176 = .ok (.bipush 74, 2) := by decide +kernel
theorem dX10_init_178 : decode cX10_init 178 = .ok (.ldc2_w 42, 3) := by decide +kernel
theorem dX10_init_181 : decode cX10_init 181 = .ok (.lastore, 1) := by decide +kernel
theorem dX10_init_182 : decode cX10_init 182 = .ok (.return_, 1) := by decide +kernel
theorem dX10_in_0 : decode cX10_in 0 = .ok (.lload_n 0, 1) := by decide +kernel
theorem dX10_in_1 : decode cX10_in 1 = .ok (.lload_n 2, 1) := by decide +kernel
theorem dX10_in_2 : decode cX10_in 2 = .ok (.lcmp, 1) := by decide +kernel
theorem dX10_in_3 : decode cX10_in 3 = .ok (.ifCond .lt 14, 3) := by decide +kernel
theorem dX10_in_6 : decode cX10_in 6 = .ok (.lload_n 0, 1) := by decide +kernel
theorem dX10_in_7 : decode cX10_in 7 = .ok (.lload 4, 2) := by decide +kernel
theorem dX10_in_9 : decode cX10_in 9 = .ok (.lcmp, 1) := by decide +kernel
theorem dX10_in_10 : decode cX10_in 10 = .ok (.ifCond .gt 7, 3) := by decide +kernel
theorem dX10_in_13 : decode cX10_in 13 = .ok (.iconst 1, 1) := by decide +kernel
theorem dX10_in_14 : decode cX10_in 14 = .ok (.goto 4, 3) := by decide +kernel
theorem dX10_in_17 : decode cX10_in 17 = .ok (.iconst 0, 1) := by decide +kernel
theorem dX10_in_18 : decode cX10_in 18 = .ok (.ireturn, 1) := by decide +kernel
theorem dX10_of_0 : decode cX10_of 0 = .ok (.aload_n 0, 1) := by decide +kernel
theorem dX10_of_1 : decode cX10_of 1 = .ok (.getfield 7, 3) := by decide +kernel
theorem dX10_of_4 : decode cX10_of 4 = .ok (.iconst 0, 1) := by decide +kernel
theorem dX10_of_5 : decode cX10_of 5 = .ok (.iconst 4, 1) := by decide +kernel
theorem dX10_of_6 : decode cX10_of 6 = .ok (.iload_n 1, 1) := by decide +kernel
theorem dX10_of_7 : decode cX10_of 7 = .ok (.imul, 1) := by decide +kernel
theorem dX10_of_8 : decode cX10_of 8 = .ok (.iadd, 1) := by decide +kernel
theorem dX10_of_9 : decode cX10_of 9 = .ok (.iload_n 2, 1) := by decide +kernel
theorem dX10_of_10 : decode cX10_of 10 = .ok (.iadd, 1) := by decide +kernel
theorem dX10_of_11 : decode cX10_of 11 = .ok (.laload, 1) := by decide +kernel
theorem dX10_of_12 : decode cX10_of 12 = .ok (.lreturn, 1) := by decide +kernel
theorem dX10_lay_0 : decode cX10_lay 0 = .ok (.aload_n 0, 1) := by decide +kernel
theorem dX10_lay_1 : decode cX10_lay 1 = .ok (.getfield 7, 3) := by decide +kernel
theorem dX10_lay_4 : decode cX10_lay 4 = .ok (.iconst 0, 1) := by decide +kernel
theorem dX10_lay_5 : decode cX10_lay 5 = .ok (.iconst 4, 1) := by decide +kernel
theorem dX10_lay_6 : decode cX10_lay 6 = .ok (.iload_n 1, 1) := by decide +kernel
theorem dX10_lay_7 : decode cX10_lay 7 = .ok (.imul, 1) := by decide +kernel
theorem dX10_lay_8 : decode cX10_lay 8 = .ok (.iadd, 1) := by decide +kernel
theorem dX10_lay_9 : decode cX10_lay 9 = .ok (.iload_n 2, 1) := by decide +kernel
theorem dX10_lay_10 : decode cX10_lay 10 = .ok (.iadd, 1) := by decide +kernel
theorem dX10_lay_11 : decode cX10_lay 11 = .ok (.lload_n 3, 1) := by decide +kernel
theorem dX10_lay_12 : decode cX10_lay 12 = .ok (.lastore, 1) := by decide +kernel
theorem dX10_lay_13 : decode cX10_lay 13 = .ok (.return_, 1) := by decide +kernel
theorem dX10_boxes_0 : decode cX10_boxes 0 = .ok (.aload_n 0, 1) := by decide +kernel
theorem dX10_boxes_1 : decode cX10_boxes 1 = .ok (.getfield 7, 3) := by decide +kernel
theorem dX10_boxes_4 : decode cX10_boxes 4 = .ok (.bipush 75, 2) := by decide +kernel
theorem dX10_boxes_6 : decode cX10_boxes 6 = .ok (.laload, 1) := by decide +kernel
theorem dX10_boxes_7 : decode cX10_boxes 7 = .ok (.l2i, 1) := by decide +kernel
theorem dX10_boxes_8 : decode cX10_boxes 8 = .ok (.ireturn, 1) := by decide +kernel
theorem dX10_legs_0 : decode cX10_legs 0 = .ok (.aload_n 0, 1) := by decide +kernel
theorem dX10_legs_1 : decode cX10_legs 1 = .ok (.getfield 7, 3) := by decide +kernel
theorem dX10_legs_4 : decode cX10_legs 4 = .ok (.bipush 76, 2) := by decide +kernel
theorem dX10_legs_6 : decode cX10_legs 6 = .ok (.laload, 1) := by decide +kernel
theorem dX10_legs_7 : decode cX10_legs 7 = .ok (.l2i, 1) := by decide +kernel
theorem dX10_legs_8 : decode cX10_legs 8 = .ok (.ireturn, 1) := by decide +kernel
set_option maxRecDepth 20000 in
theorem ggX10_isBox_X10_boxes : GoodIn wsX10_isBox wsX10_boxes := goodIn_r _ [5, 6, 10, 11, 12, 13, 14, 15, 16, 17, 18, 19] (by decide +kernel) (by decide +kernel)
set_option maxRecDepth 20000 in
theorem gX10_isBox_X10_boxes : GoodIn wsX10_isBox (wsV RX10 48 RX10 yX10_boxes wsX10_boxes) := goodIn_app (goodIn_of _ (by decide +kernel)) ggX10_isBox_X10_boxes
set_option maxRecDepth 20000 in
theorem ggX10_isBox_X10_in : GoodIn wsX10_isBox wsX10_in := goodIn_r _ [9] (by decide +kernel) (by decide +kernel)
set_option maxRecDepth 20000 in
theorem gX10_isBox_X10_in : GoodIn wsX10_isBox (va_wsS RX10 52 yX10_in wsX10_in) := goodIn_app (goodIn_of _ (by decide +kernel)) ggX10_isBox_X10_in
theorem dX10_isBox_0 : decode cX10_isBox 0 = .ok (.iload_n 1, 1) := by decide +kernel
theorem dX10_isBox_1 : decode cX10_isBox 1 = .ok (.i2l, 1) := by decide +kernel
theorem dX10_isBox_2 : decode cX10_isBox 2 = .ok (.lconst 0, 1) := by decide +kernel
theorem dX10_isBox_3 : decode cX10_isBox 3 = .ok (.aload_n 0, 1) := by decide +kernel
theorem dX10_isBox_4 : decode cX10_isBox 4 = .ok (.invokevirtual 48, 3) := by decide +kernel
theorem dX10_isBox_7 : decode cX10_isBox 7 = .ok (.iconst 1, 1) := by decide +kernel
theorem dX10_isBox_8 : decode cX10_isBox 8 = .ok (.isub, 1) := by decide +kernel
theorem dX10_isBox_9 : decode cX10_isBox 9 = .ok (.i2l, 1) := by decide +kernel
theorem dX10_isBox_10 : decode cX10_isBox 10 = .ok (.invokestatic 52, 3) := by decide +kernel
theorem dX10_isBox_13 : decode cX10_isBox 13 = .ok (.ireturn, 1) := by decide +kernel
theorem dX10_isDoorOpen_0 : decode cX10_isDoorOpen 0 = .ok (.aload_n 0, 1) := by decide +kernel
theorem dX10_isDoorOpen_1 : decode cX10_isDoorOpen 1 = .ok (.getfield 7, 3) := by decide +kernel
theorem dX10_isDoorOpen_4 : decode cX10_isDoorOpen 4 = .ok (.bipush 83, 2) := by decide +kernel
theorem dX10_isDoorOpen_6 : decode cX10_isDoorOpen 6 = .ok (.laload, 1) := by decide +kernel
theorem dX10_isDoorOpen_7 : decode cX10_isDoorOpen 7 = .ok (.lconst 1, 1) := by decide +kernel
theorem dX10_isDoorOpen_8 : decode cX10_isDoorOpen 8 = .ok (.lcmp, 1) := by decide +kernel
theorem dX10_isDoorOpen_9 : decode cX10_isDoorOpen 9 = .ok (.ifCond .ne 7, 3) := by decide +kernel
theorem dX10_isDoorOpen_12 : decode cX10_isDoorOpen 12 = .ok (.iconst 1, 1) := by decide +kernel
theorem dX10_isDoorOpen_13 : decode cX10_isDoorOpen 13 = .ok (.goto 4, 3) := by decide +kernel
theorem dX10_isDoorOpen_16 : decode cX10_isDoorOpen 16 = .ok (.iconst 0, 1) := by decide +kernel
theorem dX10_isDoorOpen_17 : decode cX10_isDoorOpen 17 = .ok (.ireturn, 1) := by decide +kernel
theorem dX10_isAway_0 : decode cX10_isAway 0 = .ok (.aload_n 0, 1) := by decide +kernel
theorem dX10_isAway_1 : decode cX10_isAway 1 = .ok (.getfield 7, 3) := by decide +kernel
theorem dX10_isAway_4 : decode cX10_isAway 4 = .ok (.bipush 86, 2) := by decide +kernel
theorem dX10_isAway_6 : decode cX10_isAway 6 = .ok (.laload, 1) := by decide +kernel
theorem dX10_isAway_7 : decode cX10_isAway 7 = .ok (.lconst 1, 1) := by decide +kernel
theorem dX10_isAway_8 : decode cX10_isAway 8 = .ok (.lcmp, 1) := by decide +kernel
theorem dX10_isAway_9 : decode cX10_isAway 9 = .ok (.ifCond .ne 7, 3) := by decide +kernel
theorem dX10_isAway_12 : decode cX10_isAway 12 = .ok (.iconst 1, 1) := by decide +kernel
theorem dX10_isAway_13 : decode cX10_isAway 13 = .ok (.goto 4, 3) := by decide +kernel
theorem dX10_isAway_16 : decode cX10_isAway 16 = .ok (.iconst 0, 1) := by decide +kernel
theorem dX10_isAway_17 : decode cX10_isAway 17 = .ok (.ireturn, 1) := by decide +kernel
theorem dX10_putAside_0 : decode cX10_putAside 0 = .ok (.iconst 0, 1) := by decide +kernel
theorem dX10_putAside_1 : decode cX10_putAside 1 = .ok (.istore_n 1, 1) := by decide +kernel
theorem dX10_putAside_2 : decode cX10_putAside 2 = .ok (.iload_n 1, 1) := by decide +kernel
theorem dX10_putAside_3 : decode cX10_putAside 3 = .ok (.bipush 93, 2) := by decide +kernel
theorem dX10_putAside_5 : decode cX10_putAside 5 = .ok (.if_icmp .ge 21, 3) := by decide +kernel
theorem dX10_putAside_8 : decode cX10_putAside 8 = .ok (.aload_n 0, 1) := by decide +kernel
theorem dX10_putAside_9 : decode cX10_putAside 9 = .ok (.getfield 13, 3) := by decide +kernel
theorem dX10_putAside_12 : decode cX10_putAside 12 = .ok (.iload_n 1, 1) := by decide +kernel
theorem dX10_putAside_13 : decode cX10_putAside 13 = .ok (.aload_n 0, 1) := by decide +kernel
theorem dX10_putAside_14 : decode cX10_putAside 14 = .ok (.getfield 7, 3) := by decide +kernel
theorem dX10_putAside_17 : decode cX10_putAside 17 = .ok (.iload_n 1, 1) := by decide +kernel
theorem dX10_putAside_18 : decode cX10_putAside 18 = .ok (.laload, 1) := by decide +kernel
theorem dX10_putAside_19 : decode cX10_putAside 19 = .ok (.lastore, 1) := by decide +kernel
theorem dX10_putAside_20 : decode cX10_putAside 20 = .ok (.iinc 1 1, 3) := by decide +kernel
theorem dX10_putAside_23 : decode cX10_putAside 23 = .ok (.goto (-21), 3) := by decide +kernel
theorem dX10_putAside_26 : decode cX10_putAside 26 = .ok (.return_, 1) := by decide +kernel
theorem dX10_putBack_0 : decode cX10_putBack 0 = .ok (.iconst 0, 1) := by decide +kernel
theorem dX10_putBack_1 : decode cX10_putBack 1 = .ok (.istore_n 1, 1) := by decide +kernel
theorem dX10_putBack_2 : decode cX10_putBack 2 = .ok (.iload_n 1, 1) := by decide +kernel
theorem dX10_putBack_3 : decode cX10_putBack 3 = .ok (.bipush 93, 2) := by decide +kernel
theorem dX10_putBack_5 : decode cX10_putBack 5 = .ok (.if_icmp .ge 21, 3) := by decide +kernel
theorem dX10_putBack_8 : decode cX10_putBack 8 = .ok (.aload_n 0, 1) := by decide +kernel
theorem dX10_putBack_9 : decode cX10_putBack 9 = .ok (.getfield 7, 3) := by decide +kernel
theorem dX10_putBack_12 : decode cX10_putBack 12 = .ok (.iload_n 1, 1) := by decide +kernel
theorem dX10_putBack_13 : decode cX10_putBack 13 = .ok (.aload_n 0, 1) := by decide +kernel
theorem dX10_putBack_14 : decode cX10_putBack 14 = .ok (.getfield 13, 3) := by decide +kernel
theorem dX10_putBack_17 : decode cX10_putBack 17 = .ok (.iload_n 1, 1) := by decide +kernel
theorem dX10_putBack_18 : decode cX10_putBack 18 = .ok (.laload, 1) := by decide +kernel
theorem dX10_putBack_19 : decode cX10_putBack 19 = .ok (.lastore, 1) := by decide +kernel
theorem dX10_putBack_20 : decode cX10_putBack 20 = .ok (.iinc 1 1, 3) := by decide +kernel
theorem dX10_putBack_23 : decode cX10_putBack 23 = .ok (.goto (-21), 3) := by decide +kernel
theorem dX10_putBack_26 : decode cX10_putBack 26 = .ok (.return_, 1) := by decide +kernel
theorem dX10_concentration_0 : decode cX10_concentration 0 = .ok (.aload_n 0, 1) := by decide +kernel
theorem dX10_concentration_1 : decode cX10_concentration 1 = .ok (.getfield 7, 3) := by decide +kernel
theorem dX10_concentration_4 : decode cX10_concentration 4 = .ok (.bipush 79, 2) := by decide +kernel
theorem dX10_concentration_6 : decode cX10_concentration 6 = .ok (.laload, 1) := by decide +kernel
theorem dX10_concentration_7 : decode cX10_concentration 7 = .ok (.ldc2_w 56, 3) := by decide +kernel
theorem dX10_concentration_10 : decode cX10_concentration 10 = .ok (.aload_n 0, 1) := by decide +kernel
theorem dX10_concentration_11 : decode cX10_concentration 11 = .ok (.getfield 7, 3) := by decide +kernel
theorem dX10_concentration_14 : decode cX10_concentration 14 = .ok (.bipush 65, 2) := by decide +kernel
theorem dX10_concentration_16 : decode cX10_concentration 16 = .ok (.laload, 1) := by decide +kernel
theorem dX10_concentration_17 : decode cX10_concentration 17 = .ok (.lmul, 1) := by decide +kernel
theorem dX10_concentration_18 : decode cX10_concentration 18 = .ok (.ldiv, 1) := by decide +kernel
theorem dX10_concentration_19 : decode cX10_concentration 19 = .ok (.l2i, 1) := by decide +kernel
theorem dX10_concentration_20 : decode cX10_concentration 20 = .ok (.ireturn, 1) := by decide +kernel
set_option maxRecDepth 20000 in
theorem ggX10_load_X10_in : GoodIn wsX10_load wsX10_in := goodIn_r _ [8] (by decide +kernel) (by decide +kernel)
set_option maxRecDepth 20000 in
theorem gX10_load_X10_in : GoodIn wsX10_load (va_wsS RX10 52 yX10_in wsX10_in) := goodIn_app (goodIn_of _ (by decide +kernel)) ggX10_load_X10_in
set_option maxRecDepth 20000 in
theorem ggX10_load_X10_boxes : GoodIn wsX10_load wsX10_boxes := goodIn_r _ [12, 4, 21, 22, 23, 24, 25, 26, 27, 28, 29, 30] (by decide +kernel) (by decide +kernel)
set_option maxRecDepth 20000 in
theorem gX10_load_X10_boxes : GoodIn wsX10_load (wsV RX10 48 RX10 yX10_boxes wsX10_boxes) := goodIn_app (goodIn_of _ (by decide +kernel)) ggX10_load_X10_boxes
set_option maxRecDepth 20000 in
theorem ggX10_load_X10_isDoorOpen : GoodIn wsX10_load wsX10_isDoorOpen := goodIn_r _ [16, 4, 21, 22, 23, 24, 25, 26, 27, 28, 29, 30] (by decide +kernel) (by decide +kernel)
set_option maxRecDepth 20000 in
theorem gX10_load_X10_isDoorOpen : GoodIn wsX10_load (wsV RX10 62 RX10 yX10_isDoorOpen wsX10_isDoorOpen) := goodIn_app (goodIn_of _ (by decide +kernel)) ggX10_load_X10_isDoorOpen
set_option maxRecDepth 20000 in
theorem ggX10_load_X10_lay : GoodIn wsX10_load wsX10_lay := goodIn_r _ [20, 4, 21, 22, 23, 24, 25, 26, 27, 28, 29, 30] (by decide +kernel) (by decide +kernel)
set_option maxRecDepth 20000 in
theorem gX10_load_X10_lay : GoodIn wsX10_load (wsV RX10 66 RX10 yX10_lay wsX10_lay) := goodIn_app (goodIn_of _ (by decide +kernel)) ggX10_load_X10_lay
theorem dX10_load_0 : decode cX10_load 0 = .ok (.iload_n 1, 1) := by decide +kernel
theorem dX10_load_1 : decode cX10_load 1 = .ok (.i2l, 1) := by decide +kernel
theorem dX10_load_2 : decode cX10_load 2 = .ok (.lconst 1, 1) := by decide +kernel
theorem dX10_load_3 : decode cX10_load 3 = .ok (.ldc2_w 34, 3) := by decide +kernel
theorem dX10_load_6 : decode cX10_load 6 = .ok (.invokestatic 52, 3) := by decide +kernel
theorem dX10_load_9 : decode cX10_load 9 = .ok (.ifCond .eq 27, 3) := by decide +kernel
theorem dX10_load_12 : decode cX10_load 12 = .ok (.iload_n 2, 1) := by decide +kernel
theorem dX10_load_13 : decode cX10_load 13 = .ok (.i2l, 1) := by decide +kernel
theorem dX10_load_14 : decode cX10_load 14 = .ok (.lconst 0, 1) := by decide +kernel
theorem dX10_load_15 : decode cX10_load 15 = .ok (.ldc2_w 58, 3) := by decide +kernel
theorem dX10_load_18 : decode cX10_load 18 = .ok (.invokestatic 52, 3) := by decide +kernel
theorem dX10_load_21 : decode cX10_load 21 = .ok (.ifCond .eq 15, 3) := by decide +kernel
theorem dX10_load_24 : decode cX10_load 24 = .ok (.iload_n 3, 1) := by decide +kernel
theorem dX10_load_25 : decode cX10_load 25 = .ok (.i2l, 1) := by decide +kernel
theorem dX10_load_26 : decode cX10_load 26 = .ok (.lconst 0, 1) := by decide +kernel
theorem dX10_load_27 : decode cX10_load 27 = .ok (.ldc2_w 60, 3) := by decide +kernel
theorem dX10_load_30 : decode cX10_load 30 = .ok (.invokestatic 52, 3) := by decide +kernel
theorem dX10_load_33 : decode cX10_load 33 = .ok (.ifCond .ne 6, 3) := by decide +kernel
theorem dX10_load_36 : decode cX10_load 36 = .ok (.bipush (-2), 2) := by decide +kernel
theorem dX10_load_38 : decode cX10_load 38 = .ok (.ireturn, 1) := by decide +kernel
theorem dX10_load_39 : decode cX10_load 39 = .ok (.aload_n 0, 1) := by decide +kernel
theorem dX10_load_40 : decode cX10_load 40 = .ok (.invokevirtual 48, 3) := by decide +kernel
theorem dX10_load_43 : decode cX10_load 43 = .ok (.bipush 10, 2) := by decide +kernel
theorem dX10_load_45 : decode cX10_load 45 = .ok (.if_icmp .ne 6, 3) := by decide +kernel
theorem dX10_load_48 : decode cX10_load 48 = .ok (.bipush (-4), 2) := by decide +kernel
theorem dX10_load_50 : decode cX10_load 50 = .ok (.ireturn, 1) := by decide +kernel
theorem dX10_load_51 : decode cX10_load 51 = .ok (.aload_n 0, 1) := by decide +kernel
theorem dX10_load_52 : decode cX10_load 52 = .ok (.invokevirtual 62, 3) := by decide +kernel
theorem dX10_load_55 : decode cX10_load 55 = .ok (.ifCond .ne 6, 3) := by decide +kernel
theorem dX10_load_58 : decode cX10_load 58 = .ok (.bipush (-5), 2) := by decide +kernel
theorem dX10_load_60 : decode cX10_load 60 = .ok (.ireturn, 1) := by decide +kernel
theorem dX10_load_61 : decode cX10_load 61 = .ok (.aload_n 0, 1) := by decide +kernel
theorem dX10_load_62 : decode cX10_load 62 = .ok (.invokevirtual 48, 3) := by decide +kernel
theorem dX10_load_65 : decode cX10_load 65 = .ok (.istore 4, 2) := by decide +kernel
theorem dX10_load_67 : decode cX10_load 67 = .ok (.aload_n 0, 1) := by decide +kernel
theorem dX10_load_68 : decode cX10_load 68 = .ok (.getfield 7, 3) := by decide +kernel
theorem dX10_load_71 : decode cX10_load 71 = .ok (.bipush 75, 2) := by decide +kernel
theorem dX10_load_73 : decode cX10_load 73 = .ok (.dup2, 1) := by decide +kernel
theorem dX10_load_74 : decode cX10_load 74 = .ok (.laload, 1) := by decide +kernel
theorem dX10_load_75 : decode cX10_load 75 = .ok (.lconst 1, 1) := by decide +kernel
theorem dX10_load_76 : decode cX10_load 76 = .ok (.ladd, 1) := by decide +kernel
theorem dX10_load_77 : decode cX10_load 77 = .ok (.lastore, 1) := by decide +kernel
theorem dX10_load_78 : decode cX10_load 78 = .ok (.aload_n 0, 1) := by decide +kernel
theorem dX10_load_79 : decode cX10_load 79 = .ok (.iload 4, 2) := by decide +kernel
theorem dX10_load_81 : decode cX10_load 81 = .ok (.iconst 0, 1) := by decide +kernel
theorem dX10_load_82 : decode cX10_load 82 = .ok (.iload_n 1, 1) := by decide +kernel
theorem dX10_load_83 : decode cX10_load 83 = .ok (.i2l, 1) := by decide +kernel
theorem dX10_load_84 : decode cX10_load 84 = .ok (.invokevirtual 66, 3) := by decide +kernel
theorem dX10_load_87 : decode cX10_load 87 = .ok (.aload_n 0, 1) := by decide +kernel
theorem dX10_load_88 : decode cX10_load 88 = .ok (.iload 4, 2) := by decide +kernel
theorem dX10_load_90 : decode cX10_load 90 = .ok (.iconst 1, 1) := by decide +kernel
theorem dX10_load_91 : decode cX10_load 91 = .ok (.iload_n 2, 1) := by decide +kernel
theorem dX10_load_92 : decode cX10_load 92 = .ok (.i2l, 1) := by decide +kernel
theorem dX10_load_93 : decode cX10_load 93 = .ok (.invokevirtual 66, 3) := by decide +kernel
theorem dX10_load_96 : decode cX10_load 96 = .ok (.aload_n 0, 1) := by decide +kernel
theorem dX10_load_97 : decode cX10_load 97 = .ok (.iload 4, 2) := by decide +kernel
theorem dX10_load_99 : decode cX10_load 99 = .ok (.iconst 2, 1) := by decide +kernel
theorem dX10_load_100 : decode cX10_load 100 = .ok (.iload_n 3, 1) := by decide +kernel
theorem dX10_load_101 : decode cX10_load 101 = .ok (.i2l, 1) := by decide +kernel
theorem dX10_load_102 : decode cX10_load 102 = .ok (.invokevirtual 66, 3) := by decide +kernel
theorem dX10_load_105 : decode cX10_load 105 = .ok (.aload_n 0, 1) := by decide +kernel
theorem dX10_load_106 : decode cX10_load 106 = .ok (.iload 4, 2) := by decide +kernel
theorem dX10_load_108 : decode cX10_load 108 = .ok (.iconst 3, 1) := by decide +kernel
theorem dX10_load_109 : decode cX10_load 109 = .ok (.iload_n 3, 1) := by decide +kernel
theorem dX10_load_110 : decode cX10_load 110 = .ok (.i2l, 1) := by decide +kernel
theorem dX10_load_111 : decode cX10_load 111 = .ok (.invokevirtual 66, 3) := by decide +kernel
theorem dX10_load_114 : decode cX10_load 114 = .ok (.aload_n 0, 1) := by decide +kernel
theorem dX10_load_115 : decode cX10_load 115 = .ok (.getfield 7, 3) := by decide +kernel
theorem dX10_load_118 : decode cX10_load 118 = .ok (.bipush 88, 2) := by decide +kernel
theorem dX10_load_120 : decode cX10_load 120 = .ok (.dup2, 1) := by decide +kernel
theorem dX10_load_121 : decode cX10_load 121 = .ok (.laload, 1) := by decide +kernel
theorem dX10_load_122 : decode cX10_load 122 = .ok (.iload_n 3, 1) := by decide +kernel
theorem dX10_load_123 : decode cX10_load 123 = .ok (.i2l, 1) := by decide +kernel
theorem dX10_load_124 : decode cX10_load 124 = .ok (.ladd, 1) := by decide +kernel
theorem dX10_load_125 : decode cX10_load 125 = .ok (.lastore, 1) := by decide +kernel
theorem dX10_load_126 : decode cX10_load 126 = .ok (.iload 4, 2) := by decide +kernel
theorem dX10_load_128 : decode cX10_load 128 = .ok (.ireturn, 1) := by decide +kernel
set_option maxRecDepth 20000 in
theorem ggX10_unload_X10_isBox : GoodIn wsX10_unload wsX10_isBox := goodIn_r _ [6, 7, 8, 9, 5, 10, 1, 11, 12, 13, 22, 23, 24, 25, 26, 27, 28, 29, 30, 31] (by decide +kernel) (by decide +kernel)
set_option maxRecDepth 20000 in
theorem gX10_unload_X10_isBox : GoodIn wsX10_unload (wsV RX10 70 RX10 yX10_isBox wsX10_isBox) := goodIn_app (goodIn_of _ (by decide +kernel)) ggX10_unload_X10_isBox
set_option maxRecDepth 20000 in
theorem ggX10_unload_X10_isDoorOpen : GoodIn wsX10_unload wsX10_isDoorOpen := goodIn_r _ [17, 1, 22, 23, 24, 25, 26, 27, 28, 29, 30, 31] (by decide +kernel) (by decide +kernel)
set_option maxRecDepth 20000 in
theorem gX10_unload_X10_isDoorOpen : GoodIn wsX10_unload (wsV RX10 62 RX10 yX10_isDoorOpen wsX10_isDoorOpen) := goodIn_app (goodIn_of _ (by decide +kernel)) ggX10_unload_X10_isDoorOpen
set_option maxRecDepth 20000 in
theorem ggX10_unload_X10_of : GoodIn wsX10_unload wsX10_of := goodIn_r _ [21, 1, 22, 23, 24, 25, 26, 27, 28, 29, 30, 31] (by decide +kernel) (by decide +kernel)
set_option maxRecDepth 20000 in
theorem gX10_unload_X10_of : GoodIn wsX10_unload (wsV RX10 74 RX10 yX10_of wsX10_of) := goodIn_app (goodIn_of _ (by decide +kernel)) ggX10_unload_X10_of
set_option maxRecDepth 20000 in
theorem ggX10_unload_X10_boxes : GoodIn wsX10_unload wsX10_boxes := goodIn_r _ [10, 1, 22, 23, 24, 25, 26, 27, 28, 29, 30, 31] (by decide +kernel) (by decide +kernel)
set_option maxRecDepth 20000 in
theorem gX10_unload_X10_boxes : GoodIn wsX10_unload (wsV RX10 48 RX10 yX10_boxes wsX10_boxes) := goodIn_app (goodIn_of _ (by decide +kernel)) ggX10_unload_X10_boxes
theorem dX10_unload_0 : decode cX10_unload 0 = .ok (.aload_n 0, 1) := by decide +kernel
theorem dX10_unload_1 : decode cX10_unload 1 = .ok (.iload_n 1, 1) := by decide +kernel
theorem dX10_unload_2 : decode cX10_unload 2 = .ok (.invokevirtual 70, 3) := by decide +kernel
theorem dX10_unload_5 : decode cX10_unload 5 = .ok (.ifCond .ne 5, 3) := by decide +kernel
theorem dX10_unload_8 : decode cX10_unload 8 = .ok (.iconst (-1), 1) := by decide +kernel
theorem dX10_unload_9 : decode cX10_unload 9 = .ok (.ireturn, 1) := by decide +kernel
theorem dX10_unload_10 : decode cX10_unload 10 = .ok (.aload_n 0, 1) := by decide +kernel
theorem dX10_unload_11 : decode cX10_unload 11 = .ok (.invokevirtual 62, 3) := by decide +kernel
theorem dX10_unload_14 : decode cX10_unload 14 = .ok (.ifCond .ne 6, 3) := by decide +kernel
theorem dX10_unload_17 : decode cX10_unload 17 = .ok (.bipush (-5), 2) := by decide +kernel
theorem dX10_unload_19 : decode cX10_unload 19 = .ok (.ireturn, 1) := by decide +kernel
theorem dX10_unload_20 : decode cX10_unload 20 = .ok (.aload_n 0, 1) := by decide +kernel
theorem dX10_unload_21 : decode cX10_unload 21 = .ok (.iload_n 1, 1) := by decide +kernel
theorem dX10_unload_22 : decode cX10_unload 22 = .ok (.iconst 2, 1) := by decide +kernel
theorem dX10_unload_23 : decode cX10_unload 23 = .ok (.invokevirtual 74, 3) := by decide +kernel
theorem dX10_unload_26 : decode cX10_unload 26 = .ok (.l2i, 1) := by decide +kernel
theorem dX10_unload_27 : decode cX10_unload 27 = .ok (.istore_n 2, 1) := by decide +kernel
theorem dX10_unload_28 : decode cX10_unload 28 = .ok (.aload_n 0, 1) := by decide +kernel
theorem dX10_unload_29 : decode cX10_unload 29 = .ok (.getfield 7, 3) := by decide +kernel
theorem dX10_unload_32 : decode cX10_unload 32 = .ok (.bipush 89, 2) := by decide +kernel
theorem dX10_unload_34 : decode cX10_unload 34 = .ok (.dup2, 1) := by decide +kernel
theorem dX10_unload_35 : decode cX10_unload 35 = .ok (.laload, 1) := by decide +kernel
theorem dX10_unload_36 : decode cX10_unload 36 = .ok (.iload_n 2, 1) := by decide +kernel
theorem dX10_unload_37 : decode cX10_unload 37 = .ok (.i2l, 1) := by decide +kernel
theorem dX10_unload_38 : decode cX10_unload 38 = .ok (.ladd, 1) := by decide +kernel
theorem dX10_unload_39 : decode cX10_unload 39 = .ok (.lastore, 1) := by decide +kernel
theorem dX10_unload_40 : decode cX10_unload 40 = .ok (.aload_n 0, 1) := by decide +kernel
theorem dX10_unload_41 : decode cX10_unload 41 = .ok (.getfield 7, 3) := by decide +kernel
theorem dX10_unload_44 : decode cX10_unload 44 = .ok (.bipush 75, 2) := by decide +kernel
theorem dX10_unload_46 : decode cX10_unload 46 = .ok (.dup2, 1) := by decide +kernel
theorem dX10_unload_47 : decode cX10_unload 47 = .ok (.laload, 1) := by decide +kernel
theorem dX10_unload_48 : decode cX10_unload 48 = .ok (.lconst 1, 1) := by decide +kernel
theorem dX10_unload_49 : decode cX10_unload 49 = .ok (.lsub, 1) := by decide +kernel
theorem dX10_unload_50 : decode cX10_unload 50 = .ok (.lastore, 1) := by decide +kernel
theorem dX10_unload_51 : decode cX10_unload 51 = .ok (.iconst 4, 1) := by decide +kernel
theorem dX10_unload_52 : decode cX10_unload 52 = .ok (.iload_n 1, 1) := by decide +kernel
theorem dX10_unload_53 : decode cX10_unload 53 = .ok (.imul, 1) := by decide +kernel
theorem dX10_unload_54 : decode cX10_unload 54 = .ok (.istore_n 3, 1) := by decide +kernel
theorem dX10_unload_55 : decode cX10_unload 55 = .ok (.iload_n 3, 1) := by decide +kernel
theorem dX10_unload_56 : decode cX10_unload 56 = .ok (.iconst 4, 1) := by decide +kernel
theorem dX10_unload_57 : decode cX10_unload 57 = .ok (.aload_n 0, 1) := by decide +kernel
theorem dX10_unload_58 : decode cX10_unload 58 = .ok (.invokevirtual 48, 3) := by decide +kernel
theorem dX10_unload_61 : decode cX10_unload 61 = .ok (.imul, 1) := by decide +kernel
theorem dX10_unload_62 : decode cX10_unload 62 = .ok (.if_icmp .ge 27, 3) := by decide +kernel
theorem dX10_unload_65 : decode cX10_unload 65 = .ok (.aload_n 0, 1) := by decide +kernel
theorem dX10_unload_66 : decode cX10_unload 66 = .ok (.getfield 7, 3) := by decide +kernel
theorem dX10_unload_69 : decode cX10_unload 69 = .ok (.iconst 0, 1) := by decide +kernel
theorem dX10_unload_70 : decode cX10_unload 70 = .ok (.iload_n 3, 1) := by decide +kernel
theorem dX10_unload_71 : decode cX10_unload 71 = .ok (.iadd, 1) := by decide +kernel
theorem dX10_unload_72 : decode cX10_unload 72 = .ok (.aload_n 0, 1) := by decide +kernel
theorem dX10_unload_73 : decode cX10_unload 73 = .ok (.getfield 7, 3) := by decide +kernel
theorem dX10_unload_76 : decode cX10_unload 76 = .ok (.iconst 0, 1) := by decide +kernel
theorem dX10_unload_77 : decode cX10_unload 77 = .ok (.iload_n 3, 1) := by decide +kernel
theorem dX10_unload_78 : decode cX10_unload 78 = .ok (.iadd, 1) := by decide +kernel
theorem dX10_unload_79 : decode cX10_unload 79 = .ok (.iconst 4, 1) := by decide +kernel
theorem dX10_unload_80 : decode cX10_unload 80 = .ok (.iadd, 1) := by decide +kernel
theorem dX10_unload_81 : decode cX10_unload 81 = .ok (.laload, 1) := by decide +kernel
theorem dX10_unload_82 : decode cX10_unload 82 = .ok (.lastore, 1) := by decide +kernel
theorem dX10_unload_83 : decode cX10_unload 83 = .ok (.iinc 3 1, 3) := by decide +kernel
theorem dX10_unload_86 : decode cX10_unload 86 = .ok (.goto (-31), 3) := by decide +kernel
theorem dX10_unload_89 : decode cX10_unload 89 = .ok (.iload_n 2, 1) := by decide +kernel
theorem dX10_unload_90 : decode cX10_unload 90 = .ok (.ireturn, 1) := by decide +kernel
set_option maxRecDepth 20000 in
theorem ggX10_swap_X10_of : GoodIn wsX10_swap wsX10_of := goodIn_r _ [5, 6, 11, 12, 13, 14, 15, 16, 17, 18, 19, 20] (by decide +kernel) (by decide +kernel)
set_option maxRecDepth 20000 in
theorem gX10_swap_X10_of : GoodIn wsX10_swap (wsV RX10 74 RX10 yX10_of wsX10_of) := goodIn_app (goodIn_of _ (by decide +kernel)) ggX10_swap_X10_of
set_option maxRecDepth 20000 in
theorem ggX10_swap_X10_lay : GoodIn wsX10_swap wsX10_lay := goodIn_r _ [10, 6, 11, 12, 13, 14, 15, 16, 17, 18, 19, 20] (by decide +kernel) (by decide +kernel)
set_option maxRecDepth 20000 in
theorem gX10_swap_X10_lay : GoodIn wsX10_swap (wsV RX10 66 RX10 yX10_lay wsX10_lay) := goodIn_app (goodIn_of _ (by decide +kernel)) ggX10_swap_X10_lay
theorem dX10_swap_0 : decode cX10_swap 0 = .ok (.iconst 0, 1) := by decide +kernel
theorem dX10_swap_1 : decode cX10_swap 1 = .ok (.istore_n 3, 1) := by decide +kernel
theorem dX10_swap_2 : decode cX10_swap 2 = .ok (.iload_n 3, 1) := by decide +kernel
theorem dX10_swap_3 : decode cX10_swap 3 = .ok (.iconst 4, 1) := by decide +kernel
theorem dX10_swap_4 : decode cX10_swap 4 = .ok (.if_icmp .ge 37, 3) := by decide +kernel
theorem dX10_swap_7 : decode cX10_swap 7 = .ok (.aload_n 0, 1) := by decide +kernel
theorem dX10_swap_8 : decode cX10_swap 8 = .ok (.iload_n 1, 1) := by decide +kernel
theorem dX10_swap_9 : decode cX10_swap 9 = .ok (.iload_n 3, 1) := by decide +kernel
theorem dX10_swap_10 : decode cX10_swap 10 = .ok (.invokevirtual 74, 3) := by decide +kernel
theorem dX10_swap_13 : decode cX10_swap 13 = .ok (.lstore 4, 2) := by decide +kernel
theorem dX10_swap_15 : decode cX10_swap 15 = .ok (.aload_n 0, 1) := by decide +kernel
theorem dX10_swap_16 : decode cX10_swap 16 = .ok (.iload_n 1, 1) := by decide +kernel
theorem dX10_swap_17 : decode cX10_swap 17 = .ok (.iload_n 3, 1) := by decide +kernel
theorem dX10_swap_18 : decode cX10_swap 18 = .ok (.aload_n 0, 1) := by decide +kernel
theorem dX10_swap_19 : decode cX10_swap 19 = .ok (.iload_n 2, 1) := by decide +kernel
theorem dX10_swap_20 : decode cX10_swap 20 = .ok (.iload_n 3, 1) := by decide +kernel
theorem dX10_swap_21 : decode cX10_swap 21 = .ok (.invokevirtual 74, 3) := by decide +kernel
theorem dX10_swap_24 : decode cX10_swap 24 = .ok (.invokevirtual 66, 3) := by decide +kernel
theorem dX10_swap_27 : decode cX10_swap 27 = .ok (.aload_n 0, 1) := by decide +kernel
theorem dX10_swap_28 : decode cX10_swap 28 = .ok (.iload_n 2, 1) := by decide +kernel
theorem dX10_swap_29 : decode cX10_swap 29 = .ok (.iload_n 3, 1) := by decide +kernel
theorem dX10_swap_30 : decode cX10_swap 30 = .ok (.lload 4, 2) := by decide +kernel
theorem dX10_swap_32 : decode cX10_swap 32 = .ok (.invokevirtual 66, 3) := by decide +kernel
theorem dX10_swap_35 : decode cX10_swap 35 = .ok (.iinc 3 1, 3) := by decide +kernel
theorem dX10_swap_38 : decode cX10_swap 38 = .ok (.goto (-36), 3) := by decide +kernel
theorem dX10_swap_41 : decode cX10_swap 41 = .ok (.return_, 1) := by decide +kernel
set_option maxRecDepth 20000 in
theorem ggX10_move_X10_swap : GoodIn wsX10_move wsX10_swap := goodIn_r _ [5, 6, 7, 8, 4, 9, 10, 11, 12, 13, 14, 15, 16, 17, 18, 19, 20, 21, 22, 23, 24] (by decide +kernel) (by decide +kernel)
set_option maxRecDepth 20000 in
theorem gX10_move_X10_swap : GoodIn wsX10_move (wsV RX10 78 RX10 yX10_swap wsX10_swap) := goodIn_app (goodIn_of _ (by decide +kernel)) ggX10_move_X10_swap
theorem dX10_move_0 : decode cX10_move 0 = .ok (.iload_n 1, 1) := by decide +kernel
theorem dX10_move_1 : decode cX10_move 1 = .ok (.istore_n 3, 1) := by decide +kernel
theorem dX10_move_2 : decode cX10_move 2 = .ok (.iload_n 3, 1) := by decide +kernel
theorem dX10_move_3 : decode cX10_move 3 = .ok (.iload_n 2, 1) := by decide +kernel
theorem dX10_move_4 : decode cX10_move 4 = .ok (.if_icmp .ge 17, 3) := by decide +kernel
theorem dX10_move_7 : decode cX10_move 7 = .ok (.aload_n 0, 1) := by decide +kernel
theorem dX10_move_8 : decode cX10_move 8 = .ok (.iload_n 3, 1) := by decide +kernel
theorem dX10_move_9 : decode cX10_move 9 = .ok (.iload_n 3, 1) := by decide +kernel
theorem dX10_move_10 : decode cX10_move 10 = .ok (.iconst 1, 1) := by decide +kernel
theorem dX10_move_11 : decode cX10_move 11 = .ok (.iadd, 1) := by decide +kernel
theorem dX10_move_12 : decode cX10_move 12 = .ok (.invokevirtual 78, 3) := by decide +kernel
theorem dX10_move_15 : decode cX10_move 15 = .ok (.iinc 3 1, 3) := by decide +kernel
theorem dX10_move_18 : decode cX10_move 18 = .ok (.goto (-16), 3) := by decide +kernel
theorem dX10_move_21 : decode cX10_move 21 = .ok (.iload_n 1, 1) := by decide +kernel
theorem dX10_move_22 : decode cX10_move 22 = .ok (.istore_n 3, 1) := by decide +kernel
theorem dX10_move_23 : decode cX10_move 23 = .ok (.iload_n 3, 1) := by decide +kernel
theorem dX10_move_24 : decode cX10_move 24 = .ok (.iload_n 2, 1) := by decide +kernel
theorem dX10_move_25 : decode cX10_move 25 = .ok (.if_icmp .le 17, 3) := by decide +kernel
theorem dX10_move_28 : decode cX10_move 28 = .ok (.aload_n 0, 1) := by decide +kernel
theorem dX10_move_29 : decode cX10_move 29 = .ok (.iload_n 3, 1) := by decide +kernel
theorem dX10_move_30 : decode cX10_move 30 = .ok (.iload_n 3, 1) := by decide +kernel
theorem dX10_move_31 : decode cX10_move 31 = .ok (.iconst 1, 1) := by decide +kernel
theorem dX10_move_32 : decode cX10_move 32 = .ok (.isub, 1) := by decide +kernel
theorem dX10_move_33 : decode cX10_move 33 = .ok (.invokevirtual 78, 3) := by decide +kernel
theorem dX10_move_36 : decode cX10_move 36 = .ok (.iinc 3 (-1), 3) := by decide +kernel
theorem dX10_move_39 : decode cX10_move 39 = .ok (.goto (-16), 3) := by decide +kernel
theorem dX10_move_42 : decode cX10_move 42 = .ok (.return_, 1) := by decide +kernel
set_option maxRecDepth 20000 in
theorem ggX10_shift_X10_isBox : GoodIn wsX10_shift wsX10_isBox := goodIn_r _ [5, 6, 7, 8, 4, 9, 10, 11, 12, 13, 30, 31, 32, 33, 34, 35, 36, 37, 38, 39] (by decide +kernel) (by decide +kernel)
set_option maxRecDepth 20000 in
theorem gX10_shift_X10_isBox : GoodIn wsX10_shift (wsV RX10 70 RX10 yX10_isBox wsX10_isBox) := goodIn_app (goodIn_of _ (by decide +kernel)) ggX10_shift_X10_isBox
set_option maxRecDepth 20000 in
theorem ggX10_shift_X10_of : GoodIn wsX10_shift wsX10_of := goodIn_r _ [17, 10, 30, 31, 32, 33, 34, 35, 36, 37, 38, 39] (by decide +kernel) (by decide +kernel)
set_option maxRecDepth 20000 in
theorem gX10_shift_X10_of : GoodIn wsX10_shift (wsV RX10 74 RX10 yX10_of wsX10_of) := goodIn_app (goodIn_of _ (by decide +kernel)) ggX10_shift_X10_of
set_option maxRecDepth 20000 in
theorem ggX10_shift_X10_move : GoodIn wsX10_shift wsX10_move := goodIn_r _ [21, 22, 23, 24, 4, 25, 14, 15, 16, 17, 10, 26, 27, 28, 29, 30, 31, 32, 33, 34, 35, 36, 37, 38, 39] (by decide +kernel) (by decide +kernel)
set_option maxRecDepth 20000 in
theorem gX10_shift_X10_move : GoodIn wsX10_shift (wsV RX10 82 RX10 yX10_move wsX10_move) := goodIn_app (goodIn_of _ (by decide +kernel)) ggX10_shift_X10_move
theorem dX10_shift_0 : decode cX10_shift 0 = .ok (.aload_n 0, 1) := by decide +kernel
theorem dX10_shift_1 : decode cX10_shift 1 = .ok (.iload_n 1, 1) := by decide +kernel
theorem dX10_shift_2 : decode cX10_shift 2 = .ok (.invokevirtual 70, 3) := by decide +kernel
theorem dX10_shift_5 : decode cX10_shift 5 = .ok (.ifCond .eq 11, 3) := by decide +kernel
theorem dX10_shift_8 : decode cX10_shift 8 = .ok (.aload_n 0, 1) := by decide +kernel
theorem dX10_shift_9 : decode cX10_shift 9 = .ok (.iload_n 2, 1) := by decide +kernel
theorem dX10_shift_10 : decode cX10_shift 10 = .ok (.invokevirtual 70, 3) := by decide +kernel
theorem dX10_shift_13 : decode cX10_shift 13 = .ok (.ifCond .ne 5, 3) := by decide +kernel
theorem dX10_shift_16 : decode cX10_shift 16 = .ok (.iconst (-1), 1) := by decide +kernel
theorem dX10_shift_17 : decode cX10_shift 17 = .ok (.ireturn, 1) := by decide +kernel
theorem dX10_shift_18 : decode cX10_shift 18 = .ok (.aload_n 0, 1) := by decide +kernel
theorem dX10_shift_19 : decode cX10_shift 19 = .ok (.iload_n 1, 1) := by decide +kernel
theorem dX10_shift_20 : decode cX10_shift 20 = .ok (.iconst 2, 1) := by decide +kernel
theorem dX10_shift_21 : decode cX10_shift 21 = .ok (.invokevirtual 74, 3) := by decide +kernel
theorem dX10_shift_24 : decode cX10_shift 24 = .ok (.l2i, 1) := by decide +kernel
theorem dX10_shift_25 : decode cX10_shift 25 = .ok (.istore_n 3, 1) := by decide +kernel
theorem dX10_shift_26 : decode cX10_shift 26 = .ok (.aload_n 0, 1) := by decide +kernel
theorem dX10_shift_27 : decode cX10_shift 27 = .ok (.iload_n 1, 1) := by decide +kernel
theorem dX10_shift_28 : decode cX10_shift 28 = .ok (.iload_n 2, 1) := by decide +kernel
theorem dX10_shift_29 : decode cX10_shift 29 = .ok (.invokevirtual 82, 3) := by decide +kernel
theorem dX10_shift_32 : decode cX10_shift 32 = .ok (.iload_n 3, 1) := by decide +kernel
theorem dX10_shift_33 : decode cX10_shift 33 = .ok (.ireturn, 1) := by decide +kernel
set_option maxRecDepth 20000 in
theorem ggX10_takes_X10_in : GoodIn wsX10_takes wsX10_in := goodIn_r _ [11] (by decide +kernel) (by decide +kernel)
set_option maxRecDepth 20000 in
theorem gX10_takes_X10_in : GoodIn wsX10_takes (va_wsS RX10 52 yX10_in wsX10_in) := goodIn_app (goodIn_of _ (by decide +kernel)) ggX10_takes_X10_in
theorem dX10_takes_0 : decode cX10_takes 0 = .ok (.iload_n 0, 1) := by decide +kernel
theorem dX10_takes_1 : decode cX10_takes 1 = .ok (.tableswitch 135 0 9 #[55, 65, 75, 85, 95, 105, 115, 85, 105, 125], 55) := by decide +kernel
theorem dX10_takes_56 : decode cX10_takes 56 = .ok (.iload_n 1, 1) := by decide +kernel
theorem dX10_takes_57 : decode cX10_takes 57 = .ok (.i2l, 1) := by decide +kernel
theorem dX10_takes_58 : decode cX10_takes 58 = .ok (.lconst 0, 1) := by decide +kernel
theorem dX10_takes_59 : decode cX10_takes 59 = .ok (.ldc2_w 44, 3) := by decide +kernel
theorem dX10_takes_62 : decode cX10_takes 62 = .ok (.invokestatic 52, 3) := by decide +kernel
theorem dX10_takes_65 : decode cX10_takes 65 = .ok (.ireturn, 1) := by decide +kernel
theorem dX10_takes_66 : decode cX10_takes 66 = .ok (.iload_n 1, 1) := by decide +kernel
theorem dX10_takes_67 : decode cX10_takes 67 = .ok (.i2l, 1) := by decide +kernel
theorem dX10_takes_68 : decode cX10_takes 68 = .ok (.lconst 1, 1) := by decide +kernel
theorem dX10_takes_69 : decode cX10_takes 69 = .ok (.ldc2_w 34, 3) := by decide +kernel
theorem dX10_takes_72 : decode cX10_takes 72 = .ok (.invokestatic 52, 3) := by decide +kernel
theorem dX10_takes_75 : decode cX10_takes 75 = .ok (.ireturn, 1) := by decide +kernel
theorem dX10_takes_76 : decode cX10_takes 76 = .ok (.iload_n 1, 1) := by decide +kernel
theorem dX10_takes_77 : decode cX10_takes 77 = .ok (.i2l, 1) := by decide +kernel
theorem dX10_takes_78 : decode cX10_takes 78 = .ok (.lconst 0, 1) := by decide +kernel
theorem dX10_takes_79 : decode cX10_takes 79 = .ok (.ldc2_w 85, 3) := by decide +kernel
theorem dX10_takes_82 : decode cX10_takes 82 = .ok (.invokestatic 52, 3) := by decide +kernel
theorem dX10_takes_85 : decode cX10_takes 85 = .ok (.ireturn, 1) := by decide +kernel
theorem dX10_takes_86 : decode cX10_takes 86 = .ok (.iload_n 1, 1) := by decide +kernel
theorem dX10_takes_87 : decode cX10_takes 87 = .ok (.i2l, 1) := by decide +kernel
theorem dX10_takes_88 : decode cX10_takes 88 = .ok (.lconst 0, 1) := by decide +kernel
theorem dX10_takes_89 : decode cX10_takes 89 = .ok (.ldc2_w 34, 3) := by decide +kernel
theorem dX10_takes_92 : decode cX10_takes 92 = .ok (.invokestatic 52, 3) := by decide +kernel
theorem dX10_takes_95 : decode cX10_takes 95 = .ok (.ireturn, 1) := by decide +kernel
theorem dX10_takes_96 : decode cX10_takes 96 = .ok (.iload_n 1, 1) := by decide +kernel
theorem dX10_takes_97 : decode cX10_takes 97 = .ok (.i2l, 1) := by decide +kernel
theorem dX10_takes_98 : decode cX10_takes 98 = .ok (.lconst 0, 1) := by decide +kernel
theorem dX10_takes_99 : decode cX10_takes 99 = .ok (.ldc2_w 87, 3) := by decide +kernel
theorem dX10_takes_102 : decode cX10_takes 102 = .ok (.invokestatic 52, 3) := by decide +kernel
theorem dX10_takes_105 : decode cX10_takes 105 = .ok (.ireturn, 1) := by decide +kernel
theorem dX10_takes_106 : decode cX10_takes 106 = .ok (.iload_n 1, 1) := by decide +kernel
theorem dX10_takes_107 : decode cX10_takes 107 = .ok (.i2l, 1) := by decide +kernel
theorem dX10_takes_108 : decode cX10_takes 108 = .ok (.lconst 1, 1) := by decide +kernel
theorem dX10_takes_109 : decode cX10_takes 109 = .ok (.ldc2_w 89, 3) := by decide +kernel
theorem dX10_takes_112 : decode cX10_takes 112 = .ok (.invokestatic 52, 3) := by decide +kernel
theorem dX10_takes_115 : decode cX10_takes 115 = .ok (.ireturn, 1) := by decide +kernel
theorem dX10_takes_116 : decode cX10_takes 116 = .ok (.iload_n 1, 1) := by decide +kernel
theorem dX10_takes_117 : decode cX10_takes 117 = .ok (.i2l, 1) := by decide +kernel
theorem dX10_takes_118 : decode cX10_takes 118 = .ok (.lconst 0, 1) := by decide +kernel
theorem dX10_takes_119 : decode cX10_takes 119 = .ok (.ldc2_w 89, 3) := by decide +kernel
theorem dX10_takes_122 : decode cX10_takes 122 = .ok (.invokestatic 52, 3) := by decide +kernel
theorem dX10_takes_125 : decode cX10_takes 125 = .ok (.ireturn, 1) := by decide +kernel
theorem dX10_takes_126 : decode cX10_takes 126 = .ok (.iload_n 1, 1) := by decide +kernel
theorem dX10_takes_127 : decode cX10_takes 127 = .ok (.i2l, 1) := by decide +kernel
theorem dX10_takes_128 : decode cX10_takes 128 = .ok (.lconst 1, 1) := by decide +kernel
theorem dX10_takes_129 : decode cX10_takes 129 = .ok (.ldc2_w 91, 3) := by decide +kernel
theorem dX10_takes_132 : decode cX10_takes 132 = .ok (.invokestatic 52, 3) := by decide +kernel
theorem dX10_takes_135 : decode cX10_takes 135 = .ok (.ireturn, 1) := by decide +kernel
theorem dX10_takes_136 : decode cX10_takes 136 = .ok (.iload_n 0, 1) := by decide +kernel
theorem dX10_takes_137 : decode cX10_takes 137 = .ok (.bipush 10, 2) := by decide +kernel
theorem dX10_takes_139 : decode cX10_takes 139 = .ok (.if_icmp .ne 19, 3) := by decide +kernel
theorem dX10_takes_142 : decode cX10_takes 142 = .ok (.iload_n 1, 1) := by decide +kernel
theorem dX10_takes_143 : decode cX10_takes 143 = .ok (.i2l, 1) := by decide +kernel
theorem dX10_takes_144 : decode cX10_takes 144 = .ok (.lconst 1, 1) := by decide +kernel
theorem dX10_takes_145 : decode cX10_takes 145 = .ok (.ldc2_w 93, 3) := by decide +kernel
theorem dX10_takes_148 : decode cX10_takes 148 = .ok (.invokestatic 52, 3) := by decide +kernel
theorem dX10_takes_151 : decode cX10_takes 151 = .ok (.ifCond .eq 7, 3) := by decide +kernel
theorem dX10_takes_154 : decode cX10_takes 154 = .ok (.iconst 1, 1) := by decide +kernel
theorem dX10_takes_155 : decode cX10_takes 155 = .ok (.goto 4, 3) := by decide +kernel
theorem dX10_takes_158 : decode cX10_takes 158 = .ok (.iconst 0, 1) := by decide +kernel
theorem dX10_takes_159 : decode cX10_takes 159 = .ok (.ireturn, 1) := by decide +kernel
set_option maxRecDepth 20000 in
theorem ggX10_set_X10_takes : GoodIn wsX10_set wsX10_takes := goodIn_r _ [5, 6, 7, 8, 9, 10, 11, 12, 13, 14, 4, 15] (by decide +kernel) (by decide +kernel)
set_option maxRecDepth 20000 in
theorem gX10_set_X10_takes : GoodIn wsX10_set (va_wsS RX10 95 yX10_takes wsX10_takes) := goodIn_app (goodIn_of _ (by decide +kernel)) ggX10_set_X10_takes
theorem dX10_set_0 : decode cX10_set 0 = .ok (.iload_n 1, 1) := by decide +kernel
theorem dX10_set_1 : decode cX10_set 1 = .ok (.iload_n 2, 1) := by decide +kernel
theorem dX10_set_2 : decode cX10_set 2 = .ok (.invokestatic 95, 3) := by decide +kernel
theorem dX10_set_5 : decode cX10_set 5 = .ok (.ifCond .ne 6, 3) := by decide +kernel
theorem dX10_set_8 : decode cX10_set 8 = .ok (.bipush (-2), 2) := by decide +kernel
theorem dX10_set_10 : decode cX10_set 10 = .ok (.ireturn, 1) := by decide +kernel
theorem dX10_set_11 : decode cX10_set 11 = .ok (.aload_n 0, 1) := by decide +kernel
theorem dX10_set_12 : decode cX10_set 12 = .ok (.getfield 7, 3) := by decide +kernel
theorem dX10_set_15 : decode cX10_set 15 = .ok (.bipush 64, 2) := by decide +kernel
theorem dX10_set_17 : decode cX10_set 17 = .ok (.iload_n 1, 1) := by decide +kernel
theorem dX10_set_18 : decode cX10_set 18 = .ok (.iadd, 1) := by decide +kernel
theorem dX10_set_19 : decode cX10_set 19 = .ok (.laload, 1) := by decide +kernel
theorem dX10_set_20 : decode cX10_set 20 = .ok (.l2i, 1) := by decide +kernel
theorem dX10_set_21 : decode cX10_set 21 = .ok (.istore_n 3, 1) := by decide +kernel
theorem dX10_set_22 : decode cX10_set 22 = .ok (.aload_n 0, 1) := by decide +kernel
theorem dX10_set_23 : decode cX10_set 23 = .ok (.getfield 7, 3) := by decide +kernel
theorem dX10_set_26 : decode cX10_set 26 = .ok (.bipush 64, 2) := by decide +kernel
theorem dX10_set_28 : decode cX10_set 28 = .ok (.iload_n 1, 1) := by decide +kernel
theorem dX10_set_29 : decode cX10_set 29 = .ok (.iadd, 1) := by decide +kernel
theorem dX10_set_30 : decode cX10_set 30 = .ok (.iload_n 2, 1) := by decide +kernel
theorem dX10_set_31 : decode cX10_set 31 = .ok (.i2l, 1) := by decide +kernel
theorem dX10_set_32 : decode cX10_set 32 = .ok (.lastore, 1) := by decide +kernel
theorem dX10_set_33 : decode cX10_set 33 = .ok (.iload_n 3, 1) := by decide +kernel
theorem dX10_set_34 : decode cX10_set 34 = .ok (.ireturn, 1) := by decide +kernel
set_option maxRecDepth 20000 in
theorem ggX10_leg_X10_in : GoodIn wsX10_leg wsX10_in := goodIn_r _ [8] (by decide +kernel) (by decide +kernel)
set_option maxRecDepth 20000 in
theorem gX10_leg_X10_in : GoodIn wsX10_leg (va_wsS RX10 52 yX10_in wsX10_in) := goodIn_app (goodIn_of _ (by decide +kernel)) ggX10_leg_X10_in
set_option maxRecDepth 20000 in
theorem ggX10_leg_X10_legs : GoodIn wsX10_leg wsX10_legs := goodIn_r _ [12, 4, 13, 14, 15, 16, 17, 18, 19, 20, 21, 22] (by decide +kernel) (by decide +kernel)
set_option maxRecDepth 20000 in
theorem gX10_leg_X10_legs : GoodIn wsX10_leg (wsV RX10 103 RX10 yX10_legs wsX10_legs) := goodIn_app (goodIn_of _ (by decide +kernel)) ggX10_leg_X10_legs
theorem dX10_leg_0 : decode cX10_leg 0 = .ok (.iload_n 1, 1) := by decide +kernel
theorem dX10_leg_1 : decode cX10_leg 1 = .ok (.i2l, 1) := by decide +kernel
theorem dX10_leg_2 : decode cX10_leg 2 = .ok (.lconst 1, 1) := by decide +kernel
theorem dX10_leg_3 : decode cX10_leg 3 = .ok (.ldc2_w 99, 3) := by decide +kernel
theorem dX10_leg_6 : decode cX10_leg 6 = .ok (.invokestatic 52, 3) := by decide +kernel
theorem dX10_leg_9 : decode cX10_leg 9 = .ok (.ifCond .eq 17, 3) := by decide +kernel
theorem dX10_leg_12 : decode cX10_leg 12 = .ok (.iload_n 2, 1) := by decide +kernel
theorem dX10_leg_13 : decode cX10_leg 13 = .ok (.i2l, 1) := by decide +kernel
theorem dX10_leg_14 : decode cX10_leg 14 = .ok (.ldc2_w 101, 3) := by decide +kernel
theorem dX10_leg_17 : decode cX10_leg 17 = .ok (.ldc2_w 42, 3) := by decide +kernel
theorem dX10_leg_20 : decode cX10_leg 20 = .ok (.invokestatic 52, 3) := by decide +kernel
theorem dX10_leg_23 : decode cX10_leg 23 = .ok (.ifCond .ne 6, 3) := by decide +kernel
theorem dX10_leg_26 : decode cX10_leg 26 = .ok (.bipush (-2), 2) := by decide +kernel
theorem dX10_leg_28 : decode cX10_leg 28 = .ok (.ireturn, 1) := by decide +kernel
theorem dX10_leg_29 : decode cX10_leg 29 = .ok (.aload_n 0, 1) := by decide +kernel
theorem dX10_leg_30 : decode cX10_leg 30 = .ok (.invokevirtual 103, 3) := by decide +kernel
theorem dX10_leg_33 : decode cX10_leg 33 = .ok (.bipush 12, 2) := by decide +kernel
theorem dX10_leg_35 : decode cX10_leg 35 = .ok (.if_icmp .ne 6, 3) := by decide +kernel
theorem dX10_leg_38 : decode cX10_leg 38 = .ok (.bipush (-4), 2) := by decide +kernel
theorem dX10_leg_40 : decode cX10_leg 40 = .ok (.ireturn, 1) := by decide +kernel
theorem dX10_leg_41 : decode cX10_leg 41 = .ok (.aload_n 0, 1) := by decide +kernel
theorem dX10_leg_42 : decode cX10_leg 42 = .ok (.invokevirtual 103, 3) := by decide +kernel
theorem dX10_leg_45 : decode cX10_leg 45 = .ok (.istore_n 3, 1) := by decide +kernel
theorem dX10_leg_46 : decode cX10_leg 46 = .ok (.aload_n 0, 1) := by decide +kernel
theorem dX10_leg_47 : decode cX10_leg 47 = .ok (.getfield 7, 3) := by decide +kernel
theorem dX10_leg_50 : decode cX10_leg 50 = .ok (.bipush 40, 2) := by decide +kernel
theorem dX10_leg_52 : decode cX10_leg 52 = .ok (.iconst 2, 1) := by decide +kernel
theorem dX10_leg_53 : decode cX10_leg 53 = .ok (.iload_n 3, 1) := by decide +kernel
theorem dX10_leg_54 : decode cX10_leg 54 = .ok (.imul, 1) := by decide +kernel
theorem dX10_leg_55 : decode cX10_leg 55 = .ok (.iadd, 1) := by decide +kernel
theorem dX10_leg_56 : decode cX10_leg 56 = .ok (.iload_n 1, 1) := by decide +kernel
theorem dX10_leg_57 : decode cX10_leg 57 = .ok (.i2l, 1) := by decide +kernel
theorem dX10_leg_58 : decode cX10_leg 58 = .ok (.lastore, 1) := by decide +kernel
theorem dX10_leg_59 : decode cX10_leg 59 = .ok (.aload_n 0, 1) := by decide +kernel
theorem dX10_leg_60 : decode cX10_leg 60 = .ok (.getfield 7, 3) := by decide +kernel
theorem dX10_leg_63 : decode cX10_leg 63 = .ok (.bipush 40, 2) := by decide +kernel
theorem dX10_leg_65 : decode cX10_leg 65 = .ok (.iconst 2, 1) := by decide +kernel
theorem dX10_leg_66 : decode cX10_leg 66 = .ok (.iload_n 3, 1) := by decide +kernel
theorem dX10_leg_67 : decode cX10_leg 67 = .ok (.imul, 1) := by decide +kernel
theorem dX10_leg_68 : decode cX10_leg 68 = .ok (.iadd, 1) := by decide +kernel
theorem dX10_leg_69 : decode cX10_leg 69 = .ok (.iconst 1, 1) := by decide +kernel
theorem dX10_leg_70 : decode cX10_leg 70 = .ok (.iadd, 1) := by decide +kernel
theorem dX10_leg_71 : decode cX10_leg 71 = .ok (.iload_n 2, 1) := by decide +kernel
theorem dX10_leg_72 : decode cX10_leg 72 = .ok (.i2l, 1) := by decide +kernel
theorem dX10_leg_73 : decode cX10_leg 73 = .ok (.lastore, 1) := by decide +kernel
theorem dX10_leg_74 : decode cX10_leg 74 = .ok (.aload_n 0, 1) := by decide +kernel
theorem dX10_leg_75 : decode cX10_leg 75 = .ok (.getfield 7, 3) := by decide +kernel
theorem dX10_leg_78 : decode cX10_leg 78 = .ok (.bipush 76, 2) := by decide +kernel
theorem dX10_leg_80 : decode cX10_leg 80 = .ok (.dup2, 1) := by decide +kernel
theorem dX10_leg_81 : decode cX10_leg 81 = .ok (.laload, 1) := by decide +kernel
theorem dX10_leg_82 : decode cX10_leg 82 = .ok (.lconst 1, 1) := by decide +kernel
theorem dX10_leg_83 : decode cX10_leg 83 = .ok (.ladd, 1) := by decide +kernel
theorem dX10_leg_84 : decode cX10_leg 84 = .ok (.lastore, 1) := by decide +kernel
theorem dX10_leg_85 : decode cX10_leg 85 = .ok (.iload_n 3, 1) := by decide +kernel
theorem dX10_leg_86 : decode cX10_leg 86 = .ok (.ireturn, 1) := by decide +kernel
set_option maxRecDepth 20000 in
theorem ggX10_cut_X10_legs : GoodIn wsX10_cut wsX10_legs := goodIn_r _ [6, 1, 7, 8, 9, 10, 11, 12, 13, 14, 15, 16] (by decide +kernel) (by decide +kernel)
set_option maxRecDepth 20000 in
theorem gX10_cut_X10_legs : GoodIn wsX10_cut (wsV RX10 103 RX10 yX10_legs wsX10_legs) := goodIn_app (goodIn_of _ (by decide +kernel)) ggX10_cut_X10_legs
theorem dX10_cut_0 : decode cX10_cut 0 = .ok (.aload_n 0, 1) := by decide +kernel
theorem dX10_cut_1 : decode cX10_cut 1 = .ok (.invokevirtual 103, 3) := by decide +kernel
theorem dX10_cut_4 : decode cX10_cut 4 = .ok (.ifCond .eq 21, 3) := by decide +kernel
theorem dX10_cut_7 : decode cX10_cut 7 = .ok (.aload_n 0, 1) := by decide +kernel
theorem dX10_cut_8 : decode cX10_cut 8 = .ok (.getfield 7, 3) := by decide +kernel
theorem dX10_cut_11 : decode cX10_cut 11 = .ok (.bipush 84, 2) := by decide +kernel
theorem dX10_cut_13 : decode cX10_cut 13 = .ok (.laload, 1) := by decide +kernel
theorem dX10_cut_14 : decode cX10_cut 14 = .ok (.aload_n 0, 1) := by decide +kernel
theorem dX10_cut_15 : decode cX10_cut 15 = .ok (.invokevirtual 103, 3) := by decide +kernel
theorem dX10_cut_18 : decode cX10_cut 18 = .ok (.iconst 1, 1) := by decide +kernel
theorem dX10_cut_19 : decode cX10_cut 19 = .ok (.isub, 1) := by decide +kernel
theorem dX10_cut_20 : decode cX10_cut 20 = .ok (.i2l, 1) := by decide +kernel
theorem dX10_cut_21 : decode cX10_cut 21 = .ok (.lcmp, 1) := by decide +kernel
theorem dX10_cut_22 : decode cX10_cut 22 = .ok (.ifCond .ne 6, 3) := by decide +kernel
theorem dX10_cut_25 : decode cX10_cut 25 = .ok (.bipush (-5), 2) := by decide +kernel
theorem dX10_cut_27 : decode cX10_cut 27 = .ok (.ireturn, 1) := by decide +kernel
theorem dX10_cut_28 : decode cX10_cut 28 = .ok (.aload_n 0, 1) := by decide +kernel
theorem dX10_cut_29 : decode cX10_cut 29 = .ok (.getfield 7, 3) := by decide +kernel
theorem dX10_cut_32 : decode cX10_cut 32 = .ok (.bipush 76, 2) := by decide +kernel
theorem dX10_cut_34 : decode cX10_cut 34 = .ok (.dup2, 1) := by decide +kernel
theorem dX10_cut_35 : decode cX10_cut 35 = .ok (.laload, 1) := by decide +kernel
theorem dX10_cut_36 : decode cX10_cut 36 = .ok (.lconst 1, 1) := by decide +kernel
theorem dX10_cut_37 : decode cX10_cut 37 = .ok (.lsub, 1) := by decide +kernel
theorem dX10_cut_38 : decode cX10_cut 38 = .ok (.lastore, 1) := by decide +kernel
theorem dX10_cut_39 : decode cX10_cut 39 = .ok (.aload_n 0, 1) := by decide +kernel
theorem dX10_cut_40 : decode cX10_cut 40 = .ok (.invokevirtual 103, 3) := by decide +kernel
theorem dX10_cut_43 : decode cX10_cut 43 = .ok (.ireturn, 1) := by decide +kernel
set_option maxRecDepth 20000 in
theorem ggX10_hasNext_X10_legs : GoodIn wsX10_hasNext wsX10_legs := goodIn_r _ [6, 1, 7, 8, 9, 10, 11, 12, 13, 14, 15, 16] (by decide +kernel) (by decide +kernel)
set_option maxRecDepth 20000 in
theorem gX10_hasNext_X10_legs : GoodIn wsX10_hasNext (wsV RX10 103 RX10 yX10_legs wsX10_legs) := goodIn_app (goodIn_of _ (by decide +kernel)) ggX10_hasNext_X10_legs
theorem dX10_hasNext_0 : decode cX10_hasNext 0 = .ok (.aload_n 0, 1) := by decide +kernel
theorem dX10_hasNext_1 : decode cX10_hasNext 1 = .ok (.getfield 7, 3) := by decide +kernel
theorem dX10_hasNext_4 : decode cX10_hasNext 4 = .ok (.bipush 84, 2) := by decide +kernel
theorem dX10_hasNext_6 : decode cX10_hasNext 6 = .ok (.laload, 1) := by decide +kernel
theorem dX10_hasNext_7 : decode cX10_hasNext 7 = .ok (.lconst 1, 1) := by decide +kernel
theorem dX10_hasNext_8 : decode cX10_hasNext 8 = .ok (.ladd, 1) := by decide +kernel
theorem dX10_hasNext_9 : decode cX10_hasNext 9 = .ok (.aload_n 0, 1) := by decide +kernel
theorem dX10_hasNext_10 : decode cX10_hasNext 10 = .ok (.invokevirtual 103, 3) := by decide +kernel
theorem dX10_hasNext_13 : decode cX10_hasNext 13 = .ok (.i2l, 1) := by decide +kernel
theorem dX10_hasNext_14 : decode cX10_hasNext 14 = .ok (.lcmp, 1) := by decide +kernel
theorem dX10_hasNext_15 : decode cX10_hasNext 15 = .ok (.ifCond .ge 7, 3) := by decide +kernel
theorem dX10_hasNext_18 : decode cX10_hasNext 18 = .ok (.iconst 1, 1) := by decide +kernel
theorem dX10_hasNext_19 : decode cX10_hasNext 19 = .ok (.goto 4, 3) := by decide +kernel
theorem dX10_hasNext_22 : decode cX10_hasNext 22 = .ok (.iconst 0, 1) := by decide +kernel
theorem dX10_hasNext_23 : decode cX10_hasNext 23 = .ok (.ireturn, 1) := by decide +kernel
theorem dX10_begin_0 : decode cX10_begin 0 = .ok (.aload_n 0, 1) := by decide +kernel
theorem dX10_begin_1 : decode cX10_begin 1 = .ok (.getfield 7, 3) := by decide +kernel
theorem dX10_begin_4 : decode cX10_begin 4 = .ok (.bipush 84, 2) := by decide +kernel
theorem dX10_begin_6 : decode cX10_begin 6 = .ok (.dup2, 1) := by decide +kernel
theorem dX10_begin_7 : decode cX10_begin 7 = .ok (.laload, 1) := by decide +kernel
theorem dX10_begin_8 : decode cX10_begin 8 = .ok (.lconst 1, 1) := by decide +kernel
theorem dX10_begin_9 : decode cX10_begin 9 = .ok (.ladd, 1) := by decide +kernel
theorem dX10_begin_10 : decode cX10_begin 10 = .ok (.lastore, 1) := by decide +kernel
theorem dX10_begin_11 : decode cX10_begin 11 = .ok (.aload_n 0, 1) := by decide +kernel
theorem dX10_begin_12 : decode cX10_begin 12 = .ok (.getfield 7, 3) := by decide +kernel
theorem dX10_begin_15 : decode cX10_begin 15 = .ok (.bipush 85, 2) := by decide +kernel
theorem dX10_begin_17 : decode cX10_begin 17 = .ok (.lconst 0, 1) := by decide +kernel
theorem dX10_begin_18 : decode cX10_begin 18 = .ok (.lastore, 1) := by decide +kernel
theorem dX10_begin_19 : decode cX10_begin 19 = .ok (.aload_n 0, 1) := by decide +kernel
theorem dX10_begin_20 : decode cX10_begin 20 = .ok (.getfield 7, 3) := by decide +kernel
theorem dX10_begin_23 : decode cX10_begin 23 = .ok (.bipush 86, 2) := by decide +kernel
theorem dX10_begin_25 : decode cX10_begin 25 = .ok (.lconst 1, 1) := by decide +kernel
theorem dX10_begin_26 : decode cX10_begin 26 = .ok (.lastore, 1) := by decide +kernel
theorem dX10_begin_27 : decode cX10_begin 27 = .ok (.return_, 1) := by decide +kernel
set_option maxRecDepth 20000 in
theorem ggX10_depart_X10_isAway : GoodIn wsX10_depart wsX10_isAway := goodIn_r _ [6, 1, 23, 24, 25, 26, 27, 28, 29, 30, 31, 32] (by decide +kernel) (by decide +kernel)
set_option maxRecDepth 20000 in
theorem gX10_depart_X10_isAway : GoodIn wsX10_depart (wsV RX10 106 RX10 yX10_isAway wsX10_isAway) := goodIn_app (goodIn_of _ (by decide +kernel)) ggX10_depart_X10_isAway
set_option maxRecDepth 20000 in
theorem ggX10_depart_X10_isDoorOpen : GoodIn wsX10_depart wsX10_isDoorOpen := goodIn_r _ [10, 1, 23, 24, 25, 26, 27, 28, 29, 30, 31, 32] (by decide +kernel) (by decide +kernel)
set_option maxRecDepth 20000 in
theorem gX10_depart_X10_isDoorOpen : GoodIn wsX10_depart (wsV RX10 62 RX10 yX10_isDoorOpen wsX10_isDoorOpen) := goodIn_app (goodIn_of _ (by decide +kernel)) ggX10_depart_X10_isDoorOpen
set_option maxRecDepth 20000 in
theorem ggX10_depart_X10_hasNext : GoodIn wsX10_depart wsX10_hasNext := goodIn_r _ [14, 1, 15, 16, 17, 5, 18, 23, 24, 25, 26, 27, 28, 29, 30, 31, 32] (by decide +kernel) (by decide +kernel)
set_option maxRecDepth 20000 in
theorem gX10_depart_X10_hasNext : GoodIn wsX10_depart (wsV RX10 109 RX10 yX10_hasNext wsX10_hasNext) := goodIn_app (goodIn_of _ (by decide +kernel)) ggX10_depart_X10_hasNext
set_option maxRecDepth 20000 in
theorem ggX10_depart_X10_begin : GoodIn wsX10_depart wsX10_begin := goodIn_r _ [22, 1, 23, 24, 25, 26, 27, 28, 29, 30, 31, 32] (by decide +kernel) (by decide +kernel)
set_option maxRecDepth 20000 in
theorem gX10_depart_X10_begin : GoodIn wsX10_depart (wsV RX10 112 RX10 yX10_begin wsX10_begin) := goodIn_app (goodIn_of _ (by decide +kernel)) ggX10_depart_X10_begin
theorem dX10_depart_0 : decode cX10_depart 0 = .ok (.aload_n 0, 1) := by decide +kernel
theorem dX10_depart_1 : decode cX10_depart 1 = .ok (.invokevirtual 106, 3) := by decide +kernel
theorem dX10_depart_4 : decode cX10_depart 4 = .ok (.ifCond .ne 17, 3) := by decide +kernel
theorem dX10_depart_7 : decode cX10_depart 7 = .ok (.aload_n 0, 1) := by decide +kernel
theorem dX10_depart_8 : decode cX10_depart 8 = .ok (.invokevirtual 62, 3) := by decide +kernel
theorem dX10_depart_11 : decode cX10_depart 11 = .ok (.ifCond .ne 10, 3) := by decide +kernel
theorem dX10_depart_14 : decode cX10_depart 14 = .ok (.aload_n 0, 1) := by decide +kernel
theorem dX10_depart_15 : decode cX10_depart 15 = .ok (.invokevirtual 109, 3) := by decide +kernel
theorem dX10_depart_18 : decode cX10_depart 18 = .ok (.ifCond .ne 6, 3) := by decide +kernel
theorem dX10_depart_21 : decode cX10_depart 21 = .ok (.bipush (-5), 2) := by decide +kernel
theorem dX10_depart_23 : decode cX10_depart 23 = .ok (.ireturn, 1) := by decide +kernel
theorem dX10_depart_24 : decode cX10_depart 24 = .ok (.aload_n 0, 1) := by decide +kernel
theorem dX10_depart_25 : decode cX10_depart 25 = .ok (.invokevirtual 112, 3) := by decide +kernel
theorem dX10_depart_28 : decode cX10_depart 28 = .ok (.aload_n 0, 1) := by decide +kernel
theorem dX10_depart_29 : decode cX10_depart 29 = .ok (.getfield 7, 3) := by decide +kernel
theorem dX10_depart_32 : decode cX10_depart 32 = .ok (.bipush 84, 2) := by decide +kernel
theorem dX10_depart_34 : decode cX10_depart 34 = .ok (.laload, 1) := by decide +kernel
theorem dX10_depart_35 : decode cX10_depart 35 = .ok (.l2i, 1) := by decide +kernel
theorem dX10_depart_36 : decode cX10_depart 36 = .ok (.ireturn, 1) := by decide +kernel
theorem dX10_outside_0 : decode cX10_outside 0 = .ok (.aload_n 0, 1) := by decide +kernel
theorem dX10_outside_1 : decode cX10_outside 1 = .ok (.getfield 7, 3) := by decide +kernel
theorem dX10_outside_4 : decode cX10_outside 4 = .ok (.bipush 84, 2) := by decide +kernel
theorem dX10_outside_6 : decode cX10_outside 6 = .ok (.laload, 1) := by decide +kernel
theorem dX10_outside_7 : decode cX10_outside 7 = .ok (.lconst 0, 1) := by decide +kernel
theorem dX10_outside_8 : decode cX10_outside 8 = .ok (.lcmp, 1) := by decide +kernel
theorem dX10_outside_9 : decode cX10_outside 9 = .ok (.ifCond .ge 9, 3) := by decide +kernel
theorem dX10_outside_12 : decode cX10_outside 12 = .ok (.ldc2_w 30, 3) := by decide +kernel
theorem dX10_outside_15 : decode cX10_outside 15 = .ok (.goto 23, 3) := by decide +kernel
theorem dX10_outside_18 : decode cX10_outside 18 = .ok (.aload_n 0, 1) := by decide +kernel
theorem dX10_outside_19 : decode cX10_outside 19 = .ok (.getfield 7, 3) := by decide +kernel
theorem dX10_outside_22 : decode cX10_outside 22 = .ok (.bipush 40, 2) := by decide +kernel
theorem dX10_outside_24 : decode cX10_outside 24 = .ok (.iconst 2, 1) := by decide +kernel
theorem dX10_outside_25 : decode cX10_outside 25 = .ok (.aload_n 0, 1) := by decide +kernel
theorem dX10_outside_26 : decode cX10_outside 26 = .ok (.getfield 7, 3) := by decide +kernel
theorem dX10_outside_29 : decode cX10_outside 29 = .ok (.bipush 84, 2) := by decide +kernel
theorem dX10_outside_31 : decode cX10_outside 31 = .ok (.laload, 1) := by decide +kernel
theorem dX10_outside_32 : decode cX10_outside 32 = .ok (.l2i, 1) := by decide +kernel
theorem dX10_outside_33 : decode cX10_outside 33 = .ok (.imul, 1) := by decide +kernel
theorem dX10_outside_34 : decode cX10_outside 34 = .ok (.iadd, 1) := by decide +kernel
theorem dX10_outside_35 : decode cX10_outside 35 = .ok (.iconst 1, 1) := by decide +kernel
theorem dX10_outside_36 : decode cX10_outside 36 = .ok (.iadd, 1) := by decide +kernel
theorem dX10_outside_37 : decode cX10_outside 37 = .ok (.laload, 1) := by decide +kernel
theorem dX10_outside_38 : decode cX10_outside 38 = .ok (.lreturn, 1) := by decide +kernel
set_option maxRecDepth 20000 in
theorem ggX10_goesOff_X10_of : GoodIn wsX10_goesOff wsX10_of := goodIn_r _ [8, 1, 9, 10, 11, 12, 13, 14, 15, 16, 17, 18] (by decide +kernel) (by decide +kernel)
set_option maxRecDepth 20000 in
theorem gX10_goesOff_X10_of : GoodIn wsX10_goesOff (wsV RX10 74 RX10 yX10_of wsX10_of) := goodIn_app (goodIn_of _ (by decide +kernel)) ggX10_goesOff_X10_of
theorem dX10_goesOff_0 : decode cX10_goesOff 0 = .ok (.aload_n 0, 1) := by decide +kernel
theorem dX10_goesOff_1 : decode cX10_goesOff 1 = .ok (.getfield 7, 3) := by decide +kernel
theorem dX10_goesOff_4 : decode cX10_goesOff 4 = .ok (.bipush 78, 2) := by decide +kernel
theorem dX10_goesOff_6 : decode cX10_goesOff 6 = .ok (.laload, 1) := by decide +kernel
theorem dX10_goesOff_7 : decode cX10_goesOff 7 = .ok (.ldc2_w 115, 3) := by decide +kernel
theorem dX10_goesOff_10 : decode cX10_goesOff 10 = .ok (.ladd, 1) := by decide +kernel
theorem dX10_goesOff_11 : decode cX10_goesOff 11 = .ok (.aload_n 0, 1) := by decide +kernel
theorem dX10_goesOff_12 : decode cX10_goesOff 12 = .ok (.getfield 7, 3) := by decide +kernel
theorem dX10_goesOff_15 : decode cX10_goesOff 15 = .ok (.bipush 64, 2) := by decide +kernel
theorem dX10_goesOff_17 : decode cX10_goesOff 17 = .ok (.laload, 1) := by decide +kernel
theorem dX10_goesOff_18 : decode cX10_goesOff 18 = .ok (.lmul, 1) := by decide +kernel
theorem dX10_goesOff_19 : decode cX10_goesOff 19 = .ok (.ldc2_w 34, 3) := by decide +kernel
theorem dX10_goesOff_22 : decode cX10_goesOff 22 = .ok (.aload_n 0, 1) := by decide +kernel
theorem dX10_goesOff_23 : decode cX10_goesOff 23 = .ok (.iload_n 1, 1) := by decide +kernel
theorem dX10_goesOff_24 : decode cX10_goesOff 24 = .ok (.iconst 0, 1) := by decide +kernel
theorem dX10_goesOff_25 : decode cX10_goesOff 25 = .ok (.invokevirtual 74, 3) := by decide +kernel
theorem dX10_goesOff_28 : decode cX10_goesOff 28 = .ok (.lmul, 1) := by decide +kernel
theorem dX10_goesOff_29 : decode cX10_goesOff 29 = .ok (.ldiv, 1) := by decide +kernel
theorem dX10_goesOff_30 : decode cX10_goesOff 30 = .ok (.lstore_n 2, 1) := by decide +kernel
theorem dX10_goesOff_31 : decode cX10_goesOff 31 = .ok (.lload_n 2, 1) := by decide +kernel
theorem dX10_goesOff_32 : decode cX10_goesOff 32 = .ok (.lconst 0, 1) := by decide +kernel
theorem dX10_goesOff_33 : decode cX10_goesOff 33 = .ok (.lcmp, 1) := by decide +kernel
theorem dX10_goesOff_34 : decode cX10_goesOff 34 = .ok (.ifCond .ge 7, 3) := by decide +kernel
theorem dX10_goesOff_37 : decode cX10_goesOff 37 = .ok (.lconst 0, 1) := by decide +kernel
theorem dX10_goesOff_38 : decode cX10_goesOff 38 = .ok (.goto 24, 3) := by decide +kernel
theorem dX10_goesOff_41 : decode cX10_goesOff 41 = .ok (.lload_n 2, 1) := by decide +kernel
theorem dX10_goesOff_42 : decode cX10_goesOff 42 = .ok (.aload_n 0, 1) := by decide +kernel
theorem dX10_goesOff_43 : decode cX10_goesOff 43 = .ok (.iload_n 1, 1) := by decide +kernel
theorem dX10_goesOff_44 : decode cX10_goesOff 44 = .ok (.iconst 2, 1) := by decide +kernel
theorem dX10_goesOff_45 : decode cX10_goesOff 45 = .ok (.invokevirtual 74, 3) := by decide +kernel
theorem dX10_goesOff_48 : decode cX10_goesOff 48 = .ok (.lcmp, 1) := by decide +kernel
theorem dX10_goesOff_49 : decode cX10_goesOff 49 = .ok (.ifCond .ge 7, 3) := by decide +kernel
theorem dX10_goesOff_52 : decode cX10_goesOff 52 = .ok (.lload_n 2, 1) := by decide +kernel
theorem dX10_goesOff_53 : decode cX10_goesOff 53 = .ok (.goto 9, 3) := by decide +kernel
theorem dX10_goesOff_56 : decode cX10_goesOff 56 = .ok (.aload_n 0, 1) := by decide +kernel
theorem dX10_goesOff_57 : decode cX10_goesOff 57 = .ok (.iload_n 1, 1) := by decide +kernel
theorem dX10_goesOff_58 : decode cX10_goesOff 58 = .ok (.iconst 2, 1) := by decide +kernel
theorem dX10_goesOff_59 : decode cX10_goesOff 59 = .ok (.invokevirtual 74, 3) := by decide +kernel
theorem dX10_goesOff_62 : decode cX10_goesOff 62 = .ok (.lreturn, 1) := by decide +kernel
set_option maxRecDepth 20000 in
theorem ggX10_goOff_X10_boxes : GoodIn wsX10_goOff wsX10_boxes := goodIn_r _ [6, 1, 21, 22, 23, 24, 25, 26, 27, 28, 29, 30] (by decide +kernel) (by decide +kernel)
set_option maxRecDepth 20000 in
theorem gX10_goOff_X10_boxes : GoodIn wsX10_goOff (wsV RX10 48 RX10 yX10_boxes wsX10_boxes) := goodIn_app (goodIn_of _ (by decide +kernel)) ggX10_goOff_X10_boxes
set_option maxRecDepth 20000 in
theorem ggX10_goOff_X10_goesOff : GoodIn wsX10_goOff wsX10_goesOff := goodIn_r _ [10, 1, 11, 12, 13, 14, 15, 5, 16, 21, 22, 23, 24, 25, 26, 27, 28, 29, 30] (by decide +kernel) (by decide +kernel)
set_option maxRecDepth 20000 in
theorem gX10_goOff_X10_goesOff : GoodIn wsX10_goOff (wsV RX10 117 RX10 yX10_goesOff wsX10_goesOff) := goodIn_app (goodIn_of _ (by decide +kernel)) ggX10_goOff_X10_goesOff
set_option maxRecDepth 20000 in
theorem ggX10_goOff_X10_of : GoodIn wsX10_goOff wsX10_of := goodIn_r _ [16, 1, 21, 22, 23, 24, 25, 26, 27, 28, 29, 30] (by decide +kernel) (by decide +kernel)
set_option maxRecDepth 20000 in
theorem gX10_goOff_X10_of : GoodIn wsX10_goOff (wsV RX10 74 RX10 yX10_of wsX10_of) := goodIn_app (goodIn_of _ (by decide +kernel)) ggX10_goOff_X10_of
set_option maxRecDepth 20000 in
theorem ggX10_goOff_X10_lay : GoodIn wsX10_goOff wsX10_lay := goodIn_r _ [20, 1, 21, 22, 23, 24, 25, 26, 27, 28, 29, 30] (by decide +kernel) (by decide +kernel)
set_option maxRecDepth 20000 in
theorem gX10_goOff_X10_lay : GoodIn wsX10_goOff (wsV RX10 66 RX10 yX10_lay wsX10_lay) := goodIn_app (goodIn_of _ (by decide +kernel)) ggX10_goOff_X10_lay
theorem dX10_goOff_0 : decode cX10_goOff 0 = .ok (.lconst 0, 1) := by decide +kernel
theorem dX10_goOff_1 : decode cX10_goOff 1 = .ok (.lstore_n 1, 1) := by decide +kernel
theorem dX10_goOff_2 : decode cX10_goOff 2 = .ok (.iconst 0, 1) := by decide +kernel
theorem dX10_goOff_3 : decode cX10_goOff 3 = .ok (.istore_n 3, 1) := by decide +kernel
theorem dX10_goOff_4 : decode cX10_goOff 4 = .ok (.iload_n 3, 1) := by decide +kernel
theorem dX10_goOff_5 : decode cX10_goOff 5 = .ok (.aload_n 0, 1) := by decide +kernel
theorem dX10_goOff_6 : decode cX10_goOff 6 = .ok (.invokevirtual 48, 3) := by decide +kernel
theorem dX10_goOff_9 : decode cX10_goOff 9 = .ok (.if_icmp .ge 66, 3) := by decide +kernel
theorem dX10_goOff_12 : decode cX10_goOff 12 = .ok (.aload_n 0, 1) := by decide +kernel
theorem dX10_goOff_13 : decode cX10_goOff 13 = .ok (.iload_n 3, 1) := by decide +kernel
theorem dX10_goOff_14 : decode cX10_goOff 14 = .ok (.invokevirtual 117, 3) := by decide +kernel
theorem dX10_goOff_17 : decode cX10_goOff 17 = .ok (.lstore 4, 2) := by decide +kernel
theorem dX10_goOff_19 : decode cX10_goOff 19 = .ok (.aload_n 0, 1) := by decide +kernel
theorem dX10_goOff_20 : decode cX10_goOff 20 = .ok (.iload_n 3, 1) := by decide +kernel
theorem dX10_goOff_21 : decode cX10_goOff 21 = .ok (.iconst 3, 1) := by decide +kernel
theorem dX10_goOff_22 : decode cX10_goOff 22 = .ok (.invokevirtual 74, 3) := by decide +kernel
theorem dX10_goOff_25 : decode cX10_goOff 25 = .ok (.lload 4, 2) := by decide +kernel
theorem dX10_goOff_27 : decode cX10_goOff 27 = .ok (.lsub, 1) := by decide +kernel
theorem dX10_goOff_28 : decode cX10_goOff 28 = .ok (.lstore 6, 2) := by decide +kernel
theorem dX10_goOff_30 : decode cX10_goOff 30 = .ok (.aload_n 0, 1) := by decide +kernel
theorem dX10_goOff_31 : decode cX10_goOff 31 = .ok (.iload_n 3, 1) := by decide +kernel
theorem dX10_goOff_32 : decode cX10_goOff 32 = .ok (.iconst 2, 1) := by decide +kernel
theorem dX10_goOff_33 : decode cX10_goOff 33 = .ok (.aload_n 0, 1) := by decide +kernel
theorem dX10_goOff_34 : decode cX10_goOff 34 = .ok (.iload_n 3, 1) := by decide +kernel
theorem dX10_goOff_35 : decode cX10_goOff 35 = .ok (.iconst 2, 1) := by decide +kernel
theorem dX10_goOff_36 : decode cX10_goOff 36 = .ok (.invokevirtual 74, 3) := by decide +kernel
theorem dX10_goOff_39 : decode cX10_goOff 39 = .ok (.lload 4, 2) := by decide +kernel
theorem dX10_goOff_41 : decode cX10_goOff 41 = .ok (.lsub, 1) := by decide +kernel
theorem dX10_goOff_42 : decode cX10_goOff 42 = .ok (.invokevirtual 66, 3) := by decide +kernel
theorem dX10_goOff_45 : decode cX10_goOff 45 = .ok (.aload_n 0, 1) := by decide +kernel
theorem dX10_goOff_46 : decode cX10_goOff 46 = .ok (.iload_n 3, 1) := by decide +kernel
theorem dX10_goOff_47 : decode cX10_goOff 47 = .ok (.iconst 3, 1) := by decide +kernel
theorem dX10_goOff_48 : decode cX10_goOff 48 = .ok (.lload 6, 2) := by decide +kernel
theorem dX10_goOff_50 : decode cX10_goOff 50 = .ok (.lconst 0, 1) := by decide +kernel
theorem dX10_goOff_51 : decode cX10_goOff 51 = .ok (.lcmp, 1) := by decide +kernel
theorem dX10_goOff_52 : decode cX10_goOff 52 = .ok (.ifCond .ge 7, 3) := by decide +kernel
theorem dX10_goOff_55 : decode cX10_goOff 55 = .ok (.lconst 0, 1) := by decide +kernel
theorem dX10_goOff_56 : decode cX10_goOff 56 = .ok (.goto 5, 3) := by decide +kernel
theorem dX10_goOff_59 : decode cX10_goOff 59 = .ok (.lload 6, 2) := by decide +kernel
theorem dX10_goOff_61 : decode cX10_goOff 61 = .ok (.invokevirtual 66, 3) := by decide +kernel
theorem dX10_goOff_64 : decode cX10_goOff 64 = .ok (.lload_n 1, 1) := by decide +kernel
theorem dX10_goOff_65 : decode cX10_goOff 65 = .ok (.lload 4, 2) := by decide +kernel
theorem dX10_goOff_67 : decode cX10_goOff 67 = .ok (.ladd, 1) := by decide +kernel
theorem dX10_goOff_68 : decode cX10_goOff 68 = .ok (.lstore_n 1, 1) := by decide +kernel
theorem dX10_goOff_69 : decode cX10_goOff 69 = .ok (.iinc 3 1, 3) := by decide +kernel
theorem dX10_goOff_72 : decode cX10_goOff 72 = .ok (.goto (-68), 3) := by decide +kernel
theorem dX10_goOff_75 : decode cX10_goOff 75 = .ok (.aload_n 0, 1) := by decide +kernel
theorem dX10_goOff_76 : decode cX10_goOff 76 = .ok (.getfield 7, 3) := by decide +kernel
theorem dX10_goOff_79 : decode cX10_goOff 79 = .ok (.bipush 79, 2) := by decide +kernel
theorem dX10_goOff_81 : decode cX10_goOff 81 = .ok (.dup2, 1) := by decide +kernel
theorem dX10_goOff_82 : decode cX10_goOff 82 = .ok (.laload, 1) := by decide +kernel
theorem dX10_goOff_83 : decode cX10_goOff 83 = .ok (.lload_n 1, 1) := by decide +kernel
theorem dX10_goOff_84 : decode cX10_goOff 84 = .ok (.ladd, 1) := by decide +kernel
theorem dX10_goOff_85 : decode cX10_goOff 85 = .ok (.lastore, 1) := by decide +kernel
theorem dX10_goOff_86 : decode cX10_goOff 86 = .ok (.aload_n 0, 1) := by decide +kernel
theorem dX10_goOff_87 : decode cX10_goOff 87 = .ok (.getfield 7, 3) := by decide +kernel
theorem dX10_goOff_90 : decode cX10_goOff 90 = .ok (.bipush 90, 2) := by decide +kernel
theorem dX10_goOff_92 : decode cX10_goOff 92 = .ok (.dup2, 1) := by decide +kernel
theorem dX10_goOff_93 : decode cX10_goOff 93 = .ok (.laload, 1) := by decide +kernel
theorem dX10_goOff_94 : decode cX10_goOff 94 = .ok (.lload_n 1, 1) := by decide +kernel
theorem dX10_goOff_95 : decode cX10_goOff 95 = .ok (.ladd, 1) := by decide +kernel
theorem dX10_goOff_96 : decode cX10_goOff 96 = .ok (.lastore, 1) := by decide +kernel
theorem dX10_goOff_97 : decode cX10_goOff 97 = .ok (.lload_n 1, 1) := by decide +kernel
theorem dX10_goOff_98 : decode cX10_goOff 98 = .ok (.lreturn, 1) := by decide +kernel
set_option maxRecDepth 20000 in
theorem ggX10_warm_X10_outside : GoodIn wsX10_warm wsX10_outside := goodIn_r _ [8, 1, 9, 14, 15, 16, 17, 18, 19, 20, 21, 22, 23] (by decide +kernel) (by decide +kernel)
set_option maxRecDepth 20000 in
theorem gX10_warm_X10_outside : GoodIn wsX10_warm (wsV RX10 121 RX10 yX10_outside wsX10_outside) := goodIn_app (goodIn_of _ (by decide +kernel)) ggX10_warm_X10_outside
set_option maxRecDepth 20000 in
theorem ggX10_warm_X10_isDoorOpen : GoodIn wsX10_warm wsX10_isDoorOpen := goodIn_r _ [13, 1, 14, 15, 16, 17, 18, 19, 20, 21, 22, 23] (by decide +kernel) (by decide +kernel)
set_option maxRecDepth 20000 in
theorem gX10_warm_X10_isDoorOpen : GoodIn wsX10_warm (wsV RX10 62 RX10 yX10_isDoorOpen wsX10_isDoorOpen) := goodIn_app (goodIn_of _ (by decide +kernel)) ggX10_warm_X10_isDoorOpen
theorem dX10_warm_0 : decode cX10_warm 0 = .ok (.aload_n 0, 1) := by decide +kernel
theorem dX10_warm_1 : decode cX10_warm 1 = .ok (.invokevirtual 121, 3) := by decide +kernel
theorem dX10_warm_4 : decode cX10_warm 4 = .ok (.lstore_n 3, 1) := by decide +kernel
theorem dX10_warm_5 : decode cX10_warm 5 = .ok (.aload_n 0, 1) := by decide +kernel
theorem dX10_warm_6 : decode cX10_warm 6 = .ok (.getfield 7, 3) := by decide +kernel
theorem dX10_warm_9 : decode cX10_warm 9 = .ok (.bipush 78, 2) := by decide +kernel
theorem dX10_warm_11 : decode cX10_warm 11 = .ok (.dup2, 1) := by decide +kernel
theorem dX10_warm_12 : decode cX10_warm 12 = .ok (.laload, 1) := by decide +kernel
theorem dX10_warm_13 : decode cX10_warm 13 = .ok (.lload_n 3, 1) := by decide +kernel
theorem dX10_warm_14 : decode cX10_warm 14 = .ok (.aload_n 0, 1) := by decide +kernel
theorem dX10_warm_15 : decode cX10_warm 15 = .ok (.getfield 7, 3) := by decide +kernel
theorem dX10_warm_18 : decode cX10_warm 18 = .ok (.bipush 78, 2) := by decide +kernel
theorem dX10_warm_20 : decode cX10_warm 20 = .ok (.laload, 1) := by decide +kernel
theorem dX10_warm_21 : decode cX10_warm 21 = .ok (.lsub, 1) := by decide +kernel
theorem dX10_warm_22 : decode cX10_warm 22 = .ok (.aload_n 0, 1) := by decide +kernel
theorem dX10_warm_23 : decode cX10_warm 23 = .ok (.getfield 7, 3) := by decide +kernel
theorem dX10_warm_26 : decode cX10_warm 26 = .ok (.bipush 73, 2) := by decide +kernel
theorem dX10_warm_28 : decode cX10_warm 28 = .ok (.laload, 1) := by decide +kernel
theorem dX10_warm_29 : decode cX10_warm 29 = .ok (.ldiv, 1) := by decide +kernel
theorem dX10_warm_30 : decode cX10_warm 30 = .ok (.ladd, 1) := by decide +kernel
theorem dX10_warm_31 : decode cX10_warm 31 = .ok (.lastore, 1) := by decide +kernel
theorem dX10_warm_32 : decode cX10_warm 32 = .ok (.aload_n 0, 1) := by decide +kernel
theorem dX10_warm_33 : decode cX10_warm 33 = .ok (.getfield 7, 3) := by decide +kernel
theorem dX10_warm_36 : decode cX10_warm 36 = .ok (.bipush 81, 2) := by decide +kernel
theorem dX10_warm_38 : decode cX10_warm 38 = .ok (.laload, 1) := by decide +kernel
theorem dX10_warm_39 : decode cX10_warm 39 = .ok (.lconst 1, 1) := by decide +kernel
theorem dX10_warm_40 : decode cX10_warm 40 = .ok (.lcmp, 1) := by decide +kernel
theorem dX10_warm_41 : decode cX10_warm 41 = .ok (.ifCond .ne 30, 3) := by decide +kernel
theorem dX10_warm_44 : decode cX10_warm 44 = .ok (.aload_n 0, 1) := by decide +kernel
theorem dX10_warm_45 : decode cX10_warm 45 = .ok (.getfield 7, 3) := by decide +kernel
theorem dX10_warm_48 : decode cX10_warm 48 = .ok (.bipush 78, 2) := by decide +kernel
theorem dX10_warm_50 : decode cX10_warm 50 = .ok (.dup2, 1) := by decide +kernel
theorem dX10_warm_51 : decode cX10_warm 51 = .ok (.laload, 1) := by decide +kernel
theorem dX10_warm_52 : decode cX10_warm 52 = .ok (.lload_n 3, 1) := by decide +kernel
theorem dX10_warm_53 : decode cX10_warm 53 = .ok (.aload_n 0, 1) := by decide +kernel
theorem dX10_warm_54 : decode cX10_warm 54 = .ok (.getfield 7, 3) := by decide +kernel
theorem dX10_warm_57 : decode cX10_warm 57 = .ok (.bipush 78, 2) := by decide +kernel
theorem dX10_warm_59 : decode cX10_warm 59 = .ok (.laload, 1) := by decide +kernel
theorem dX10_warm_60 : decode cX10_warm 60 = .ok (.lsub, 1) := by decide +kernel
theorem dX10_warm_61 : decode cX10_warm 61 = .ok (.aload_n 0, 1) := by decide +kernel
theorem dX10_warm_62 : decode cX10_warm 62 = .ok (.getfield 7, 3) := by decide +kernel
theorem dX10_warm_65 : decode cX10_warm 65 = .ok (.bipush 73, 2) := by decide +kernel
theorem dX10_warm_67 : decode cX10_warm 67 = .ok (.laload, 1) := by decide +kernel
theorem dX10_warm_68 : decode cX10_warm 68 = .ok (.ldiv, 1) := by decide +kernel
theorem dX10_warm_69 : decode cX10_warm 69 = .ok (.ladd, 1) := by decide +kernel
theorem dX10_warm_70 : decode cX10_warm 70 = .ok (.lastore, 1) := by decide +kernel
theorem dX10_warm_71 : decode cX10_warm 71 = .ok (.aload_n 0, 1) := by decide +kernel
theorem dX10_warm_72 : decode cX10_warm 72 = .ok (.invokevirtual 62, 3) := by decide +kernel
theorem dX10_warm_75 : decode cX10_warm 75 = .ok (.ifCond .eq 26, 3) := by decide +kernel
theorem dX10_warm_78 : decode cX10_warm 78 = .ok (.aload_n 0, 1) := by decide +kernel
theorem dX10_warm_79 : decode cX10_warm 79 = .ok (.getfield 7, 3) := by decide +kernel
theorem dX10_warm_82 : decode cX10_warm 82 = .ok (.bipush 78, 2) := by decide +kernel
theorem dX10_warm_84 : decode cX10_warm 84 = .ok (.dup2, 1) := by decide +kernel
theorem dX10_warm_85 : decode cX10_warm 85 = .ok (.laload, 1) := by decide +kernel
theorem dX10_warm_86 : decode cX10_warm 86 = .ok (.lload_n 3, 1) := by decide +kernel
theorem dX10_warm_87 : decode cX10_warm 87 = .ok (.aload_n 0, 1) := by decide +kernel
theorem dX10_warm_88 : decode cX10_warm 88 = .ok (.getfield 7, 3) := by decide +kernel
theorem dX10_warm_91 : decode cX10_warm 91 = .ok (.bipush 78, 2) := by decide +kernel
theorem dX10_warm_93 : decode cX10_warm 93 = .ok (.laload, 1) := by decide +kernel
theorem dX10_warm_94 : decode cX10_warm 94 = .ok (.lsub, 1) := by decide +kernel
theorem dX10_warm_95 : decode cX10_warm 95 = .ok (.ldc2_w 125, 3) := by decide +kernel
theorem dX10_warm_98 : decode cX10_warm 98 = .ok (.ldiv, 1) := by decide +kernel
theorem dX10_warm_99 : decode cX10_warm 99 = .ok (.ladd, 1) := by decide +kernel
theorem dX10_warm_100 : decode cX10_warm 100 = .ok (.lastore, 1) := by decide +kernel
theorem dX10_warm_101 : decode cX10_warm 101 = .ok (.aload_n 0, 1) := by decide +kernel
theorem dX10_warm_102 : decode cX10_warm 102 = .ok (.getfield 7, 3) := by decide +kernel
theorem dX10_warm_105 : decode cX10_warm 105 = .ok (.bipush 78, 2) := by decide +kernel
theorem dX10_warm_107 : decode cX10_warm 107 = .ok (.laload, 1) := by decide +kernel
theorem dX10_warm_108 : decode cX10_warm 108 = .ok (.ldc2_w 127, 3) := by decide +kernel
theorem dX10_warm_111 : decode cX10_warm 111 = .ok (.lcmp, 1) := by decide +kernel
theorem dX10_warm_112 : decode cX10_warm 112 = .ok (.ifCond .le 46, 3) := by decide +kernel
theorem dX10_warm_115 : decode cX10_warm 115 = .ok (.aload_n 0, 1) := by decide +kernel
theorem dX10_warm_116 : decode cX10_warm 116 = .ok (.getfield 7, 3) := by decide +kernel
theorem dX10_warm_119 : decode cX10_warm 119 = .ok (.bipush 78, 2) := by decide +kernel
theorem dX10_warm_121 : decode cX10_warm 121 = .ok (.laload, 1) := by decide +kernel
theorem dX10_warm_122 : decode cX10_warm 122 = .ok (.lload_n 1, 1) := by decide +kernel
theorem dX10_warm_123 : decode cX10_warm 123 = .ok (.aload_n 0, 1) := by decide +kernel
theorem dX10_warm_124 : decode cX10_warm 124 = .ok (.getfield 7, 3) := by decide +kernel
theorem dX10_warm_127 : decode cX10_warm 127 = .ok (.bipush 74, 2) := by decide +kernel
theorem dX10_warm_129 : decode cX10_warm 129 = .ok (.laload, 1) := by decide +kernel
theorem dX10_warm_130 : decode cX10_warm 130 = .ok (.ldiv, 1) := by decide +kernel
theorem dX10_warm_131 : decode cX10_warm 131 = .ok (.lsub, 1) := by decide +kernel
theorem dX10_warm_132 : decode cX10_warm 132 = .ok (.lstore 5, 2) := by decide +kernel
theorem dX10_warm_134 : decode cX10_warm 134 = .ok (.aload_n 0, 1) := by decide +kernel
theorem dX10_warm_135 : decode cX10_warm 135 = .ok (.getfield 7, 3) := by decide +kernel
theorem dX10_warm_138 : decode cX10_warm 138 = .ok (.bipush 78, 2) := by decide +kernel
theorem dX10_warm_140 : decode cX10_warm 140 = .ok (.lload 5, 2) := by decide +kernel
theorem dX10_warm_142 : decode cX10_warm 142 = .ok (.ldc2_w 127, 3) := by decide +kernel
theorem dX10_warm_145 : decode cX10_warm 145 = .ok (.lcmp, 1) := by decide +kernel
theorem dX10_warm_146 : decode cX10_warm 146 = .ok (.ifCond .ge 9, 3) := by decide +kernel
theorem dX10_warm_149 : decode cX10_warm 149 = .ok (.ldc2_w 127, 3) := by decide +kernel
theorem dX10_warm_152 : decode cX10_warm 152 = .ok (.goto 5, 3) := by decide +kernel
theorem dX10_warm_155 : decode cX10_warm 155 = .ok (.lload 5, 2) := by decide +kernel
theorem dX10_warm_157 : decode cX10_warm 157 = .ok (.lastore, 1) := by decide +kernel
theorem dX10_warm_158 : decode cX10_warm 158 = .ok (.return_, 1) := by decide +kernel
set_option maxRecDepth 20000 in
theorem ggX10_blow_X10_isDoorOpen : GoodIn wsX10_blow wsX10_isDoorOpen := goodIn_r _ [7, 1, 8, 9, 10, 11, 12, 13, 14, 15, 16, 17] (by decide +kernel) (by decide +kernel)
set_option maxRecDepth 20000 in
theorem gX10_blow_X10_isDoorOpen : GoodIn wsX10_blow (wsV RX10 62 RX10 yX10_isDoorOpen wsX10_isDoorOpen) := goodIn_app (goodIn_of _ (by decide +kernel)) ggX10_blow_X10_isDoorOpen
theorem dX10_blow_0 : decode cX10_blow 0 = .ok (.aload_n 0, 1) := by decide +kernel
theorem dX10_blow_1 : decode cX10_blow 1 = .ok (.getfield 7, 3) := by decide +kernel
theorem dX10_blow_4 : decode cX10_blow 4 = .ok (.bipush 79, 2) := by decide +kernel
theorem dX10_blow_6 : decode cX10_blow 6 = .ok (.dup2, 1) := by decide +kernel
theorem dX10_blow_7 : decode cX10_blow 7 = .ok (.laload, 1) := by decide +kernel
theorem dX10_blow_8 : decode cX10_blow 8 = .ok (.aload_n 0, 1) := by decide +kernel
theorem dX10_blow_9 : decode cX10_blow 9 = .ok (.getfield 7, 3) := by decide +kernel
theorem dX10_blow_12 : decode cX10_blow 12 = .ok (.bipush 79, 2) := by decide +kernel
theorem dX10_blow_14 : decode cX10_blow 14 = .ok (.laload, 1) := by decide +kernel
theorem dX10_blow_15 : decode cX10_blow 15 = .ok (.aload_n 0, 1) := by decide +kernel
theorem dX10_blow_16 : decode cX10_blow 16 = .ok (.getfield 7, 3) := by decide +kernel
theorem dX10_blow_19 : decode cX10_blow 19 = .ok (.bipush 67, 2) := by decide +kernel
theorem dX10_blow_21 : decode cX10_blow 21 = .ok (.laload, 1) := by decide +kernel
theorem dX10_blow_22 : decode cX10_blow 22 = .ok (.lmul, 1) := by decide +kernel
theorem dX10_blow_23 : decode cX10_blow 23 = .ok (.ldc2_w 44, 3) := by decide +kernel
theorem dX10_blow_26 : decode cX10_blow 26 = .ok (.ldiv, 1) := by decide +kernel
theorem dX10_blow_27 : decode cX10_blow 27 = .ok (.lsub, 1) := by decide +kernel
theorem dX10_blow_28 : decode cX10_blow 28 = .ok (.lastore, 1) := by decide +kernel
theorem dX10_blow_29 : decode cX10_blow 29 = .ok (.aload_n 0, 1) := by decide +kernel
theorem dX10_blow_30 : decode cX10_blow 30 = .ok (.getfield 7, 3) := by decide +kernel
theorem dX10_blow_33 : decode cX10_blow 33 = .ok (.bipush 81, 2) := by decide +kernel
theorem dX10_blow_35 : decode cX10_blow 35 = .ok (.laload, 1) := by decide +kernel
theorem dX10_blow_36 : decode cX10_blow 36 = .ok (.lconst 1, 1) := by decide +kernel
theorem dX10_blow_37 : decode cX10_blow 37 = .ok (.lcmp, 1) := by decide +kernel
theorem dX10_blow_38 : decode cX10_blow 38 = .ok (.ifCond .ne 32, 3) := by decide +kernel
theorem dX10_blow_41 : decode cX10_blow 41 = .ok (.aload_n 0, 1) := by decide +kernel
theorem dX10_blow_42 : decode cX10_blow 42 = .ok (.getfield 7, 3) := by decide +kernel
theorem dX10_blow_45 : decode cX10_blow 45 = .ok (.bipush 79, 2) := by decide +kernel
theorem dX10_blow_47 : decode cX10_blow 47 = .ok (.dup2, 1) := by decide +kernel
theorem dX10_blow_48 : decode cX10_blow 48 = .ok (.laload, 1) := by decide +kernel
theorem dX10_blow_49 : decode cX10_blow 49 = .ok (.aload_n 0, 1) := by decide +kernel
theorem dX10_blow_50 : decode cX10_blow 50 = .ok (.getfield 7, 3) := by decide +kernel
theorem dX10_blow_53 : decode cX10_blow 53 = .ok (.bipush 79, 2) := by decide +kernel
theorem dX10_blow_55 : decode cX10_blow 55 = .ok (.laload, 1) := by decide +kernel
theorem dX10_blow_56 : decode cX10_blow 56 = .ok (.aload_n 0, 1) := by decide +kernel
theorem dX10_blow_57 : decode cX10_blow 57 = .ok (.getfield 7, 3) := by decide +kernel
theorem dX10_blow_60 : decode cX10_blow 60 = .ok (.bipush 66, 2) := by decide +kernel
theorem dX10_blow_62 : decode cX10_blow 62 = .ok (.laload, 1) := by decide +kernel
theorem dX10_blow_63 : decode cX10_blow 63 = .ok (.lmul, 1) := by decide +kernel
theorem dX10_blow_64 : decode cX10_blow 64 = .ok (.ldc2_w 44, 3) := by decide +kernel
theorem dX10_blow_67 : decode cX10_blow 67 = .ok (.ldiv, 1) := by decide +kernel
theorem dX10_blow_68 : decode cX10_blow 68 = .ok (.lsub, 1) := by decide +kernel
theorem dX10_blow_69 : decode cX10_blow 69 = .ok (.lastore, 1) := by decide +kernel
theorem dX10_blow_70 : decode cX10_blow 70 = .ok (.aload_n 0, 1) := by decide +kernel
theorem dX10_blow_71 : decode cX10_blow 71 = .ok (.invokevirtual 62, 3) := by decide +kernel
theorem dX10_blow_74 : decode cX10_blow 74 = .ok (.ifCond .eq 32, 3) := by decide +kernel
theorem dX10_blow_77 : decode cX10_blow 77 = .ok (.aload_n 0, 1) := by decide +kernel
theorem dX10_blow_78 : decode cX10_blow 78 = .ok (.getfield 7, 3) := by decide +kernel
theorem dX10_blow_81 : decode cX10_blow 81 = .ok (.bipush 79, 2) := by decide +kernel
theorem dX10_blow_83 : decode cX10_blow 83 = .ok (.dup2, 1) := by decide +kernel
theorem dX10_blow_84 : decode cX10_blow 84 = .ok (.laload, 1) := by decide +kernel
theorem dX10_blow_85 : decode cX10_blow 85 = .ok (.aload_n 0, 1) := by decide +kernel
theorem dX10_blow_86 : decode cX10_blow 86 = .ok (.getfield 7, 3) := by decide +kernel
theorem dX10_blow_89 : decode cX10_blow 89 = .ok (.bipush 79, 2) := by decide +kernel
theorem dX10_blow_91 : decode cX10_blow 91 = .ok (.laload, 1) := by decide +kernel
theorem dX10_blow_92 : decode cX10_blow 92 = .ok (.aload_n 0, 1) := by decide +kernel
theorem dX10_blow_93 : decode cX10_blow 93 = .ok (.getfield 7, 3) := by decide +kernel
theorem dX10_blow_96 : decode cX10_blow 96 = .ok (.bipush 68, 2) := by decide +kernel
theorem dX10_blow_98 : decode cX10_blow 98 = .ok (.laload, 1) := by decide +kernel
theorem dX10_blow_99 : decode cX10_blow 99 = .ok (.lmul, 1) := by decide +kernel
theorem dX10_blow_100 : decode cX10_blow 100 = .ok (.ldc2_w 44, 3) := by decide +kernel
theorem dX10_blow_103 : decode cX10_blow 103 = .ok (.ldiv, 1) := by decide +kernel
theorem dX10_blow_104 : decode cX10_blow 104 = .ok (.lsub, 1) := by decide +kernel
theorem dX10_blow_105 : decode cX10_blow 105 = .ok (.lastore, 1) := by decide +kernel
theorem dX10_blow_106 : decode cX10_blow 106 = .ok (.return_, 1) := by decide +kernel
theorem dX10_openVent_0 : decode cX10_openVent 0 = .ok (.aload_n 0, 1) := by decide +kernel
theorem dX10_openVent_1 : decode cX10_openVent 1 = .ok (.getfield 7, 3) := by decide +kernel
theorem dX10_openVent_4 : decode cX10_openVent 4 = .ok (.bipush 82, 2) := by decide +kernel
theorem dX10_openVent_6 : decode cX10_openVent 6 = .ok (.aload_n 0, 1) := by decide +kernel
theorem dX10_openVent_7 : decode cX10_openVent 7 = .ok (.getfield 7, 3) := by decide +kernel
theorem dX10_openVent_10 : decode cX10_openVent 10 = .ok (.bipush 81, 2) := by decide +kernel
theorem dX10_openVent_12 : decode cX10_openVent 12 = .ok (.laload, 1) := by decide +kernel
theorem dX10_openVent_13 : decode cX10_openVent 13 = .ok (.lconst 1, 1) := by decide +kernel
theorem dX10_openVent_14 : decode cX10_openVent 14 = .ok (.lcmp, 1) := by decide +kernel
theorem dX10_openVent_15 : decode cX10_openVent 15 = .ok (.ifCond .ne 13, 3) := by decide +kernel
theorem dX10_openVent_18 : decode cX10_openVent 18 = .ok (.aload_n 0, 1) := by decide +kernel
theorem dX10_openVent_19 : decode cX10_openVent 19 = .ok (.getfield 7, 3) := by decide +kernel
theorem dX10_openVent_22 : decode cX10_openVent 22 = .ok (.bipush 82, 2) := by decide +kernel
theorem dX10_openVent_24 : decode cX10_openVent 24 = .ok (.laload, 1) := by decide +kernel
theorem dX10_openVent_25 : decode cX10_openVent 25 = .ok (.goto 4, 3) := by decide +kernel
theorem dX10_openVent_28 : decode cX10_openVent 28 = .ok (.lconst 0, 1) := by decide +kernel
theorem dX10_openVent_29 : decode cX10_openVent 29 = .ok (.lastore, 1) := by decide +kernel
theorem dX10_openVent_30 : decode cX10_openVent 30 = .ok (.aload_n 0, 1) := by decide +kernel
theorem dX10_openVent_31 : decode cX10_openVent 31 = .ok (.getfield 7, 3) := by decide +kernel
theorem dX10_openVent_34 : decode cX10_openVent 34 = .ok (.bipush 81, 2) := by decide +kernel
theorem dX10_openVent_36 : decode cX10_openVent 36 = .ok (.lconst 1, 1) := by decide +kernel
theorem dX10_openVent_37 : decode cX10_openVent 37 = .ok (.lastore, 1) := by decide +kernel
theorem dX10_openVent_38 : decode cX10_openVent 38 = .ok (.return_, 1) := by decide +kernel
theorem dX10_shutVent_0 : decode cX10_shutVent 0 = .ok (.aload_n 0, 1) := by decide +kernel
theorem dX10_shutVent_1 : decode cX10_shutVent 1 = .ok (.getfield 7, 3) := by decide +kernel
theorem dX10_shutVent_4 : decode cX10_shutVent 4 = .ok (.bipush 81, 2) := by decide +kernel
theorem dX10_shutVent_6 : decode cX10_shutVent 6 = .ok (.lconst 0, 1) := by decide +kernel
theorem dX10_shutVent_7 : decode cX10_shutVent 7 = .ok (.lastore, 1) := by decide +kernel
theorem dX10_shutVent_8 : decode cX10_shutVent 8 = .ok (.aload_n 0, 1) := by decide +kernel
theorem dX10_shutVent_9 : decode cX10_shutVent 9 = .ok (.getfield 7, 3) := by decide +kernel
theorem dX10_shutVent_12 : decode cX10_shutVent 12 = .ok (.bipush 82, 2) := by decide +kernel
theorem dX10_shutVent_14 : decode cX10_shutVent 14 = .ok (.lconst 0, 1) := by decide +kernel
theorem dX10_shutVent_15 : decode cX10_shutVent 15 = .ok (.lastore, 1) := by decide +kernel
theorem dX10_shutVent_16 : decode cX10_shutVent 16 = .ok (.return_, 1) := by decide +kernel
set_option maxRecDepth 20000 in
theorem ggX10_turnVent_X10_concentration : GoodIn wsX10_turnVent wsX10_concentration := goodIn_r _ [7, 1, 2, 16, 17, 18, 19, 20, 21, 22, 23, 24, 25] (by decide +kernel) (by decide +kernel)
set_option maxRecDepth 20000 in
theorem gX10_turnVent_X10_concentration : GoodIn wsX10_turnVent (wsV RX10 129 RX10 yX10_concentration wsX10_concentration) := goodIn_app (goodIn_of _ (by decide +kernel)) ggX10_turnVent_X10_concentration
set_option maxRecDepth 20000 in
theorem ggX10_turnVent_X10_shutVent : GoodIn wsX10_turnVent wsX10_shutVent := goodIn_r _ [11, 1, 16, 17, 18, 19, 20, 21, 22, 23, 24, 25] (by decide +kernel) (by decide +kernel)
set_option maxRecDepth 20000 in
theorem gX10_turnVent_X10_shutVent : GoodIn wsX10_turnVent (wsV RX10 132 RX10 yX10_shutVent wsX10_shutVent) := goodIn_app (goodIn_of _ (by decide +kernel)) ggX10_turnVent_X10_shutVent
set_option maxRecDepth 20000 in
theorem ggX10_turnVent_X10_openVent : GoodIn wsX10_turnVent wsX10_openVent := goodIn_r _ [15, 1, 16, 17, 18, 19, 20, 21, 22, 23, 24, 25] (by decide +kernel) (by decide +kernel)
set_option maxRecDepth 20000 in
theorem gX10_turnVent_X10_openVent : GoodIn wsX10_turnVent (wsV RX10 135 RX10 yX10_openVent wsX10_openVent) := goodIn_app (goodIn_of _ (by decide +kernel)) ggX10_turnVent_X10_openVent
theorem dX10_turnVent_0 : decode cX10_turnVent 0 = .ok (.aload_n 0, 1) := by decide +kernel
theorem dX10_turnVent_1 : decode cX10_turnVent 1 = .ok (.invokevirtual 129, 3) := by decide +kernel
theorem dX10_turnVent_4 : decode cX10_turnVent 4 = .ok (.istore_n 1, 1) := by decide +kernel
theorem dX10_turnVent_5 : decode cX10_turnVent 5 = .ok (.aload_n 0, 1) := by decide +kernel
theorem dX10_turnVent_6 : decode cX10_turnVent 6 = .ok (.getfield 7, 3) := by decide +kernel
theorem dX10_turnVent_9 : decode cX10_turnVent 9 = .ok (.bipush 80, 2) := by decide +kernel
theorem dX10_turnVent_11 : decode cX10_turnVent 11 = .ok (.laload, 1) := by decide +kernel
theorem dX10_turnVent_12 : decode cX10_turnVent 12 = .ok (.lconst 1, 1) := by decide +kernel
theorem dX10_turnVent_13 : decode cX10_turnVent 13 = .ok (.lcmp, 1) := by decide +kernel
theorem dX10_turnVent_14 : decode cX10_turnVent 14 = .ok (.ifCond .ne 10, 3) := by decide +kernel
theorem dX10_turnVent_17 : decode cX10_turnVent 17 = .ok (.aload_n 0, 1) := by decide +kernel
theorem dX10_turnVent_18 : decode cX10_turnVent 18 = .ok (.invokevirtual 132, 3) := by decide +kernel
theorem dX10_turnVent_21 : decode cX10_turnVent 21 = .ok (.goto 102, 3) := by decide +kernel
theorem dX10_turnVent_24 : decode cX10_turnVent 24 = .ok (.aload_n 0, 1) := by decide +kernel
theorem dX10_turnVent_25 : decode cX10_turnVent 25 = .ok (.getfield 7, 3) := by decide +kernel
theorem dX10_turnVent_28 : decode cX10_turnVent 28 = .ok (.bipush 80, 2) := by decide +kernel
theorem dX10_turnVent_30 : decode cX10_turnVent 30 = .ok (.laload, 1) := by decide +kernel
theorem dX10_turnVent_31 : decode cX10_turnVent 31 = .ok (.ldc2_w 56, 3) := by decide +kernel
theorem dX10_turnVent_34 : decode cX10_turnVent 34 = .ok (.lcmp, 1) := by decide +kernel
theorem dX10_turnVent_35 : decode cX10_turnVent 35 = .ok (.ifCond .ne 10, 3) := by decide +kernel
theorem dX10_turnVent_38 : decode cX10_turnVent 38 = .ok (.aload_n 0, 1) := by decide +kernel
theorem dX10_turnVent_39 : decode cX10_turnVent 39 = .ok (.invokevirtual 135, 3) := by decide +kernel
theorem dX10_turnVent_42 : decode cX10_turnVent 42 = .ok (.goto 81, 3) := by decide +kernel
theorem dX10_turnVent_45 : decode cX10_turnVent 45 = .ok (.aload_n 0, 1) := by decide +kernel
theorem dX10_turnVent_46 : decode cX10_turnVent 46 = .ok (.getfield 7, 3) := by decide +kernel
theorem dX10_turnVent_49 : decode cX10_turnVent 49 = .ok (.bipush 81, 2) := by decide +kernel
theorem dX10_turnVent_51 : decode cX10_turnVent 51 = .ok (.laload, 1) := by decide +kernel
theorem dX10_turnVent_52 : decode cX10_turnVent 52 = .ok (.lconst 0, 1) := by decide +kernel
theorem dX10_turnVent_53 : decode cX10_turnVent 53 = .ok (.lcmp, 1) := by decide +kernel
theorem dX10_turnVent_54 : decode cX10_turnVent 54 = .ok (.ifCond .ne 23, 3) := by decide +kernel
theorem dX10_turnVent_57 : decode cX10_turnVent 57 = .ok (.iload_n 1, 1) := by decide +kernel
theorem dX10_turnVent_58 : decode cX10_turnVent 58 = .ok (.i2l, 1) := by decide +kernel
theorem dX10_turnVent_59 : decode cX10_turnVent 59 = .ok (.aload_n 0, 1) := by decide +kernel
theorem dX10_turnVent_60 : decode cX10_turnVent 60 = .ok (.getfield 7, 3) := by decide +kernel
theorem dX10_turnVent_63 : decode cX10_turnVent 63 = .ok (.bipush 69, 2) := by decide +kernel
theorem dX10_turnVent_65 : decode cX10_turnVent 65 = .ok (.laload, 1) := by decide +kernel
theorem dX10_turnVent_66 : decode cX10_turnVent 66 = .ok (.lcmp, 1) := by decide +kernel
theorem dX10_turnVent_67 : decode cX10_turnVent 67 = .ok (.ifCond .lt 56, 3) := by decide +kernel
theorem dX10_turnVent_70 : decode cX10_turnVent 70 = .ok (.aload_n 0, 1) := by decide +kernel
theorem dX10_turnVent_71 : decode cX10_turnVent 71 = .ok (.invokevirtual 135, 3) := by decide +kernel
theorem dX10_turnVent_74 : decode cX10_turnVent 74 = .ok (.goto 49, 3) := by decide +kernel
theorem dX10_turnVent_77 : decode cX10_turnVent 77 = .ok (.aload_n 0, 1) := by decide +kernel
theorem dX10_turnVent_78 : decode cX10_turnVent 78 = .ok (.getfield 7, 3) := by decide +kernel
theorem dX10_turnVent_81 : decode cX10_turnVent 81 = .ok (.bipush 82, 2) := by decide +kernel
theorem dX10_turnVent_83 : decode cX10_turnVent 83 = .ok (.dup2, 1) := by decide +kernel
theorem dX10_turnVent_84 : decode cX10_turnVent 84 = .ok (.laload, 1) := by decide +kernel
theorem dX10_turnVent_85 : decode cX10_turnVent 85 = .ok (.lconst 1, 1) := by decide +kernel
theorem dX10_turnVent_86 : decode cX10_turnVent 86 = .ok (.ladd, 1) := by decide +kernel
theorem dX10_turnVent_87 : decode cX10_turnVent 87 = .ok (.lastore, 1) := by decide +kernel
theorem dX10_turnVent_88 : decode cX10_turnVent 88 = .ok (.iload_n 1, 1) := by decide +kernel
theorem dX10_turnVent_89 : decode cX10_turnVent 89 = .ok (.i2l, 1) := by decide +kernel
theorem dX10_turnVent_90 : decode cX10_turnVent 90 = .ok (.aload_n 0, 1) := by decide +kernel
theorem dX10_turnVent_91 : decode cX10_turnVent 91 = .ok (.getfield 7, 3) := by decide +kernel
theorem dX10_turnVent_94 : decode cX10_turnVent 94 = .ok (.bipush 70, 2) := by decide +kernel
theorem dX10_turnVent_96 : decode cX10_turnVent 96 = .ok (.laload, 1) := by decide +kernel
theorem dX10_turnVent_97 : decode cX10_turnVent 97 = .ok (.lcmp, 1) := by decide +kernel
theorem dX10_turnVent_98 : decode cX10_turnVent 98 = .ok (.ifCond .gt 25, 3) := by decide +kernel
theorem dX10_turnVent_101 : decode cX10_turnVent 101 = .ok (.aload_n 0, 1) := by decide +kernel
theorem dX10_turnVent_102 : decode cX10_turnVent 102 = .ok (.getfield 7, 3) := by decide +kernel
theorem dX10_turnVent_105 : decode cX10_turnVent 105 = .ok (.bipush 82, 2) := by decide +kernel
theorem dX10_turnVent_107 : decode cX10_turnVent 107 = .ok (.laload, 1) := by decide +kernel
theorem dX10_turnVent_108 : decode cX10_turnVent 108 = .ok (.aload_n 0, 1) := by decide +kernel
theorem dX10_turnVent_109 : decode cX10_turnVent 109 = .ok (.getfield 7, 3) := by decide +kernel
theorem dX10_turnVent_112 : decode cX10_turnVent 112 = .ok (.bipush 71, 2) := by decide +kernel
theorem dX10_turnVent_114 : decode cX10_turnVent 114 = .ok (.laload, 1) := by decide +kernel
theorem dX10_turnVent_115 : decode cX10_turnVent 115 = .ok (.lcmp, 1) := by decide +kernel
theorem dX10_turnVent_116 : decode cX10_turnVent 116 = .ok (.ifCond .lt 7, 3) := by decide +kernel
theorem dX10_turnVent_119 : decode cX10_turnVent 119 = .ok (.aload_n 0, 1) := by decide +kernel
theorem dX10_turnVent_120 : decode cX10_turnVent 120 = .ok (.invokevirtual 132, 3) := by decide +kernel
theorem dX10_turnVent_123 : decode cX10_turnVent 123 = .ok (.return_, 1) := by decide +kernel
set_option maxRecDepth 20000 in
theorem ggX10_makeMinute_X10_goOff : GoodIn wsX10_makeMinute wsX10_goOff := goodIn_r _ [6, 1, 7, 8, 9, 5, 10, 11, 12, 13, 14, 15, 16, 17, 18, 19, 20, 21, 22, 23, 24, 66, 67, 68, 69, 70, 71, 72, 73, 74, 75] (by decide +kernel) (by decide +kernel)
set_option maxRecDepth 20000 in
theorem gX10_makeMinute_X10_goOff : GoodIn wsX10_makeMinute (wsV RX10 138 RX10 yX10_goOff wsX10_goOff) := goodIn_app (goodIn_of _ (by decide +kernel)) ggX10_makeMinute_X10_goOff
set_option maxRecDepth 20000 in
theorem ggX10_makeMinute_X10_warm : GoodIn wsX10_makeMinute wsX10_warm := goodIn_r _ [28, 1, 29, 30, 31, 32, 33, 5, 34, 35, 36, 37, 38, 39, 66, 67, 68, 69, 70, 71, 72, 73, 74, 75] (by decide +kernel) (by decide +kernel)
set_option maxRecDepth 20000 in
theorem gX10_makeMinute_X10_warm : GoodIn wsX10_makeMinute (wsV RX10 141 RX10 yX10_warm wsX10_warm) := goodIn_app (goodIn_of _ (by decide +kernel)) ggX10_makeMinute_X10_warm
set_option maxRecDepth 20000 in
theorem ggX10_makeMinute_X10_blow : GoodIn wsX10_makeMinute wsX10_blow := goodIn_r _ [43, 1, 44, 36, 37, 38, 5, 39, 66, 67, 68, 69, 70, 71, 72, 73, 74, 75] (by decide +kernel) (by decide +kernel)
set_option maxRecDepth 20000 in
theorem gX10_makeMinute_X10_blow : GoodIn wsX10_makeMinute (wsV RX10 145 RX10 yX10_blow wsX10_blow) := goodIn_app (goodIn_of _ (by decide +kernel)) ggX10_makeMinute_X10_blow
set_option maxRecDepth 20000 in
theorem ggX10_makeMinute_X10_turnVent : GoodIn wsX10_makeMinute wsX10_turnVent := goodIn_r _ [48, 1, 49, 50, 51, 52, 5, 53, 54, 55, 56, 57, 58, 59, 60, 61, 66, 67, 68, 69, 70, 71, 72, 73, 74, 75] (by decide +kernel) (by decide +kernel)
set_option maxRecDepth 20000 in
theorem gX10_makeMinute_X10_turnVent : GoodIn wsX10_makeMinute (wsV RX10 148 RX10 yX10_turnVent wsX10_turnVent) := goodIn_app (goodIn_of _ (by decide +kernel)) ggX10_makeMinute_X10_turnVent
set_option maxRecDepth 20000 in
theorem ggX10_makeMinute_X10_isDoorOpen : GoodIn wsX10_makeMinute wsX10_isDoorOpen := goodIn_r _ [39, 1, 66, 67, 68, 69, 70, 71, 72, 73, 74, 75] (by decide +kernel) (by decide +kernel)
set_option maxRecDepth 20000 in
theorem gX10_makeMinute_X10_isDoorOpen : GoodIn wsX10_makeMinute (wsV RX10 62 RX10 yX10_isDoorOpen wsX10_isDoorOpen) := goodIn_app (goodIn_of _ (by decide +kernel)) ggX10_makeMinute_X10_isDoorOpen
set_option maxRecDepth 20000 in
theorem ggX10_makeMinute_X10_concentration : GoodIn wsX10_makeMinute wsX10_concentration := goodIn_r _ [53, 1, 49, 66, 67, 68, 69, 70, 71, 72, 73, 74, 75] (by decide +kernel) (by decide +kernel)
set_option maxRecDepth 20000 in
theorem gX10_makeMinute_X10_concentration : GoodIn wsX10_makeMinute (wsV RX10 129 RX10 yX10_concentration wsX10_concentration) := goodIn_app (goodIn_of _ (by decide +kernel)) ggX10_makeMinute_X10_concentration
set_option maxRecDepth 20000 in
theorem ggX10_makeMinute_X10_isAway : GoodIn wsX10_makeMinute wsX10_isAway := goodIn_r _ [65, 1, 66, 67, 68, 69, 70, 71, 72, 73, 74, 75] (by decide +kernel) (by decide +kernel)
set_option maxRecDepth 20000 in
theorem gX10_makeMinute_X10_isAway : GoodIn wsX10_makeMinute (wsV RX10 106 RX10 yX10_isAway wsX10_isAway) := goodIn_app (goodIn_of _ (by decide +kernel)) ggX10_makeMinute_X10_isAway
theorem dX10_makeMinute_0 : decode cX10_makeMinute 0 = .ok (.aload_n 0, 1) := by decide +kernel
theorem dX10_makeMinute_1 : decode cX10_makeMinute 1 = .ok (.aload_n 0, 1) := by decide +kernel
theorem dX10_makeMinute_2 : decode cX10_makeMinute 2 = .ok (.invokevirtual 138, 3) := by decide +kernel
theorem dX10_makeMinute_5 : decode cX10_makeMinute 5 = .ok (.invokevirtual 141, 3) := by decide +kernel
theorem dX10_makeMinute_8 : decode cX10_makeMinute 8 = .ok (.aload_n 0, 1) := by decide +kernel
theorem dX10_makeMinute_9 : decode cX10_makeMinute 9 = .ok (.invokevirtual 145, 3) := by decide +kernel
theorem dX10_makeMinute_12 : decode cX10_makeMinute 12 = .ok (.aload_n 0, 1) := by decide +kernel
theorem dX10_makeMinute_13 : decode cX10_makeMinute 13 = .ok (.invokevirtual 148, 3) := by decide +kernel
theorem dX10_makeMinute_16 : decode cX10_makeMinute 16 = .ok (.aload_n 0, 1) := by decide +kernel
theorem dX10_makeMinute_17 : decode cX10_makeMinute 17 = .ok (.getfield 7, 3) := by decide +kernel
theorem dX10_makeMinute_20 : decode cX10_makeMinute 20 = .ok (.bipush 87, 2) := by decide +kernel
theorem dX10_makeMinute_22 : decode cX10_makeMinute 22 = .ok (.dup2, 1) := by decide +kernel
theorem dX10_makeMinute_23 : decode cX10_makeMinute 23 = .ok (.laload, 1) := by decide +kernel
theorem dX10_makeMinute_24 : decode cX10_makeMinute 24 = .ok (.aload_n 0, 1) := by decide +kernel
theorem dX10_makeMinute_25 : decode cX10_makeMinute 25 = .ok (.invokevirtual 62, 3) := by decide +kernel
theorem dX10_makeMinute_28 : decode cX10_makeMinute 28 = .ok (.ifCond .eq 23, 3) := by decide +kernel
theorem dX10_makeMinute_31 : decode cX10_makeMinute 31 = .ok (.aload_n 0, 1) := by decide +kernel
theorem dX10_makeMinute_32 : decode cX10_makeMinute 32 = .ok (.invokevirtual 129, 3) := by decide +kernel
theorem dX10_makeMinute_35 : decode cX10_makeMinute 35 = .ok (.i2l, 1) := by decide +kernel
theorem dX10_makeMinute_36 : decode cX10_makeMinute 36 = .ok (.aload_n 0, 1) := by decide +kernel
theorem dX10_makeMinute_37 : decode cX10_makeMinute 37 = .ok (.getfield 7, 3) := by decide +kernel
theorem dX10_makeMinute_40 : decode cX10_makeMinute 40 = .ok (.bipush 72, 2) := by decide +kernel
theorem dX10_makeMinute_42 : decode cX10_makeMinute 42 = .ok (.laload, 1) := by decide +kernel
theorem dX10_makeMinute_43 : decode cX10_makeMinute 43 = .ok (.lcmp, 1) := by decide +kernel
theorem dX10_makeMinute_44 : decode cX10_makeMinute 44 = .ok (.ifCond .lt 7, 3) := by decide +kernel
theorem dX10_makeMinute_47 : decode cX10_makeMinute 47 = .ok (.lconst 1, 1) := by decide +kernel
theorem dX10_makeMinute_48 : decode cX10_makeMinute 48 = .ok (.goto 4, 3) := by decide +kernel
theorem dX10_makeMinute_51 : decode cX10_makeMinute 51 = .ok (.lconst 0, 1) := by decide +kernel
theorem dX10_makeMinute_52 : decode cX10_makeMinute 52 = .ok (.ladd, 1) := by decide +kernel
theorem dX10_makeMinute_53 : decode cX10_makeMinute 53 = .ok (.lastore, 1) := by decide +kernel
theorem dX10_makeMinute_54 : decode cX10_makeMinute 54 = .ok (.aload_n 0, 1) := by decide +kernel
theorem dX10_makeMinute_55 : decode cX10_makeMinute 55 = .ok (.getfield 7, 3) := by decide +kernel
theorem dX10_makeMinute_58 : decode cX10_makeMinute 58 = .ok (.bipush 77, 2) := by decide +kernel
theorem dX10_makeMinute_60 : decode cX10_makeMinute 60 = .ok (.dup2, 1) := by decide +kernel
theorem dX10_makeMinute_61 : decode cX10_makeMinute 61 = .ok (.laload, 1) := by decide +kernel
theorem dX10_makeMinute_62 : decode cX10_makeMinute 62 = .ok (.lconst 1, 1) := by decide +kernel
theorem dX10_makeMinute_63 : decode cX10_makeMinute 63 = .ok (.ladd, 1) := by decide +kernel
theorem dX10_makeMinute_64 : decode cX10_makeMinute 64 = .ok (.lastore, 1) := by decide +kernel
theorem dX10_makeMinute_65 : decode cX10_makeMinute 65 = .ok (.aload_n 0, 1) := by decide +kernel
theorem dX10_makeMinute_66 : decode cX10_makeMinute 66 = .ok (.invokevirtual 106, 3) := by decide +kernel
theorem dX10_makeMinute_69 : decode cX10_makeMinute 69 = .ok (.ifCond .eq 55, 3) := by decide +kernel
theorem dX10_makeMinute_72 : decode cX10_makeMinute 72 = .ok (.aload_n 0, 1) := by decide +kernel
theorem dX10_makeMinute_73 : decode cX10_makeMinute 73 = .ok (.getfield 7, 3) := by decide +kernel
theorem dX10_makeMinute_76 : decode cX10_makeMinute 76 = .ok (.bipush 85, 2) := by decide +kernel
theorem dX10_makeMinute_78 : decode cX10_makeMinute 78 = .ok (.dup2, 1) := by decide +kernel
theorem dX10_makeMinute_79 : decode cX10_makeMinute 79 = .ok (.laload, 1) := by decide +kernel
theorem dX10_makeMinute_80 : decode cX10_makeMinute 80 = .ok (.lconst 1, 1) := by decide +kernel
theorem dX10_makeMinute_81 : decode cX10_makeMinute 81 = .ok (.ladd, 1) := by decide +kernel
theorem dX10_makeMinute_82 : decode cX10_makeMinute 82 = .ok (.lastore, 1) := by decide +kernel
theorem dX10_makeMinute_83 : decode cX10_makeMinute 83 = .ok (.aload_n 0, 1) := by decide +kernel
theorem dX10_makeMinute_84 : decode cX10_makeMinute 84 = .ok (.getfield 7, 3) := by decide +kernel
theorem dX10_makeMinute_87 : decode cX10_makeMinute 87 = .ok (.bipush 86, 2) := by decide +kernel
theorem dX10_makeMinute_89 : decode cX10_makeMinute 89 = .ok (.aload_n 0, 1) := by decide +kernel
theorem dX10_makeMinute_90 : decode cX10_makeMinute 90 = .ok (.getfield 7, 3) := by decide +kernel
theorem dX10_makeMinute_93 : decode cX10_makeMinute 93 = .ok (.bipush 85, 2) := by decide +kernel
theorem dX10_makeMinute_95 : decode cX10_makeMinute 95 = .ok (.laload, 1) := by decide +kernel
theorem dX10_makeMinute_96 : decode cX10_makeMinute 96 = .ok (.aload_n 0, 1) := by decide +kernel
theorem dX10_makeMinute_97 : decode cX10_makeMinute 97 = .ok (.getfield 7, 3) := by decide +kernel
theorem dX10_makeMinute_100 : decode cX10_makeMinute 100 = .ok (.bipush 40, 2) := by decide +kernel
theorem dX10_makeMinute_102 : decode cX10_makeMinute 102 = .ok (.iconst 2, 1) := by decide +kernel
theorem dX10_makeMinute_103 : decode cX10_makeMinute 103 = .ok (.aload_n 0, 1) := by decide +kernel
theorem dX10_makeMinute_104 : decode cX10_makeMinute 104 = .ok (.getfield 7, 3) := by decide +kernel
theorem dX10_makeMinute_107 : decode cX10_makeMinute 107 = .ok (.bipush 84, 2) := by decide +kernel
theorem dX10_makeMinute_109 : decode cX10_makeMinute 109 = .ok (.laload, 1) := by decide +kernel
theorem dX10_makeMinute_110 : decode cX10_makeMinute 110 = .ok (.l2i, 1) := by decide +kernel
theorem dX10_makeMinute_111 : decode cX10_makeMinute 111 = .ok (.imul, 1) := by decide +kernel
theorem dX10_makeMinute_112 : decode cX10_makeMinute 112 = .ok (.iadd, 1) := by decide +kernel
theorem dX10_makeMinute_113 : decode cX10_makeMinute 113 = .ok (.laload, 1) := by decide +kernel
theorem dX10_makeMinute_114 : decode cX10_makeMinute 114 = .ok (.lcmp, 1) := by decide +kernel
theorem dX10_makeMinute_115 : decode cX10_makeMinute 115 = .ok (.ifCond .ne 7, 3) := by decide +kernel
theorem dX10_makeMinute_118 : decode cX10_makeMinute 118 = .ok (.lconst 0, 1) := by decide +kernel
theorem dX10_makeMinute_119 : decode cX10_makeMinute 119 = .ok (.goto 4, 3) := by decide +kernel
theorem dX10_makeMinute_122 : decode cX10_makeMinute 122 = .ok (.lconst 1, 1) := by decide +kernel
theorem dX10_makeMinute_123 : decode cX10_makeMinute 123 = .ok (.lastore, 1) := by decide +kernel
theorem dX10_makeMinute_124 : decode cX10_makeMinute 124 = .ok (.return_, 1) := by decide +kernel
set_option maxRecDepth 20000 in
theorem ggX10_pass_X10_in : GoodIn wsX10_pass wsX10_in := goodIn_r _ [7] (by decide +kernel) (by decide +kernel)
set_option maxRecDepth 20000 in
theorem gX10_pass_X10_in : GoodIn wsX10_pass (va_wsS RX10 52 yX10_in wsX10_in) := goodIn_app (goodIn_of _ (by decide +kernel)) ggX10_pass_X10_in
set_option maxRecDepth 20000 in
theorem ggX10_pass_X10_isAway : GoodIn wsX10_pass wsX10_isAway := goodIn_r _ [11, 2, 74, 75, 76, 77, 78, 79, 80, 81, 82, 83] (by decide +kernel) (by decide +kernel)
set_option maxRecDepth 20000 in
theorem gX10_pass_X10_isAway : GoodIn wsX10_pass (wsV RX10 106 RX10 yX10_isAway wsX10_isAway) := goodIn_app (goodIn_of _ (by decide +kernel)) ggX10_pass_X10_isAway
set_option maxRecDepth 20000 in
theorem ggX10_pass_X10_makeMinute : GoodIn wsX10_pass wsX10_makeMinute := goodIn_r _ [15, 2, 16, 17, 18, 6, 19, 20, 21, 22, 23, 24, 25, 26, 27, 28, 29, 30, 31, 32, 33, 34, 35, 36, 37, 38, 39, 40, 41, 42, 43, 44, 45, 46, 47, 48, 49, 50, 51, 52, 53, 54, 55, 56, 1, 57, 58, 59, 60, 61, 62, 63, 64, 65, 66, 67, 68, 69, 70, 71, 72, 73, 8, 9, 10, 11, 74, 75, 76, 77, 78, 79, 80, 81, 82, 83] (by decide +kernel) (by decide +kernel)
set_option maxRecDepth 20000 in
theorem gX10_pass_X10_makeMinute : GoodIn wsX10_pass (wsV RX10 151 RX10 yX10_makeMinute wsX10_makeMinute) := goodIn_app (goodIn_of _ (by decide +kernel)) ggX10_pass_X10_makeMinute
theorem dX10_pass_0 : decode cX10_pass 0 = .ok (.iload_n 1, 1) := by decide +kernel
theorem dX10_pass_1 : decode cX10_pass 1 = .ok (.i2l, 1) := by decide +kernel
theorem dX10_pass_2 : decode cX10_pass 2 = .ok (.lconst 1, 1) := by decide +kernel
theorem dX10_pass_3 : decode cX10_pass 3 = .ok (.ldc2_w 44, 3) := by decide +kernel
theorem dX10_pass_6 : decode cX10_pass 6 = .ok (.invokestatic 52, 3) := by decide +kernel
theorem dX10_pass_9 : decode cX10_pass 9 = .ok (.ifCond .ne 6, 3) := by decide +kernel
theorem dX10_pass_12 : decode cX10_pass 12 = .ok (.bipush (-2), 2) := by decide +kernel
theorem dX10_pass_14 : decode cX10_pass 14 = .ok (.ireturn, 1) := by decide +kernel
theorem dX10_pass_15 : decode cX10_pass 15 = .ok (.aload_n 0, 1) := by decide +kernel
theorem dX10_pass_16 : decode cX10_pass 16 = .ok (.getfield 7, 3) := by decide +kernel
theorem dX10_pass_19 : decode cX10_pass 19 = .ok (.bipush 77, 2) := by decide +kernel
theorem dX10_pass_21 : decode cX10_pass 21 = .ok (.laload, 1) := by decide +kernel
theorem dX10_pass_22 : decode cX10_pass 22 = .ok (.iload_n 1, 1) := by decide +kernel
theorem dX10_pass_23 : decode cX10_pass 23 = .ok (.i2l, 1) := by decide +kernel
theorem dX10_pass_24 : decode cX10_pass 24 = .ok (.ladd, 1) := by decide +kernel
theorem dX10_pass_25 : decode cX10_pass 25 = .ok (.ldc2_w 93, 3) := by decide +kernel
theorem dX10_pass_28 : decode cX10_pass 28 = .ok (.lcmp, 1) := by decide +kernel
theorem dX10_pass_29 : decode cX10_pass 29 = .ok (.ifCond .le 6, 3) := by decide +kernel
theorem dX10_pass_32 : decode cX10_pass 32 = .ok (.bipush (-5), 2) := by decide +kernel
theorem dX10_pass_34 : decode cX10_pass 34 = .ok (.ireturn, 1) := by decide +kernel
theorem dX10_pass_35 : decode cX10_pass 35 = .ok (.iconst 0, 1) := by decide +kernel
theorem dX10_pass_36 : decode cX10_pass 36 = .ok (.istore_n 2, 1) := by decide +kernel
theorem dX10_pass_37 : decode cX10_pass 37 = .ok (.iconst 0, 1) := by decide +kernel
theorem dX10_pass_38 : decode cX10_pass 38 = .ok (.istore_n 3, 1) := by decide +kernel
theorem dX10_pass_39 : decode cX10_pass 39 = .ok (.iload_n 3, 1) := by decide +kernel
theorem dX10_pass_40 : decode cX10_pass 40 = .ok (.iload_n 1, 1) := by decide +kernel
theorem dX10_pass_41 : decode cX10_pass 41 = .ok (.if_icmp .ge 28, 3) := by decide +kernel
theorem dX10_pass_44 : decode cX10_pass 44 = .ok (.iload_n 2, 1) := by decide +kernel
theorem dX10_pass_45 : decode cX10_pass 45 = .ok (.aload_n 0, 1) := by decide +kernel
theorem dX10_pass_46 : decode cX10_pass 46 = .ok (.invokevirtual 106, 3) := by decide +kernel
theorem dX10_pass_49 : decode cX10_pass 49 = .ok (.ifCond .eq 7, 3) := by decide +kernel
theorem dX10_pass_52 : decode cX10_pass 52 = .ok (.iconst 1, 1) := by decide +kernel
theorem dX10_pass_53 : decode cX10_pass 53 = .ok (.goto 4, 3) := by decide +kernel
theorem dX10_pass_56 : decode cX10_pass 56 = .ok (.iconst 0, 1) := by decide +kernel
theorem dX10_pass_57 : decode cX10_pass 57 = .ok (.iadd, 1) := by decide +kernel
theorem dX10_pass_58 : decode cX10_pass 58 = .ok (.istore_n 2, 1) := by decide +kernel
theorem dX10_pass_59 : decode cX10_pass 59 = .ok (.aload_n 0, 1) := by decide +kernel
theorem dX10_pass_60 : decode cX10_pass 60 = .ok (.invokevirtual 151, 3) := by decide +kernel
theorem dX10_pass_63 : decode cX10_pass 63 = .ok (.iinc 3 1, 3) := by decide +kernel
theorem dX10_pass_66 : decode cX10_pass 66 = .ok (.goto (-27), 3) := by decide +kernel
theorem dX10_pass_69 : decode cX10_pass 69 = .ok (.iload_n 2, 1) := by decide +kernel
theorem dX10_pass_70 : decode cX10_pass 70 = .ok (.ireturn, 1) := by decide +kernel
set_option maxRecDepth 20000 in
theorem ggX10_setMode_X10_shutVent : GoodIn wsX10_setMode wsX10_shutVent := goodIn_r _ [6, 1, 11, 12, 13, 14, 15, 16, 17, 18, 19, 20] (by decide +kernel) (by decide +kernel)
set_option maxRecDepth 20000 in
theorem gX10_setMode_X10_shutVent : GoodIn wsX10_setMode (wsV RX10 132 RX10 yX10_shutVent wsX10_shutVent) := goodIn_app (goodIn_of _ (by decide +kernel)) ggX10_setMode_X10_shutVent
set_option maxRecDepth 20000 in
theorem ggX10_setMode_X10_openVent : GoodIn wsX10_setMode wsX10_openVent := goodIn_r _ [10, 1, 11, 12, 13, 14, 15, 16, 17, 18, 19, 20] (by decide +kernel) (by decide +kernel)
set_option maxRecDepth 20000 in
theorem gX10_setMode_X10_openVent : GoodIn wsX10_setMode (wsV RX10 135 RX10 yX10_openVent wsX10_openVent) := goodIn_app (goodIn_of _ (by decide +kernel)) ggX10_setMode_X10_openVent
theorem dX10_setMode_0 : decode cX10_setMode 0 = .ok (.aload_n 0, 1) := by decide +kernel
theorem dX10_setMode_1 : decode cX10_setMode 1 = .ok (.getfield 7, 3) := by decide +kernel
theorem dX10_setMode_4 : decode cX10_setMode 4 = .ok (.bipush 80, 2) := by decide +kernel
theorem dX10_setMode_6 : decode cX10_setMode 6 = .ok (.iload_n 1, 1) := by decide +kernel
theorem dX10_setMode_7 : decode cX10_setMode 7 = .ok (.i2l, 1) := by decide +kernel
theorem dX10_setMode_8 : decode cX10_setMode 8 = .ok (.lastore, 1) := by decide +kernel
theorem dX10_setMode_9 : decode cX10_setMode 9 = .ok (.iload_n 1, 1) := by decide +kernel
theorem dX10_setMode_10 : decode cX10_setMode 10 = .ok (.iconst 1, 1) := by decide +kernel
theorem dX10_setMode_11 : decode cX10_setMode 11 = .ok (.if_icmp .ne 10, 3) := by decide +kernel
theorem dX10_setMode_14 : decode cX10_setMode 14 = .ok (.aload_n 0, 1) := by decide +kernel
theorem dX10_setMode_15 : decode cX10_setMode 15 = .ok (.invokevirtual 132, 3) := by decide +kernel
theorem dX10_setMode_18 : decode cX10_setMode 18 = .ok (.goto 12, 3) := by decide +kernel
theorem dX10_setMode_21 : decode cX10_setMode 21 = .ok (.iload_n 1, 1) := by decide +kernel
theorem dX10_setMode_22 : decode cX10_setMode 22 = .ok (.iconst 2, 1) := by decide +kernel
theorem dX10_setMode_23 : decode cX10_setMode 23 = .ok (.if_icmp .ne 7, 3) := by decide +kernel
theorem dX10_setMode_26 : decode cX10_setMode 26 = .ok (.aload_n 0, 1) := by decide +kernel
theorem dX10_setMode_27 : decode cX10_setMode 27 = .ok (.invokevirtual 135, 3) := by decide +kernel
theorem dX10_setMode_30 : decode cX10_setMode 30 = .ok (.return_, 1) := by decide +kernel
set_option maxRecDepth 20000 in
theorem ggX10_vent_X10_in : GoodIn wsX10_vent wsX10_in := goodIn_r _ [6] (by decide +kernel) (by decide +kernel)
set_option maxRecDepth 20000 in
theorem gX10_vent_X10_in : GoodIn wsX10_vent (va_wsS RX10 52 yX10_in wsX10_in) := goodIn_app (goodIn_of _ (by decide +kernel)) ggX10_vent_X10_in
set_option maxRecDepth 20000 in
theorem ggX10_vent_X10_setMode : GoodIn wsX10_vent wsX10_setMode := goodIn_r _ [10, 2, 11, 12, 13, 5, 14, 15, 16, 17, 18, 19, 20, 21, 22, 23, 24, 25, 26, 27, 28] (by decide +kernel) (by decide +kernel)
set_option maxRecDepth 20000 in
theorem gX10_vent_X10_setMode : GoodIn wsX10_vent (wsV RX10 154 RX10 yX10_setMode wsX10_setMode) := goodIn_app (goodIn_of _ (by decide +kernel)) ggX10_vent_X10_setMode
theorem dX10_vent_0 : decode cX10_vent 0 = .ok (.iload_n 1, 1) := by decide +kernel
theorem dX10_vent_1 : decode cX10_vent 1 = .ok (.i2l, 1) := by decide +kernel
theorem dX10_vent_2 : decode cX10_vent 2 = .ok (.lconst 0, 1) := by decide +kernel
theorem dX10_vent_3 : decode cX10_vent 3 = .ok (.ldc2_w 56, 3) := by decide +kernel
theorem dX10_vent_6 : decode cX10_vent 6 = .ok (.invokestatic 52, 3) := by decide +kernel
theorem dX10_vent_9 : decode cX10_vent 9 = .ok (.ifCond .ne 6, 3) := by decide +kernel
theorem dX10_vent_12 : decode cX10_vent 12 = .ok (.bipush (-2), 2) := by decide +kernel
theorem dX10_vent_14 : decode cX10_vent 14 = .ok (.ireturn, 1) := by decide +kernel
theorem dX10_vent_15 : decode cX10_vent 15 = .ok (.aload_n 0, 1) := by decide +kernel
theorem dX10_vent_16 : decode cX10_vent 16 = .ok (.getfield 7, 3) := by decide +kernel
theorem dX10_vent_19 : decode cX10_vent 19 = .ok (.bipush 80, 2) := by decide +kernel
theorem dX10_vent_21 : decode cX10_vent 21 = .ok (.laload, 1) := by decide +kernel
theorem dX10_vent_22 : decode cX10_vent 22 = .ok (.l2i, 1) := by decide +kernel
theorem dX10_vent_23 : decode cX10_vent 23 = .ok (.istore_n 2, 1) := by decide +kernel
theorem dX10_vent_24 : decode cX10_vent 24 = .ok (.aload_n 0, 1) := by decide +kernel
theorem dX10_vent_25 : decode cX10_vent 25 = .ok (.iload_n 1, 1) := by decide +kernel
theorem dX10_vent_26 : decode cX10_vent 26 = .ok (.invokevirtual 154, 3) := by decide +kernel
theorem dX10_vent_29 : decode cX10_vent 29 = .ok (.iload_n 2, 1) := by decide +kernel
theorem dX10_vent_30 : decode cX10_vent 30 = .ok (.ireturn, 1) := by decide +kernel
set_option maxRecDepth 20000 in
theorem ggX10_open_X10_isAway : GoodIn wsX10_open wsX10_isAway := goodIn_r _ [6, 1, 20, 21, 22, 23, 24, 25, 26, 27, 28, 29] (by decide +kernel) (by decide +kernel)
set_option maxRecDepth 20000 in
theorem gX10_open_X10_isAway : GoodIn wsX10_open (wsV RX10 106 RX10 yX10_isAway wsX10_isAway) := goodIn_app (goodIn_of _ (by decide +kernel)) ggX10_open_X10_isAway
set_option maxRecDepth 20000 in
theorem ggX10_open_X10_isDoorOpen : GoodIn wsX10_open wsX10_isDoorOpen := goodIn_r _ [10, 1, 20, 21, 22, 23, 24, 25, 26, 27, 28, 29] (by decide +kernel) (by decide +kernel)
set_option maxRecDepth 20000 in
theorem gX10_open_X10_isDoorOpen : GoodIn wsX10_open (wsV RX10 62 RX10 yX10_isDoorOpen wsX10_isDoorOpen) := goodIn_app (goodIn_of _ (by decide +kernel)) ggX10_open_X10_isDoorOpen
set_option maxRecDepth 20000 in
theorem ggX10_open_X10_concentration : GoodIn wsX10_open wsX10_concentration := goodIn_r _ [14, 1, 15, 20, 21, 22, 23, 24, 25, 26, 27, 28, 29] (by decide +kernel) (by decide +kernel)
set_option maxRecDepth 20000 in
theorem gX10_open_X10_concentration : GoodIn wsX10_open (wsV RX10 129 RX10 yX10_concentration wsX10_concentration) := goodIn_app (goodIn_of _ (by decide +kernel)) ggX10_open_X10_concentration
set_option maxRecDepth 20000 in
theorem ggX10_open_X10_openVent : GoodIn wsX10_open wsX10_openVent := goodIn_r _ [19, 1, 20, 21, 22, 23, 24, 25, 26, 27, 28, 29] (by decide +kernel) (by decide +kernel)
set_option maxRecDepth 20000 in
theorem gX10_open_X10_openVent : GoodIn wsX10_open (wsV RX10 135 RX10 yX10_openVent wsX10_openVent) := goodIn_app (goodIn_of _ (by decide +kernel)) ggX10_open_X10_openVent
theorem dX10_open_0 : decode cX10_open 0 = .ok (.aload_n 0, 1) := by decide +kernel
theorem dX10_open_1 : decode cX10_open 1 = .ok (.invokevirtual 106, 3) := by decide +kernel
theorem dX10_open_4 : decode cX10_open 4 = .ok (.ifCond .ne 10, 3) := by decide +kernel
theorem dX10_open_7 : decode cX10_open 7 = .ok (.aload_n 0, 1) := by decide +kernel
theorem dX10_open_8 : decode cX10_open 8 = .ok (.invokevirtual 62, 3) := by decide +kernel
theorem dX10_open_11 : decode cX10_open 11 = .ok (.ifCond .eq 6, 3) := by decide +kernel
theorem dX10_open_14 : decode cX10_open 14 = .ok (.bipush (-5), 2) := by decide +kernel
theorem dX10_open_16 : decode cX10_open 16 = .ok (.ireturn, 1) := by decide +kernel
theorem dX10_open_17 : decode cX10_open 17 = .ok (.aload_n 0, 1) := by decide +kernel
theorem dX10_open_18 : decode cX10_open 18 = .ok (.invokevirtual 129, 3) := by decide +kernel
theorem dX10_open_21 : decode cX10_open 21 = .ok (.i2l, 1) := by decide +kernel
theorem dX10_open_22 : decode cX10_open 22 = .ok (.aload_n 0, 1) := by decide +kernel
theorem dX10_open_23 : decode cX10_open 23 = .ok (.getfield 7, 3) := by decide +kernel
theorem dX10_open_26 : decode cX10_open 26 = .ok (.bipush 72, 2) := by decide +kernel
theorem dX10_open_28 : decode cX10_open 28 = .ok (.laload, 1) := by decide +kernel
theorem dX10_open_29 : decode cX10_open 29 = .ok (.lcmp, 1) := by decide +kernel
theorem dX10_open_30 : decode cX10_open 30 = .ok (.ifCond .lt 10, 3) := by decide +kernel
theorem dX10_open_33 : decode cX10_open 33 = .ok (.aload_n 0, 1) := by decide +kernel
theorem dX10_open_34 : decode cX10_open 34 = .ok (.invokevirtual 135, 3) := by decide +kernel
theorem dX10_open_37 : decode cX10_open 37 = .ok (.bipush (-6), 2) := by decide +kernel
theorem dX10_open_39 : decode cX10_open 39 = .ok (.ireturn, 1) := by decide +kernel
theorem dX10_open_40 : decode cX10_open 40 = .ok (.aload_n 0, 1) := by decide +kernel
theorem dX10_open_41 : decode cX10_open 41 = .ok (.getfield 7, 3) := by decide +kernel
theorem dX10_open_44 : decode cX10_open 44 = .ok (.bipush 83, 2) := by decide +kernel
theorem dX10_open_46 : decode cX10_open 46 = .ok (.lconst 1, 1) := by decide +kernel
theorem dX10_open_47 : decode cX10_open 47 = .ok (.lastore, 1) := by decide +kernel
theorem dX10_open_48 : decode cX10_open 48 = .ok (.aload_n 0, 1) := by decide +kernel
theorem dX10_open_49 : decode cX10_open 49 = .ok (.invokevirtual 129, 3) := by decide +kernel
theorem dX10_open_52 : decode cX10_open 52 = .ok (.ireturn, 1) := by decide +kernel
set_option maxRecDepth 20000 in
theorem ggX10_shut_X10_isDoorOpen : GoodIn wsX10_shut wsX10_isDoorOpen := goodIn_r _ [6, 1, 12, 13, 14, 15, 16, 17, 18, 19, 20, 21] (by decide +kernel) (by decide +kernel)
set_option maxRecDepth 20000 in
theorem gX10_shut_X10_isDoorOpen : GoodIn wsX10_shut (wsV RX10 62 RX10 yX10_isDoorOpen wsX10_isDoorOpen) := goodIn_app (goodIn_of _ (by decide +kernel)) ggX10_shut_X10_isDoorOpen
set_option maxRecDepth 20000 in
theorem ggX10_shut_X10_concentration : GoodIn wsX10_shut wsX10_concentration := goodIn_r _ [10, 1, 11, 12, 13, 14, 15, 16, 17, 18, 19, 20, 21] (by decide +kernel) (by decide +kernel)
set_option maxRecDepth 20000 in
theorem gX10_shut_X10_concentration : GoodIn wsX10_shut (wsV RX10 129 RX10 yX10_concentration wsX10_concentration) := goodIn_app (goodIn_of _ (by decide +kernel)) ggX10_shut_X10_concentration
theorem dX10_shut_0 : decode cX10_shut 0 = .ok (.aload_n 0, 1) := by decide +kernel
theorem dX10_shut_1 : decode cX10_shut 1 = .ok (.invokevirtual 62, 3) := by decide +kernel
theorem dX10_shut_4 : decode cX10_shut 4 = .ok (.ifCond .ne 6, 3) := by decide +kernel
theorem dX10_shut_7 : decode cX10_shut 7 = .ok (.bipush (-5), 2) := by decide +kernel
theorem dX10_shut_9 : decode cX10_shut 9 = .ok (.ireturn, 1) := by decide +kernel
theorem dX10_shut_10 : decode cX10_shut 10 = .ok (.aload_n 0, 1) := by decide +kernel
theorem dX10_shut_11 : decode cX10_shut 11 = .ok (.getfield 7, 3) := by decide +kernel
theorem dX10_shut_14 : decode cX10_shut 14 = .ok (.bipush 83, 2) := by decide +kernel
theorem dX10_shut_16 : decode cX10_shut 16 = .ok (.lconst 0, 1) := by decide +kernel
theorem dX10_shut_17 : decode cX10_shut 17 = .ok (.lastore, 1) := by decide +kernel
theorem dX10_shut_18 : decode cX10_shut 18 = .ok (.aload_n 0, 1) := by decide +kernel
theorem dX10_shut_19 : decode cX10_shut 19 = .ok (.invokevirtual 129, 3) := by decide +kernel
theorem dX10_shut_22 : decode cX10_shut 22 = .ok (.ireturn, 1) := by decide +kernel
set_option maxRecDepth 20000 in
theorem ggX10_allIce_X10_boxes : GoodIn wsX10_allIce wsX10_boxes := goodIn_r _ [5, 6, 11, 12, 13, 14, 15, 16, 17, 18, 19, 20] (by decide +kernel) (by decide +kernel)
set_option maxRecDepth 20000 in
theorem gX10_allIce_X10_boxes : GoodIn wsX10_allIce (wsV RX10 48 RX10 yX10_boxes wsX10_boxes) := goodIn_app (goodIn_of _ (by decide +kernel)) ggX10_allIce_X10_boxes
set_option maxRecDepth 20000 in
theorem ggX10_allIce_X10_of : GoodIn wsX10_allIce wsX10_of := goodIn_r _ [10, 6, 11, 12, 13, 14, 15, 16, 17, 18, 19, 20] (by decide +kernel) (by decide +kernel)
set_option maxRecDepth 20000 in
theorem gX10_allIce_X10_of : GoodIn wsX10_allIce (wsV RX10 74 RX10 yX10_of wsX10_of) := goodIn_app (goodIn_of _ (by decide +kernel)) ggX10_allIce_X10_of
theorem dX10_allIce_0 : decode cX10_allIce 0 = .ok (.lconst 0, 1) := by decide +kernel
theorem dX10_allIce_1 : decode cX10_allIce 1 = .ok (.lstore_n 1, 1) := by decide +kernel
theorem dX10_allIce_2 : decode cX10_allIce 2 = .ok (.iconst 0, 1) := by decide +kernel
theorem dX10_allIce_3 : decode cX10_allIce 3 = .ok (.istore_n 3, 1) := by decide +kernel
theorem dX10_allIce_4 : decode cX10_allIce 4 = .ok (.iload_n 3, 1) := by decide +kernel
theorem dX10_allIce_5 : decode cX10_allIce 5 = .ok (.aload_n 0, 1) := by decide +kernel
theorem dX10_allIce_6 : decode cX10_allIce 6 = .ok (.invokevirtual 48, 3) := by decide +kernel
theorem dX10_allIce_9 : decode cX10_allIce 9 = .ok (.if_icmp .ge 18, 3) := by decide +kernel
theorem dX10_allIce_12 : decode cX10_allIce 12 = .ok (.lload_n 1, 1) := by decide +kernel
theorem dX10_allIce_13 : decode cX10_allIce 13 = .ok (.aload_n 0, 1) := by decide +kernel
theorem dX10_allIce_14 : decode cX10_allIce 14 = .ok (.iload_n 3, 1) := by decide +kernel
theorem dX10_allIce_15 : decode cX10_allIce 15 = .ok (.iconst 2, 1) := by decide +kernel
theorem dX10_allIce_16 : decode cX10_allIce 16 = .ok (.invokevirtual 74, 3) := by decide +kernel
theorem dX10_allIce_19 : decode cX10_allIce 19 = .ok (.ladd, 1) := by decide +kernel
theorem dX10_allIce_20 : decode cX10_allIce 20 = .ok (.lstore_n 1, 1) := by decide +kernel
theorem dX10_allIce_21 : decode cX10_allIce 21 = .ok (.iinc 3 1, 3) := by decide +kernel
theorem dX10_allIce_24 : decode cX10_allIce 24 = .ok (.goto (-20), 3) := by decide +kernel
theorem dX10_allIce_27 : decode cX10_allIce 27 = .ok (.lload_n 1, 1) := by decide +kernel
theorem dX10_allIce_28 : decode cX10_allIce 28 = .ok (.lreturn, 1) := by decide +kernel
set_option maxRecDepth 20000 in
theorem ggX10_take_X10_boxes : GoodIn wsX10_take wsX10_boxes := goodIn_r _ [5, 6, 15, 16, 17, 18, 19, 20, 21, 22, 23, 24] (by decide +kernel) (by decide +kernel)
set_option maxRecDepth 20000 in
theorem gX10_take_X10_boxes : GoodIn wsX10_take (wsV RX10 48 RX10 yX10_boxes wsX10_boxes) := goodIn_app (goodIn_of _ (by decide +kernel)) ggX10_take_X10_boxes
set_option maxRecDepth 20000 in
theorem ggX10_take_X10_of : GoodIn wsX10_take wsX10_of := goodIn_r _ [10, 6, 15, 16, 17, 18, 19, 20, 21, 22, 23, 24] (by decide +kernel) (by decide +kernel)
set_option maxRecDepth 20000 in
theorem gX10_take_X10_of : GoodIn wsX10_take (wsV RX10 74 RX10 yX10_of wsX10_of) := goodIn_app (goodIn_of _ (by decide +kernel)) ggX10_take_X10_of
set_option maxRecDepth 20000 in
theorem ggX10_take_X10_lay : GoodIn wsX10_take wsX10_lay := goodIn_r _ [14, 6, 15, 16, 17, 18, 19, 20, 21, 22, 23, 24] (by decide +kernel) (by decide +kernel)
set_option maxRecDepth 20000 in
theorem gX10_take_X10_lay : GoodIn wsX10_take (wsV RX10 66 RX10 yX10_lay wsX10_lay) := goodIn_app (goodIn_of _ (by decide +kernel)) ggX10_take_X10_lay
theorem dX10_take_0 : decode cX10_take 0 = .ok (.lload_n 1, 1) := by decide +kernel
theorem dX10_take_1 : decode cX10_take 1 = .ok (.lstore_n 3, 1) := by decide +kernel
theorem dX10_take_2 : decode cX10_take 2 = .ok (.iconst 0, 1) := by decide +kernel
theorem dX10_take_3 : decode cX10_take 3 = .ok (.istore 5, 2) := by decide +kernel
theorem dX10_take_5 : decode cX10_take 5 = .ok (.iconst 0, 1) := by decide +kernel
theorem dX10_take_6 : decode cX10_take 6 = .ok (.istore 6, 2) := by decide +kernel
theorem dX10_take_8 : decode cX10_take 8 = .ok (.iload 6, 2) := by decide +kernel
theorem dX10_take_10 : decode cX10_take 10 = .ok (.aload_n 0, 1) := by decide +kernel
theorem dX10_take_11 : decode cX10_take 11 = .ok (.invokevirtual 48, 3) := by decide +kernel
theorem dX10_take_14 : decode cX10_take 14 = .ok (.if_icmp .ge 105, 3) := by decide +kernel
theorem dX10_take_17 : decode cX10_take 17 = .ok (.lload_n 3, 1) := by decide +kernel
theorem dX10_take_18 : decode cX10_take 18 = .ok (.aload_n 0, 1) := by decide +kernel
theorem dX10_take_19 : decode cX10_take 19 = .ok (.iload 6, 2) := by decide +kernel
theorem dX10_take_21 : decode cX10_take 21 = .ok (.iconst 2, 1) := by decide +kernel
theorem dX10_take_22 : decode cX10_take 22 = .ok (.invokevirtual 74, 3) := by decide +kernel
theorem dX10_take_25 : decode cX10_take 25 = .ok (.lcmp, 1) := by decide +kernel
theorem dX10_take_26 : decode cX10_take 26 = .ok (.ifCond .ge 7, 3) := by decide +kernel
theorem dX10_take_29 : decode cX10_take 29 = .ok (.lload_n 3, 1) := by decide +kernel
theorem dX10_take_30 : decode cX10_take 30 = .ok (.goto 10, 3) := by decide +kernel
theorem dX10_take_33 : decode cX10_take 33 = .ok (.aload_n 0, 1) := by decide +kernel
theorem dX10_take_34 : decode cX10_take 34 = .ok (.iload 6, 2) := by decide +kernel
theorem dX10_take_36 : decode cX10_take 36 = .ok (.iconst 2, 1) := by decide +kernel
theorem dX10_take_37 : decode cX10_take 37 = .ok (.invokevirtual 74, 3) := by decide +kernel
theorem dX10_take_40 : decode cX10_take 40 = .ok (.lstore 7, 2) := by decide +kernel
theorem dX10_take_42 : decode cX10_take 42 = .ok (.aload_n 0, 1) := by decide +kernel
theorem dX10_take_43 : decode cX10_take 43 = .ok (.iload 6, 2) := by decide +kernel
theorem dX10_take_45 : decode cX10_take 45 = .ok (.iconst 3, 1) := by decide +kernel
theorem dX10_take_46 : decode cX10_take 46 = .ok (.invokevirtual 74, 3) := by decide +kernel
theorem dX10_take_49 : decode cX10_take 49 = .ok (.lload 7, 2) := by decide +kernel
theorem dX10_take_51 : decode cX10_take 51 = .ok (.lsub, 1) := by decide +kernel
theorem dX10_take_52 : decode cX10_take 52 = .ok (.lstore 9, 2) := by decide +kernel
theorem dX10_take_54 : decode cX10_take 54 = .ok (.aload_n 0, 1) := by decide +kernel
theorem dX10_take_55 : decode cX10_take 55 = .ok (.iload 6, 2) := by decide +kernel
theorem dX10_take_57 : decode cX10_take 57 = .ok (.iconst 2, 1) := by decide +kernel
theorem dX10_take_58 : decode cX10_take 58 = .ok (.aload_n 0, 1) := by decide +kernel
theorem dX10_take_59 : decode cX10_take 59 = .ok (.iload 6, 2) := by decide +kernel
theorem dX10_take_61 : decode cX10_take 61 = .ok (.iconst 2, 1) := by decide +kernel
theorem dX10_take_62 : decode cX10_take 62 = .ok (.invokevirtual 74, 3) := by decide +kernel
theorem dX10_take_65 : decode cX10_take 65 = .ok (.lload 7, 2) := by decide +kernel
theorem dX10_take_67 : decode cX10_take 67 = .ok (.lsub, 1) := by decide +kernel
theorem dX10_take_68 : decode cX10_take 68 = .ok (.invokevirtual 66, 3) := by decide +kernel
theorem dX10_take_71 : decode cX10_take 71 = .ok (.aload_n 0, 1) := by decide +kernel
theorem dX10_take_72 : decode cX10_take 72 = .ok (.iload 6, 2) := by decide +kernel
theorem dX10_take_74 : decode cX10_take 74 = .ok (.iconst 3, 1) := by decide +kernel
theorem dX10_take_75 : decode cX10_take 75 = .ok (.lload 9, 2) := by decide +kernel
theorem dX10_take_77 : decode cX10_take 77 = .ok (.lconst 0, 1) := by decide +kernel
theorem dX10_take_78 : decode cX10_take 78 = .ok (.lcmp, 1) := by decide +kernel
theorem dX10_take_79 : decode cX10_take 79 = .ok (.ifCond .ge 7, 3) := by decide +kernel
theorem dX10_take_82 : decode cX10_take 82 = .ok (.lconst 0, 1) := by decide +kernel
theorem dX10_take_83 : decode cX10_take 83 = .ok (.goto 5, 3) := by decide +kernel
theorem dX10_take_86 : decode cX10_take 86 = .ok (.lload 9, 2) := by decide +kernel
theorem dX10_take_88 : decode cX10_take 88 = .ok (.invokevirtual 66, 3) := by decide +kernel
theorem dX10_take_91 : decode cX10_take 91 = .ok (.iload 5, 2) := by decide +kernel
theorem dX10_take_93 : decode cX10_take 93 = .ok (.lload 7, 2) := by decide +kernel
theorem dX10_take_95 : decode cX10_take 95 = .ok (.lconst 0, 1) := by decide +kernel
theorem dX10_take_96 : decode cX10_take 96 = .ok (.lcmp, 1) := by decide +kernel
theorem dX10_take_97 : decode cX10_take 97 = .ok (.ifCond .le 7, 3) := by decide +kernel
theorem dX10_take_100 : decode cX10_take 100 = .ok (.iconst 1, 1) := by decide +kernel
theorem dX10_take_101 : decode cX10_take 101 = .ok (.goto 4, 3) := by decide +kernel
theorem dX10_take_104 : decode cX10_take 104 = .ok (.iconst 0, 1) := by decide +kernel
theorem dX10_take_105 : decode cX10_take 105 = .ok (.iadd, 1) := by decide +kernel
theorem dX10_take_106 : decode cX10_take 106 = .ok (.istore 5, 2) := by decide +kernel
theorem dX10_take_108 : decode cX10_take 108 = .ok (.lload_n 3, 1) := by decide +kernel
theorem dX10_take_109 : decode cX10_take 109 = .ok (.lload 7, 2) := by decide +kernel
theorem dX10_take_111 : decode cX10_take 111 = .ok (.lsub, 1) := by decide +kernel
theorem dX10_take_112 : decode cX10_take 112 = .ok (.lstore_n 3, 1) := by decide +kernel
theorem dX10_take_113 : decode cX10_take 113 = .ok (.iinc 6 1, 3) := by decide +kernel
theorem dX10_take_116 : decode cX10_take 116 = .ok (.goto (-108), 3) := by decide +kernel
theorem dX10_take_119 : decode cX10_take 119 = .ok (.iload 5, 2) := by decide +kernel
theorem dX10_take_121 : decode cX10_take 121 = .ok (.ireturn, 1) := by decide +kernel
set_option maxRecDepth 20000 in
theorem ggX10_sell_X10_in : GoodIn wsX10_sell wsX10_in := goodIn_r _ [6] (by decide +kernel) (by decide +kernel)
set_option maxRecDepth 20000 in
theorem gX10_sell_X10_in : GoodIn wsX10_sell (va_wsS RX10 52 yX10_in wsX10_in) := goodIn_app (goodIn_of _ (by decide +kernel)) ggX10_sell_X10_in
set_option maxRecDepth 20000 in
theorem ggX10_sell_X10_isDoorOpen : GoodIn wsX10_sell wsX10_isDoorOpen := goodIn_r _ [10, 2, 31, 32, 33, 34, 35, 36, 37, 38, 39, 40] (by decide +kernel) (by decide +kernel)
set_option maxRecDepth 20000 in
theorem gX10_sell_X10_isDoorOpen : GoodIn wsX10_sell (wsV RX10 62 RX10 yX10_isDoorOpen wsX10_isDoorOpen) := goodIn_app (goodIn_of _ (by decide +kernel)) ggX10_sell_X10_isDoorOpen
set_option maxRecDepth 20000 in
theorem ggX10_sell_X10_allIce : GoodIn wsX10_sell wsX10_allIce := goodIn_r _ [14, 15, 16, 17, 5, 18, 2, 19, 20, 21, 22, 31, 32, 33, 34, 35, 36, 37, 38, 39, 40] (by decide +kernel) (by decide +kernel)
set_option maxRecDepth 20000 in
theorem gX10_sell_X10_allIce : GoodIn wsX10_sell (wsV RX10 160 RX10 yX10_allIce wsX10_allIce) := goodIn_app (goodIn_of _ (by decide +kernel)) ggX10_sell_X10_allIce
set_option maxRecDepth 20000 in
theorem ggX10_sell_X10_take : GoodIn wsX10_sell wsX10_take := goodIn_r _ [26, 15, 16, 17, 5, 18, 2, 19, 20, 21, 22, 27, 28, 29, 30, 31, 32, 33, 34, 35, 36, 37, 38, 39, 40] (by decide +kernel) (by decide +kernel)
set_option maxRecDepth 20000 in
theorem gX10_sell_X10_take : GoodIn wsX10_sell (wsV RX10 163 RX10 yX10_take wsX10_take) := goodIn_app (goodIn_of _ (by decide +kernel)) ggX10_sell_X10_take
theorem dX10_sell_0 : decode cX10_sell 0 = .ok (.iload_n 1, 1) := by decide +kernel
theorem dX10_sell_1 : decode cX10_sell 1 = .ok (.i2l, 1) := by decide +kernel
theorem dX10_sell_2 : decode cX10_sell 2 = .ok (.lconst 1, 1) := by decide +kernel
theorem dX10_sell_3 : decode cX10_sell 3 = .ok (.ldc2_w 158, 3) := by decide +kernel
theorem dX10_sell_6 : decode cX10_sell 6 = .ok (.invokestatic 52, 3) := by decide +kernel
theorem dX10_sell_9 : decode cX10_sell 9 = .ok (.ifCond .ne 6, 3) := by decide +kernel
theorem dX10_sell_12 : decode cX10_sell 12 = .ok (.bipush (-2), 2) := by decide +kernel
theorem dX10_sell_14 : decode cX10_sell 14 = .ok (.ireturn, 1) := by decide +kernel
theorem dX10_sell_15 : decode cX10_sell 15 = .ok (.aload_n 0, 1) := by decide +kernel
theorem dX10_sell_16 : decode cX10_sell 16 = .ok (.invokevirtual 62, 3) := by decide +kernel
theorem dX10_sell_19 : decode cX10_sell 19 = .ok (.ifCond .eq 13, 3) := by decide +kernel
theorem dX10_sell_22 : decode cX10_sell 22 = .ok (.aload_n 0, 1) := by decide +kernel
theorem dX10_sell_23 : decode cX10_sell 23 = .ok (.invokevirtual 160, 3) := by decide +kernel
theorem dX10_sell_26 : decode cX10_sell 26 = .ok (.iload_n 1, 1) := by decide +kernel
theorem dX10_sell_27 : decode cX10_sell 27 = .ok (.i2l, 1) := by decide +kernel
theorem dX10_sell_28 : decode cX10_sell 28 = .ok (.lcmp, 1) := by decide +kernel
theorem dX10_sell_29 : decode cX10_sell 29 = .ok (.ifCond .ge 6, 3) := by decide +kernel
theorem dX10_sell_32 : decode cX10_sell 32 = .ok (.bipush (-5), 2) := by decide +kernel
theorem dX10_sell_34 : decode cX10_sell 34 = .ok (.ireturn, 1) := by decide +kernel
theorem dX10_sell_35 : decode cX10_sell 35 = .ok (.aload_n 0, 1) := by decide +kernel
theorem dX10_sell_36 : decode cX10_sell 36 = .ok (.getfield 7, 3) := by decide +kernel
theorem dX10_sell_39 : decode cX10_sell 39 = .ok (.bipush 91, 2) := by decide +kernel
theorem dX10_sell_41 : decode cX10_sell 41 = .ok (.dup2, 1) := by decide +kernel
theorem dX10_sell_42 : decode cX10_sell 42 = .ok (.laload, 1) := by decide +kernel
theorem dX10_sell_43 : decode cX10_sell 43 = .ok (.iload_n 1, 1) := by decide +kernel
theorem dX10_sell_44 : decode cX10_sell 44 = .ok (.i2l, 1) := by decide +kernel
theorem dX10_sell_45 : decode cX10_sell 45 = .ok (.ladd, 1) := by decide +kernel
theorem dX10_sell_46 : decode cX10_sell 46 = .ok (.lastore, 1) := by decide +kernel
theorem dX10_sell_47 : decode cX10_sell 47 = .ok (.aload_n 0, 1) := by decide +kernel
theorem dX10_sell_48 : decode cX10_sell 48 = .ok (.iload_n 1, 1) := by decide +kernel
theorem dX10_sell_49 : decode cX10_sell 49 = .ok (.i2l, 1) := by decide +kernel
theorem dX10_sell_50 : decode cX10_sell 50 = .ok (.invokevirtual 163, 3) := by decide +kernel
theorem dX10_sell_53 : decode cX10_sell 53 = .ok (.ireturn, 1) := by decide +kernel
set_option maxRecDepth 20000 in
theorem ggX10_spill_X10_isBox : GoodIn wsX10_spill wsX10_isBox := goodIn_r _ [7, 8, 9, 10, 6, 11, 2, 12, 13, 14, 23, 24, 25, 26, 27, 28, 29, 30, 31, 32] (by decide +kernel) (by decide +kernel)
set_option maxRecDepth 20000 in
theorem gX10_spill_X10_isBox : GoodIn wsX10_spill (wsV RX10 70 RX10 yX10_isBox wsX10_isBox) := goodIn_app (goodIn_of _ (by decide +kernel)) ggX10_spill_X10_isBox
set_option maxRecDepth 20000 in
theorem ggX10_spill_X10_in : GoodIn wsX10_spill wsX10_in := goodIn_r _ [14] (by decide +kernel) (by decide +kernel)
set_option maxRecDepth 20000 in
theorem gX10_spill_X10_in : GoodIn wsX10_spill (va_wsS RX10 52 yX10_in wsX10_in) := goodIn_app (goodIn_of _ (by decide +kernel)) ggX10_spill_X10_in
set_option maxRecDepth 20000 in
theorem ggX10_spill_X10_of : GoodIn wsX10_spill wsX10_of := goodIn_r _ [18, 2, 23, 24, 25, 26, 27, 28, 29, 30, 31, 32] (by decide +kernel) (by decide +kernel)
set_option maxRecDepth 20000 in
theorem gX10_spill_X10_of : GoodIn wsX10_spill (wsV RX10 74 RX10 yX10_of wsX10_of) := goodIn_app (goodIn_of _ (by decide +kernel)) ggX10_spill_X10_of
set_option maxRecDepth 20000 in
theorem ggX10_spill_X10_lay : GoodIn wsX10_spill wsX10_lay := goodIn_r _ [22, 2, 23, 24, 25, 26, 27, 28, 29, 30, 31, 32] (by decide +kernel) (by decide +kernel)
set_option maxRecDepth 20000 in
theorem gX10_spill_X10_lay : GoodIn wsX10_spill (wsV RX10 66 RX10 yX10_lay wsX10_lay) := goodIn_app (goodIn_of _ (by decide +kernel)) ggX10_spill_X10_lay
theorem dX10_spill_0 : decode cX10_spill 0 = .ok (.aload_n 0, 1) := by decide +kernel
theorem dX10_spill_1 : decode cX10_spill 1 = .ok (.iload_n 1, 1) := by decide +kernel
theorem dX10_spill_2 : decode cX10_spill 2 = .ok (.invokevirtual 70, 3) := by decide +kernel
theorem dX10_spill_5 : decode cX10_spill 5 = .ok (.ifCond .ne 5, 3) := by decide +kernel
theorem dX10_spill_8 : decode cX10_spill 8 = .ok (.iconst (-1), 1) := by decide +kernel
theorem dX10_spill_9 : decode cX10_spill 9 = .ok (.ireturn, 1) := by decide +kernel
theorem dX10_spill_10 : decode cX10_spill 10 = .ok (.iload_n 2, 1) := by decide +kernel
theorem dX10_spill_11 : decode cX10_spill 11 = .ok (.i2l, 1) := by decide +kernel
theorem dX10_spill_12 : decode cX10_spill 12 = .ok (.lconst 1, 1) := by decide +kernel
theorem dX10_spill_13 : decode cX10_spill 13 = .ok (.ldc2_w 60, 3) := by decide +kernel
theorem dX10_spill_16 : decode cX10_spill 16 = .ok (.invokestatic 52, 3) := by decide +kernel
theorem dX10_spill_19 : decode cX10_spill 19 = .ok (.ifCond .eq 15, 3) := by decide +kernel
theorem dX10_spill_22 : decode cX10_spill 22 = .ok (.iload_n 2, 1) := by decide +kernel
theorem dX10_spill_23 : decode cX10_spill 23 = .ok (.i2l, 1) := by decide +kernel
theorem dX10_spill_24 : decode cX10_spill 24 = .ok (.aload_n 0, 1) := by decide +kernel
theorem dX10_spill_25 : decode cX10_spill 25 = .ok (.iload_n 1, 1) := by decide +kernel
theorem dX10_spill_26 : decode cX10_spill 26 = .ok (.iconst 2, 1) := by decide +kernel
theorem dX10_spill_27 : decode cX10_spill 27 = .ok (.invokevirtual 74, 3) := by decide +kernel
theorem dX10_spill_30 : decode cX10_spill 30 = .ok (.lcmp, 1) := by decide +kernel
theorem dX10_spill_31 : decode cX10_spill 31 = .ok (.ifCond .le 6, 3) := by decide +kernel
theorem dX10_spill_34 : decode cX10_spill 34 = .ok (.bipush (-2), 2) := by decide +kernel
theorem dX10_spill_36 : decode cX10_spill 36 = .ok (.ireturn, 1) := by decide +kernel
theorem dX10_spill_37 : decode cX10_spill 37 = .ok (.aload_n 0, 1) := by decide +kernel
theorem dX10_spill_38 : decode cX10_spill 38 = .ok (.iload_n 1, 1) := by decide +kernel
theorem dX10_spill_39 : decode cX10_spill 39 = .ok (.iconst 2, 1) := by decide +kernel
theorem dX10_spill_40 : decode cX10_spill 40 = .ok (.aload_n 0, 1) := by decide +kernel
theorem dX10_spill_41 : decode cX10_spill 41 = .ok (.iload_n 1, 1) := by decide +kernel
theorem dX10_spill_42 : decode cX10_spill 42 = .ok (.iconst 2, 1) := by decide +kernel
theorem dX10_spill_43 : decode cX10_spill 43 = .ok (.invokevirtual 74, 3) := by decide +kernel
theorem dX10_spill_46 : decode cX10_spill 46 = .ok (.iload_n 2, 1) := by decide +kernel
theorem dX10_spill_47 : decode cX10_spill 47 = .ok (.i2l, 1) := by decide +kernel
theorem dX10_spill_48 : decode cX10_spill 48 = .ok (.lsub, 1) := by decide +kernel
theorem dX10_spill_49 : decode cX10_spill 49 = .ok (.invokevirtual 66, 3) := by decide +kernel
theorem dX10_spill_52 : decode cX10_spill 52 = .ok (.aload_n 0, 1) := by decide +kernel
theorem dX10_spill_53 : decode cX10_spill 53 = .ok (.getfield 7, 3) := by decide +kernel
theorem dX10_spill_56 : decode cX10_spill 56 = .ok (.bipush 92, 2) := by decide +kernel
theorem dX10_spill_58 : decode cX10_spill 58 = .ok (.dup2, 1) := by decide +kernel
theorem dX10_spill_59 : decode cX10_spill 59 = .ok (.laload, 1) := by decide +kernel
theorem dX10_spill_60 : decode cX10_spill 60 = .ok (.iload_n 2, 1) := by decide +kernel
theorem dX10_spill_61 : decode cX10_spill 61 = .ok (.i2l, 1) := by decide +kernel
theorem dX10_spill_62 : decode cX10_spill 62 = .ok (.ladd, 1) := by decide +kernel
theorem dX10_spill_63 : decode cX10_spill 63 = .ok (.lastore, 1) := by decide +kernel
theorem dX10_spill_64 : decode cX10_spill 64 = .ok (.aload_n 0, 1) := by decide +kernel
theorem dX10_spill_65 : decode cX10_spill 65 = .ok (.iload_n 1, 1) := by decide +kernel
theorem dX10_spill_66 : decode cX10_spill 66 = .ok (.iconst 2, 1) := by decide +kernel
theorem dX10_spill_67 : decode cX10_spill 67 = .ok (.invokevirtual 74, 3) := by decide +kernel
theorem dX10_spill_70 : decode cX10_spill 70 = .ok (.l2i, 1) := by decide +kernel
theorem dX10_spill_71 : decode cX10_spill 71 = .ok (.ireturn, 1) := by decide +kernel
set_option maxRecDepth 20000 in
theorem ggX10_weigh_X10_isBox : GoodIn wsX10_weigh wsX10_isBox := goodIn_r _ [5, 6, 7, 8, 4, 9, 10, 11, 12, 13, 22, 23, 24, 25, 26, 27, 28, 29, 30, 31] (by decide +kernel) (by decide +kernel)
set_option maxRecDepth 20000 in
theorem gX10_weigh_X10_isBox : GoodIn wsX10_weigh (wsV RX10 70 RX10 yX10_isBox wsX10_isBox) := goodIn_app (goodIn_of _ (by decide +kernel)) ggX10_weigh_X10_isBox
set_option maxRecDepth 20000 in
theorem ggX10_weigh_X10_isAway : GoodIn wsX10_weigh wsX10_isAway := goodIn_r _ [17, 10, 22, 23, 24, 25, 26, 27, 28, 29, 30, 31] (by decide +kernel) (by decide +kernel)
set_option maxRecDepth 20000 in
theorem gX10_weigh_X10_isAway : GoodIn wsX10_weigh (wsV RX10 106 RX10 yX10_isAway wsX10_isAway) := goodIn_app (goodIn_of _ (by decide +kernel)) ggX10_weigh_X10_isAway
set_option maxRecDepth 20000 in
theorem ggX10_weigh_X10_of : GoodIn wsX10_weigh wsX10_of := goodIn_r _ [21, 10, 22, 23, 24, 25, 26, 27, 28, 29, 30, 31] (by decide +kernel) (by decide +kernel)
set_option maxRecDepth 20000 in
theorem gX10_weigh_X10_of : GoodIn wsX10_weigh (wsV RX10 74 RX10 yX10_of wsX10_of) := goodIn_app (goodIn_of _ (by decide +kernel)) ggX10_weigh_X10_of
theorem dX10_weigh_0 : decode cX10_weigh 0 = .ok (.aload_n 0, 1) := by decide +kernel
theorem dX10_weigh_1 : decode cX10_weigh 1 = .ok (.iload_n 1, 1) := by decide +kernel
theorem dX10_weigh_2 : decode cX10_weigh 2 = .ok (.invokevirtual 70, 3) := by decide +kernel
theorem dX10_weigh_5 : decode cX10_weigh 5 = .ok (.ifCond .ne 5, 3) := by decide +kernel
theorem dX10_weigh_8 : decode cX10_weigh 8 = .ok (.iconst (-1), 1) := by decide +kernel
theorem dX10_weigh_9 : decode cX10_weigh 9 = .ok (.ireturn, 1) := by decide +kernel
theorem dX10_weigh_10 : decode cX10_weigh 10 = .ok (.aload_n 0, 1) := by decide +kernel
theorem dX10_weigh_11 : decode cX10_weigh 11 = .ok (.invokevirtual 106, 3) := by decide +kernel
theorem dX10_weigh_14 : decode cX10_weigh 14 = .ok (.ifCond .eq 8, 3) := by decide +kernel
theorem dX10_weigh_17 : decode cX10_weigh 17 = .ok (.bipush (-5), 2) := by decide +kernel
theorem dX10_weigh_19 : decode cX10_weigh 19 = .ok (.goto 17, 3) := by decide +kernel
theorem dX10_weigh_22 : decode cX10_weigh 22 = .ok (.aload_n 0, 1) := by decide +kernel
theorem dX10_weigh_23 : decode cX10_weigh 23 = .ok (.iload_n 1, 1) := by decide +kernel
theorem dX10_weigh_24 : decode cX10_weigh 24 = .ok (.iconst 1, 1) := by decide +kernel
theorem dX10_weigh_25 : decode cX10_weigh 25 = .ok (.invokevirtual 74, 3) := by decide +kernel
theorem dX10_weigh_28 : decode cX10_weigh 28 = .ok (.aload_n 0, 1) := by decide +kernel
theorem dX10_weigh_29 : decode cX10_weigh 29 = .ok (.iload_n 1, 1) := by decide +kernel
theorem dX10_weigh_30 : decode cX10_weigh 30 = .ok (.iconst 2, 1) := by decide +kernel
theorem dX10_weigh_31 : decode cX10_weigh 31 = .ok (.invokevirtual 74, 3) := by decide +kernel
theorem dX10_weigh_34 : decode cX10_weigh 34 = .ok (.ladd, 1) := by decide +kernel
theorem dX10_weigh_35 : decode cX10_weigh 35 = .ok (.l2i, 1) := by decide +kernel
theorem dX10_weigh_36 : decode cX10_weigh 36 = .ok (.ireturn, 1) := by decide +kernel
set_option maxRecDepth 20000 in
theorem ggX10_check_X10_isBox : GoodIn wsX10_check wsX10_isBox := goodIn_r _ [7, 8, 9, 10, 6, 11, 12, 13, 14, 15, 28, 29, 30, 31, 32, 33, 34, 35, 36, 37] (by decide +kernel) (by decide +kernel)
set_option maxRecDepth 20000 in
theorem gX10_check_X10_isBox : GoodIn wsX10_check (wsV RX10 70 RX10 yX10_isBox wsX10_isBox) := goodIn_app (goodIn_of _ (by decide +kernel)) ggX10_check_X10_isBox
set_option maxRecDepth 20000 in
theorem ggX10_check_X10_isAway : GoodIn wsX10_check wsX10_isAway := goodIn_r _ [19, 12, 28, 29, 30, 31, 32, 33, 34, 35, 36, 37] (by decide +kernel) (by decide +kernel)
set_option maxRecDepth 20000 in
theorem gX10_check_X10_isAway : GoodIn wsX10_check (wsV RX10 106 RX10 yX10_isAway wsX10_isAway) := goodIn_app (goodIn_of _ (by decide +kernel)) ggX10_check_X10_isAway
set_option maxRecDepth 20000 in
theorem ggX10_check_X10_of : GoodIn wsX10_check wsX10_of := goodIn_r _ [23, 12, 28, 29, 30, 31, 32, 33, 34, 35, 36, 37] (by decide +kernel) (by decide +kernel)
set_option maxRecDepth 20000 in
theorem gX10_check_X10_of : GoodIn wsX10_check (wsV RX10 74 RX10 yX10_of wsX10_of) := goodIn_app (goodIn_of _ (by decide +kernel)) ggX10_check_X10_of
set_option maxRecDepth 20000 in
theorem ggX10_check_X10_lay : GoodIn wsX10_check wsX10_lay := goodIn_r _ [27, 12, 28, 29, 30, 31, 32, 33, 34, 35, 36, 37] (by decide +kernel) (by decide +kernel)
set_option maxRecDepth 20000 in
theorem gX10_check_X10_lay : GoodIn wsX10_check (wsV RX10 66 RX10 yX10_lay wsX10_lay) := goodIn_app (goodIn_of _ (by decide +kernel)) ggX10_check_X10_lay
theorem dX10_check_0 : decode cX10_check 0 = .ok (.aload_n 0, 1) := by decide +kernel
theorem dX10_check_1 : decode cX10_check 1 = .ok (.iload_n 1, 1) := by decide +kernel
theorem dX10_check_2 : decode cX10_check 2 = .ok (.invokevirtual 70, 3) := by decide +kernel
theorem dX10_check_5 : decode cX10_check 5 = .ok (.ifCond .ne 6, 3) := by decide +kernel
theorem dX10_check_8 : decode cX10_check 8 = .ok (.ldc 167, 2) := by decide +kernel
theorem dX10_check_10 : decode cX10_check 10 = .ok (.ireturn, 1) := by decide +kernel
theorem dX10_check_11 : decode cX10_check 11 = .ok (.aload_n 0, 1) := by decide +kernel
theorem dX10_check_12 : decode cX10_check 12 = .ok (.invokevirtual 106, 3) := by decide +kernel
theorem dX10_check_15 : decode cX10_check 15 = .ok (.ifCond .eq 6, 3) := by decide +kernel
theorem dX10_check_18 : decode cX10_check 18 = .ok (.ldc 168, 2) := by decide +kernel
theorem dX10_check_20 : decode cX10_check 20 = .ok (.ireturn, 1) := by decide +kernel
theorem dX10_check_21 : decode cX10_check 21 = .ok (.aload_n 0, 1) := by decide +kernel
theorem dX10_check_22 : decode cX10_check 22 = .ok (.iload_n 1, 1) := by decide +kernel
theorem dX10_check_23 : decode cX10_check 23 = .ok (.iconst 3, 1) := by decide +kernel
theorem dX10_check_24 : decode cX10_check 24 = .ok (.invokevirtual 74, 3) := by decide +kernel
theorem dX10_check_27 : decode cX10_check 27 = .ok (.aload_n 0, 1) := by decide +kernel
theorem dX10_check_28 : decode cX10_check 28 = .ok (.iload_n 1, 1) := by decide +kernel
theorem dX10_check_29 : decode cX10_check 29 = .ok (.iconst 2, 1) := by decide +kernel
theorem dX10_check_30 : decode cX10_check 30 = .ok (.invokevirtual 74, 3) := by decide +kernel
theorem dX10_check_33 : decode cX10_check 33 = .ok (.lsub, 1) := by decide +kernel
theorem dX10_check_34 : decode cX10_check 34 = .ok (.l2i, 1) := by decide +kernel
theorem dX10_check_35 : decode cX10_check 35 = .ok (.istore_n 2, 1) := by decide +kernel
theorem dX10_check_36 : decode cX10_check 36 = .ok (.aload_n 0, 1) := by decide +kernel
theorem dX10_check_37 : decode cX10_check 37 = .ok (.iload_n 1, 1) := by decide +kernel
theorem dX10_check_38 : decode cX10_check 38 = .ok (.iconst 3, 1) := by decide +kernel
theorem dX10_check_39 : decode cX10_check 39 = .ok (.aload_n 0, 1) := by decide +kernel
theorem dX10_check_40 : decode cX10_check 40 = .ok (.iload_n 1, 1) := by decide +kernel
theorem dX10_check_41 : decode cX10_check 41 = .ok (.iconst 2, 1) := by decide +kernel
theorem dX10_check_42 : decode cX10_check 42 = .ok (.invokevirtual 74, 3) := by decide +kernel
theorem dX10_check_45 : decode cX10_check 45 = .ok (.invokevirtual 66, 3) := by decide +kernel
theorem dX10_check_48 : decode cX10_check 48 = .ok (.iload_n 2, 1) := by decide +kernel
theorem dX10_check_49 : decode cX10_check 49 = .ok (.ireturn, 1) := by decide +kernel
set_option maxRecDepth 20000 in
theorem ggX10_box_X10_isBox : GoodIn wsX10_box wsX10_isBox := goodIn_r _ [6, 7, 8, 9, 5, 10, 11, 12, 13, 14, 25, 26, 27, 28, 29, 30, 31, 32, 33, 34] (by decide +kernel) (by decide +kernel)
set_option maxRecDepth 20000 in
theorem gX10_box_X10_isBox : GoodIn wsX10_box (wsV RX10 70 RX10 yX10_isBox wsX10_isBox) := goodIn_app (goodIn_of _ (by decide +kernel)) ggX10_box_X10_isBox
set_option maxRecDepth 20000 in
theorem ggX10_box_X10_goesOff : GoodIn wsX10_box wsX10_goesOff := goodIn_r _ [18, 11, 19, 20, 21, 22, 23, 5, 24, 25, 26, 27, 28, 29, 30, 31, 32, 33, 34] (by decide +kernel) (by decide +kernel)
set_option maxRecDepth 20000 in
theorem gX10_box_X10_goesOff : GoodIn wsX10_box (wsV RX10 117 RX10 yX10_goesOff wsX10_goesOff) := goodIn_app (goodIn_of _ (by decide +kernel)) ggX10_box_X10_goesOff
set_option maxRecDepth 20000 in
theorem ggX10_box_X10_in : GoodIn wsX10_box wsX10_in := goodIn_r _ [14] (by decide +kernel) (by decide +kernel)
set_option maxRecDepth 20000 in
theorem gX10_box_X10_in : GoodIn wsX10_box (va_wsS RX10 52 yX10_in wsX10_in) := goodIn_app (goodIn_of _ (by decide +kernel)) ggX10_box_X10_in
set_option maxRecDepth 20000 in
theorem ggX10_box_X10_of : GoodIn wsX10_box wsX10_of := goodIn_r _ [24, 11, 25, 26, 27, 28, 29, 30, 31, 32, 33, 34] (by decide +kernel) (by decide +kernel)
set_option maxRecDepth 20000 in
theorem gX10_box_X10_of : GoodIn wsX10_box (wsV RX10 74 RX10 yX10_of wsX10_of) := goodIn_app (goodIn_of _ (by decide +kernel)) ggX10_box_X10_of
theorem dX10_box_0 : decode cX10_box 0 = .ok (.aload_n 0, 1) := by decide +kernel
theorem dX10_box_1 : decode cX10_box 1 = .ok (.iload_n 1, 1) := by decide +kernel
theorem dX10_box_2 : decode cX10_box 2 = .ok (.invokevirtual 70, 3) := by decide +kernel
theorem dX10_box_5 : decode cX10_box 5 = .ok (.ifCond .ne 5, 3) := by decide +kernel
theorem dX10_box_8 : decode cX10_box 8 = .ok (.iconst (-1), 1) := by decide +kernel
theorem dX10_box_9 : decode cX10_box 9 = .ok (.ireturn, 1) := by decide +kernel
theorem dX10_box_10 : decode cX10_box 10 = .ok (.iload_n 2, 1) := by decide +kernel
theorem dX10_box_11 : decode cX10_box 11 = .ok (.iconst 4, 1) := by decide +kernel
theorem dX10_box_12 : decode cX10_box 12 = .ok (.if_icmp .ne 12, 3) := by decide +kernel
theorem dX10_box_15 : decode cX10_box 15 = .ok (.aload_n 0, 1) := by decide +kernel
theorem dX10_box_16 : decode cX10_box 16 = .ok (.iload_n 1, 1) := by decide +kernel
theorem dX10_box_17 : decode cX10_box 17 = .ok (.invokevirtual 117, 3) := by decide +kernel
theorem dX10_box_20 : decode cX10_box 20 = .ok (.l2i, 1) := by decide +kernel
theorem dX10_box_21 : decode cX10_box 21 = .ok (.goto 27, 3) := by decide +kernel
theorem dX10_box_24 : decode cX10_box 24 = .ok (.iload_n 2, 1) := by decide +kernel
theorem dX10_box_25 : decode cX10_box 25 = .ok (.i2l, 1) := by decide +kernel
theorem dX10_box_26 : decode cX10_box 26 = .ok (.lconst 0, 1) := by decide +kernel
theorem dX10_box_27 : decode cX10_box 27 = .ok (.ldc2_w 169, 3) := by decide +kernel
theorem dX10_box_30 : decode cX10_box 30 = .ok (.invokestatic 52, 3) := by decide +kernel
theorem dX10_box_33 : decode cX10_box 33 = .ok (.ifCond .eq 13, 3) := by decide +kernel
theorem dX10_box_36 : decode cX10_box 36 = .ok (.aload_n 0, 1) := by decide +kernel
theorem dX10_box_37 : decode cX10_box 37 = .ok (.iload_n 1, 1) := by decide +kernel
theorem dX10_box_38 : decode cX10_box 38 = .ok (.iload_n 2, 1) := by decide +kernel
theorem dX10_box_39 : decode cX10_box 39 = .ok (.invokevirtual 74, 3) := by decide +kernel
theorem dX10_box_42 : decode cX10_box 42 = .ok (.l2i, 1) := by decide +kernel
theorem dX10_box_43 : decode cX10_box 43 = .ok (.goto 5, 3) := by decide +kernel
theorem dX10_box_46 : decode cX10_box 46 = .ok (.bipush (-2), 2) := by decide +kernel
theorem dX10_box_48 : decode cX10_box 48 = .ok (.ireturn, 1) := by decide +kernel
set_option maxRecDepth 20000 in
theorem ggX10_minutesLeft_X10_isAway : GoodIn wsX10_minutesLeft wsX10_isAway := goodIn_r _ [6, 1, 7, 8, 9, 10, 11, 12, 13, 14, 15, 16] (by decide +kernel) (by decide +kernel)
set_option maxRecDepth 20000 in
theorem gX10_minutesLeft_X10_isAway : GoodIn wsX10_minutesLeft (wsV RX10 106 RX10 yX10_isAway wsX10_isAway) := goodIn_app (goodIn_of _ (by decide +kernel)) ggX10_minutesLeft_X10_isAway
theorem dX10_minutesLeft_0 : decode cX10_minutesLeft 0 = .ok (.aload_n 0, 1) := by decide +kernel
theorem dX10_minutesLeft_1 : decode cX10_minutesLeft 1 = .ok (.invokevirtual 106, 3) := by decide +kernel
theorem dX10_minutesLeft_4 : decode cX10_minutesLeft 4 = .ok (.ifCond .eq 33, 3) := by decide +kernel
theorem dX10_minutesLeft_7 : decode cX10_minutesLeft 7 = .ok (.aload_n 0, 1) := by decide +kernel
theorem dX10_minutesLeft_8 : decode cX10_minutesLeft 8 = .ok (.getfield 7, 3) := by decide +kernel
theorem dX10_minutesLeft_11 : decode cX10_minutesLeft 11 = .ok (.bipush 40, 2) := by decide +kernel
theorem dX10_minutesLeft_13 : decode cX10_minutesLeft 13 = .ok (.iconst 2, 1) := by decide +kernel
theorem dX10_minutesLeft_14 : decode cX10_minutesLeft 14 = .ok (.aload_n 0, 1) := by decide +kernel
theorem dX10_minutesLeft_15 : decode cX10_minutesLeft 15 = .ok (.getfield 7, 3) := by decide +kernel
theorem dX10_minutesLeft_18 : decode cX10_minutesLeft 18 = .ok (.bipush 84, 2) := by decide +kernel
theorem dX10_minutesLeft_20 : decode cX10_minutesLeft 20 = .ok (.laload, 1) := by decide +kernel
theorem dX10_minutesLeft_21 : decode cX10_minutesLeft 21 = .ok (.l2i, 1) := by decide +kernel
theorem dX10_minutesLeft_22 : decode cX10_minutesLeft 22 = .ok (.imul, 1) := by decide +kernel
theorem dX10_minutesLeft_23 : decode cX10_minutesLeft 23 = .ok (.iadd, 1) := by decide +kernel
theorem dX10_minutesLeft_24 : decode cX10_minutesLeft 24 = .ok (.laload, 1) := by decide +kernel
theorem dX10_minutesLeft_25 : decode cX10_minutesLeft 25 = .ok (.aload_n 0, 1) := by decide +kernel
theorem dX10_minutesLeft_26 : decode cX10_minutesLeft 26 = .ok (.getfield 7, 3) := by decide +kernel
theorem dX10_minutesLeft_29 : decode cX10_minutesLeft 29 = .ok (.bipush 85, 2) := by decide +kernel
theorem dX10_minutesLeft_31 : decode cX10_minutesLeft 31 = .ok (.laload, 1) := by decide +kernel
theorem dX10_minutesLeft_32 : decode cX10_minutesLeft 32 = .ok (.lsub, 1) := by decide +kernel
theorem dX10_minutesLeft_33 : decode cX10_minutesLeft 33 = .ok (.l2i, 1) := by decide +kernel
theorem dX10_minutesLeft_34 : decode cX10_minutesLeft 34 = .ok (.goto 4, 3) := by decide +kernel
theorem dX10_minutesLeft_37 : decode cX10_minutesLeft 37 = .ok (.iconst 0, 1) := by decide +kernel
theorem dX10_minutesLeft_38 : decode cX10_minutesLeft 38 = .ok (.ireturn, 1) := by decide +kernel
set_option maxRecDepth 20000 in
theorem ggX10_van_X10_in : GoodIn wsX10_van wsX10_in := goodIn_r _ [10] (by decide +kernel) (by decide +kernel)
set_option maxRecDepth 20000 in
theorem gX10_van_X10_in : GoodIn wsX10_van (va_wsS RX10 52 yX10_in wsX10_in) := goodIn_app (goodIn_of _ (by decide +kernel)) ggX10_van_X10_in
set_option maxRecDepth 20000 in
theorem ggX10_van_X10_outside : GoodIn wsX10_van wsX10_outside := goodIn_r _ [14, 3, 15, 37, 38, 39, 40, 41, 42, 43, 44, 45, 46] (by decide +kernel) (by decide +kernel)
set_option maxRecDepth 20000 in
theorem gX10_van_X10_outside : GoodIn wsX10_van (wsV RX10 121 RX10 yX10_outside wsX10_outside) := goodIn_app (goodIn_of _ (by decide +kernel)) ggX10_van_X10_outside
set_option maxRecDepth 20000 in
theorem ggX10_van_X10_concentration : GoodIn wsX10_van wsX10_concentration := goodIn_r _ [19, 3, 20, 37, 38, 39, 40, 41, 42, 43, 44, 45, 46] (by decide +kernel) (by decide +kernel)
set_option maxRecDepth 20000 in
theorem gX10_van_X10_concentration : GoodIn wsX10_van (wsV RX10 129 RX10 yX10_concentration wsX10_concentration) := goodIn_app (goodIn_of _ (by decide +kernel)) ggX10_van_X10_concentration
set_option maxRecDepth 20000 in
theorem ggX10_van_X10_minutesLeft : GoodIn wsX10_van wsX10_minutesLeft := goodIn_r _ [24, 3, 25, 26, 27, 9, 28, 37, 38, 39, 40, 41, 42, 43, 44, 45, 46] (by decide +kernel) (by decide +kernel)
set_option maxRecDepth 20000 in
theorem gX10_van_X10_minutesLeft : GoodIn wsX10_van (wsV RX10 176 RX10 yX10_minutesLeft wsX10_minutesLeft) := goodIn_app (goodIn_of _ (by decide +kernel)) ggX10_van_X10_minutesLeft
set_option maxRecDepth 20000 in
theorem ggX10_van_X10_boxes : GoodIn wsX10_van wsX10_boxes := goodIn_r _ [32, 3, 37, 38, 39, 40, 41, 42, 43, 44, 45, 46] (by decide +kernel) (by decide +kernel)
set_option maxRecDepth 20000 in
theorem gX10_van_X10_boxes : GoodIn wsX10_van (wsV RX10 48 RX10 yX10_boxes wsX10_boxes) := goodIn_app (goodIn_of _ (by decide +kernel)) ggX10_van_X10_boxes
set_option maxRecDepth 20000 in
theorem ggX10_van_X10_legs : GoodIn wsX10_van wsX10_legs := goodIn_r _ [36, 3, 37, 38, 39, 40, 41, 42, 43, 44, 45, 46] (by decide +kernel) (by decide +kernel)
set_option maxRecDepth 20000 in
theorem gX10_van_X10_legs : GoodIn wsX10_van (wsV RX10 103 RX10 yX10_legs wsX10_legs) := goodIn_app (goodIn_of _ (by decide +kernel)) ggX10_van_X10_legs
theorem dX10_van_0 : decode cX10_van 0 = .ok (.iload_n 1, 1) := by decide +kernel
theorem dX10_van_1 : decode cX10_van 1 = .ok (.i2l, 1) := by decide +kernel
theorem dX10_van_2 : decode cX10_van 2 = .ok (.ldc2_w 171, 3) := by decide +kernel
theorem dX10_van_5 : decode cX10_van 5 = .ok (.ldc2_w 173, 3) := by decide +kernel
theorem dX10_van_8 : decode cX10_van 8 = .ok (.invokestatic 52, 3) := by decide +kernel
theorem dX10_van_11 : decode cX10_van 11 = .ok (.ifCond .eq 17, 3) := by decide +kernel
theorem dX10_van_14 : decode cX10_van 14 = .ok (.aload_n 0, 1) := by decide +kernel
theorem dX10_van_15 : decode cX10_van 15 = .ok (.getfield 7, 3) := by decide +kernel
theorem dX10_van_18 : decode cX10_van 18 = .ok (.bipush 64, 2) := by decide +kernel
theorem dX10_van_20 : decode cX10_van 20 = .ok (.iload_n 1, 1) := by decide +kernel
theorem dX10_van_21 : decode cX10_van 21 = .ok (.iadd, 1) := by decide +kernel
theorem dX10_van_22 : decode cX10_van 22 = .ok (.bipush 15, 2) := by decide +kernel
theorem dX10_van_24 : decode cX10_van 24 = .ok (.isub, 1) := by decide +kernel
theorem dX10_van_25 : decode cX10_van 25 = .ok (.laload, 1) := by decide +kernel
theorem dX10_van_26 : decode cX10_van 26 = .ok (.l2i, 1) := by decide +kernel
theorem dX10_van_27 : decode cX10_van 27 = .ok (.ireturn, 1) := by decide +kernel
theorem dX10_van_28 : decode cX10_van 28 = .ok (.iload_n 1, 1) := by decide +kernel
theorem dX10_van_29 : decode cX10_van 29 = .ok (.tableswitch 204 0 14 #[75, 84, 93, 99, 108, 113, 122, 131, 140, 149, 175, 180, 189, 194, 199], 75) := by decide +kernel
theorem dX10_van_104 : decode cX10_van 104 = .ok (.aload_n 0, 1) := by decide +kernel
theorem dX10_van_105 : decode cX10_van 105 = .ok (.getfield 7, 3) := by decide +kernel
theorem dX10_van_108 : decode cX10_van 108 = .ok (.bipush 77, 2) := by decide +kernel
theorem dX10_van_110 : decode cX10_van 110 = .ok (.laload, 1) := by decide +kernel
theorem dX10_van_111 : decode cX10_van 111 = .ok (.l2i, 1) := by decide +kernel
theorem dX10_van_112 : decode cX10_van 112 = .ok (.ireturn, 1) := by decide +kernel
theorem dX10_van_113 : decode cX10_van 113 = .ok (.aload_n 0, 1) := by decide +kernel
theorem dX10_van_114 : decode cX10_van 114 = .ok (.getfield 7, 3) := by decide +kernel
theorem dX10_van_117 : decode cX10_van 117 = .ok (.bipush 78, 2) := by decide +kernel
theorem dX10_van_119 : decode cX10_van 119 = .ok (.laload, 1) := by decide +kernel
theorem dX10_van_120 : decode cX10_van 120 = .ok (.l2i, 1) := by decide +kernel
theorem dX10_van_121 : decode cX10_van 121 = .ok (.ireturn, 1) := by decide +kernel
theorem dX10_van_122 : decode cX10_van 122 = .ok (.aload_n 0, 1) := by decide +kernel
theorem dX10_van_123 : decode cX10_van 123 = .ok (.invokevirtual 121, 3) := by decide +kernel
theorem dX10_van_126 : decode cX10_van 126 = .ok (.l2i, 1) := by decide +kernel
theorem dX10_van_127 : decode cX10_van 127 = .ok (.ireturn, 1) := by decide +kernel
theorem dX10_van_128 : decode cX10_van 128 = .ok (.aload_n 0, 1) := by decide +kernel
theorem dX10_van_129 : decode cX10_van 129 = .ok (.getfield 7, 3) := by decide +kernel
theorem dX10_van_132 : decode cX10_van 132 = .ok (.bipush 79, 2) := by decide +kernel
theorem dX10_van_134 : decode cX10_van 134 = .ok (.laload, 1) := by decide +kernel
theorem dX10_van_135 : decode cX10_van 135 = .ok (.l2i, 1) := by decide +kernel
theorem dX10_van_136 : decode cX10_van 136 = .ok (.ireturn, 1) := by decide +kernel
theorem dX10_van_137 : decode cX10_van 137 = .ok (.aload_n 0, 1) := by decide +kernel
theorem dX10_van_138 : decode cX10_van 138 = .ok (.invokevirtual 129, 3) := by decide +kernel
theorem dX10_van_141 : decode cX10_van 141 = .ok (.ireturn, 1) := by decide +kernel
theorem dX10_van_142 : decode cX10_van 142 = .ok (.aload_n 0, 1) := by decide +kernel
theorem dX10_van_143 : decode cX10_van 143 = .ok (.getfield 7, 3) := by decide +kernel
theorem dX10_van_146 : decode cX10_van 146 = .ok (.bipush 80, 2) := by decide +kernel
theorem dX10_van_148 : decode cX10_van 148 = .ok (.laload, 1) := by decide +kernel
theorem dX10_van_149 : decode cX10_van 149 = .ok (.l2i, 1) := by decide +kernel
theorem dX10_van_150 : decode cX10_van 150 = .ok (.ireturn, 1) := by decide +kernel
theorem dX10_van_151 : decode cX10_van 151 = .ok (.aload_n 0, 1) := by decide +kernel
theorem dX10_van_152 : decode cX10_van 152 = .ok (.getfield 7, 3) := by decide +kernel
theorem dX10_van_155 : decode cX10_van 155 = .ok (.bipush 81, 2) := by decide +kernel
theorem dX10_van_157 : decode cX10_van 157 = .ok (.laload, 1) := by decide +kernel
theorem dX10_van_158 : decode cX10_van 158 = .ok (.l2i, 1) := by decide +kernel
theorem dX10_van_159 : decode cX10_van 159 = .ok (.ireturn, 1) := by decide +kernel
theorem dX10_van_160 : decode cX10_van 160 = .ok (.aload_n 0, 1) := by decide +kernel
theorem dX10_van_161 : decode cX10_van 161 = .ok (.getfield 7, 3) := by decide +kernel
theorem dX10_van_164 : decode cX10_van 164 = .ok (.bipush 82, 2) := by decide +kernel
theorem dX10_van_166 : decode cX10_van 166 = .ok (.laload, 1) := by decide +kernel
theorem dX10_van_167 : decode cX10_van 167 = .ok (.l2i, 1) := by decide +kernel
theorem dX10_van_168 : decode cX10_van 168 = .ok (.ireturn, 1) := by decide +kernel
theorem dX10_van_169 : decode cX10_van 169 = .ok (.aload_n 0, 1) := by decide +kernel
theorem dX10_van_170 : decode cX10_van 170 = .ok (.getfield 7, 3) := by decide +kernel
theorem dX10_van_173 : decode cX10_van 173 = .ok (.bipush 83, 2) := by decide +kernel
theorem dX10_van_175 : decode cX10_van 175 = .ok (.laload, 1) := by decide +kernel
theorem dX10_van_176 : decode cX10_van 176 = .ok (.l2i, 1) := by decide +kernel
theorem dX10_van_177 : decode cX10_van 177 = .ok (.ireturn, 1) := by decide +kernel
theorem dX10_van_178 : decode cX10_van 178 = .ok (.aload_n 0, 1) := by decide +kernel
theorem dX10_van_179 : decode cX10_van 179 = .ok (.getfield 7, 3) := by decide +kernel
theorem dX10_van_182 : decode cX10_van 182 = .ok (.bipush 84, 2) := by decide +kernel
theorem dX10_van_184 : decode cX10_van 184 = .ok (.laload, 1) := by decide +kernel
theorem dX10_van_185 : decode cX10_van 185 = .ok (.lconst 0, 1) := by decide +kernel
theorem dX10_van_186 : decode cX10_van 186 = .ok (.lcmp, 1) := by decide +kernel
theorem dX10_van_187 : decode cX10_van 187 = .ok (.ifCond .ge 8, 3) := by decide +kernel
theorem dX10_van_190 : decode cX10_van 190 = .ok (.ldc 175, 2) := by decide +kernel
theorem dX10_van_192 : decode cX10_van 192 = .ok (.goto 11, 3) := by decide +kernel
theorem dX10_van_195 : decode cX10_van 195 = .ok (.aload_n 0, 1) := by decide +kernel
theorem dX10_van_196 : decode cX10_van 196 = .ok (.getfield 7, 3) := by decide +kernel
theorem dX10_van_199 : decode cX10_van 199 = .ok (.bipush 84, 2) := by decide +kernel
theorem dX10_van_201 : decode cX10_van 201 = .ok (.laload, 1) := by decide +kernel
theorem dX10_van_202 : decode cX10_van 202 = .ok (.l2i, 1) := by decide +kernel
theorem dX10_van_203 : decode cX10_van 203 = .ok (.ireturn, 1) := by decide +kernel
theorem dX10_van_204 : decode cX10_van 204 = .ok (.aload_n 0, 1) := by decide +kernel
theorem dX10_van_205 : decode cX10_van 205 = .ok (.invokevirtual 176, 3) := by decide +kernel
theorem dX10_van_208 : decode cX10_van 208 = .ok (.ireturn, 1) := by decide +kernel
theorem dX10_van_209 : decode cX10_van 209 = .ok (.aload_n 0, 1) := by decide +kernel
theorem dX10_van_210 : decode cX10_van 210 = .ok (.getfield 7, 3) := by decide +kernel
theorem dX10_van_213 : decode cX10_van 213 = .ok (.bipush 87, 2) := by decide +kernel
theorem dX10_van_215 : decode cX10_van 215 = .ok (.laload, 1) := by decide +kernel
theorem dX10_van_216 : decode cX10_van 216 = .ok (.l2i, 1) := by decide +kernel
theorem dX10_van_217 : decode cX10_van 217 = .ok (.ireturn, 1) := by decide +kernel
theorem dX10_van_218 : decode cX10_van 218 = .ok (.aload_n 0, 1) := by decide +kernel
theorem dX10_van_219 : decode cX10_van 219 = .ok (.invokevirtual 48, 3) := by decide +kernel
theorem dX10_van_222 : decode cX10_van 222 = .ok (.ireturn, 1) := by decide +kernel
theorem dX10_van_223 : decode cX10_van 223 = .ok (.aload_n 0, 1) := by decide +kernel
theorem dX10_van_224 : decode cX10_van 224 = .ok (.invokevirtual 103, 3) := by decide +kernel
theorem dX10_van_227 : decode cX10_van 227 = .ok (.ireturn, 1) := by decide +kernel
theorem dX10_van_228 : decode cX10_van 228 = .ok (.aload_n 0, 1) := by decide +kernel
theorem dX10_van_229 : decode cX10_van 229 = .ok (.getfield 179, 3) := by decide +kernel
theorem dX10_van_232 : decode cX10_van 232 = .ok (.ireturn, 1) := by decide +kernel
theorem dX10_van_233 : decode cX10_van 233 = .ok (.ldc 183, 2) := by decide +kernel
theorem dX10_van_235 : decode cX10_van 235 = .ok (.ireturn, 1) := by decide +kernel
set_option maxRecDepth 20000 in
theorem ggX10_way_X10_legs : GoodIn wsX10_way wsX10_legs := goodIn_r _ [8, 2, 12, 13, 14, 15, 16, 17, 18, 19, 20, 21] (by decide +kernel) (by decide +kernel)
set_option maxRecDepth 20000 in
theorem gX10_way_X10_legs : GoodIn wsX10_way (wsV RX10 103 RX10 yX10_legs wsX10_legs) := goodIn_app (goodIn_of _ (by decide +kernel)) ggX10_way_X10_legs
set_option maxRecDepth 20000 in
theorem ggX10_way_X10_in : GoodIn wsX10_way wsX10_in := goodIn_r _ [11] (by decide +kernel) (by decide +kernel)
set_option maxRecDepth 20000 in
theorem gX10_way_X10_in : GoodIn wsX10_way (va_wsS RX10 52 yX10_in wsX10_in) := goodIn_app (goodIn_of _ (by decide +kernel)) ggX10_way_X10_in
theorem dX10_way_0 : decode cX10_way 0 = .ok (.iload_n 1, 1) := by decide +kernel
theorem dX10_way_1 : decode cX10_way 1 = .ok (.i2l, 1) := by decide +kernel
theorem dX10_way_2 : decode cX10_way 2 = .ok (.lconst 0, 1) := by decide +kernel
theorem dX10_way_3 : decode cX10_way 3 = .ok (.aload_n 0, 1) := by decide +kernel
theorem dX10_way_4 : decode cX10_way 4 = .ok (.invokevirtual 103, 3) := by decide +kernel
theorem dX10_way_7 : decode cX10_way 7 = .ok (.iconst 1, 1) := by decide +kernel
theorem dX10_way_8 : decode cX10_way 8 = .ok (.isub, 1) := by decide +kernel
theorem dX10_way_9 : decode cX10_way 9 = .ok (.i2l, 1) := by decide +kernel
theorem dX10_way_10 : decode cX10_way 10 = .ok (.invokestatic 52, 3) := by decide +kernel
theorem dX10_way_13 : decode cX10_way 13 = .ok (.ifCond .ne 6, 3) := by decide +kernel
theorem dX10_way_16 : decode cX10_way 16 = .ok (.ldc 167, 2) := by decide +kernel
theorem dX10_way_18 : decode cX10_way 18 = .ok (.ireturn, 1) := by decide +kernel
theorem dX10_way_19 : decode cX10_way 19 = .ok (.iload_n 2, 1) := by decide +kernel
theorem dX10_way_20 : decode cX10_way 20 = .ok (.i2l, 1) := by decide +kernel
theorem dX10_way_21 : decode cX10_way 21 = .ok (.lconst 0, 1) := by decide +kernel
theorem dX10_way_22 : decode cX10_way 22 = .ok (.lconst 1, 1) := by decide +kernel
theorem dX10_way_23 : decode cX10_way 23 = .ok (.invokestatic 52, 3) := by decide +kernel
theorem dX10_way_26 : decode cX10_way 26 = .ok (.ifCond .eq 20, 3) := by decide +kernel
theorem dX10_way_29 : decode cX10_way 29 = .ok (.aload_n 0, 1) := by decide +kernel
theorem dX10_way_30 : decode cX10_way 30 = .ok (.getfield 7, 3) := by decide +kernel
theorem dX10_way_33 : decode cX10_way 33 = .ok (.bipush 40, 2) := by decide +kernel
theorem dX10_way_35 : decode cX10_way 35 = .ok (.iconst 2, 1) := by decide +kernel
theorem dX10_way_36 : decode cX10_way 36 = .ok (.iload_n 1, 1) := by decide +kernel
theorem dX10_way_37 : decode cX10_way 37 = .ok (.imul, 1) := by decide +kernel
theorem dX10_way_38 : decode cX10_way 38 = .ok (.iadd, 1) := by decide +kernel
theorem dX10_way_39 : decode cX10_way 39 = .ok (.iload_n 2, 1) := by decide +kernel
theorem dX10_way_40 : decode cX10_way 40 = .ok (.iadd, 1) := by decide +kernel
theorem dX10_way_41 : decode cX10_way 41 = .ok (.laload, 1) := by decide +kernel
theorem dX10_way_42 : decode cX10_way 42 = .ok (.l2i, 1) := by decide +kernel
theorem dX10_way_43 : decode cX10_way 43 = .ok (.goto 5, 3) := by decide +kernel
theorem dX10_way_46 : decode cX10_way 46 = .ok (.ldc 183, 2) := by decide +kernel
theorem dX10_way_48 : decode cX10_way 48 = .ok (.ireturn, 1) := by decide +kernel
set_option maxRecDepth 20000 in
theorem ggX10_account_X10_allIce : GoodIn wsX10_account wsX10_allIce := goodIn_r _ [8, 9, 10, 11, 7, 12, 2, 13, 14, 15, 16, 20, 21, 22, 23, 24, 25, 26, 27, 28, 29] (by decide +kernel) (by decide +kernel)
set_option maxRecDepth 20000 in
theorem gX10_account_X10_allIce : GoodIn wsX10_account (wsV RX10 160 RX10 yX10_allIce wsX10_allIce) := goodIn_app (goodIn_of _ (by decide +kernel)) ggX10_account_X10_allIce
set_option maxRecDepth 20000 in
theorem ggX10_account_X10_in : GoodIn wsX10_account wsX10_in := goodIn_r _ [19] (by decide +kernel) (by decide +kernel)
set_option maxRecDepth 20000 in
theorem gX10_account_X10_in : GoodIn wsX10_account (va_wsS RX10 52 yX10_in wsX10_in) := goodIn_app (goodIn_of _ (by decide +kernel)) ggX10_account_X10_in
theorem dX10_account_0 : decode cX10_account 0 = .ok (.iload_n 1, 1) := by decide +kernel
theorem dX10_account_1 : decode cX10_account 1 = .ok (.ifCond .ne 10, 3) := by decide +kernel
theorem dX10_account_4 : decode cX10_account 4 = .ok (.aload_n 0, 1) := by decide +kernel
theorem dX10_account_5 : decode cX10_account 5 = .ok (.invokevirtual 160, 3) := by decide +kernel
theorem dX10_account_8 : decode cX10_account 8 = .ok (.goto 32, 3) := by decide +kernel
theorem dX10_account_11 : decode cX10_account 11 = .ok (.iload_n 1, 1) := by decide +kernel
theorem dX10_account_12 : decode cX10_account 12 = .ok (.i2l, 1) := by decide +kernel
theorem dX10_account_13 : decode cX10_account 13 = .ok (.lconst 1, 1) := by decide +kernel
theorem dX10_account_14 : decode cX10_account 14 = .ok (.ldc2_w 38, 3) := by decide +kernel
theorem dX10_account_17 : decode cX10_account 17 = .ok (.invokestatic 52, 3) := by decide +kernel
theorem dX10_account_20 : decode cX10_account 20 = .ok (.ifCond .eq 17, 3) := by decide +kernel
theorem dX10_account_23 : decode cX10_account 23 = .ok (.aload_n 0, 1) := by decide +kernel
theorem dX10_account_24 : decode cX10_account 24 = .ok (.getfield 7, 3) := by decide +kernel
theorem dX10_account_27 : decode cX10_account 27 = .ok (.bipush 88, 2) := by decide +kernel
theorem dX10_account_29 : decode cX10_account 29 = .ok (.iload_n 1, 1) := by decide +kernel
theorem dX10_account_30 : decode cX10_account 30 = .ok (.iadd, 1) := by decide +kernel
theorem dX10_account_31 : decode cX10_account 31 = .ok (.iconst 1, 1) := by decide +kernel
theorem dX10_account_32 : decode cX10_account 32 = .ok (.isub, 1) := by decide +kernel
theorem dX10_account_33 : decode cX10_account 33 = .ok (.laload, 1) := by decide +kernel
theorem dX10_account_34 : decode cX10_account 34 = .ok (.goto 6, 3) := by decide +kernel
theorem dX10_account_37 : decode cX10_account 37 = .ok (.ldc2_w 184, 3) := by decide +kernel
theorem dX10_account_40 : decode cX10_account 40 = .ok (.lreturn, 1) := by decide +kernel
set_option maxRecDepth 20000 in
theorem ggX10_goToStop_X10_isAway : GoodIn wsX10_goToStop wsX10_isAway := goodIn_r _ [5, 6, 70, 71, 72, 73, 74, 75, 76, 77, 78, 79] (by decide +kernel) (by decide +kernel)
set_option maxRecDepth 20000 in
theorem gX10_goToStop_X10_isAway : GoodIn wsX10_goToStop (wsV RX10 106 RX10 yX10_isAway wsX10_isAway) := goodIn_app (goodIn_of _ (by decide +kernel)) ggX10_goToStop_X10_isAway
set_option maxRecDepth 20000 in
theorem ggX10_goToStop_X10_makeMinute : GoodIn wsX10_goToStop wsX10_makeMinute := goodIn_r _ [10, 6, 11, 12, 13, 4, 14, 15, 16, 17, 18, 19, 20, 21, 22, 23, 24, 25, 26, 27, 28, 29, 30, 31, 32, 33, 34, 35, 36, 37, 38, 39, 40, 41, 42, 43, 44, 45, 46, 47, 48, 49, 50, 51, 52, 53, 54, 55, 56, 57, 58, 59, 60, 61, 62, 63, 64, 65, 66, 67, 68, 69, 1, 2, 3, 5, 70, 71, 72, 73, 74, 75, 76, 77, 78, 79] (by decide +kernel) (by decide +kernel)
set_option maxRecDepth 20000 in
theorem gX10_goToStop_X10_makeMinute : GoodIn wsX10_goToStop (wsV RX10 151 RX10 yX10_makeMinute wsX10_makeMinute) := goodIn_app (goodIn_of _ (by decide +kernel)) ggX10_goToStop_X10_makeMinute
theorem dX10_goToStop_0 : decode cX10_goToStop 0 = .ok (.aload_n 0, 1) := by decide +kernel
theorem dX10_goToStop_1 : decode cX10_goToStop 1 = .ok (.invokevirtual 106, 3) := by decide +kernel
theorem dX10_goToStop_4 : decode cX10_goToStop 4 = .ok (.ifCond .eq 10, 3) := by decide +kernel
theorem dX10_goToStop_7 : decode cX10_goToStop 7 = .ok (.aload_n 0, 1) := by decide +kernel
theorem dX10_goToStop_8 : decode cX10_goToStop 8 = .ok (.invokevirtual 151, 3) := by decide +kernel
theorem dX10_goToStop_11 : decode cX10_goToStop 11 = .ok (.goto (-11), 3) := by decide +kernel
theorem dX10_goToStop_14 : decode cX10_goToStop 14 = .ok (.return_, 1) := by decide +kernel
set_option maxRecDepth 20000 in
theorem ggX10_stay_X10_makeMinute : GoodIn wsX10_stay wsX10_makeMinute := goodIn_r _ [5, 6, 7, 8, 9, 4, 10, 11, 12, 13, 14, 15, 16, 17, 18, 19, 20, 21, 22, 23, 24, 25, 26, 27, 28, 29, 30, 31, 32, 33, 34, 35, 36, 37, 38, 39, 40, 41, 42, 43, 44, 45, 46, 47, 48, 49, 50, 51, 52, 53, 54, 55, 56, 57, 58, 59, 60, 61, 62, 63, 64, 65, 66, 67, 68, 69, 70, 71, 72, 73, 74, 75, 76, 77, 78, 79] (by decide +kernel) (by decide +kernel)
set_option maxRecDepth 20000 in
theorem gX10_stay_X10_makeMinute : GoodIn wsX10_stay (wsV RX10 151 RX10 yX10_makeMinute wsX10_makeMinute) := goodIn_app (goodIn_of _ (by decide +kernel)) ggX10_stay_X10_makeMinute
theorem dX10_stay_0 : decode cX10_stay 0 = .ok (.iconst 0, 1) := by decide +kernel
theorem dX10_stay_1 : decode cX10_stay 1 = .ok (.istore_n 2, 1) := by decide +kernel
theorem dX10_stay_2 : decode cX10_stay 2 = .ok (.iload_n 2, 1) := by decide +kernel
theorem dX10_stay_3 : decode cX10_stay 3 = .ok (.iload_n 1, 1) := by decide +kernel
theorem dX10_stay_4 : decode cX10_stay 4 = .ok (.if_icmp .ge 13, 3) := by decide +kernel
theorem dX10_stay_7 : decode cX10_stay 7 = .ok (.aload_n 0, 1) := by decide +kernel
theorem dX10_stay_8 : decode cX10_stay 8 = .ok (.invokevirtual 151, 3) := by decide +kernel
theorem dX10_stay_11 : decode cX10_stay 11 = .ok (.iinc 2 1, 3) := by decide +kernel
theorem dX10_stay_14 : decode cX10_stay 14 = .ok (.goto (-12), 3) := by decide +kernel
theorem dX10_stay_17 : decode cX10_stay 17 = .ok (.return_, 1) := by decide +kernel
set_option maxRecDepth 20000 in
theorem ggX10_atEnd_X10_isBox : GoodIn wsX10_atEnd wsX10_isBox := goodIn_r _ [7, 8, 9, 10, 6, 11, 2, 12, 13, 14, 106, 107, 108, 109, 110, 111, 112, 113, 114, 115] (by decide +kernel) (by decide +kernel)
set_option maxRecDepth 20000 in
theorem gX10_atEnd_X10_isBox : GoodIn wsX10_atEnd (wsV RX10 70 RX10 yX10_isBox wsX10_isBox) := goodIn_app (goodIn_of _ (by decide +kernel)) ggX10_atEnd_X10_isBox
set_option maxRecDepth 20000 in
theorem ggX10_atEnd_X10_in : GoodIn wsX10_atEnd wsX10_in := goodIn_r _ [14] (by decide +kernel) (by decide +kernel)
set_option maxRecDepth 20000 in
theorem gX10_atEnd_X10_in : GoodIn wsX10_atEnd (va_wsS RX10 52 yX10_in wsX10_in) := goodIn_app (goodIn_of _ (by decide +kernel)) ggX10_atEnd_X10_in
set_option maxRecDepth 20000 in
theorem ggX10_atEnd_X10_putAside : GoodIn wsX10_atEnd wsX10_putAside := goodIn_r _ [18, 19, 2, 106, 107, 108, 109, 110, 111, 112, 113, 114, 115] (by decide +kernel) (by decide +kernel)
set_option maxRecDepth 20000 in
theorem gX10_atEnd_X10_putAside : GoodIn wsX10_atEnd (wsV RX10 186 RX10 yX10_putAside wsX10_putAside) := goodIn_app (goodIn_of _ (by decide +kernel)) ggX10_atEnd_X10_putAside
set_option maxRecDepth 20000 in
theorem ggX10_atEnd_X10_isAway : GoodIn wsX10_atEnd wsX10_isAway := goodIn_r _ [23, 2, 106, 107, 108, 109, 110, 111, 112, 113, 114, 115] (by decide +kernel) (by decide +kernel)
set_option maxRecDepth 20000 in
theorem gX10_atEnd_X10_isAway : GoodIn wsX10_atEnd (wsV RX10 106 RX10 yX10_isAway wsX10_isAway) := goodIn_app (goodIn_of _ (by decide +kernel)) ggX10_atEnd_X10_isAway
set_option maxRecDepth 20000 in
theorem ggX10_atEnd_X10_goToStop : GoodIn wsX10_atEnd wsX10_goToStop := goodIn_r _ [27, 20, 21, 22, 6, 23, 2, 28, 29, 30, 31, 32, 33, 34, 35, 8, 9, 10, 11, 36, 37, 38, 39, 40, 1, 41, 42, 43, 44, 45, 46, 47, 48, 49, 50, 51, 52, 53, 54, 55, 56, 57, 58, 59, 60, 61, 62, 63, 64, 65, 66, 67, 68, 69, 70, 71, 72, 73, 74, 75, 76, 77, 78, 79, 80, 81, 82, 83, 84, 85, 106, 107, 108, 109, 110, 111, 112, 113, 114, 115] (by decide +kernel) (by decide +kernel)
set_option maxRecDepth 20000 in
theorem gX10_atEnd_X10_goToStop : GoodIn wsX10_atEnd (wsV RX10 189 RX10 yX10_goToStop wsX10_goToStop) := goodIn_app (goodIn_of _ (by decide +kernel)) ggX10_atEnd_X10_goToStop
set_option maxRecDepth 20000 in
theorem ggX10_atEnd_X10_hasNext : GoodIn wsX10_atEnd wsX10_hasNext := goodIn_r _ [89, 2, 90, 91, 92, 6, 93, 106, 107, 108, 109, 110, 111, 112, 113, 114, 115] (by decide +kernel) (by decide +kernel)
set_option maxRecDepth 20000 in
theorem gX10_atEnd_X10_hasNext : GoodIn wsX10_atEnd (wsV RX10 109 RX10 yX10_hasNext wsX10_hasNext) := goodIn_app (goodIn_of _ (by decide +kernel)) ggX10_atEnd_X10_hasNext
set_option maxRecDepth 20000 in
theorem ggX10_atEnd_X10_stay : GoodIn wsX10_atEnd wsX10_stay := goodIn_r _ [97, 28, 29, 30, 6, 31, 2, 32, 33, 34, 35, 8, 9, 10, 11, 36, 37, 38, 39, 40, 1, 41, 42, 43, 44, 45, 46, 47, 48, 49, 50, 51, 52, 53, 54, 55, 56, 57, 58, 59, 60, 61, 62, 63, 64, 65, 66, 67, 68, 69, 70, 71, 72, 73, 74, 75, 76, 77, 78, 79, 80, 81, 82, 83, 84, 85, 20, 21, 22, 23, 106, 107, 108, 109, 110, 111, 112, 113, 114, 115] (by decide +kernel) (by decide +kernel)
set_option maxRecDepth 20000 in
theorem gX10_atEnd_X10_stay : GoodIn wsX10_atEnd (wsV RX10 192 RX10 yX10_stay wsX10_stay) := goodIn_app (goodIn_of _ (by decide +kernel)) ggX10_atEnd_X10_stay
set_option maxRecDepth 20000 in
theorem ggX10_atEnd_X10_begin : GoodIn wsX10_atEnd wsX10_begin := goodIn_r _ [101, 2, 106, 107, 108, 109, 110, 111, 112, 113, 114, 115] (by decide +kernel) (by decide +kernel)
set_option maxRecDepth 20000 in
theorem gX10_atEnd_X10_begin : GoodIn wsX10_atEnd (wsV RX10 112 RX10 yX10_begin wsX10_begin) := goodIn_app (goodIn_of _ (by decide +kernel)) ggX10_atEnd_X10_begin
set_option maxRecDepth 20000 in
theorem ggX10_atEnd_X10_of : GoodIn wsX10_atEnd wsX10_of := goodIn_r _ [44, 2, 106, 107, 108, 109, 110, 111, 112, 113, 114, 115] (by decide +kernel) (by decide +kernel)
set_option maxRecDepth 20000 in
theorem gX10_atEnd_X10_of : GoodIn wsX10_atEnd (wsV RX10 74 RX10 yX10_of wsX10_of) := goodIn_app (goodIn_of _ (by decide +kernel)) ggX10_atEnd_X10_of
set_option maxRecDepth 20000 in
theorem ggX10_atEnd_X10_putBack : GoodIn wsX10_atEnd wsX10_putBack := goodIn_r _ [105, 2, 19, 106, 107, 108, 109, 110, 111, 112, 113, 114, 115] (by decide +kernel) (by decide +kernel)
set_option maxRecDepth 20000 in
theorem gX10_atEnd_X10_putBack : GoodIn wsX10_atEnd (wsV RX10 195 RX10 yX10_putBack wsX10_putBack) := goodIn_app (goodIn_of _ (by decide +kernel)) ggX10_atEnd_X10_putBack
theorem dX10_atEnd_0 : decode cX10_atEnd 0 = .ok (.aload_n 0, 1) := by decide +kernel
theorem dX10_atEnd_1 : decode cX10_atEnd 1 = .ok (.iload_n 1, 1) := by decide +kernel
theorem dX10_atEnd_2 : decode cX10_atEnd 2 = .ok (.invokevirtual 70, 3) := by decide +kernel
theorem dX10_atEnd_5 : decode cX10_atEnd 5 = .ok (.ifCond .ne 5, 3) := by decide +kernel
theorem dX10_atEnd_8 : decode cX10_atEnd 8 = .ok (.iconst (-1), 1) := by decide +kernel
theorem dX10_atEnd_9 : decode cX10_atEnd 9 = .ok (.ireturn, 1) := by decide +kernel
theorem dX10_atEnd_10 : decode cX10_atEnd 10 = .ok (.iload_n 2, 1) := by decide +kernel
theorem dX10_atEnd_11 : decode cX10_atEnd 11 = .ok (.i2l, 1) := by decide +kernel
theorem dX10_atEnd_12 : decode cX10_atEnd 12 = .ok (.lconst 0, 1) := by decide +kernel
theorem dX10_atEnd_13 : decode cX10_atEnd 13 = .ok (.ldc2_w 34, 3) := by decide +kernel
theorem dX10_atEnd_16 : decode cX10_atEnd 16 = .ok (.invokestatic 52, 3) := by decide +kernel
theorem dX10_atEnd_19 : decode cX10_atEnd 19 = .ok (.ifCond .ne 6, 3) := by decide +kernel
theorem dX10_atEnd_22 : decode cX10_atEnd 22 = .ok (.bipush (-2), 2) := by decide +kernel
theorem dX10_atEnd_24 : decode cX10_atEnd 24 = .ok (.ireturn, 1) := by decide +kernel
theorem dX10_atEnd_25 : decode cX10_atEnd 25 = .ok (.aload_n 0, 1) := by decide +kernel
theorem dX10_atEnd_26 : decode cX10_atEnd 26 = .ok (.invokevirtual 186, 3) := by decide +kernel
theorem dX10_atEnd_29 : decode cX10_atEnd 29 = .ok (.aload_n 0, 1) := by decide +kernel
theorem dX10_atEnd_30 : decode cX10_atEnd 30 = .ok (.getfield 7, 3) := by decide +kernel
theorem dX10_atEnd_33 : decode cX10_atEnd 33 = .ok (.bipush 83, 2) := by decide +kernel
theorem dX10_atEnd_35 : decode cX10_atEnd 35 = .ok (.lconst 0, 1) := by decide +kernel
theorem dX10_atEnd_36 : decode cX10_atEnd 36 = .ok (.lastore, 1) := by decide +kernel
theorem dX10_atEnd_37 : decode cX10_atEnd 37 = .ok (.aload_n 0, 1) := by decide +kernel
theorem dX10_atEnd_38 : decode cX10_atEnd 38 = .ok (.invokevirtual 106, 3) := by decide +kernel
theorem dX10_atEnd_41 : decode cX10_atEnd 41 = .ok (.istore_n 3, 1) := by decide +kernel
theorem dX10_atEnd_42 : decode cX10_atEnd 42 = .ok (.aload_n 0, 1) := by decide +kernel
theorem dX10_atEnd_43 : decode cX10_atEnd 43 = .ok (.invokevirtual 189, 3) := by decide +kernel
theorem dX10_atEnd_46 : decode cX10_atEnd 46 = .ok (.aload_n 0, 1) := by decide +kernel
theorem dX10_atEnd_47 : decode cX10_atEnd 47 = .ok (.invokevirtual 109, 3) := by decide +kernel
theorem dX10_atEnd_50 : decode cX10_atEnd 50 = .ok (.ifCond .eq 29, 3) := by decide +kernel
theorem dX10_atEnd_53 : decode cX10_atEnd 53 = .ok (.aload_n 0, 1) := by decide +kernel
theorem dX10_atEnd_54 : decode cX10_atEnd 54 = .ok (.iload_n 3, 1) := by decide +kernel
theorem dX10_atEnd_55 : decode cX10_atEnd 55 = .ok (.ifCond .eq 7, 3) := by decide +kernel
theorem dX10_atEnd_58 : decode cX10_atEnd 58 = .ok (.iload_n 2, 1) := by decide +kernel
theorem dX10_atEnd_59 : decode cX10_atEnd 59 = .ok (.goto 4, 3) := by decide +kernel
theorem dX10_atEnd_62 : decode cX10_atEnd 62 = .ok (.iconst 0, 1) := by decide +kernel
theorem dX10_atEnd_63 : decode cX10_atEnd 63 = .ok (.invokevirtual 192, 3) := by decide +kernel
theorem dX10_atEnd_66 : decode cX10_atEnd 66 = .ok (.aload_n 0, 1) := by decide +kernel
theorem dX10_atEnd_67 : decode cX10_atEnd 67 = .ok (.invokevirtual 112, 3) := by decide +kernel
theorem dX10_atEnd_70 : decode cX10_atEnd 70 = .ok (.aload_n 0, 1) := by decide +kernel
theorem dX10_atEnd_71 : decode cX10_atEnd 71 = .ok (.invokevirtual 189, 3) := by decide +kernel
theorem dX10_atEnd_74 : decode cX10_atEnd 74 = .ok (.iconst 1, 1) := by decide +kernel
theorem dX10_atEnd_75 : decode cX10_atEnd 75 = .ok (.istore_n 3, 1) := by decide +kernel
theorem dX10_atEnd_76 : decode cX10_atEnd 76 = .ok (.goto (-30), 3) := by decide +kernel
theorem dX10_atEnd_79 : decode cX10_atEnd 79 = .ok (.aload_n 0, 1) := by decide +kernel
theorem dX10_atEnd_80 : decode cX10_atEnd 80 = .ok (.iload_n 1, 1) := by decide +kernel
theorem dX10_atEnd_81 : decode cX10_atEnd 81 = .ok (.iconst 2, 1) := by decide +kernel
theorem dX10_atEnd_82 : decode cX10_atEnd 82 = .ok (.invokevirtual 74, 3) := by decide +kernel
theorem dX10_atEnd_85 : decode cX10_atEnd 85 = .ok (.l2i, 1) := by decide +kernel
theorem dX10_atEnd_86 : decode cX10_atEnd 86 = .ok (.istore 4, 2) := by decide +kernel
theorem dX10_atEnd_88 : decode cX10_atEnd 88 = .ok (.aload_n 0, 1) := by decide +kernel
theorem dX10_atEnd_89 : decode cX10_atEnd 89 = .ok (.invokevirtual 195, 3) := by decide +kernel
theorem dX10_atEnd_92 : decode cX10_atEnd 92 = .ok (.iload 4, 2) := by decide +kernel
theorem dX10_atEnd_94 : decode cX10_atEnd 94 = .ok (.ireturn, 1) := by decide +kernel
set_option maxRecDepth 20000 in
theorem ggX10_worst_X10_in : GoodIn wsX10_worst wsX10_in := goodIn_r _ [5] (by decide +kernel) (by decide +kernel)
set_option maxRecDepth 20000 in
theorem gX10_worst_X10_in : GoodIn wsX10_worst (va_wsS RX10 52 yX10_in wsX10_in) := goodIn_app (goodIn_of _ (by decide +kernel)) ggX10_worst_X10_in
set_option maxRecDepth 20000 in
theorem ggX10_worst_X10_putAside : GoodIn wsX10_worst wsX10_putAside := goodIn_r _ [9, 10, 11, 82, 83, 84, 85, 86, 87, 88, 89, 90, 91] (by decide +kernel) (by decide +kernel)
set_option maxRecDepth 20000 in
theorem gX10_worst_X10_putAside : GoodIn wsX10_worst (wsV RX10 186 RX10 yX10_putAside wsX10_putAside) := goodIn_app (goodIn_of _ (by decide +kernel)) ggX10_worst_X10_putAside
set_option maxRecDepth 20000 in
theorem ggX10_worst_X10_makeMinute : GoodIn wsX10_worst wsX10_makeMinute := goodIn_r _ [15, 11, 16, 17, 18, 4, 19, 20, 21, 22, 23, 24, 25, 26, 27, 28, 29, 30, 31, 32, 33, 34, 35, 36, 37, 38, 39, 40, 41, 42, 43, 44, 45, 46, 47, 48, 49, 50, 51, 52, 53, 54, 55, 56, 1, 57, 58, 59, 60, 61, 62, 63, 64, 65, 66, 67, 68, 69, 70, 71, 72, 73, 74, 75, 76, 77, 82, 83, 84, 85, 86, 87, 88, 89, 90, 91] (by decide +kernel) (by decide +kernel)
set_option maxRecDepth 20000 in
theorem gX10_worst_X10_makeMinute : GoodIn wsX10_worst (wsV RX10 151 RX10 yX10_makeMinute wsX10_makeMinute) := goodIn_app (goodIn_of _ (by decide +kernel)) ggX10_worst_X10_makeMinute
set_option maxRecDepth 20000 in
theorem ggX10_worst_X10_concentration : GoodIn wsX10_worst wsX10_concentration := goodIn_r _ [65, 11, 61, 82, 83, 84, 85, 86, 87, 88, 89, 90, 91] (by decide +kernel) (by decide +kernel)
set_option maxRecDepth 20000 in
theorem gX10_worst_X10_concentration : GoodIn wsX10_worst (wsV RX10 129 RX10 yX10_concentration wsX10_concentration) := goodIn_app (goodIn_of _ (by decide +kernel)) ggX10_worst_X10_concentration
set_option maxRecDepth 20000 in
theorem ggX10_worst_X10_putBack : GoodIn wsX10_worst wsX10_putBack := goodIn_r _ [81, 11, 10, 82, 83, 84, 85, 86, 87, 88, 89, 90, 91] (by decide +kernel) (by decide +kernel)
set_option maxRecDepth 20000 in
theorem gX10_worst_X10_putBack : GoodIn wsX10_worst (wsV RX10 195 RX10 yX10_putBack wsX10_putBack) := goodIn_app (goodIn_of _ (by decide +kernel)) ggX10_worst_X10_putBack
theorem dX10_worst_0 : decode cX10_worst 0 = .ok (.iload_n 1, 1) := by decide +kernel
theorem dX10_worst_1 : decode cX10_worst 1 = .ok (.i2l, 1) := by decide +kernel
theorem dX10_worst_2 : decode cX10_worst 2 = .ok (.lconst 1, 1) := by decide +kernel
theorem dX10_worst_3 : decode cX10_worst 3 = .ok (.ldc2_w 44, 3) := by decide +kernel
theorem dX10_worst_6 : decode cX10_worst 6 = .ok (.invokestatic 52, 3) := by decide +kernel
theorem dX10_worst_9 : decode cX10_worst 9 = .ok (.ifCond .ne 6, 3) := by decide +kernel
theorem dX10_worst_12 : decode cX10_worst 12 = .ok (.bipush (-2), 2) := by decide +kernel
theorem dX10_worst_14 : decode cX10_worst 14 = .ok (.ireturn, 1) := by decide +kernel
theorem dX10_worst_15 : decode cX10_worst 15 = .ok (.aload_n 0, 1) := by decide +kernel
theorem dX10_worst_16 : decode cX10_worst 16 = .ok (.invokevirtual 186, 3) := by decide +kernel
theorem dX10_worst_19 : decode cX10_worst 19 = .ok (.iconst 0, 1) := by decide +kernel
theorem dX10_worst_20 : decode cX10_worst 20 = .ok (.istore_n 2, 1) := by decide +kernel
theorem dX10_worst_21 : decode cX10_worst 21 = .ok (.iconst 0, 1) := by decide +kernel
theorem dX10_worst_22 : decode cX10_worst 22 = .ok (.istore_n 3, 1) := by decide +kernel
theorem dX10_worst_23 : decode cX10_worst 23 = .ok (.iload_n 3, 1) := by decide +kernel
theorem dX10_worst_24 : decode cX10_worst 24 = .ok (.iload_n 1, 1) := by decide +kernel
theorem dX10_worst_25 : decode cX10_worst 25 = .ok (.if_icmp .ge 30, 3) := by decide +kernel
theorem dX10_worst_28 : decode cX10_worst 28 = .ok (.aload_n 0, 1) := by decide +kernel
theorem dX10_worst_29 : decode cX10_worst 29 = .ok (.invokevirtual 151, 3) := by decide +kernel
theorem dX10_worst_32 : decode cX10_worst 32 = .ok (.aload_n 0, 1) := by decide +kernel
theorem dX10_worst_33 : decode cX10_worst 33 = .ok (.invokevirtual 129, 3) := by decide +kernel
theorem dX10_worst_36 : decode cX10_worst 36 = .ok (.iload_n 2, 1) := by decide +kernel
theorem dX10_worst_37 : decode cX10_worst 37 = .ok (.if_icmp .le 10, 3) := by decide +kernel
theorem dX10_worst_40 : decode cX10_worst 40 = .ok (.aload_n 0, 1) := by decide +kernel
theorem dX10_worst_41 : decode cX10_worst 41 = .ok (.invokevirtual 129, 3) := by decide +kernel
theorem dX10_worst_44 : decode cX10_worst 44 = .ok (.goto 4, 3) := by decide +kernel
theorem dX10_worst_47 : decode cX10_worst 47 = .ok (.iload_n 2, 1) := by decide +kernel
theorem dX10_worst_48 : decode cX10_worst 48 = .ok (.istore_n 2, 1) := by decide +kernel
theorem dX10_worst_49 : decode cX10_worst 49 = .ok (.iinc 3 1, 3) := by decide +kernel
theorem dX10_worst_52 : decode cX10_worst 52 = .ok (.goto (-29), 3) := by decide +kernel
theorem dX10_worst_55 : decode cX10_worst 55 = .ok (.aload_n 0, 1) := by decide +kernel
theorem dX10_worst_56 : decode cX10_worst 56 = .ok (.invokevirtual 195, 3) := by decide +kernel
theorem dX10_worst_59 : decode cX10_worst 59 = .ok (.iload_n 2, 1) := by decide +kernel
theorem dX10_worst_60 : decode cX10_worst 60 = .ok (.ireturn, 1) := by decide +kernel
set_option maxRecDepth 20000 in
theorem ggX10_purge_X10_in : GoodIn wsX10_purge wsX10_in := goodIn_r _ [6] (by decide +kernel) (by decide +kernel)
set_option maxRecDepth 20000 in
theorem gX10_purge_X10_in : GoodIn wsX10_purge (va_wsS RX10 52 yX10_in wsX10_in) := goodIn_app (goodIn_of _ (by decide +kernel)) ggX10_purge_X10_in
set_option maxRecDepth 20000 in
theorem ggX10_purge_X10_putAside : GoodIn wsX10_purge wsX10_putAside := goodIn_r _ [10, 11, 2, 86, 87, 88, 89, 90, 91, 92, 93, 94, 95] (by decide +kernel) (by decide +kernel)
set_option maxRecDepth 20000 in
theorem gX10_purge_X10_putAside : GoodIn wsX10_purge (wsV RX10 186 RX10 yX10_putAside wsX10_putAside) := goodIn_app (goodIn_of _ (by decide +kernel)) ggX10_purge_X10_putAside
set_option maxRecDepth 20000 in
theorem ggX10_purge_X10_setMode : GoodIn wsX10_purge wsX10_setMode := goodIn_r _ [15, 2, 16, 17, 18, 5, 19, 20, 21, 22, 23, 86, 87, 88, 89, 90, 91, 92, 93, 94, 95] (by decide +kernel) (by decide +kernel)
set_option maxRecDepth 20000 in
theorem gX10_purge_X10_setMode : GoodIn wsX10_purge (wsV RX10 154 RX10 yX10_setMode wsX10_setMode) := goodIn_app (goodIn_of _ (by decide +kernel)) ggX10_purge_X10_setMode
set_option maxRecDepth 20000 in
theorem ggX10_purge_X10_concentration : GoodIn wsX10_purge wsX10_concentration := goodIn_r _ [27, 2, 28, 86, 87, 88, 89, 90, 91, 92, 93, 94, 95] (by decide +kernel) (by decide +kernel)
set_option maxRecDepth 20000 in
theorem gX10_purge_X10_concentration : GoodIn wsX10_purge (wsV RX10 129 RX10 yX10_concentration wsX10_concentration) := goodIn_app (goodIn_of _ (by decide +kernel)) ggX10_purge_X10_concentration
set_option maxRecDepth 20000 in
theorem ggX10_purge_X10_makeMinute : GoodIn wsX10_purge wsX10_makeMinute := goodIn_r _ [32, 2, 33, 34, 35, 5, 36, 37, 38, 39, 40, 41, 42, 43, 44, 45, 46, 47, 48, 49, 50, 51, 52, 53, 54, 55, 56, 57, 58, 59, 60, 61, 62, 63, 64, 65, 66, 67, 68, 69, 70, 71, 72, 73, 1, 74, 75, 76, 77, 28, 24, 25, 26, 27, 16, 17, 18, 19, 20, 21, 22, 23, 78, 79, 80, 81, 86, 87, 88, 89, 90, 91, 92, 93, 94, 95] (by decide +kernel) (by decide +kernel)
set_option maxRecDepth 20000 in
theorem gX10_purge_X10_makeMinute : GoodIn wsX10_purge (wsV RX10 151 RX10 yX10_makeMinute wsX10_makeMinute) := goodIn_app (goodIn_of _ (by decide +kernel)) ggX10_purge_X10_makeMinute
set_option maxRecDepth 20000 in
theorem ggX10_purge_X10_putBack : GoodIn wsX10_purge wsX10_putBack := goodIn_r _ [85, 2, 11, 86, 87, 88, 89, 90, 91, 92, 93, 94, 95] (by decide +kernel) (by decide +kernel)
set_option maxRecDepth 20000 in
theorem gX10_purge_X10_putBack : GoodIn wsX10_purge (wsV RX10 195 RX10 yX10_putBack wsX10_putBack) := goodIn_app (goodIn_of _ (by decide +kernel)) ggX10_purge_X10_putBack
theorem dX10_purge_0 : decode cX10_purge 0 = .ok (.iload_n 1, 1) := by decide +kernel
theorem dX10_purge_1 : decode cX10_purge 1 = .ok (.i2l, 1) := by decide +kernel
theorem dX10_purge_2 : decode cX10_purge 2 = .ok (.lconst 1, 1) := by decide +kernel
theorem dX10_purge_3 : decode cX10_purge 3 = .ok (.ldc2_w 44, 3) := by decide +kernel
theorem dX10_purge_6 : decode cX10_purge 6 = .ok (.invokestatic 52, 3) := by decide +kernel
theorem dX10_purge_9 : decode cX10_purge 9 = .ok (.ifCond .ne 6, 3) := by decide +kernel
theorem dX10_purge_12 : decode cX10_purge 12 = .ok (.bipush (-2), 2) := by decide +kernel
theorem dX10_purge_14 : decode cX10_purge 14 = .ok (.ireturn, 1) := by decide +kernel
theorem dX10_purge_15 : decode cX10_purge 15 = .ok (.aload_n 0, 1) := by decide +kernel
theorem dX10_purge_16 : decode cX10_purge 16 = .ok (.invokevirtual 186, 3) := by decide +kernel
theorem dX10_purge_19 : decode cX10_purge 19 = .ok (.aload_n 0, 1) := by decide +kernel
theorem dX10_purge_20 : decode cX10_purge 20 = .ok (.getfield 7, 3) := by decide +kernel
theorem dX10_purge_23 : decode cX10_purge 23 = .ok (.bipush 83, 2) := by decide +kernel
theorem dX10_purge_25 : decode cX10_purge 25 = .ok (.lconst 0, 1) := by decide +kernel
theorem dX10_purge_26 : decode cX10_purge 26 = .ok (.lastore, 1) := by decide +kernel
theorem dX10_purge_27 : decode cX10_purge 27 = .ok (.aload_n 0, 1) := by decide +kernel
theorem dX10_purge_28 : decode cX10_purge 28 = .ok (.iconst 2, 1) := by decide +kernel
theorem dX10_purge_29 : decode cX10_purge 29 = .ok (.invokevirtual 154, 3) := by decide +kernel
theorem dX10_purge_32 : decode cX10_purge 32 = .ok (.iconst 0, 1) := by decide +kernel
theorem dX10_purge_33 : decode cX10_purge 33 = .ok (.istore_n 2, 1) := by decide +kernel
theorem dX10_purge_34 : decode cX10_purge 34 = .ok (.aload_n 0, 1) := by decide +kernel
theorem dX10_purge_35 : decode cX10_purge 35 = .ok (.invokevirtual 129, 3) := by decide +kernel
theorem dX10_purge_38 : decode cX10_purge 38 = .ok (.i2l, 1) := by decide +kernel
theorem dX10_purge_39 : decode cX10_purge 39 = .ok (.aload_n 0, 1) := by decide +kernel
theorem dX10_purge_40 : decode cX10_purge 40 = .ok (.getfield 7, 3) := by decide +kernel
theorem dX10_purge_43 : decode cX10_purge 43 = .ok (.bipush 72, 2) := by decide +kernel
theorem dX10_purge_45 : decode cX10_purge 45 = .ok (.laload, 1) := by decide +kernel
theorem dX10_purge_46 : decode cX10_purge 46 = .ok (.lcmp, 1) := by decide +kernel
theorem dX10_purge_47 : decode cX10_purge 47 = .ok (.ifCond .lt 18, 3) := by decide +kernel
theorem dX10_purge_50 : decode cX10_purge 50 = .ok (.iload_n 2, 1) := by decide +kernel
theorem dX10_purge_51 : decode cX10_purge 51 = .ok (.iload_n 1, 1) := by decide +kernel
theorem dX10_purge_52 : decode cX10_purge 52 = .ok (.if_icmp .ge 13, 3) := by decide +kernel
theorem dX10_purge_55 : decode cX10_purge 55 = .ok (.aload_n 0, 1) := by decide +kernel
theorem dX10_purge_56 : decode cX10_purge 56 = .ok (.invokevirtual 151, 3) := by decide +kernel
theorem dX10_purge_59 : decode cX10_purge 59 = .ok (.iinc 2 1, 3) := by decide +kernel
theorem dX10_purge_62 : decode cX10_purge 62 = .ok (.goto (-28), 3) := by decide +kernel
theorem dX10_purge_65 : decode cX10_purge 65 = .ok (.aload_n 0, 1) := by decide +kernel
theorem dX10_purge_66 : decode cX10_purge 66 = .ok (.invokevirtual 129, 3) := by decide +kernel
theorem dX10_purge_69 : decode cX10_purge 69 = .ok (.i2l, 1) := by decide +kernel
theorem dX10_purge_70 : decode cX10_purge 70 = .ok (.aload_n 0, 1) := by decide +kernel
theorem dX10_purge_71 : decode cX10_purge 71 = .ok (.getfield 7, 3) := by decide +kernel
theorem dX10_purge_74 : decode cX10_purge 74 = .ok (.bipush 72, 2) := by decide +kernel
theorem dX10_purge_76 : decode cX10_purge 76 = .ok (.laload, 1) := by decide +kernel
theorem dX10_purge_77 : decode cX10_purge 77 = .ok (.lcmp, 1) := by decide +kernel
theorem dX10_purge_78 : decode cX10_purge 78 = .ok (.ifCond .ge 7, 3) := by decide +kernel
theorem dX10_purge_81 : decode cX10_purge 81 = .ok (.iload_n 2, 1) := by decide +kernel
theorem dX10_purge_82 : decode cX10_purge 82 = .ok (.goto 5, 3) := by decide +kernel
theorem dX10_purge_85 : decode cX10_purge 85 = .ok (.bipush (-6), 2) := by decide +kernel
theorem dX10_purge_87 : decode cX10_purge 87 = .ok (.istore_n 3, 1) := by decide +kernel
theorem dX10_purge_88 : decode cX10_purge 88 = .ok (.aload_n 0, 1) := by decide +kernel
theorem dX10_purge_89 : decode cX10_purge 89 = .ok (.invokevirtual 195, 3) := by decide +kernel
theorem dX10_purge_92 : decode cX10_purge 92 = .ok (.iload_n 3, 1) := by decide +kernel
theorem dX10_purge_93 : decode cX10_purge 93 = .ok (.ireturn, 1) := by decide +kernel
set_option maxRecDepth 20000 in
theorem ggX10_front_X10_in : GoodIn wsX10_front wsX10_in := goodIn_r _ [7] (by decide +kernel) (by decide +kernel)
set_option maxRecDepth 20000 in
theorem gX10_front_X10_in : GoodIn wsX10_front (va_wsS RX10 52 yX10_in wsX10_in) := goodIn_app (goodIn_of _ (by decide +kernel)) ggX10_front_X10_in
set_option maxRecDepth 20000 in
theorem ggX10_front_X10_allIce : GoodIn wsX10_front wsX10_allIce := goodIn_r _ [11, 12, 13, 14, 6, 15, 16, 17, 18, 19, 20, 104, 105, 106, 107, 108, 109, 110, 111, 112, 113] (by decide +kernel) (by decide +kernel)
set_option maxRecDepth 20000 in
theorem gX10_front_X10_allIce : GoodIn wsX10_front (wsV RX10 160 RX10 yX10_allIce wsX10_allIce) := goodIn_app (goodIn_of _ (by decide +kernel)) ggX10_front_X10_allIce
set_option maxRecDepth 20000 in
theorem ggX10_front_X10_putAside : GoodIn wsX10_front wsX10_putAside := goodIn_r _ [24, 25, 16, 104, 105, 106, 107, 108, 109, 110, 111, 112, 113] (by decide +kernel) (by decide +kernel)
set_option maxRecDepth 20000 in
theorem gX10_front_X10_putAside : GoodIn wsX10_front (wsV RX10 186 RX10 yX10_putAside wsX10_putAside) := goodIn_app (goodIn_of _ (by decide +kernel)) ggX10_front_X10_putAside
set_option maxRecDepth 20000 in
theorem ggX10_front_X10_boxes : GoodIn wsX10_front wsX10_boxes := goodIn_r _ [15, 16, 104, 105, 106, 107, 108, 109, 110, 111, 112, 113] (by decide +kernel) (by decide +kernel)
set_option maxRecDepth 20000 in
theorem gX10_front_X10_boxes : GoodIn wsX10_front (wsV RX10 48 RX10 yX10_boxes wsX10_boxes) := goodIn_app (goodIn_of _ (by decide +kernel)) ggX10_front_X10_boxes
set_option maxRecDepth 20000 in
theorem ggX10_front_X10_move : GoodIn wsX10_front wsX10_move := goodIn_r _ [29, 30, 31, 32, 6, 33, 17, 18, 19, 20, 16, 34, 35, 36, 37, 104, 105, 106, 107, 108, 109, 110, 111, 112, 113] (by decide +kernel) (by decide +kernel)
set_option maxRecDepth 20000 in
theorem gX10_front_X10_move : GoodIn wsX10_front (wsV RX10 82 RX10 yX10_move wsX10_move) := goodIn_app (goodIn_of _ (by decide +kernel)) ggX10_front_X10_move
set_option maxRecDepth 20000 in
theorem ggX10_front_X10_take : GoodIn wsX10_front wsX10_take := goodIn_r _ [41, 12, 13, 14, 6, 15, 16, 17, 18, 19, 20, 34, 35, 36, 37, 104, 105, 106, 107, 108, 109, 110, 111, 112, 113] (by decide +kernel) (by decide +kernel)
set_option maxRecDepth 20000 in
theorem gX10_front_X10_take : GoodIn wsX10_front (wsV RX10 163 RX10 yX10_take wsX10_take) := goodIn_app (goodIn_of _ (by decide +kernel)) ggX10_front_X10_take
set_option maxRecDepth 20000 in
theorem ggX10_front_X10_stay : GoodIn wsX10_front wsX10_stay := goodIn_r _ [45, 46, 47, 48, 6, 49, 16, 50, 51, 52, 53, 12, 13, 14, 15, 54, 55, 56, 57, 58, 2, 17, 18, 19, 20, 34, 35, 36, 37, 59, 60, 61, 62, 63, 64, 65, 66, 67, 68, 69, 70, 71, 72, 73, 74, 75, 76, 77, 78, 79, 80, 81, 82, 83, 84, 85, 86, 87, 88, 89, 90, 91, 92, 93, 94, 95, 96, 97, 98, 99, 104, 105, 106, 107, 108, 109, 110, 111, 112, 113] (by decide +kernel) (by decide +kernel)
set_option maxRecDepth 20000 in
theorem gX10_front_X10_stay : GoodIn wsX10_front (wsV RX10 192 RX10 yX10_stay wsX10_stay) := goodIn_app (goodIn_of _ (by decide +kernel)) ggX10_front_X10_stay
set_option maxRecDepth 20000 in
theorem ggX10_front_X10_putBack : GoodIn wsX10_front wsX10_putBack := goodIn_r _ [103, 16, 25, 104, 105, 106, 107, 108, 109, 110, 111, 112, 113] (by decide +kernel) (by decide +kernel)
set_option maxRecDepth 20000 in
theorem gX10_front_X10_putBack : GoodIn wsX10_front (wsV RX10 195 RX10 yX10_putBack wsX10_putBack) := goodIn_app (goodIn_of _ (by decide +kernel)) ggX10_front_X10_putBack
theorem dX10_front_0 : decode cX10_front 0 = .ok (.iload_n 1, 1) := by decide +kernel
theorem dX10_front_1 : decode cX10_front 1 = .ok (.i2l, 1) := by decide +kernel
theorem dX10_front_2 : decode cX10_front 2 = .ok (.lconst 1, 1) := by decide +kernel
theorem dX10_front_3 : decode cX10_front 3 = .ok (.ldc2_w 158, 3) := by decide +kernel
theorem dX10_front_6 : decode cX10_front 6 = .ok (.invokestatic 52, 3) := by decide +kernel
theorem dX10_front_9 : decode cX10_front 9 = .ok (.ifCond .eq 15, 3) := by decide +kernel
theorem dX10_front_12 : decode cX10_front 12 = .ok (.iload_n 2, 1) := by decide +kernel
theorem dX10_front_13 : decode cX10_front 13 = .ok (.i2l, 1) := by decide +kernel
theorem dX10_front_14 : decode cX10_front 14 = .ok (.lconst 1, 1) := by decide +kernel
theorem dX10_front_15 : decode cX10_front 15 = .ok (.ldc2_w 34, 3) := by decide +kernel
theorem dX10_front_18 : decode cX10_front 18 = .ok (.invokestatic 52, 3) := by decide +kernel
theorem dX10_front_21 : decode cX10_front 21 = .ok (.ifCond .ne 6, 3) := by decide +kernel
theorem dX10_front_24 : decode cX10_front 24 = .ok (.bipush (-2), 2) := by decide +kernel
theorem dX10_front_26 : decode cX10_front 26 = .ok (.ireturn, 1) := by decide +kernel
theorem dX10_front_27 : decode cX10_front 27 = .ok (.aload_n 0, 1) := by decide +kernel
theorem dX10_front_28 : decode cX10_front 28 = .ok (.invokevirtual 160, 3) := by decide +kernel
theorem dX10_front_31 : decode cX10_front 31 = .ok (.iload_n 1, 1) := by decide +kernel
theorem dX10_front_32 : decode cX10_front 32 = .ok (.i2l, 1) := by decide +kernel
theorem dX10_front_33 : decode cX10_front 33 = .ok (.lcmp, 1) := by decide +kernel
theorem dX10_front_34 : decode cX10_front 34 = .ok (.ifCond .ge 6, 3) := by decide +kernel
theorem dX10_front_37 : decode cX10_front 37 = .ok (.bipush (-5), 2) := by decide +kernel
theorem dX10_front_39 : decode cX10_front 39 = .ok (.ireturn, 1) := by decide +kernel
theorem dX10_front_40 : decode cX10_front 40 = .ok (.aload_n 0, 1) := by decide +kernel
theorem dX10_front_41 : decode cX10_front 41 = .ok (.invokevirtual 186, 3) := by decide +kernel
theorem dX10_front_44 : decode cX10_front 44 = .ok (.iconst 0, 1) := by decide +kernel
theorem dX10_front_45 : decode cX10_front 45 = .ok (.istore_n 3, 1) := by decide +kernel
theorem dX10_front_46 : decode cX10_front 46 = .ok (.ldc2_w 32, 3) := by decide +kernel
theorem dX10_front_49 : decode cX10_front 49 = .ok (.lstore 4, 2) := by decide +kernel
theorem dX10_front_51 : decode cX10_front 51 = .ok (.iconst 0, 1) := by decide +kernel
theorem dX10_front_52 : decode cX10_front 52 = .ok (.istore 6, 2) := by decide +kernel
theorem dX10_front_54 : decode cX10_front 54 = .ok (.iload 6, 2) := by decide +kernel
theorem dX10_front_56 : decode cX10_front 56 = .ok (.aload_n 0, 1) := by decide +kernel
theorem dX10_front_57 : decode cX10_front 57 = .ok (.invokevirtual 48, 3) := by decide +kernel
theorem dX10_front_60 : decode cX10_front 60 = .ok (.if_icmp .ge 57, 3) := by decide +kernel
theorem dX10_front_63 : decode cX10_front 63 = .ok (.aload_n 0, 1) := by decide +kernel
theorem dX10_front_64 : decode cX10_front 64 = .ok (.iload 6, 2) := by decide +kernel
theorem dX10_front_66 : decode cX10_front 66 = .ok (.iconst 0, 1) := by decide +kernel
theorem dX10_front_67 : decode cX10_front 67 = .ok (.invokevirtual 82, 3) := by decide +kernel
theorem dX10_front_70 : decode cX10_front 70 = .ok (.aload_n 0, 1) := by decide +kernel
theorem dX10_front_71 : decode cX10_front 71 = .ok (.iload_n 1, 1) := by decide +kernel
theorem dX10_front_72 : decode cX10_front 72 = .ok (.i2l, 1) := by decide +kernel
theorem dX10_front_73 : decode cX10_front 73 = .ok (.invokevirtual 163, 3) := by decide +kernel
theorem dX10_front_76 : decode cX10_front 76 = .ok (.istore 7, 2) := by decide +kernel
theorem dX10_front_78 : decode cX10_front 78 = .ok (.aload_n 0, 1) := by decide +kernel
theorem dX10_front_79 : decode cX10_front 79 = .ok (.iload_n 2, 1) := by decide +kernel
theorem dX10_front_80 : decode cX10_front 80 = .ok (.invokevirtual 192, 3) := by decide +kernel
theorem dX10_front_83 : decode cX10_front 83 = .ok (.iload 7, 2) := by decide +kernel
theorem dX10_front_85 : decode cX10_front 85 = .ok (.ifCond .le 22, 3) := by decide +kernel
theorem dX10_front_88 : decode cX10_front 88 = .ok (.aload_n 0, 1) := by decide +kernel
theorem dX10_front_89 : decode cX10_front 89 = .ok (.invokevirtual 160, 3) := by decide +kernel
theorem dX10_front_92 : decode cX10_front 92 = .ok (.lload 4, 2) := by decide +kernel
theorem dX10_front_94 : decode cX10_front 94 = .ok (.lcmp, 1) := by decide +kernel
theorem dX10_front_95 : decode cX10_front 95 = .ok (.ifCond .le 12, 3) := by decide +kernel
theorem dX10_front_98 : decode cX10_front 98 = .ok (.iload 6, 2) := by decide +kernel
theorem dX10_front_100 : decode cX10_front 100 = .ok (.istore_n 3, 1) := by decide +kernel
theorem dX10_front_101 : decode cX10_front 101 = .ok (.aload_n 0, 1) := by decide +kernel
theorem dX10_front_102 : decode cX10_front 102 = .ok (.invokevirtual 160, 3) := by decide +kernel
theorem dX10_front_105 : decode cX10_front 105 = .ok (.lstore 4, 2) := by decide +kernel
theorem dX10_front_107 : decode cX10_front 107 = .ok (.aload_n 0, 1) := by decide +kernel
theorem dX10_front_108 : decode cX10_front 108 = .ok (.invokevirtual 195, 3) := by decide +kernel
theorem dX10_front_111 : decode cX10_front 111 = .ok (.iinc 6 1, 3) := by decide +kernel
theorem dX10_front_114 : decode cX10_front 114 = .ok (.goto (-60), 3) := by decide +kernel
theorem dX10_front_117 : decode cX10_front 117 = .ok (.iload_n 3, 1) := by decide +kernel
theorem dX10_front_118 : decode cX10_front 118 = .ok (.ireturn, 1) := by decide +kernel
set_option maxRecDepth 20000 in
theorem ggX10_say_X10_in : GoodIn wsX10_say wsX10_in := goodIn_r _ [8] (by decide +kernel) (by decide +kernel)
set_option maxRecDepth 20000 in
theorem gX10_say_X10_in : GoodIn wsX10_say (va_wsS RX10 52 yX10_in wsX10_in) := goodIn_app (goodIn_of _ (by decide +kernel)) ggX10_say_X10_in
theorem dX10_say_0 : decode cX10_say 0 = .ok (.iload_n 1, 1) := by decide +kernel
theorem dX10_say_1 : decode cX10_say 1 = .ok (.i2l, 1) := by decide +kernel
theorem dX10_say_2 : decode cX10_say 2 = .ok (.ldc2_w 198, 3) := by decide +kernel
theorem dX10_say_5 : decode cX10_say 5 = .ok (.ldc2_w 200, 3) := by decide +kernel
theorem dX10_say_8 : decode cX10_say 8 = .ok (.invokestatic 52, 3) := by decide +kernel
theorem dX10_say_11 : decode cX10_say 11 = .ok (.ifCond .ne 6, 3) := by decide +kernel
theorem dX10_say_14 : decode cX10_say 14 = .ok (.bipush (-2), 2) := by decide +kernel
theorem dX10_say_16 : decode cX10_say 16 = .ok (.ireturn, 1) := by decide +kernel
theorem dX10_say_17 : decode cX10_say 17 = .ok (.aload_n 0, 1) := by decide +kernel
theorem dX10_say_18 : decode cX10_say 18 = .ok (.getfield 179, 3) := by decide +kernel
theorem dX10_say_21 : decode cX10_say 21 = .ok (.bipush 80, 2) := by decide +kernel
theorem dX10_say_23 : decode cX10_say 23 = .ok (.if_icmp .ne 6, 3) := by decide +kernel
theorem dX10_say_26 : decode cX10_say 26 = .ok (.bipush (-4), 2) := by decide +kernel
theorem dX10_say_28 : decode cX10_say 28 = .ok (.ireturn, 1) := by decide +kernel
theorem dX10_say_29 : decode cX10_say 29 = .ok (.aload_n 0, 1) := by decide +kernel
theorem dX10_say_30 : decode cX10_say 30 = .ok (.getfield 23, 3) := by decide +kernel
theorem dX10_say_33 : decode cX10_say 33 = .ok (.aload_n 0, 1) := by decide +kernel
theorem dX10_say_34 : decode cX10_say 34 = .ok (.getfield 179, 3) := by decide +kernel
theorem dX10_say_37 : decode cX10_say 37 = .ok (.iload_n 1, 1) := by decide +kernel
theorem dX10_say_38 : decode cX10_say 38 = .ok (.iastore, 1) := by decide +kernel
theorem dX10_say_39 : decode cX10_say 39 = .ok (.aload_n 0, 1) := by decide +kernel
theorem dX10_say_40 : decode cX10_say 40 = .ok (.dup, 1) := by decide +kernel
theorem dX10_say_41 : decode cX10_say 41 = .ok (.getfield 179, 3) := by decide +kernel
theorem dX10_say_44 : decode cX10_say 44 = .ok (.iconst 1, 1) := by decide +kernel
theorem dX10_say_45 : decode cX10_say 45 = .ok (.iadd, 1) := by decide +kernel
theorem dX10_say_46 : decode cX10_say 46 = .ok (.putfield 179, 3) := by decide +kernel
theorem dX10_say_49 : decode cX10_say 49 = .ok (.aload_n 0, 1) := by decide +kernel
theorem dX10_say_50 : decode cX10_say 50 = .ok (.getfield 179, 3) := by decide +kernel
theorem dX10_say_53 : decode cX10_say 53 = .ok (.ireturn, 1) := by decide +kernel
theorem dX10_wipe_0 : decode cX10_wipe 0 = .ok (.aload_n 0, 1) := by decide +kernel
theorem dX10_wipe_1 : decode cX10_wipe 1 = .ok (.getfield 179, 3) := by decide +kernel
theorem dX10_wipe_4 : decode cX10_wipe 4 = .ok (.istore_n 1, 1) := by decide +kernel
theorem dX10_wipe_5 : decode cX10_wipe 5 = .ok (.aload_n 0, 1) := by decide +kernel
theorem dX10_wipe_6 : decode cX10_wipe 6 = .ok (.iconst 0, 1) := by decide +kernel
theorem dX10_wipe_7 : decode cX10_wipe 7 = .ok (.putfield 179, 3) := by decide +kernel
theorem dX10_wipe_10 : decode cX10_wipe 10 = .ok (.iload_n 1, 1) := by decide +kernel
theorem dX10_wipe_11 : decode cX10_wipe 11 = .ok (.ireturn, 1) := by decide +kernel
theorem dX10_next_0 : decode cX10_next 0 = .ok (.aload_n 0, 1) := by decide +kernel
theorem dX10_next_1 : decode cX10_next 1 = .ok (.getfield 202, 3) := by decide +kernel
theorem dX10_next_4 : decode cX10_next 4 = .ok (.aload_n 0, 1) := by decide +kernel
theorem dX10_next_5 : decode cX10_next 5 = .ok (.getfield 179, 3) := by decide +kernel
theorem dX10_next_8 : decode cX10_next 8 = .ok (.if_icmp .ge 15, 3) := by decide +kernel
theorem dX10_next_11 : decode cX10_next 11 = .ok (.aload_n 0, 1) := by decide +kernel
theorem dX10_next_12 : decode cX10_next 12 = .ok (.getfield 23, 3) := by decide +kernel
theorem dX10_next_15 : decode cX10_next 15 = .ok (.aload_n 0, 1) := by decide +kernel
theorem dX10_next_16 : decode cX10_next 16 = .ok (.getfield 202, 3) := by decide +kernel
theorem dX10_next_19 : decode cX10_next 19 = .ok (.iaload, 1) := by decide +kernel
theorem dX10_next_20 : decode cX10_next 20 = .ok (.goto 4, 3) := by decide +kernel
theorem dX10_next_23 : decode cX10_next 23 = .ok (.iconst 0, 1) := by decide +kernel
theorem dX10_next_24 : decode cX10_next 24 = .ok (.ireturn, 1) := by decide +kernel
set_option maxRecDepth 20000 in
theorem ggX10_takeNumber_X10_next : GoodIn wsX10_takeNumber wsX10_next := goodIn_r _ [9, 3, 10, 11, 15, 16, 17, 18, 19, 20, 21, 22, 23, 24] (by decide +kernel) (by decide +kernel)
set_option maxRecDepth 20000 in
theorem gX10_takeNumber_X10_next : GoodIn wsX10_takeNumber (wsV RX10 209 RX10 yX10_next wsX10_next) := goodIn_app (goodIn_of _ (by decide +kernel)) ggX10_takeNumber_X10_next
set_option maxRecDepth 20000 in
theorem ggX10_takeNumber_X10_in : GoodIn wsX10_takeNumber wsX10_in := goodIn_r _ [14] (by decide +kernel) (by decide +kernel)
set_option maxRecDepth 20000 in
theorem gX10_takeNumber_X10_in : GoodIn wsX10_takeNumber (va_wsS RX10 52 yX10_in wsX10_in) := goodIn_app (goodIn_of _ (by decide +kernel)) ggX10_takeNumber_X10_in
theorem dX10_takeNumber_0 : decode cX10_takeNumber 0 = .ok (.aload_n 0, 1) := by decide +kernel
theorem dX10_takeNumber_1 : decode cX10_takeNumber 1 = .ok (.aload_n 0, 1) := by decide +kernel
theorem dX10_takeNumber_2 : decode cX10_takeNumber 2 = .ok (.getfield 205, 3) := by decide +kernel
theorem dX10_takeNumber_5 : decode cX10_takeNumber 5 = .ok (.ifCond .ne 22, 3) := by decide +kernel
theorem dX10_takeNumber_8 : decode cX10_takeNumber 8 = .ok (.aload_n 0, 1) := by decide +kernel
theorem dX10_takeNumber_9 : decode cX10_takeNumber 9 = .ok (.invokevirtual 209, 3) := by decide +kernel
theorem dX10_takeNumber_12 : decode cX10_takeNumber 12 = .ok (.i2l, 1) := by decide +kernel
theorem dX10_takeNumber_13 : decode cX10_takeNumber 13 = .ok (.bipush 48, 2) := by decide +kernel
theorem dX10_takeNumber_15 : decode cX10_takeNumber 15 = .ok (.iload_n 1, 1) := by decide +kernel
theorem dX10_takeNumber_16 : decode cX10_takeNumber 16 = .ok (.iadd, 1) := by decide +kernel
theorem dX10_takeNumber_17 : decode cX10_takeNumber 17 = .ok (.i2l, 1) := by decide +kernel
theorem dX10_takeNumber_18 : decode cX10_takeNumber 18 = .ok (.ldc2_w 212, 3) := by decide +kernel
theorem dX10_takeNumber_21 : decode cX10_takeNumber 21 = .ok (.invokestatic 52, 3) := by decide +kernel
theorem dX10_takeNumber_24 : decode cX10_takeNumber 24 = .ok (.ifCond .ne 7, 3) := by decide +kernel
theorem dX10_takeNumber_27 : decode cX10_takeNumber 27 = .ok (.iconst 1, 1) := by decide +kernel
theorem dX10_takeNumber_28 : decode cX10_takeNumber 28 = .ok (.goto 4, 3) := by decide +kernel
theorem dX10_takeNumber_31 : decode cX10_takeNumber 31 = .ok (.iconst 0, 1) := by decide +kernel
theorem dX10_takeNumber_32 : decode cX10_takeNumber 32 = .ok (.putfield 205, 3) := by decide +kernel
theorem dX10_takeNumber_35 : decode cX10_takeNumber 35 = .ok (.iconst 0, 1) := by decide +kernel
theorem dX10_takeNumber_36 : decode cX10_takeNumber 36 = .ok (.istore_n 3, 1) := by decide +kernel
theorem dX10_takeNumber_37 : decode cX10_takeNumber 37 = .ok (.aload_n 0, 1) := by decide +kernel
theorem dX10_takeNumber_38 : decode cX10_takeNumber 38 = .ok (.getfield 205, 3) := by decide +kernel
theorem dX10_takeNumber_41 : decode cX10_takeNumber 41 = .ok (.ifCond .ne 7, 3) := by decide +kernel
theorem dX10_takeNumber_44 : decode cX10_takeNumber 44 = .ok (.iconst 1, 1) := by decide +kernel
theorem dX10_takeNumber_45 : decode cX10_takeNumber 45 = .ok (.goto 4, 3) := by decide +kernel
theorem dX10_takeNumber_48 : decode cX10_takeNumber 48 = .ok (.iconst 0, 1) := by decide +kernel
theorem dX10_takeNumber_49 : decode cX10_takeNumber 49 = .ok (.istore 4, 2) := by decide +kernel
theorem dX10_takeNumber_51 : decode cX10_takeNumber 51 = .ok (.iload 4, 2) := by decide +kernel
theorem dX10_takeNumber_53 : decode cX10_takeNumber 53 = .ok (.ifCond .eq 73, 3) := by decide +kernel
theorem dX10_takeNumber_56 : decode cX10_takeNumber 56 = .ok (.bipush 10, 2) := by decide +kernel
theorem dX10_takeNumber_58 : decode cX10_takeNumber 58 = .ok (.iload_n 3, 1) := by decide +kernel
theorem dX10_takeNumber_59 : decode cX10_takeNumber 59 = .ok (.imul, 1) := by decide +kernel
theorem dX10_takeNumber_60 : decode cX10_takeNumber 60 = .ok (.aload_n 0, 1) := by decide +kernel
theorem dX10_takeNumber_61 : decode cX10_takeNumber 61 = .ok (.invokevirtual 209, 3) := by decide +kernel
theorem dX10_takeNumber_64 : decode cX10_takeNumber 64 = .ok (.iadd, 1) := by decide +kernel
theorem dX10_takeNumber_65 : decode cX10_takeNumber 65 = .ok (.bipush 48, 2) := by decide +kernel
theorem dX10_takeNumber_67 : decode cX10_takeNumber 67 = .ok (.isub, 1) := by decide +kernel
theorem dX10_takeNumber_68 : decode cX10_takeNumber 68 = .ok (.istore_n 3, 1) := by decide +kernel
theorem dX10_takeNumber_69 : decode cX10_takeNumber 69 = .ok (.aload_n 0, 1) := by decide +kernel
theorem dX10_takeNumber_70 : decode cX10_takeNumber 70 = .ok (.dup, 1) := by decide +kernel
theorem dX10_takeNumber_71 : decode cX10_takeNumber 71 = .ok (.getfield 202, 3) := by decide +kernel
theorem dX10_takeNumber_74 : decode cX10_takeNumber 74 = .ok (.iconst 1, 1) := by decide +kernel
theorem dX10_takeNumber_75 : decode cX10_takeNumber 75 = .ok (.iadd, 1) := by decide +kernel
theorem dX10_takeNumber_76 : decode cX10_takeNumber 76 = .ok (.putfield 202, 3) := by decide +kernel
theorem dX10_takeNumber_79 : decode cX10_takeNumber 79 = .ok (.iload_n 3, 1) := by decide +kernel
theorem dX10_takeNumber_80 : decode cX10_takeNumber 80 = .ok (.ifCond .le 40, 3) := by decide +kernel
theorem dX10_takeNumber_83 : decode cX10_takeNumber 83 = .ok (.aload_n 0, 1) := by decide +kernel
theorem dX10_takeNumber_84 : decode cX10_takeNumber 84 = .ok (.invokevirtual 209, 3) := by decide +kernel
theorem dX10_takeNumber_87 : decode cX10_takeNumber 87 = .ok (.i2l, 1) := by decide +kernel
theorem dX10_takeNumber_88 : decode cX10_takeNumber 88 = .ok (.ldc2_w 214, 3) := by decide +kernel
theorem dX10_takeNumber_91 : decode cX10_takeNumber 91 = .ok (.ldc2_w 212, 3) := by decide +kernel
theorem dX10_takeNumber_94 : decode cX10_takeNumber 94 = .ok (.invokestatic 52, 3) := by decide +kernel
theorem dX10_takeNumber_97 : decode cX10_takeNumber 97 = .ok (.ifCond .eq 23, 3) := by decide +kernel
theorem dX10_takeNumber_100 : decode cX10_takeNumber 100 = .ok (.bipush 10, 2) := by decide +kernel
theorem dX10_takeNumber_102 : decode cX10_takeNumber 102 = .ok (.iload_n 3, 1) := by decide +kernel
theorem dX10_takeNumber_103 : decode cX10_takeNumber 103 = .ok (.imul, 1) := by decide +kernel
theorem dX10_takeNumber_104 : decode cX10_takeNumber 104 = .ok (.aload_n 0, 1) := by decide +kernel
theorem dX10_takeNumber_105 : decode cX10_takeNumber 105 = .ok (.invokevirtual 209, 3) := by decide +kernel
theorem dX10_takeNumber_108 : decode cX10_takeNumber 108 = .ok (.iadd, 1) := by decide +kernel
theorem dX10_takeNumber_109 : decode cX10_takeNumber 109 = .ok (.bipush 48, 2) := by decide +kernel
theorem dX10_takeNumber_111 : decode cX10_takeNumber 111 = .ok (.isub, 1) := by decide +kernel
theorem dX10_takeNumber_112 : decode cX10_takeNumber 112 = .ok (.iload_n 2, 1) := by decide +kernel
theorem dX10_takeNumber_113 : decode cX10_takeNumber 113 = .ok (.if_icmp .gt 7, 3) := by decide +kernel
theorem dX10_takeNumber_116 : decode cX10_takeNumber 116 = .ok (.iconst 1, 1) := by decide +kernel
theorem dX10_takeNumber_117 : decode cX10_takeNumber 117 = .ok (.goto 4, 3) := by decide +kernel
theorem dX10_takeNumber_120 : decode cX10_takeNumber 120 = .ok (.iconst 0, 1) := by decide +kernel
theorem dX10_takeNumber_121 : decode cX10_takeNumber 121 = .ok (.istore 4, 2) := by decide +kernel
theorem dX10_takeNumber_123 : decode cX10_takeNumber 123 = .ok (.goto (-72), 3) := by decide +kernel
theorem dX10_takeNumber_126 : decode cX10_takeNumber 126 = .ok (.iload_n 3, 1) := by decide +kernel
theorem dX10_takeNumber_127 : decode cX10_takeNumber 127 = .ok (.ireturn, 1) := by decide +kernel
set_option maxRecDepth 20000 in
theorem ggX10_need_X10_next : GoodIn wsX10_need wsX10_next := goodIn_r _ [7, 2, 8, 9, 10, 11, 12, 13, 14, 15, 16, 17, 18, 19] (by decide +kernel) (by decide +kernel)
set_option maxRecDepth 20000 in
theorem gX10_need_X10_next : GoodIn wsX10_need (wsV RX10 209 RX10 yX10_next wsX10_next) := goodIn_app (goodIn_of _ (by decide +kernel)) ggX10_need_X10_next
theorem dX10_need_0 : decode cX10_need 0 = .ok (.aload_n 0, 1) := by decide +kernel
theorem dX10_need_1 : decode cX10_need 1 = .ok (.aload_n 0, 1) := by decide +kernel
theorem dX10_need_2 : decode cX10_need 2 = .ok (.getfield 205, 3) := by decide +kernel
theorem dX10_need_5 : decode cX10_need 5 = .ok (.ifCond .ne 11, 3) := by decide +kernel
theorem dX10_need_8 : decode cX10_need 8 = .ok (.aload_n 0, 1) := by decide +kernel
theorem dX10_need_9 : decode cX10_need 9 = .ok (.invokevirtual 209, 3) := by decide +kernel
theorem dX10_need_12 : decode cX10_need 12 = .ok (.iload_n 1, 1) := by decide +kernel
theorem dX10_need_13 : decode cX10_need 13 = .ok (.if_icmp .eq 7, 3) := by decide +kernel
theorem dX10_need_16 : decode cX10_need 16 = .ok (.iconst 1, 1) := by decide +kernel
theorem dX10_need_17 : decode cX10_need 17 = .ok (.goto 4, 3) := by decide +kernel
theorem dX10_need_20 : decode cX10_need 20 = .ok (.iconst 0, 1) := by decide +kernel
theorem dX10_need_21 : decode cX10_need 21 = .ok (.putfield 205, 3) := by decide +kernel
theorem dX10_need_24 : decode cX10_need 24 = .ok (.aload_n 0, 1) := by decide +kernel
theorem dX10_need_25 : decode cX10_need 25 = .ok (.dup, 1) := by decide +kernel
theorem dX10_need_26 : decode cX10_need 26 = .ok (.getfield 202, 3) := by decide +kernel
theorem dX10_need_29 : decode cX10_need 29 = .ok (.aload_n 0, 1) := by decide +kernel
theorem dX10_need_30 : decode cX10_need 30 = .ok (.getfield 205, 3) := by decide +kernel
theorem dX10_need_33 : decode cX10_need 33 = .ok (.ifCond .eq 7, 3) := by decide +kernel
theorem dX10_need_36 : decode cX10_need 36 = .ok (.iconst 0, 1) := by decide +kernel
theorem dX10_need_37 : decode cX10_need 37 = .ok (.goto 4, 3) := by decide +kernel
theorem dX10_need_40 : decode cX10_need 40 = .ok (.iconst 1, 1) := by decide +kernel
theorem dX10_need_41 : decode cX10_need 41 = .ok (.iadd, 1) := by decide +kernel
theorem dX10_need_42 : decode cX10_need 42 = .ok (.putfield 202, 3) := by decide +kernel
theorem dX10_need_45 : decode cX10_need 45 = .ok (.return_, 1) := by decide +kernel
set_option maxRecDepth 20000 in
theorem ggX10_takeLeg_X10_takeNumber : GoodIn wsX10_takeLeg wsX10_takeNumber := goodIn_r _ [9, 3, 10, 4, 11, 12, 13, 14, 8, 15, 16, 17, 18, 19, 20, 25, 26, 27, 28, 29, 30, 31, 32, 33, 34] (by decide +kernel) (by decide +kernel)
set_option maxRecDepth 20000 in
theorem gX10_takeLeg_X10_takeNumber : GoodIn wsX10_takeLeg (wsV RX10 219 RX10 yX10_takeNumber wsX10_takeNumber) := goodIn_app (goodIn_of _ (by decide +kernel)) ggX10_takeLeg_X10_takeNumber
set_option maxRecDepth 20000 in
theorem ggX10_takeLeg_X10_need : GoodIn wsX10_takeLeg wsX10_need := goodIn_r _ [24, 3, 4, 12, 13, 14, 8, 15, 16, 17, 25, 26, 27, 28, 29, 30, 31, 32, 33, 34] (by decide +kernel) (by decide +kernel)
set_option maxRecDepth 20000 in
theorem gX10_takeLeg_X10_need : GoodIn wsX10_takeLeg (wsV RX10 223 RX10 yX10_need wsX10_need) := goodIn_app (goodIn_of _ (by decide +kernel)) ggX10_takeLeg_X10_need
set_option maxRecDepth 20000 in
theorem ggX10_takeLeg_X10_next : GoodIn wsX10_takeLeg wsX10_next := goodIn_r _ [15, 4, 16, 17, 25, 26, 27, 28, 29, 30, 31, 32, 33, 34] (by decide +kernel) (by decide +kernel)
set_option maxRecDepth 20000 in
theorem gX10_takeLeg_X10_next : GoodIn wsX10_takeLeg (wsV RX10 209 RX10 yX10_next wsX10_next) := goodIn_app (goodIn_of _ (by decide +kernel)) ggX10_takeLeg_X10_next
theorem dX10_takeLeg_0 : decode cX10_takeLeg 0 = .ok (.aload_n 0, 1) := by decide +kernel
theorem dX10_takeLeg_1 : decode cX10_takeLeg 1 = .ok (.getfield 27, 3) := by decide +kernel
theorem dX10_takeLeg_4 : decode cX10_takeLeg 4 = .ok (.iconst 2, 1) := by decide +kernel
theorem dX10_takeLeg_5 : decode cX10_takeLeg 5 = .ok (.aload_n 0, 1) := by decide +kernel
theorem dX10_takeLeg_6 : decode cX10_takeLeg 6 = .ok (.getfield 216, 3) := by decide +kernel
theorem dX10_takeLeg_9 : decode cX10_takeLeg 9 = .ok (.imul, 1) := by decide +kernel
theorem dX10_takeLeg_10 : decode cX10_takeLeg 10 = .ok (.aload_n 0, 1) := by decide +kernel
theorem dX10_takeLeg_11 : decode cX10_takeLeg 11 = .ok (.iconst 1, 1) := by decide +kernel
theorem dX10_takeLeg_12 : decode cX10_takeLeg 12 = .ok (.sipush 600, 3) := by decide +kernel
theorem dX10_takeLeg_15 : decode cX10_takeLeg 15 = .ok (.invokevirtual 219, 3) := by decide +kernel
theorem dX10_takeLeg_18 : decode cX10_takeLeg 18 = .ok (.iastore, 1) := by decide +kernel
theorem dX10_takeLeg_19 : decode cX10_takeLeg 19 = .ok (.aload_n 0, 1) := by decide +kernel
theorem dX10_takeLeg_20 : decode cX10_takeLeg 20 = .ok (.bipush 64, 2) := by decide +kernel
theorem dX10_takeLeg_22 : decode cX10_takeLeg 22 = .ok (.invokevirtual 223, 3) := by decide +kernel
theorem dX10_takeLeg_25 : decode cX10_takeLeg 25 = .ok (.aload_n 0, 1) := by decide +kernel
theorem dX10_takeLeg_26 : decode cX10_takeLeg 26 = .ok (.getfield 205, 3) := by decide +kernel
theorem dX10_takeLeg_29 : decode cX10_takeLeg 29 = .ok (.ifCond .ne 16, 3) := by decide +kernel
theorem dX10_takeLeg_32 : decode cX10_takeLeg 32 = .ok (.aload_n 0, 1) := by decide +kernel
theorem dX10_takeLeg_33 : decode cX10_takeLeg 33 = .ok (.invokevirtual 209, 3) := by decide +kernel
theorem dX10_takeLeg_36 : decode cX10_takeLeg 36 = .ok (.bipush 45, 2) := by decide +kernel
theorem dX10_takeLeg_38 : decode cX10_takeLeg 38 = .ok (.if_icmp .ne 7, 3) := by decide +kernel
theorem dX10_takeLeg_41 : decode cX10_takeLeg 41 = .ok (.iconst 1, 1) := by decide +kernel
theorem dX10_takeLeg_42 : decode cX10_takeLeg 42 = .ok (.goto 4, 3) := by decide +kernel
theorem dX10_takeLeg_45 : decode cX10_takeLeg 45 = .ok (.iconst 0, 1) := by decide +kernel
theorem dX10_takeLeg_46 : decode cX10_takeLeg 46 = .ok (.istore_n 1, 1) := by decide +kernel
theorem dX10_takeLeg_47 : decode cX10_takeLeg 47 = .ok (.aload_n 0, 1) := by decide +kernel
theorem dX10_takeLeg_48 : decode cX10_takeLeg 48 = .ok (.dup, 1) := by decide +kernel
theorem dX10_takeLeg_49 : decode cX10_takeLeg 49 = .ok (.getfield 202, 3) := by decide +kernel
theorem dX10_takeLeg_52 : decode cX10_takeLeg 52 = .ok (.iload_n 1, 1) := by decide +kernel
theorem dX10_takeLeg_53 : decode cX10_takeLeg 53 = .ok (.ifCond .eq 7, 3) := by decide +kernel
theorem dX10_takeLeg_56 : decode cX10_takeLeg 56 = .ok (.iconst 1, 1) := by decide +kernel
theorem dX10_takeLeg_57 : decode cX10_takeLeg 57 = .ok (.goto 4, 3) := by decide +kernel
theorem dX10_takeLeg_60 : decode cX10_takeLeg 60 = .ok (.iconst 0, 1) := by decide +kernel
theorem dX10_takeLeg_61 : decode cX10_takeLeg 61 = .ok (.iadd, 1) := by decide +kernel
theorem dX10_takeLeg_62 : decode cX10_takeLeg 62 = .ok (.putfield 202, 3) := by decide +kernel
theorem dX10_takeLeg_65 : decode cX10_takeLeg 65 = .ok (.aload_n 0, 1) := by decide +kernel
theorem dX10_takeLeg_66 : decode cX10_takeLeg 66 = .ok (.iconst 0, 1) := by decide +kernel
theorem dX10_takeLeg_67 : decode cX10_takeLeg 67 = .ok (.iload_n 1, 1) := by decide +kernel
theorem dX10_takeLeg_68 : decode cX10_takeLeg 68 = .ok (.ifCond .eq 8, 3) := by decide +kernel
theorem dX10_takeLeg_71 : decode cX10_takeLeg 71 = .ok (.bipush 40, 2) := by decide +kernel
theorem dX10_takeLeg_73 : decode cX10_takeLeg 73 = .ok (.goto 5, 3) := by decide +kernel
theorem dX10_takeLeg_76 : decode cX10_takeLeg 76 = .ok (.bipush 50, 2) := by decide +kernel
theorem dX10_takeLeg_78 : decode cX10_takeLeg 78 = .ok (.invokevirtual 219, 3) := by decide +kernel
theorem dX10_takeLeg_81 : decode cX10_takeLeg 81 = .ok (.istore_n 2, 1) := by decide +kernel
theorem dX10_takeLeg_82 : decode cX10_takeLeg 82 = .ok (.aload_n 0, 1) := by decide +kernel
theorem dX10_takeLeg_83 : decode cX10_takeLeg 83 = .ok (.getfield 27, 3) := by decide +kernel
theorem dX10_takeLeg_86 : decode cX10_takeLeg 86 = .ok (.iconst 2, 1) := by decide +kernel
theorem dX10_takeLeg_87 : decode cX10_takeLeg 87 = .ok (.aload_n 0, 1) := by decide +kernel
theorem dX10_takeLeg_88 : decode cX10_takeLeg 88 = .ok (.getfield 216, 3) := by decide +kernel
theorem dX10_takeLeg_91 : decode cX10_takeLeg 91 = .ok (.imul, 1) := by decide +kernel
theorem dX10_takeLeg_92 : decode cX10_takeLeg 92 = .ok (.iconst 1, 1) := by decide +kernel
theorem dX10_takeLeg_93 : decode cX10_takeLeg 93 = .ok (.iadd, 1) := by decide +kernel
theorem dX10_takeLeg_94 : decode cX10_takeLeg 94 = .ok (.iload_n 1, 1) := by decide +kernel
theorem dX10_takeLeg_95 : decode cX10_takeLeg 95 = .ok (.ifCond .eq 10, 3) := by decide +kernel
theorem dX10_takeLeg_98 : decode cX10_takeLeg 98 = .ok (.bipush (-100), 2) := by decide +kernel
theorem dX10_takeLeg_100 : decode cX10_takeLeg 100 = .ok (.iload_n 2, 1) := by decide +kernel
theorem dX10_takeLeg_101 : decode cX10_takeLeg 101 = .ok (.imul, 1) := by decide +kernel
theorem dX10_takeLeg_102 : decode cX10_takeLeg 102 = .ok (.goto 7, 3) := by decide +kernel
theorem dX10_takeLeg_105 : decode cX10_takeLeg 105 = .ok (.bipush 100, 2) := by decide +kernel
theorem dX10_takeLeg_107 : decode cX10_takeLeg 107 = .ok (.iload_n 2, 1) := by decide +kernel
theorem dX10_takeLeg_108 : decode cX10_takeLeg 108 = .ok (.imul, 1) := by decide +kernel
theorem dX10_takeLeg_109 : decode cX10_takeLeg 109 = .ok (.iastore, 1) := by decide +kernel
theorem dX10_takeLeg_110 : decode cX10_takeLeg 110 = .ok (.aload_n 0, 1) := by decide +kernel
theorem dX10_takeLeg_111 : decode cX10_takeLeg 111 = .ok (.dup, 1) := by decide +kernel
theorem dX10_takeLeg_112 : decode cX10_takeLeg 112 = .ok (.getfield 216, 3) := by decide +kernel
theorem dX10_takeLeg_115 : decode cX10_takeLeg 115 = .ok (.iconst 1, 1) := by decide +kernel
theorem dX10_takeLeg_116 : decode cX10_takeLeg 116 = .ok (.iadd, 1) := by decide +kernel
theorem dX10_takeLeg_117 : decode cX10_takeLeg 117 = .ok (.putfield 216, 3) := by decide +kernel
theorem dX10_takeLeg_120 : decode cX10_takeLeg 120 = .ok (.return_, 1) := by decide +kernel
set_option maxRecDepth 20000 in
theorem ggX10_fault_X10_takeLeg : GoodIn wsX10_fault wsX10_takeLeg := goodIn_r _ [9, 10, 3, 2, 1, 11, 12, 13, 8, 14, 15, 16, 17, 18, 19, 20, 4, 21, 22, 23, 24, 25, 26, 27, 28, 29, 30, 31, 32, 33, 34, 35, 36, 37, 38] (by decide +kernel) (by decide +kernel)
set_option maxRecDepth 20000 in
theorem gX10_fault_X10_takeLeg : GoodIn wsX10_fault (wsV RX10 226 RX10 yX10_takeLeg wsX10_takeLeg) := goodIn_app (goodIn_of _ (by decide +kernel)) ggX10_fault_X10_takeLeg
set_option maxRecDepth 20000 in
theorem ggX10_fault_X10_next : GoodIn wsX10_fault wsX10_next := goodIn_r _ [20, 1, 4, 21, 29, 30, 31, 32, 33, 34, 35, 36, 37, 38] (by decide +kernel) (by decide +kernel)
set_option maxRecDepth 20000 in
theorem gX10_fault_X10_next : GoodIn wsX10_fault (wsV RX10 209 RX10 yX10_next wsX10_next) := goodIn_app (goodIn_of _ (by decide +kernel)) ggX10_fault_X10_next
theorem dX10_fault_0 : decode cX10_fault 0 = .ok (.aload_n 0, 1) := by decide +kernel
theorem dX10_fault_1 : decode cX10_fault 1 = .ok (.iconst 0, 1) := by decide +kernel
theorem dX10_fault_2 : decode cX10_fault 2 = .ok (.putfield 202, 3) := by decide +kernel
theorem dX10_fault_5 : decode cX10_fault 5 = .ok (.aload_n 0, 1) := by decide +kernel
theorem dX10_fault_6 : decode cX10_fault 6 = .ok (.iconst 0, 1) := by decide +kernel
theorem dX10_fault_7 : decode cX10_fault 7 = .ok (.putfield 205, 3) := by decide +kernel
theorem dX10_fault_10 : decode cX10_fault 10 = .ok (.aload_n 0, 1) := by decide +kernel
theorem dX10_fault_11 : decode cX10_fault 11 = .ok (.iconst 0, 1) := by decide +kernel
theorem dX10_fault_12 : decode cX10_fault 12 = .ok (.putfield 216, 3) := by decide +kernel
theorem dX10_fault_15 : decode cX10_fault 15 = .ok (.aload_n 0, 1) := by decide +kernel
theorem dX10_fault_16 : decode cX10_fault 16 = .ok (.invokevirtual 226, 3) := by decide +kernel
theorem dX10_fault_19 : decode cX10_fault 19 = .ok (.aload_n 0, 1) := by decide +kernel
theorem dX10_fault_20 : decode cX10_fault 20 = .ok (.getfield 205, 3) := by decide +kernel
theorem dX10_fault_23 : decode cX10_fault 23 = .ok (.ifCond .ne 29, 3) := by decide +kernel
theorem dX10_fault_26 : decode cX10_fault 26 = .ok (.aload_n 0, 1) := by decide +kernel
theorem dX10_fault_27 : decode cX10_fault 27 = .ok (.invokevirtual 209, 3) := by decide +kernel
theorem dX10_fault_30 : decode cX10_fault 30 = .ok (.bipush 44, 2) := by decide +kernel
theorem dX10_fault_32 : decode cX10_fault 32 = .ok (.if_icmp .ne 20, 3) := by decide +kernel
theorem dX10_fault_35 : decode cX10_fault 35 = .ok (.aload_n 0, 1) := by decide +kernel
theorem dX10_fault_36 : decode cX10_fault 36 = .ok (.dup, 1) := by decide +kernel
theorem dX10_fault_37 : decode cX10_fault 37 = .ok (.getfield 202, 3) := by decide +kernel
theorem dX10_fault_40 : decode cX10_fault 40 = .ok (.iconst 1, 1) := by decide +kernel
theorem dX10_fault_41 : decode cX10_fault 41 = .ok (.iadd, 1) := by decide +kernel
theorem dX10_fault_42 : decode cX10_fault 42 = .ok (.putfield 202, 3) := by decide +kernel
theorem dX10_fault_45 : decode cX10_fault 45 = .ok (.aload_n 0, 1) := by decide +kernel
theorem dX10_fault_46 : decode cX10_fault 46 = .ok (.invokevirtual 226, 3) := by decide +kernel
theorem dX10_fault_49 : decode cX10_fault 49 = .ok (.goto (-30), 3) := by decide +kernel
theorem dX10_fault_52 : decode cX10_fault 52 = .ok (.aload_n 0, 1) := by decide +kernel
theorem dX10_fault_53 : decode cX10_fault 53 = .ok (.getfield 205, 3) := by decide +kernel
theorem dX10_fault_56 : decode cX10_fault 56 = .ok (.ifCond .ne 14, 3) := by decide +kernel
theorem dX10_fault_59 : decode cX10_fault 59 = .ok (.aload_n 0, 1) := by decide +kernel
theorem dX10_fault_60 : decode cX10_fault 60 = .ok (.getfield 202, 3) := by decide +kernel
theorem dX10_fault_63 : decode cX10_fault 63 = .ok (.aload_n 0, 1) := by decide +kernel
theorem dX10_fault_64 : decode cX10_fault 64 = .ok (.getfield 179, 3) := by decide +kernel
theorem dX10_fault_67 : decode cX10_fault 67 = .ok (.if_icmp .ge 10, 3) := by decide +kernel
theorem dX10_fault_70 : decode cX10_fault 70 = .ok (.aload_n 0, 1) := by decide +kernel
theorem dX10_fault_71 : decode cX10_fault 71 = .ok (.getfield 202, 3) := by decide +kernel
theorem dX10_fault_74 : decode cX10_fault 74 = .ok (.goto 5, 3) := by decide +kernel
theorem dX10_fault_77 : decode cX10_fault 77 = .ok (.bipush (-6), 2) := by decide +kernel
theorem dX10_fault_79 : decode cX10_fault 79 = .ok (.ireturn, 1) := by decide +kernel
set_option maxRecDepth 20000 in
theorem ggX10_read_X10_fault : GoodIn wsX10_read wsX10_fault := goodIn_r _ [9, 10, 11, 1, 4, 12, 13, 14, 8, 15, 3, 16, 17, 18, 19, 20, 21, 22, 23, 24, 25, 26, 27, 28, 29, 30, 31, 32, 33, 38, 39, 40, 41, 42, 43, 44, 45, 46, 47] (by decide +kernel) (by decide +kernel)
set_option maxRecDepth 20000 in
theorem gX10_read_X10_fault : GoodIn wsX10_read (wsV RX10 229 RX10 yX10_fault wsX10_fault) := goodIn_app (goodIn_of _ (by decide +kernel)) ggX10_read_X10_fault
set_option maxRecDepth 20000 in
theorem ggX10_read_X10_legs : GoodIn wsX10_read wsX10_legs := goodIn_r _ [37, 2, 38, 39, 40, 41, 42, 43, 44, 45, 46, 47] (by decide +kernel) (by decide +kernel)
set_option maxRecDepth 20000 in
theorem gX10_read_X10_legs : GoodIn wsX10_read (wsV RX10 103 RX10 yX10_legs wsX10_legs) := goodIn_app (goodIn_of _ (by decide +kernel)) ggX10_read_X10_legs
theorem dX10_read_0 : decode cX10_read 0 = .ok (.aload_n 0, 1) := by decide +kernel
theorem dX10_read_1 : decode cX10_read 1 = .ok (.invokevirtual 229, 3) := by decide +kernel
theorem dX10_read_4 : decode cX10_read 4 = .ok (.bipush (-6), 2) := by decide +kernel
theorem dX10_read_6 : decode cX10_read 6 = .ok (.if_icmp .eq 6, 3) := by decide +kernel
theorem dX10_read_9 : decode cX10_read 9 = .ok (.bipush (-3), 2) := by decide +kernel
theorem dX10_read_11 : decode cX10_read 11 = .ok (.ireturn, 1) := by decide +kernel
theorem dX10_read_12 : decode cX10_read 12 = .ok (.aload_n 0, 1) := by decide +kernel
theorem dX10_read_13 : decode cX10_read 13 = .ok (.invokevirtual 103, 3) := by decide +kernel
theorem dX10_read_16 : decode cX10_read 16 = .ok (.aload_n 0, 1) := by decide +kernel
theorem dX10_read_17 : decode cX10_read 17 = .ok (.getfield 216, 3) := by decide +kernel
theorem dX10_read_20 : decode cX10_read 20 = .ok (.iadd, 1) := by decide +kernel
theorem dX10_read_21 : decode cX10_read 21 = .ok (.bipush 12, 2) := by decide +kernel
theorem dX10_read_23 : decode cX10_read 23 = .ok (.if_icmp .le 6, 3) := by decide +kernel
theorem dX10_read_26 : decode cX10_read 26 = .ok (.bipush (-4), 2) := by decide +kernel
theorem dX10_read_28 : decode cX10_read 28 = .ok (.ireturn, 1) := by decide +kernel
theorem dX10_read_29 : decode cX10_read 29 = .ok (.iconst 0, 1) := by decide +kernel
theorem dX10_read_30 : decode cX10_read 30 = .ok (.istore_n 1, 1) := by decide +kernel
theorem dX10_read_31 : decode cX10_read 31 = .ok (.iload_n 1, 1) := by decide +kernel
theorem dX10_read_32 : decode cX10_read 32 = .ok (.aload_n 0, 1) := by decide +kernel
theorem dX10_read_33 : decode cX10_read 33 = .ok (.getfield 216, 3) := by decide +kernel
theorem dX10_read_36 : decode cX10_read 36 = .ok (.if_icmp .ge 70, 3) := by decide +kernel
theorem dX10_read_39 : decode cX10_read 39 = .ok (.aload_n 0, 1) := by decide +kernel
theorem dX10_read_40 : decode cX10_read 40 = .ok (.getfield 7, 3) := by decide +kernel
theorem dX10_read_43 : decode cX10_read 43 = .ok (.bipush 40, 2) := by decide +kernel
theorem dX10_read_45 : decode cX10_read 45 = .ok (.iconst 2, 1) := by decide +kernel
theorem dX10_read_46 : decode cX10_read 46 = .ok (.aload_n 0, 1) := by decide +kernel
theorem dX10_read_47 : decode cX10_read 47 = .ok (.invokevirtual 103, 3) := by decide +kernel
theorem dX10_read_50 : decode cX10_read 50 = .ok (.imul, 1) := by decide +kernel
theorem dX10_read_51 : decode cX10_read 51 = .ok (.iadd, 1) := by decide +kernel
theorem dX10_read_52 : decode cX10_read 52 = .ok (.aload_n 0, 1) := by decide +kernel
theorem dX10_read_53 : decode cX10_read 53 = .ok (.getfield 27, 3) := by decide +kernel
theorem dX10_read_56 : decode cX10_read 56 = .ok (.iconst 2, 1) := by decide +kernel
theorem dX10_read_57 : decode cX10_read 57 = .ok (.iload_n 1, 1) := by decide +kernel
theorem dX10_read_58 : decode cX10_read 58 = .ok (.imul, 1) := by decide +kernel
theorem dX10_read_59 : decode cX10_read 59 = .ok (.iaload, 1) := by decide +kernel
theorem dX10_read_60 : decode cX10_read 60 = .ok (.i2l, 1) := by decide +kernel
theorem dX10_read_61 : decode cX10_read 61 = .ok (.lastore, 1) := by decide +kernel
theorem dX10_read_62 : decode cX10_read 62 = .ok (.aload_n 0, 1) := by decide +kernel
theorem dX10_read_63 : decode cX10_read 63 = .ok (.getfield 7, 3) := by decide +kernel
theorem dX10_read_66 : decode cX10_read 66 = .ok (.bipush 40, 2) := by decide +kernel
theorem dX10_read_68 : decode cX10_read 68 = .ok (.iconst 2, 1) := by decide +kernel
theorem dX10_read_69 : decode cX10_read 69 = .ok (.aload_n 0, 1) := by decide +kernel
theorem dX10_read_70 : decode cX10_read 70 = .ok (.invokevirtual 103, 3) := by decide +kernel
theorem dX10_read_73 : decode cX10_read 73 = .ok (.imul, 1) := by decide +kernel
theorem dX10_read_74 : decode cX10_read 74 = .ok (.iadd, 1) := by decide +kernel
theorem dX10_read_75 : decode cX10_read 75 = .ok (.iconst 1, 1) := by decide +kernel
theorem dX10_read_76 : decode cX10_read 76 = .ok (.iadd, 1) := by decide +kernel
theorem dX10_read_77 : decode cX10_read 77 = .ok (.aload_n 0, 1) := by decide +kernel
theorem dX10_read_78 : decode cX10_read 78 = .ok (.getfield 27, 3) := by decide +kernel
theorem dX10_read_81 : decode cX10_read 81 = .ok (.iconst 2, 1) := by decide +kernel
theorem dX10_read_82 : decode cX10_read 82 = .ok (.iload_n 1, 1) := by decide +kernel
theorem dX10_read_83 : decode cX10_read 83 = .ok (.imul, 1) := by decide +kernel
theorem dX10_read_84 : decode cX10_read 84 = .ok (.iconst 1, 1) := by decide +kernel
theorem dX10_read_85 : decode cX10_read 85 = .ok (.iadd, 1) := by decide +kernel
theorem dX10_read_86 : decode cX10_read 86 = .ok (.iaload, 1) := by decide +kernel
theorem dX10_read_87 : decode cX10_read 87 = .ok (.i2l, 1) := by decide +kernel
theorem dX10_read_88 : decode cX10_read 88 = .ok (.lastore, 1) := by decide +kernel
theorem dX10_read_89 : decode cX10_read 89 = .ok (.aload_n 0, 1) := by decide +kernel
theorem dX10_read_90 : decode cX10_read 90 = .ok (.getfield 7, 3) := by decide +kernel
theorem dX10_read_93 : decode cX10_read 93 = .ok (.bipush 76, 2) := by decide +kernel
theorem dX10_read_95 : decode cX10_read 95 = .ok (.dup2, 1) := by decide +kernel
theorem dX10_read_96 : decode cX10_read 96 = .ok (.laload, 1) := by decide +kernel
theorem dX10_read_97 : decode cX10_read 97 = .ok (.lconst 1, 1) := by decide +kernel
theorem dX10_read_98 : decode cX10_read 98 = .ok (.ladd, 1) := by decide +kernel
theorem dX10_read_99 : decode cX10_read 99 = .ok (.lastore, 1) := by decide +kernel
theorem dX10_read_100 : decode cX10_read 100 = .ok (.iinc 1 1, 3) := by decide +kernel
theorem dX10_read_103 : decode cX10_read 103 = .ok (.goto (-72), 3) := by decide +kernel
theorem dX10_read_106 : decode cX10_read 106 = .ok (.aload_n 0, 1) := by decide +kernel
theorem dX10_read_107 : decode cX10_read 107 = .ok (.iconst 0, 1) := by decide +kernel
theorem dX10_read_108 : decode cX10_read 108 = .ok (.putfield 179, 3) := by decide +kernel
theorem dX10_read_111 : decode cX10_read 111 = .ok (.aload_n 0, 1) := by decide +kernel
theorem dX10_read_112 : decode cX10_read 112 = .ok (.invokevirtual 103, 3) := by decide +kernel
theorem dX10_read_115 : decode cX10_read 115 = .ok (.ireturn, 1) := by decide +kernel
set_option maxRecDepth 20000 in
theorem ggX10_save_X10_in : GoodIn wsX10_save wsX10_in := goodIn_r _ [7] (by decide +kernel) (by decide +kernel)
set_option maxRecDepth 20000 in
theorem gX10_save_X10_in : GoodIn wsX10_save (va_wsS RX10 52 yX10_in wsX10_in) := goodIn_app (goodIn_of _ (by decide +kernel)) ggX10_save_X10_in
theorem dX10_save_0 : decode cX10_save 0 = .ok (.iload_n 1, 1) := by decide +kernel
theorem dX10_save_1 : decode cX10_save 1 = .ok (.i2l, 1) := by decide +kernel
theorem dX10_save_2 : decode cX10_save 2 = .ok (.lconst 0, 1) := by decide +kernel
theorem dX10_save_3 : decode cX10_save 3 = .ok (.lconst 1, 1) := by decide +kernel
theorem dX10_save_4 : decode cX10_save 4 = .ok (.invokestatic 52, 3) := by decide +kernel
theorem dX10_save_7 : decode cX10_save 7 = .ok (.ifCond .ne 6, 3) := by decide +kernel
theorem dX10_save_10 : decode cX10_save 10 = .ok (.bipush (-2), 2) := by decide +kernel
theorem dX10_save_12 : decode cX10_save 12 = .ok (.ireturn, 1) := by decide +kernel
theorem dX10_save_13 : decode cX10_save 13 = .ok (.iconst 0, 1) := by decide +kernel
theorem dX10_save_14 : decode cX10_save 14 = .ok (.istore_n 2, 1) := by decide +kernel
theorem dX10_save_15 : decode cX10_save 15 = .ok (.iload_n 2, 1) := by decide +kernel
theorem dX10_save_16 : decode cX10_save 16 = .ok (.bipush 93, 2) := by decide +kernel
theorem dX10_save_18 : decode cX10_save 18 = .ok (.if_icmp .ge 26, 3) := by decide +kernel
theorem dX10_save_21 : decode cX10_save 21 = .ok (.aload_n 0, 1) := by decide +kernel
theorem dX10_save_22 : decode cX10_save 22 = .ok (.getfield 16, 3) := by decide +kernel
theorem dX10_save_25 : decode cX10_save 25 = .ok (.bipush 93, 2) := by decide +kernel
theorem dX10_save_27 : decode cX10_save 27 = .ok (.iload_n 1, 1) := by decide +kernel
theorem dX10_save_28 : decode cX10_save 28 = .ok (.imul, 1) := by decide +kernel
theorem dX10_save_29 : decode cX10_save 29 = .ok (.iload_n 2, 1) := by decide +kernel
theorem dX10_save_30 : decode cX10_save 30 = .ok (.iadd, 1) := by decide +kernel
theorem dX10_save_31 : decode cX10_save 31 = .ok (.aload_n 0, 1) := by decide +kernel
theorem dX10_save_32 : decode cX10_save 32 = .ok (.getfield 7, 3) := by decide +kernel
theorem dX10_save_35 : decode cX10_save 35 = .ok (.iload_n 2, 1) := by decide +kernel
theorem dX10_save_36 : decode cX10_save 36 = .ok (.laload, 1) := by decide +kernel
theorem dX10_save_37 : decode cX10_save 37 = .ok (.lastore, 1) := by decide +kernel
theorem dX10_save_38 : decode cX10_save 38 = .ok (.iinc 2 1, 3) := by decide +kernel
theorem dX10_save_41 : decode cX10_save 41 = .ok (.goto (-26), 3) := by decide +kernel
theorem dX10_save_44 : decode cX10_save 44 = .ok (.aload_n 0, 1) := by decide +kernel
theorem dX10_save_45 : decode cX10_save 45 = .ok (.getfield 19, 3) := by decide +kernel
theorem dX10_save_48 : decode cX10_save 48 = .ok (.iload_n 1, 1) := by decide +kernel
theorem dX10_save_49 : decode cX10_save 49 = .ok (.iconst 1, 1) := by decide +kernel
theorem dX10_save_50 : decode cX10_save 50 = .ok (.bastore, 1) := by decide +kernel
theorem dX10_save_51 : decode cX10_save 51 = .ok (.aload_n 0, 1) := by decide +kernel
theorem dX10_save_52 : decode cX10_save 52 = .ok (.getfield 7, 3) := by decide +kernel
theorem dX10_save_55 : decode cX10_save 55 = .ok (.bipush 77, 2) := by decide +kernel
theorem dX10_save_57 : decode cX10_save 57 = .ok (.laload, 1) := by decide +kernel
theorem dX10_save_58 : decode cX10_save 58 = .ok (.l2i, 1) := by decide +kernel
theorem dX10_save_59 : decode cX10_save 59 = .ok (.ireturn, 1) := by decide +kernel
set_option maxRecDepth 20000 in
theorem ggX10_restore_X10_in : GoodIn wsX10_restore wsX10_in := goodIn_r _ [7] (by decide +kernel) (by decide +kernel)
set_option maxRecDepth 20000 in
theorem gX10_restore_X10_in : GoodIn wsX10_restore (va_wsS RX10 52 yX10_in wsX10_in) := goodIn_app (goodIn_of _ (by decide +kernel)) ggX10_restore_X10_in
theorem dX10_restore_0 : decode cX10_restore 0 = .ok (.iload_n 1, 1) := by decide +kernel
theorem dX10_restore_1 : decode cX10_restore 1 = .ok (.i2l, 1) := by decide +kernel
theorem dX10_restore_2 : decode cX10_restore 2 = .ok (.lconst 0, 1) := by decide +kernel
theorem dX10_restore_3 : decode cX10_restore 3 = .ok (.lconst 1, 1) := by decide +kernel
theorem dX10_restore_4 : decode cX10_restore 4 = .ok (.invokestatic 52, 3) := by decide +kernel
theorem dX10_restore_7 : decode cX10_restore 7 = .ok (.ifCond .ne 6, 3) := by decide +kernel
theorem dX10_restore_10 : decode cX10_restore 10 = .ok (.bipush (-2), 2) := by decide +kernel
theorem dX10_restore_12 : decode cX10_restore 12 = .ok (.ireturn, 1) := by decide +kernel
theorem dX10_restore_13 : decode cX10_restore 13 = .ok (.aload_n 0, 1) := by decide +kernel
theorem dX10_restore_14 : decode cX10_restore 14 = .ok (.getfield 19, 3) := by decide +kernel
theorem dX10_restore_17 : decode cX10_restore 17 = .ok (.iload_n 1, 1) := by decide +kernel
theorem dX10_restore_18 : decode cX10_restore 18 = .ok (.baload, 1) := by decide +kernel
theorem dX10_restore_19 : decode cX10_restore 19 = .ok (.ifCond .ne 6, 3) := by decide +kernel
theorem dX10_restore_22 : decode cX10_restore 22 = .ok (.bipush (-5), 2) := by decide +kernel
theorem dX10_restore_24 : decode cX10_restore 24 = .ok (.ireturn, 1) := by decide +kernel
theorem dX10_restore_25 : decode cX10_restore 25 = .ok (.iconst 0, 1) := by decide +kernel
theorem dX10_restore_26 : decode cX10_restore 26 = .ok (.istore_n 2, 1) := by decide +kernel
theorem dX10_restore_27 : decode cX10_restore 27 = .ok (.iload_n 2, 1) := by decide +kernel
theorem dX10_restore_28 : decode cX10_restore 28 = .ok (.bipush 93, 2) := by decide +kernel
theorem dX10_restore_30 : decode cX10_restore 30 = .ok (.if_icmp .ge 26, 3) := by decide +kernel
theorem dX10_restore_33 : decode cX10_restore 33 = .ok (.aload_n 0, 1) := by decide +kernel
theorem dX10_restore_34 : decode cX10_restore 34 = .ok (.getfield 7, 3) := by decide +kernel
theorem dX10_restore_37 : decode cX10_restore 37 = .ok (.iload_n 2, 1) := by decide +kernel
theorem dX10_restore_38 : decode cX10_restore 38 = .ok (.aload_n 0, 1) := by decide +kernel
theorem dX10_restore_39 : decode cX10_restore 39 = .ok (.getfield 16, 3) := by decide +kernel
theorem dX10_restore_42 : decode cX10_restore 42 = .ok (.bipush 93, 2) := by decide +kernel
theorem dX10_restore_44 : decode cX10_restore 44 = .ok (.iload_n 1, 1) := by decide +kernel
theorem dX10_restore_45 : decode cX10_restore 45 = .ok (.imul, 1) := by decide +kernel
theorem dX10_restore_46 : decode cX10_restore 46 = .ok (.iload_n 2, 1) := by decide +kernel
theorem dX10_restore_47 : decode cX10_restore 47 = .ok (.iadd, 1) := by decide +kernel
theorem dX10_restore_48 : decode cX10_restore 48 = .ok (.laload, 1) := by decide +kernel
theorem dX10_restore_49 : decode cX10_restore 49 = .ok (.lastore, 1) := by decide +kernel
theorem dX10_restore_50 : decode cX10_restore 50 = .ok (.iinc 2 1, 3) := by decide +kernel
theorem dX10_restore_53 : decode cX10_restore 53 = .ok (.goto (-26), 3) := by decide +kernel
theorem dX10_restore_56 : decode cX10_restore 56 = .ok (.aload_n 0, 1) := by decide +kernel
theorem dX10_restore_57 : decode cX10_restore 57 = .ok (.getfield 7, 3) := by decide +kernel
theorem dX10_restore_60 : decode cX10_restore 60 = .ok (.bipush 77, 2) := by decide +kernel
theorem dX10_restore_62 : decode cX10_restore 62 = .ok (.laload, 1) := by decide +kernel
theorem dX10_restore_63 : decode cX10_restore 63 = .ok (.l2i, 1) := by decide +kernel
theorem dX10_restore_64 : decode cX10_restore 64 = .ok (.ireturn, 1) := by decide +kernel
theorem dJ9_max_7cf53_0 : decode cJ9_max_7cf53 0 = .ok (.iload_n 0, 1) := by decide +kernel
theorem dJ9_max_7cf53_1 : decode cJ9_max_7cf53 1 = .ok (.iload_n 1, 1) := by decide +kernel
theorem dJ9_max_7cf53_2 : decode cJ9_max_7cf53 2 = .ok (.if_icmp .lt 7, 3) := by decide +kernel
theorem dJ9_max_7cf53_5 : decode cJ9_max_7cf53 5 = .ok (.iload_n 0, 1) := by decide +kernel
theorem dJ9_max_7cf53_6 : decode cJ9_max_7cf53 6 = .ok (.goto 4, 3) := by decide +kernel
theorem dJ9_max_7cf53_9 : decode cJ9_max_7cf53 9 = .ok (.iload_n 1, 1) := by decide +kernel
theorem dJ9_max_7cf53_10 : decode cJ9_max_7cf53 10 = .ok (.ireturn, 1) := by decide +kernel
theorem dJ9_max_f86c9_0 : decode cJ9_max_f86c9 0 = .ok (.lload_n 0, 1) := by decide +kernel
theorem dJ9_max_f86c9_1 : decode cJ9_max_f86c9 1 = .ok (.lload_n 2, 1) := by decide +kernel
theorem dJ9_max_f86c9_2 : decode cJ9_max_f86c9 2 = .ok (.lcmp, 1) := by decide +kernel
theorem dJ9_max_f86c9_3 : decode cJ9_max_f86c9 3 = .ok (.ifCond .lt 7, 3) := by decide +kernel
theorem dJ9_max_f86c9_6 : decode cJ9_max_f86c9 6 = .ok (.lload_n 0, 1) := by decide +kernel
theorem dJ9_max_f86c9_7 : decode cJ9_max_f86c9 7 = .ok (.goto 4, 3) := by decide +kernel
theorem dJ9_max_f86c9_10 : decode cJ9_max_f86c9 10 = .ok (.lload_n 2, 1) := by decide +kernel
theorem dJ9_max_f86c9_11 : decode cJ9_max_f86c9 11 = .ok (.lreturn, 1) := by decide +kernel
theorem dJ9_min_7cf53_0 : decode cJ9_min_7cf53 0 = .ok (.iload_n 0, 1) := by decide +kernel
theorem dJ9_min_7cf53_1 : decode cJ9_min_7cf53 1 = .ok (.iload_n 1, 1) := by decide +kernel
theorem dJ9_min_7cf53_2 : decode cJ9_min_7cf53 2 = .ok (.if_icmp .gt 7, 3) := by decide +kernel
theorem dJ9_min_7cf53_5 : decode cJ9_min_7cf53 5 = .ok (.iload_n 0, 1) := by decide +kernel
theorem dJ9_min_7cf53_6 : decode cJ9_min_7cf53 6 = .ok (.goto 4, 3) := by decide +kernel
theorem dJ9_min_7cf53_9 : decode cJ9_min_7cf53 9 = .ok (.iload_n 1, 1) := by decide +kernel
theorem dJ9_min_7cf53_10 : decode cJ9_min_7cf53 10 = .ok (.ireturn, 1) := by decide +kernel
theorem dJ9_min_f86c9_0 : decode cJ9_min_f86c9 0 = .ok (.lload_n 0, 1) := by decide +kernel
theorem dJ9_min_f86c9_1 : decode cJ9_min_f86c9 1 = .ok (.lload_n 2, 1) := by decide +kernel
theorem dJ9_min_f86c9_2 : decode cJ9_min_f86c9 2 = .ok (.lcmp, 1) := by decide +kernel
theorem dJ9_min_f86c9_3 : decode cJ9_min_f86c9 3 = .ok (.ifCond .gt 7, 3) := by decide +kernel
theorem dJ9_min_f86c9_6 : decode cJ9_min_f86c9 6 = .ok (.lload_n 0, 1) := by decide +kernel
theorem dJ9_min_f86c9_7 : decode cJ9_min_f86c9 7 = .ok (.goto 4, 3) := by decide +kernel
theorem dJ9_min_f86c9_10 : decode cJ9_min_f86c9 10 = .ok (.lload_n 2, 1) := by decide +kernel
theorem dJ9_min_f86c9_11 : decode cJ9_min_f86c9 11 = .ok (.lreturn, 1) := by decide +kernel
end
section
set_option maxRecDepth 20000 in
theorem ggL_law_X9_init : GoodIn wsL_law wsX9_init := goodIn_r _ [8, 9, 10, 11, 12, 13, 14, 15, 16, 17, 18, 19, 20, 21, 22, 23, 24, 25, 26, 27, 28, 29, 30, 31, 32, 33, 34, 35, 36, 37, 38, 39, 40, 41, 42, 43, 44, 45, 46, 47, 48, 49, 50, 51, 52, 53, 54, 55, 56, 57, 58, 59, 60, 61, 62, 63, 64, 65, 66, 67, 68, 69, 70, 71, 72, 73, 74, 75, 76, 77, 78, 79, 80, 81, 82, 83, 84, 85, 86, 87, 88, 89, 90, 91, 92, 93, 94, 95, 874, 875, 876, 877, 878, 879, 880, 881, 882, 883, 858, 859, 860, 861, 862, 863, 884, 885, 886, 887, 888, 889, 890, 891, 892, 893, 894, 895, 896, 897, 898, 899, 900, 901, 902, 903, 904, 905, 906, 907, 908, 909, 910, 911, 912, 913] (by decide +kernel) (by decide +kernel)
set_option maxRecDepth 20000 in
theorem gL_law_X9_init : GoodIn wsL_law (wsX9_init) := ggL_law_X9_init
set_option maxRecDepth 20000 in
theorem ggL_law_X10_init : GoodIn wsL_law wsX10_init := goodIn_r _ [98, 99, 10, 11, 100, 101, 102, 103, 104, 105, 78, 106, 107, 108, 109, 110, 111, 112, 113, 114, 115, 116, 864, 865, 866, 867, 868, 869, 870, 871, 872, 873] (by decide +kernel) (by decide +kernel)
set_option maxRecDepth 20000 in
theorem gL_law_X10_init : GoodIn wsL_law (wsX10_init) := ggL_law_X10_init
set_option maxRecDepth 20000 in
theorem ggL_law_X9_load : GoodIn wsL_law wsX9_load := goodIn_r _ [120, 121, 122, 15, 123, 124, 125, 126, 127, 128, 129, 2, 130, 131, 132, 133, 39, 134, 135, 64, 136, 137, 138, 139, 858, 859, 860, 861, 862, 863, 874, 875, 876, 877, 878, 879, 880, 881, 882, 883, 896, 897, 898, 899, 900, 901, 902, 903, 904, 910, 911, 912, 913] (by decide +kernel) (by decide +kernel)
set_option maxRecDepth 20000 in
theorem gL_law_X9_load : GoodIn wsL_law (wsV RL 13 RX9 yX9_load wsX9_load) := goodIn_app (goodIn_of _ (by decide +kernel)) ggL_law_X9_load
set_option maxRecDepth 20000 in
theorem ggL_law_X10_load : GoodIn wsL_law wsX10_load := goodIn_r _ [143, 110, 144, 145, 101, 146, 147, 5, 148, 149, 150, 151, 152, 153, 154, 155, 156, 157, 158, 159, 160, 864, 865, 866, 867, 868, 869, 870, 871, 872, 873] (by decide +kernel) (by decide +kernel)
set_option maxRecDepth 20000 in
theorem gL_law_X10_load : GoodIn wsL_law (wsV RL 17 RX10 yX10_load wsX10_load) := goodIn_app (goodIn_of _ (by decide +kernel)) ggL_law_X10_load
set_option maxRecDepth 20000 in
theorem ggL_law_X9_unload : GoodIn wsL_law wsX9_unload := goodIn_r _ [164, 15, 123, 125, 126, 165, 166, 167, 168, 169, 39, 170, 135, 64, 129, 2, 130, 171, 172, 173, 174, 175, 176, 177, 178, 858, 859, 860, 861, 862, 863, 874, 875, 876, 877, 878, 879, 880, 881, 882, 883, 898, 899, 900, 901, 902, 903, 904, 910, 911, 912, 913, 896, 897] (by decide +kernel) (by decide +kernel)
set_option maxRecDepth 20000 in
theorem gL_law_X9_unload : GoodIn wsL_law (wsV RL 18 RX9 yX9_unload wsX9_unload) := goodIn_app (goodIn_of _ (by decide +kernel)) ggL_law_X9_unload
set_option maxRecDepth 20000 in
theorem ggL_law_X10_unload : GoodIn wsL_law wsX10_unload := goodIn_r _ [182, 101, 183, 184, 185, 5, 186, 149, 150, 151, 152, 146, 147, 148, 153, 154, 155, 156, 187, 188, 189, 190, 864, 865, 866, 867, 868, 869, 870, 871, 872, 873] (by decide +kernel) (by decide +kernel)
set_option maxRecDepth 20000 in
theorem gL_law_X10_unload : GoodIn wsL_law (wsV RL 22 RX10 yX10_unload wsX10_unload) := goodIn_app (goodIn_of _ (by decide +kernel)) ggL_law_X10_unload
set_option maxRecDepth 20000 in
theorem ggL_law_X9_shift : GoodIn wsL_law wsX9_shift := goodIn_r _ [194, 15, 123, 165, 167, 168, 169, 39, 170, 135, 64, 129, 2, 130, 195, 176, 177, 178, 858, 859, 860, 861, 862, 863, 874, 875, 876, 877, 878, 879, 880, 881, 882, 883, 910, 911, 912, 913, 896, 897] (by decide +kernel) (by decide +kernel)
set_option maxRecDepth 20000 in
theorem gL_law_X9_shift : GoodIn wsL_law (wsV RL 23 RX9 yX9_shift wsX9_shift) := goodIn_app (goodIn_of _ (by decide +kernel)) ggL_law_X9_shift
set_option maxRecDepth 20000 in
theorem ggL_law_X10_shift : GoodIn wsL_law wsX10_shift := goodIn_r _ [199, 183, 184, 185, 5, 186, 149, 150, 151, 152, 101, 146, 147, 148, 187, 188, 189, 190, 200, 201, 202, 203, 204, 205, 206, 207, 157, 158, 159, 160, 864, 865, 866, 867, 868, 869, 870, 871, 872, 873] (by decide +kernel) (by decide +kernel)
set_option maxRecDepth 20000 in
theorem gL_law_X10_shift : GoodIn wsL_law (wsV RL 27 RX10 yX10_shift wsX10_shift) := goodIn_app (goodIn_of _ (by decide +kernel)) ggL_law_X10_shift
set_option maxRecDepth 20000 in
theorem ggL_law_X9_set : GoodIn wsL_law wsX9_set := goodIn_r _ [211, 15, 212, 213, 214, 215, 35, 216, 129, 2, 130, 217, 218, 219, 220, 58, 221, 222, 223, 224, 225, 858, 859, 860, 861, 862, 863, 874, 875, 876, 877, 878, 879, 880, 881, 882, 883, 895] (by decide +kernel) (by decide +kernel)
set_option maxRecDepth 20000 in
theorem gL_law_X9_set : GoodIn wsL_law (wsV RL 28 RX9 yX9_set wsX9_set) := goodIn_app (goodIn_of _ (by decide +kernel)) ggL_law_X9_set
set_option maxRecDepth 20000 in
theorem ggL_law_X10_set : GoodIn wsL_law wsX10_set := goodIn_r _ [229, 101, 230, 231, 5, 232, 115, 110, 233, 234, 235, 236, 237, 146, 147, 148, 864, 865, 866, 867, 868, 869, 870, 871, 872, 873] (by decide +kernel) (by decide +kernel)
set_option maxRecDepth 20000 in
theorem gL_law_X10_set : GoodIn wsL_law (wsV RL 31 RX10 yX10_set wsX10_set) := goodIn_app (goodIn_of _ (by decide +kernel)) ggL_law_X10_set
set_option maxRecDepth 20000 in
theorem ggL_law_X9_leg : GoodIn wsL_law wsX9_leg := goodIn_r _ [241, 15, 242, 243, 128, 129, 2, 130, 244, 245, 246, 47, 247, 248, 79, 80, 858, 859, 860, 861, 862, 863, 874, 875, 876, 877, 878, 879, 880, 881, 882, 883, 905, 906, 907, 908, 909] (by decide +kernel) (by decide +kernel)
set_option maxRecDepth 20000 in
theorem gL_law_X9_leg : GoodIn wsL_law (wsV RL 32 RX9 yX9_leg wsX9_leg) := goodIn_app (goodIn_of _ (by decide +kernel)) ggL_law_X9_leg
set_option maxRecDepth 20000 in
theorem ggL_law_X10_leg : GoodIn wsL_law wsX10_leg := goodIn_r _ [252, 253, 254, 114, 101, 146, 147, 5, 148, 255, 256, 257, 258, 864, 865, 866, 867, 868, 869, 870, 871, 872, 873] (by decide +kernel) (by decide +kernel)
set_option maxRecDepth 20000 in
theorem gL_law_X10_leg : GoodIn wsL_law (wsV RL 35 RX10 yX10_leg wsX10_leg) := goodIn_app (goodIn_of _ (by decide +kernel)) ggL_law_X10_leg
set_option maxRecDepth 20000 in
theorem ggL_law_X9_cut : GoodIn wsL_law wsX9_cut := goodIn_r _ [262, 15, 242, 243, 263, 264, 265, 47, 266, 81, 267, 268, 269, 270, 248, 129, 2, 130, 858, 859, 860, 861, 862, 863, 874, 875, 876, 877, 878, 879, 880, 881, 882, 883, 905, 906, 907, 908, 909] (by decide +kernel) (by decide +kernel)
set_option maxRecDepth 20000 in
theorem gL_law_X9_cut : GoodIn wsL_law (wsV RL 36 RX9 yX9_cut wsX9_cut) := goodIn_app (goodIn_of _ (by decide +kernel)) ggL_law_X9_cut
set_option maxRecDepth 20000 in
theorem ggL_law_X10_cut : GoodIn wsL_law wsX10_cut := goodIn_r _ [274, 101, 255, 256, 257, 5, 258, 864, 865, 866, 867, 868, 869, 870, 871, 872, 873] (by decide +kernel) (by decide +kernel)
set_option maxRecDepth 20000 in
theorem gL_law_X10_cut : GoodIn wsL_law (wsV RL 40 RX10 yX10_cut wsX10_cut) := goodIn_app (goodIn_of _ (by decide +kernel)) ggL_law_X10_cut
set_option maxRecDepth 20000 in
theorem ggL_law_X9_depart : GoodIn wsL_law wsX9_depart := goodIn_r _ [278, 15, 242, 125, 126, 279, 280, 281, 282, 47, 283, 284, 263, 264, 265, 266, 81, 267, 268, 269, 270, 248, 129, 2, 130, 285, 286, 287, 288, 79, 289, 858, 859, 860, 861, 862, 863, 874, 875, 876, 877, 878, 879, 880, 881, 882, 883, 898, 899, 900, 901, 902, 903, 904, 905, 906, 907, 908, 909] (by decide +kernel) (by decide +kernel)
set_option maxRecDepth 20000 in
theorem gL_law_X9_depart : GoodIn wsL_law (wsV RL 41 RX9 yX9_depart wsX9_depart) := goodIn_app (goodIn_of _ (by decide +kernel)) ggL_law_X9_depart
set_option maxRecDepth 20000 in
theorem ggL_law_X10_depart : GoodIn wsL_law wsX10_depart := goodIn_r _ [293, 101, 294, 295, 296, 5, 297, 153, 154, 155, 156, 298, 299, 300, 301, 255, 256, 257, 258, 302, 303, 304, 305, 864, 865, 866, 867, 868, 869, 870, 871, 872, 873] (by decide +kernel) (by decide +kernel)
set_option maxRecDepth 20000 in
theorem gL_law_X10_depart : GoodIn wsL_law (wsV RL 44 RX10 yX10_depart wsX10_depart) := goodIn_app (goodIn_of _ (by decide +kernel)) ggL_law_X10_depart
set_option maxRecDepth 20000 in
theorem ggL_law_X9_pass : GoodIn wsL_law wsX9_pass := goodIn_r _ [309, 15, 310, 311, 242, 312, 313, 314, 315, 316, 128, 129, 2, 130, 317, 318, 319, 14, 320, 321, 322, 323, 324, 40, 44, 325, 36, 326, 48, 327, 328, 222, 223, 35, 224, 58, 329, 330, 331, 39, 332, 135, 64, 333, 334, 335, 66, 336, 337, 338, 339, 340, 341, 342, 343, 344, 345, 346, 347, 348, 349, 350, 351, 352, 353, 354, 355, 356, 357, 358, 47, 359, 81, 80, 267, 268, 269, 270, 248, 360, 361, 362, 43, 363, 364, 365, 366, 367, 368, 369, 370, 73, 371, 372, 373, 374, 375, 376, 377, 378, 379, 380, 381, 382, 383, 384, 385, 386, 387, 388, 74, 389, 390, 391, 392, 393, 394, 395, 396, 397, 398, 399, 400, 401, 402, 403, 404, 405, 284, 406, 281, 282, 283, 858, 859, 860, 861, 862, 863, 874, 875, 876, 877, 878, 879, 880, 881, 882, 883, 905, 906, 907, 908, 909, 898, 899, 900, 901, 902, 903, 904, 895, 896, 897, 910, 911, 912, 913] (by decide +kernel) (by decide +kernel)
set_option maxRecDepth 20000 in
theorem gL_law_X9_pass : GoodIn wsL_law (wsV RL 45 RX9 yX9_pass wsX9_pass) := goodIn_app (goodIn_of _ (by decide +kernel)) ggL_law_X9_pass
set_option maxRecDepth 20000 in
theorem ggL_law_X10_pass : GoodIn wsL_law wsX10_pass := goodIn_r _ [410, 115, 101, 237, 146, 147, 5, 148, 294, 295, 296, 297, 411, 412, 413, 414, 415, 416, 417, 418, 149, 150, 151, 152, 419, 420, 421, 422, 423, 110, 187, 188, 189, 190, 157, 158, 159, 160, 424, 425, 426, 427, 428, 429, 430, 431, 432, 433, 108, 153, 154, 155, 156, 434, 435, 436, 437, 438, 439, 440, 441, 442, 443, 444, 445, 446, 447, 448, 449, 450, 451, 452, 453, 454, 864, 865, 866, 867, 868, 869, 870, 871, 872, 873] (by decide +kernel) (by decide +kernel)
set_option maxRecDepth 20000 in
theorem gL_law_X10_pass : GoodIn wsL_law (wsV RL 48 RX10 yX10_pass wsX10_pass) := goodIn_app (goodIn_of _ (by decide +kernel)) ggL_law_X10_pass
set_option maxRecDepth 20000 in
theorem ggL_law_X9_vent : GoodIn wsL_law wsX9_vent := goodIn_r _ [458, 15, 125, 459, 128, 129, 2, 130, 460, 461, 462, 43, 463, 74, 390, 391, 392, 393, 394, 395, 396, 397, 371, 398, 399, 400, 401, 389, 858, 859, 860, 861, 862, 863, 874, 875, 876, 877, 878, 879, 880, 881, 882, 883, 898, 899, 900, 901, 902, 903, 904] (by decide +kernel) (by decide +kernel)
set_option maxRecDepth 20000 in
theorem gL_law_X9_vent : GoodIn wsL_law (wsV RL 49 RX9 yX9_vent wsX9_vent) := goodIn_app (goodIn_of _ (by decide +kernel)) ggL_law_X9_vent
set_option maxRecDepth 20000 in
theorem ggL_law_X10_vent : GoodIn wsL_law wsX10_vent := goodIn_r _ [467, 442, 101, 146, 147, 5, 148, 468, 469, 470, 471, 447, 448, 449, 450, 451, 452, 453, 454, 864, 865, 866, 867, 868, 869, 870, 871, 872, 873] (by decide +kernel) (by decide +kernel)
set_option maxRecDepth 20000 in
theorem gL_law_X10_vent : GoodIn wsL_law (wsV RL 52 RX10 yX10_vent wsX10_vent) := goodIn_app (goodIn_of _ (by decide +kernel)) ggL_law_X10_vent
set_option maxRecDepth 20000 in
theorem ggL_law_X9_open : GoodIn wsL_law wsX9_open := goodIn_r _ [475, 15, 242, 125, 126, 280, 281, 282, 47, 283, 284, 476, 477, 478, 14, 479, 36, 480, 481, 482, 483, 44, 484, 381, 382, 43, 383, 364, 384, 374, 222, 223, 35, 224, 58, 129, 2, 130, 346, 347, 328, 485, 395, 396, 397, 371, 486, 858, 859, 860, 861, 862, 863, 874, 875, 876, 877, 878, 879, 880, 881, 882, 883, 898, 899, 900, 901, 902, 903, 904, 905, 906, 907, 908, 909, 895] (by decide +kernel) (by decide +kernel)
set_option maxRecDepth 20000 in
theorem gL_law_X9_open : GoodIn wsL_law (wsV RL 53 RX9 yX9_open wsX9_open) := goodIn_app (goodIn_of _ (by decide +kernel)) ggL_law_X9_open
set_option maxRecDepth 20000 in
theorem ggL_law_X10_open : GoodIn wsL_law wsX10_open := goodIn_r _ [490, 101, 294, 295, 296, 5, 297, 153, 154, 155, 156, 443, 444, 445, 446, 442, 451, 452, 453, 454, 864, 865, 866, 867, 868, 869, 870, 871, 872, 873] (by decide +kernel) (by decide +kernel)
set_option maxRecDepth 20000 in
theorem gL_law_X10_open : GoodIn wsL_law (wsV RL 56 RX10 yX10_open wsX10_open) := goodIn_app (goodIn_of _ (by decide +kernel)) ggL_law_X10_open
set_option maxRecDepth 20000 in
theorem ggL_law_X9_shut : GoodIn wsL_law wsX9_shut := goodIn_r _ [494, 15, 125, 126, 486, 481, 482, 14, 483, 44, 36, 484, 381, 382, 43, 383, 364, 384, 374, 222, 223, 35, 224, 58, 129, 2, 130, 346, 347, 858, 859, 860, 861, 862, 863, 874, 875, 876, 877, 878, 879, 880, 881, 882, 883, 898, 899, 900, 901, 902, 903, 904, 895] (by decide +kernel) (by decide +kernel)
set_option maxRecDepth 20000 in
theorem gL_law_X9_shut : GoodIn wsL_law (wsV RL 57 RX9 yX9_shut wsX9_shut) := goodIn_app (goodIn_of _ (by decide +kernel)) ggL_law_X9_shut
set_option maxRecDepth 20000 in
theorem ggL_law_X10_shut : GoodIn wsL_law wsX10_shut := goodIn_r _ [498, 101, 153, 154, 155, 5, 156, 443, 444, 445, 446, 442, 864, 865, 866, 867, 868, 869, 870, 871, 872, 873] (by decide +kernel) (by decide +kernel)
set_option maxRecDepth 20000 in
theorem gL_law_X10_shut : GoodIn wsL_law (wsV RL 60 RX10 yX10_shut wsX10_shut) := goodIn_app (goodIn_of _ (by decide +kernel)) ggL_law_X10_shut
set_option maxRecDepth 20000 in
theorem ggL_law_X9_sell : GoodIn wsL_law wsX9_sell := goodIn_r _ [502, 503, 15, 125, 126, 123, 504, 128, 129, 2, 130, 505, 506, 507, 39, 508, 135, 64, 138, 509, 510, 511, 512, 513, 314, 315, 316, 348, 349, 350, 66, 351, 342, 352, 353, 354, 355, 858, 859, 860, 861, 862, 863, 874, 875, 876, 877, 878, 879, 880, 881, 882, 883, 898, 899, 900, 901, 902, 903, 904, 896, 897, 910, 911, 912, 913] (by decide +kernel) (by decide +kernel)
set_option maxRecDepth 20000 in
theorem gL_law_X9_sell : GoodIn wsL_law (wsV RL 61 RX9 yX9_sell wsX9_sell) := goodIn_app (goodIn_of _ (by decide +kernel)) ggL_law_X9_sell
set_option maxRecDepth 20000 in
theorem ggL_law_X10_sell : GoodIn wsL_law wsX10_sell := goodIn_r _ [517, 518, 101, 146, 147, 5, 148, 153, 154, 155, 156, 519, 520, 521, 522, 149, 150, 151, 152, 187, 188, 189, 190, 523, 524, 525, 526, 157, 158, 159, 160, 864, 865, 866, 867, 868, 869, 870, 871, 872, 873] (by decide +kernel) (by decide +kernel)
set_option maxRecDepth 20000 in
theorem gL_law_X10_sell : GoodIn wsL_law (wsV RL 64 RX10 yX10_sell wsX10_sell) := goodIn_app (goodIn_of _ (by decide +kernel)) ggL_law_X10_sell
set_option maxRecDepth 20000 in
theorem ggL_law_X9_spill : GoodIn wsL_law wsX9_spill := goodIn_r _ [530, 15, 123, 122, 165, 531, 167, 168, 169, 39, 170, 135, 64, 129, 2, 130, 128, 858, 859, 860, 861, 862, 863, 874, 875, 876, 877, 878, 879, 880, 881, 882, 883, 910, 911, 912, 913, 896, 897] (by decide +kernel) (by decide +kernel)
set_option maxRecDepth 20000 in
theorem gL_law_X9_spill : GoodIn wsL_law (wsV RL 65 RX9 yX9_spill wsX9_spill) := goodIn_app (goodIn_of _ (by decide +kernel)) ggL_law_X9_spill
set_option maxRecDepth 20000 in
theorem ggL_law_X10_spill : GoodIn wsL_law wsX10_spill := goodIn_r _ [535, 145, 101, 183, 184, 185, 5, 186, 149, 150, 151, 152, 146, 147, 148, 187, 188, 189, 190, 157, 158, 159, 160, 864, 865, 866, 867, 868, 869, 870, 871, 872, 873] (by decide +kernel) (by decide +kernel)
set_option maxRecDepth 20000 in
theorem gL_law_X10_spill : GoodIn wsL_law (wsV RL 68 RX10 yX10_spill wsX10_spill) := goodIn_app (goodIn_of _ (by decide +kernel)) ggL_law_X10_spill
set_option maxRecDepth 20000 in
theorem ggL_law_X9_weigh : GoodIn wsL_law wsX9_weigh := goodIn_r _ [539, 15, 123, 242, 540, 165, 167, 168, 169, 39, 170, 135, 64, 129, 2, 130, 280, 281, 282, 47, 283, 284, 858, 859, 860, 861, 862, 863, 874, 875, 876, 877, 878, 879, 880, 881, 882, 883, 910, 911, 912, 913, 896, 897, 905, 906, 907, 908, 909] (by decide +kernel) (by decide +kernel)
set_option maxRecDepth 20000 in
theorem gL_law_X9_weigh : GoodIn wsL_law (wsV RL 69 RX9 yX9_weigh wsX9_weigh) := goodIn_app (goodIn_of _ (by decide +kernel)) ggL_law_X9_weigh
set_option maxRecDepth 20000 in
theorem ggL_law_X10_weigh : GoodIn wsL_law wsX10_weigh := goodIn_r _ [544, 183, 184, 185, 5, 186, 149, 150, 151, 152, 101, 146, 147, 148, 294, 295, 296, 297, 187, 188, 189, 190, 864, 865, 866, 867, 868, 869, 870, 871, 872, 873] (by decide +kernel) (by decide +kernel)
set_option maxRecDepth 20000 in
theorem gL_law_X10_weigh : GoodIn wsL_law (wsV RL 72 RX10 yX10_weigh wsX10_weigh) := goodIn_app (goodIn_of _ (by decide +kernel)) ggL_law_X10_weigh
set_option maxRecDepth 20000 in
theorem ggL_law_X9_check : GoodIn wsL_law wsX9_check := goodIn_r _ [548, 15, 123, 549, 242, 550, 551, 165, 167, 168, 169, 39, 170, 135, 64, 129, 2, 130, 280, 281, 282, 47, 283, 284, 858, 859, 860, 861, 862, 863, 874, 875, 876, 877, 878, 879, 880, 881, 882, 883, 910, 911, 912, 913, 896, 897, 905, 906, 907, 908, 909] (by decide +kernel) (by decide +kernel)
set_option maxRecDepth 20000 in
theorem gL_law_X9_check : GoodIn wsL_law (wsV RL 73 RX9 yX9_check wsX9_check) := goodIn_app (goodIn_of _ (by decide +kernel)) ggL_law_X9_check
set_option maxRecDepth 20000 in
theorem ggL_law_X10_check : GoodIn wsL_law wsX10_check := goodIn_r _ [555, 556, 557, 183, 184, 185, 5, 186, 149, 150, 151, 152, 101, 146, 147, 148, 294, 295, 296, 297, 187, 188, 189, 190, 157, 158, 159, 160, 864, 865, 866, 867, 868, 869, 870, 871, 872, 873] (by decide +kernel) (by decide +kernel)
set_option maxRecDepth 20000 in
theorem gL_law_X10_check : GoodIn wsL_law (wsV RL 76 RX10 yX10_check wsX10_check) := goodIn_app (goodIn_of _ (by decide +kernel)) ggL_law_X10_check
set_option maxRecDepth 20000 in
theorem ggL_law_X9_box : GoodIn wsL_law wsX9_box := goodIn_r _ [561, 15, 123, 562, 540, 165, 551, 125, 563, 212, 167, 168, 169, 39, 170, 135, 64, 129, 2, 130, 564, 222, 223, 35, 224, 58, 565, 334, 335, 66, 336, 337, 338, 339, 340, 315, 341, 342, 343, 344, 345, 346, 347, 858, 859, 860, 861, 862, 863, 874, 875, 876, 877, 878, 879, 880, 881, 882, 883, 910, 911, 912, 913, 898, 899, 900, 901, 902, 903, 904, 896, 897, 895] (by decide +kernel) (by decide +kernel)
set_option maxRecDepth 20000 in
theorem gL_law_X9_box : GoodIn wsL_law (wsV RL 77 RX9 yX9_box wsX9_box) := goodIn_app (goodIn_of _ (by decide +kernel)) ggL_law_X9_box
set_option maxRecDepth 20000 in
theorem ggL_law_X10_box : GoodIn wsL_law wsX10_box := goodIn_r _ [569, 570, 183, 184, 185, 5, 186, 149, 150, 151, 152, 101, 146, 147, 148, 419, 420, 421, 422, 423, 110, 187, 188, 189, 190, 864, 865, 866, 867, 868, 869, 870, 871, 872, 873] (by decide +kernel) (by decide +kernel)
set_option maxRecDepth 20000 in
theorem gL_law_X10_box : GoodIn wsL_law (wsV RL 80 RX10 yX10_box wsX10_box) := goodIn_app (goodIn_of _ (by decide +kernel)) ggL_law_X10_box
set_option maxRecDepth 20000 in
theorem ggL_law_X9_van : GoodIn wsL_law wsX9_van := goodIn_r _ [574, 575, 15, 212, 310, 125, 563, 242, 576, 459, 577, 578, 126, 279, 579, 312, 580, 123, 124, 243, 25, 581, 128, 129, 2, 130, 564, 222, 223, 35, 224, 58, 582, 357, 358, 47, 359, 81, 80, 267, 268, 269, 270, 248, 486, 481, 482, 14, 483, 44, 36, 484, 381, 382, 43, 383, 364, 384, 374, 346, 347, 858, 859, 860, 861, 862, 863, 874, 875, 876, 877, 878, 879, 880, 881, 882, 883, 898, 899, 900, 901, 902, 903, 904, 905, 906, 907, 908, 909, 896, 897, 886, 887, 895] (by decide +kernel) (by decide +kernel)
set_option maxRecDepth 20000 in
theorem gL_law_X9_van : GoodIn wsL_law (wsV RL 81 RX9 yX9_van wsX9_van) := goodIn_app (goodIn_of _ (by decide +kernel)) ggL_law_X9_van
set_option maxRecDepth 20000 in
theorem ggL_law_X10_van : GoodIn wsL_law wsX10_van := goodIn_r _ [586, 587, 588, 101, 589, 590, 591, 146, 147, 5, 148, 430, 431, 432, 433, 108, 443, 444, 445, 446, 442, 592, 593, 594, 595, 294, 295, 296, 297, 149, 150, 151, 152, 255, 256, 257, 258, 864, 865, 866, 867, 868, 869, 870, 871, 872, 873] (by decide +kernel) (by decide +kernel)
set_option maxRecDepth 20000 in
theorem gL_law_X10_van : GoodIn wsL_law (wsV RL 84 RX10 yX10_van wsX10_van) := goodIn_app (goodIn_of _ (by decide +kernel)) ggL_law_X10_van
set_option maxRecDepth 20000 in
theorem ggL_law_X9_way : GoodIn wsL_law wsX9_way := goodIn_r _ [599, 15, 242, 549, 575, 600, 268, 269, 47, 270, 248, 129, 2, 130, 601, 602, 603, 604, 79, 267, 605, 606, 607, 608, 80, 858, 859, 860, 861, 862, 863, 874, 875, 876, 877, 878, 879, 880, 881, 882, 883, 905, 906, 907, 908, 909] (by decide +kernel) (by decide +kernel)
set_option maxRecDepth 20000 in
theorem gL_law_X9_way : GoodIn wsL_law (wsV RL 85 RX9 yX9_way wsX9_way) := goodIn_app (goodIn_of _ (by decide +kernel)) ggL_law_X9_way
set_option maxRecDepth 20000 in
theorem ggL_law_X10_way : GoodIn wsL_law wsX10_way := goodIn_r _ [612, 556, 101, 591, 255, 256, 257, 5, 258, 146, 147, 148, 864, 865, 866, 867, 868, 869, 870, 871, 872, 873] (by decide +kernel) (by decide +kernel)
set_option maxRecDepth 20000 in
theorem gL_law_X10_way : GoodIn wsL_law (wsV RL 88 RX10 yX10_way wsX10_way) := goodIn_app (goodIn_of _ (by decide +kernel)) ggL_law_X10_way
set_option maxRecDepth 20000 in
theorem ggL_law_X9_account : GoodIn wsL_law wsX9_account := goodIn_r _ [616, 15, 123, 127, 166, 617, 504, 531, 618, 505, 506, 507, 39, 508, 135, 64, 138, 858, 859, 860, 861, 862, 863, 874, 875, 876, 877, 878, 879, 880, 881, 882, 883, 896, 897, 910, 911, 912, 913] (by decide +kernel) (by decide +kernel)
set_option maxRecDepth 20000 in
theorem gL_law_X9_account : GoodIn wsL_law (wsV RL 89 RX9 yX9_account wsX9_account) := goodIn_app (goodIn_of _ (by decide +kernel)) ggL_law_X9_account
set_option maxRecDepth 20000 in
theorem ggL_law_X10_account : GoodIn wsL_law wsX10_account := goodIn_r _ [622, 112, 101, 623, 519, 520, 521, 5, 522, 149, 150, 151, 152, 187, 188, 189, 190, 146, 147, 148, 864, 865, 866, 867, 868, 869, 870, 871, 872, 873] (by decide +kernel) (by decide +kernel)
set_option maxRecDepth 20000 in
theorem gL_law_X10_account : GoodIn wsL_law (wsV RL 93 RX10 yX10_account wsX10_account) := goodIn_app (goodIn_of _ (by decide +kernel)) ggL_law_X10_account
set_option maxRecDepth 20000 in
theorem ggL_law_X9_atEnd : GoodIn wsL_law wsX9_atEnd := goodIn_r _ [627, 15, 123, 16, 125, 126, 165, 167, 168, 169, 39, 170, 135, 64, 129, 2, 130, 128, 628, 629, 630, 14, 631, 36, 40, 44, 48, 327, 632, 633, 326, 634, 635, 636, 637, 638, 35, 639, 58, 640, 641, 642, 643, 644, 645, 646, 647, 648, 649, 650, 66, 651, 338, 652, 342, 352, 653, 654, 655, 43, 656, 73, 364, 74, 371, 389, 365, 366, 657, 658, 659, 47, 660, 79, 661, 80, 248, 81, 284, 662, 663, 664, 665, 666, 667, 281, 282, 283, 668, 318, 319, 320, 321, 322, 323, 324, 325, 328, 222, 223, 224, 329, 330, 331, 332, 333, 334, 335, 336, 337, 339, 340, 315, 341, 343, 344, 345, 346, 347, 348, 349, 350, 351, 353, 354, 355, 356, 357, 358, 359, 267, 268, 269, 270, 360, 361, 362, 363, 367, 368, 369, 370, 372, 314, 316, 373, 374, 375, 376, 377, 378, 379, 380, 381, 382, 383, 384, 385, 386, 387, 388, 390, 391, 392, 393, 394, 395, 396, 397, 398, 399, 400, 401, 402, 403, 404, 405, 406, 669, 264, 265, 266, 670, 286, 287, 288, 289, 858, 859, 860, 861, 862, 863, 874, 875, 876, 877, 878, 879, 880, 881, 882, 883, 898, 899, 900, 901, 902, 903, 904, 910, 911, 912, 913, 896, 897, 895, 905, 906, 907, 908, 909] (by decide +kernel) (by decide +kernel)
set_option maxRecDepth 20000 in
theorem gL_law_X9_atEnd : GoodIn wsL_law (wsV RL 94 RX9 yX9_atEnd wsX9_atEnd) := goodIn_app (goodIn_of _ (by decide +kernel)) ggL_law_X9_atEnd
set_option maxRecDepth 20000 in
theorem ggL_law_X10_atEnd : GoodIn wsL_law wsX10_atEnd := goodIn_r _ [674, 110, 101, 183, 184, 185, 5, 186, 149, 150, 151, 152, 146, 147, 148, 675, 676, 677, 678, 102, 294, 295, 296, 297, 679, 680, 681, 682, 411, 412, 413, 414, 415, 416, 417, 418, 419, 420, 421, 422, 423, 187, 188, 189, 190, 157, 158, 159, 160, 424, 425, 426, 427, 428, 429, 430, 431, 432, 433, 108, 153, 154, 155, 156, 434, 435, 436, 437, 115, 438, 439, 440, 441, 442, 443, 444, 445, 446, 447, 448, 449, 450, 451, 452, 453, 454, 298, 299, 300, 301, 255, 256, 257, 258, 683, 684, 685, 686, 302, 303, 304, 305, 687, 688, 689, 690, 864, 865, 866, 867, 868, 869, 870, 871, 872, 873] (by decide +kernel) (by decide +kernel)
set_option maxRecDepth 20000 in
theorem gL_law_X10_atEnd : GoodIn wsL_law (wsV RL 97 RX10 yX10_atEnd wsX10_atEnd) := goodIn_app (goodIn_of _ (by decide +kernel)) ggL_law_X10_atEnd
set_option maxRecDepth 20000 in
theorem ggL_law_X9_worst : GoodIn wsL_law wsX9_worst := goodIn_r _ [694, 16, 15, 695, 340, 315, 341, 128, 129, 2, 130, 628, 629, 630, 14, 631, 36, 40, 44, 48, 327, 632, 633, 326, 634, 635, 636, 637, 638, 35, 639, 58, 640, 641, 642, 643, 644, 645, 646, 39, 647, 135, 64, 648, 649, 650, 66, 651, 338, 652, 342, 352, 653, 654, 655, 43, 656, 73, 364, 74, 371, 389, 365, 366, 657, 658, 659, 47, 660, 79, 661, 80, 248, 81, 284, 696, 322, 323, 324, 325, 328, 222, 223, 224, 329, 330, 331, 332, 333, 334, 335, 336, 337, 339, 343, 344, 345, 346, 347, 348, 349, 350, 351, 353, 354, 355, 356, 357, 358, 359, 267, 268, 269, 270, 360, 361, 362, 363, 367, 368, 369, 370, 372, 314, 316, 373, 374, 375, 376, 377, 378, 379, 380, 381, 382, 383, 384, 385, 386, 387, 388, 390, 391, 392, 393, 394, 395, 396, 397, 398, 399, 400, 401, 402, 403, 404, 405, 406, 281, 282, 283, 486, 481, 482, 483, 484, 858, 859, 860, 861, 862, 863, 874, 875, 876, 877, 878, 879, 880, 881, 882, 883, 895, 896, 897, 910, 911, 912, 913, 898, 899, 900, 901, 902, 903, 904, 905, 906, 907, 908, 909] (by decide +kernel) (by decide +kernel)
set_option maxRecDepth 20000 in
theorem gL_law_X9_worst : GoodIn wsL_law (wsV RL 98 RX9 yX9_worst wsX9_worst) := goodIn_app (goodIn_of _ (by decide +kernel)) ggL_law_X9_worst
set_option maxRecDepth 20000 in
theorem ggL_law_X10_worst : GoodIn wsL_law wsX10_worst := goodIn_r _ [700, 115, 146, 147, 5, 148, 675, 676, 677, 678, 102, 101, 411, 412, 413, 414, 415, 416, 417, 418, 149, 150, 151, 152, 419, 420, 421, 422, 423, 110, 187, 188, 189, 190, 157, 158, 159, 160, 424, 425, 426, 427, 428, 429, 430, 431, 432, 433, 108, 153, 154, 155, 156, 434, 435, 436, 437, 438, 439, 440, 441, 442, 443, 444, 445, 446, 447, 448, 449, 450, 451, 452, 453, 454, 294, 295, 296, 297, 687, 688, 689, 690, 864, 865, 866, 867, 868, 869, 870, 871, 872, 873] (by decide +kernel) (by decide +kernel)
set_option maxRecDepth 20000 in
theorem gL_law_X10_worst : GoodIn wsL_law (wsV RL 101 RX10 yX10_worst wsX10_worst) := goodIn_app (goodIn_of _ (by decide +kernel)) ggL_law_X10_worst
set_option maxRecDepth 20000 in
theorem ggL_law_X9_purge : GoodIn wsL_law wsX9_purge := goodIn_r _ [704, 16, 15, 125, 126, 128, 129, 2, 130, 628, 629, 630, 14, 631, 36, 40, 44, 48, 327, 632, 633, 326, 634, 635, 636, 637, 638, 35, 639, 58, 640, 641, 642, 643, 644, 645, 646, 39, 647, 135, 64, 648, 649, 650, 66, 651, 338, 652, 342, 352, 653, 654, 655, 43, 656, 73, 364, 74, 371, 389, 365, 366, 657, 658, 659, 47, 660, 79, 661, 80, 248, 81, 284, 460, 461, 462, 463, 390, 391, 392, 393, 394, 395, 396, 397, 398, 399, 400, 401, 476, 477, 478, 479, 480, 481, 482, 483, 484, 381, 382, 383, 384, 374, 222, 223, 224, 346, 347, 328, 696, 322, 323, 324, 325, 329, 330, 331, 332, 333, 334, 335, 336, 337, 339, 340, 315, 341, 343, 344, 345, 348, 349, 350, 351, 353, 354, 355, 356, 357, 358, 359, 267, 268, 269, 270, 360, 361, 362, 363, 367, 368, 369, 370, 372, 314, 316, 373, 375, 376, 377, 378, 379, 380, 385, 386, 387, 388, 402, 403, 404, 405, 406, 281, 282, 283, 858, 859, 860, 861, 862, 863, 874, 875, 876, 877, 878, 879, 880, 881, 882, 883, 898, 899, 900, 901, 902, 903, 904, 895, 896, 897, 910, 911, 912, 913, 905, 906, 907, 908, 909] (by decide +kernel) (by decide +kernel)
set_option maxRecDepth 20000 in
theorem gL_law_X9_purge : GoodIn wsL_law (wsV RL 102 RX9 yX9_purge wsX9_purge) := goodIn_app (goodIn_of _ (by decide +kernel)) ggL_law_X9_purge
set_option maxRecDepth 20000 in
theorem ggL_law_X10_purge : GoodIn wsL_law wsX10_purge := goodIn_r _ [708, 115, 101, 146, 147, 5, 148, 675, 676, 677, 678, 102, 468, 469, 470, 471, 447, 448, 449, 450, 451, 452, 453, 454, 443, 444, 445, 446, 442, 411, 412, 413, 414, 415, 416, 417, 418, 149, 150, 151, 152, 419, 420, 421, 422, 423, 110, 187, 188, 189, 190, 157, 158, 159, 160, 424, 425, 426, 427, 428, 429, 430, 431, 432, 433, 108, 153, 154, 155, 156, 434, 435, 436, 437, 438, 439, 440, 441, 294, 295, 296, 297, 687, 688, 689, 690, 864, 865, 866, 867, 868, 869, 870, 871, 872, 873] (by decide +kernel) (by decide +kernel)
set_option maxRecDepth 20000 in
theorem gL_law_X10_purge : GoodIn wsL_law (wsV RL 105 RX10 yX10_purge wsX10_purge) := goodIn_app (goodIn_of _ (by decide +kernel)) ggL_law_X10_purge
set_option maxRecDepth 20000 in
theorem ggL_law_X9_front : GoodIn wsL_law wsX9_front := goodIn_r _ [712, 503, 15, 123, 124, 128, 129, 2, 130, 505, 506, 507, 39, 508, 135, 64, 138, 713, 714, 715, 716, 16, 628, 629, 630, 14, 631, 36, 40, 44, 48, 327, 632, 633, 326, 634, 635, 636, 637, 638, 35, 639, 58, 640, 641, 642, 643, 644, 645, 646, 647, 648, 649, 650, 66, 651, 338, 652, 342, 352, 653, 654, 655, 43, 656, 73, 364, 74, 371, 389, 365, 366, 657, 658, 659, 47, 660, 79, 661, 80, 248, 81, 284, 195, 176, 177, 178, 509, 510, 511, 512, 513, 314, 315, 316, 348, 349, 350, 351, 353, 354, 355, 317, 318, 319, 320, 321, 322, 323, 324, 325, 328, 222, 223, 224, 329, 330, 331, 332, 333, 334, 335, 336, 337, 339, 340, 341, 343, 344, 345, 346, 347, 356, 357, 358, 359, 267, 268, 269, 270, 360, 361, 362, 363, 367, 368, 369, 370, 372, 373, 374, 375, 376, 377, 378, 379, 380, 381, 382, 383, 384, 385, 386, 387, 388, 390, 391, 392, 393, 394, 395, 396, 397, 398, 399, 400, 401, 402, 403, 404, 405, 406, 281, 282, 283, 858, 859, 860, 861, 862, 863, 874, 875, 876, 877, 878, 879, 880, 881, 882, 883, 896, 897, 910, 911, 912, 913, 895, 898, 899, 900, 901, 902, 903, 904, 905, 906, 907, 908, 909] (by decide +kernel) (by decide +kernel)
set_option maxRecDepth 20000 in
theorem gL_law_X9_front : GoodIn wsL_law (wsV RL 106 RX9 yX9_front wsX9_front) := goodIn_app (goodIn_of _ (by decide +kernel)) ggL_law_X9_front
set_option maxRecDepth 20000 in
theorem ggL_law_X10_front : GoodIn wsL_law wsX10_front := goodIn_r _ [720, 518, 110, 109, 146, 147, 5, 148, 519, 520, 521, 522, 149, 150, 151, 152, 101, 187, 188, 189, 190, 675, 676, 677, 678, 102, 200, 201, 202, 203, 204, 205, 206, 207, 157, 158, 159, 160, 523, 524, 525, 526, 683, 684, 685, 686, 411, 412, 413, 414, 415, 416, 417, 418, 419, 420, 421, 422, 423, 424, 425, 426, 427, 428, 429, 430, 431, 432, 433, 108, 153, 154, 155, 156, 434, 435, 436, 437, 115, 438, 439, 440, 441, 442, 443, 444, 445, 446, 447, 448, 449, 450, 451, 452, 453, 454, 294, 295, 296, 297, 687, 688, 689, 690, 864, 865, 866, 867, 868, 869, 870, 871, 872, 873] (by decide +kernel) (by decide +kernel)
set_option maxRecDepth 20000 in
theorem gL_law_X10_front : GoodIn wsL_law (wsV RL 109 RX10 yX10_front wsX10_front) := goodIn_app (goodIn_of _ (by decide +kernel)) ggL_law_X10_front
set_option maxRecDepth 20000 in
theorem ggL_law_X9_say : GoodIn wsL_law wsX9_say := goodIn_r _ [724, 25, 581, 128, 129, 2, 130, 725, 726, 727, 24, 728, 729, 90, 858, 859, 860, 861, 862, 863, 886, 887] (by decide +kernel) (by decide +kernel)
set_option maxRecDepth 20000 in
theorem gL_law_X9_say : GoodIn wsL_law (wsV RL 110 RX9 yX9_say wsX9_say) := goodIn_app (goodIn_of _ (by decide +kernel)) ggL_law_X9_say
set_option maxRecDepth 20000 in
theorem ggL_law_X10_say : GoodIn wsL_law wsX10_say := goodIn_r _ [733, 734, 735, 590, 106, 146, 147, 5, 148, 864, 865, 866, 867, 868, 869, 870, 871, 872, 873] (by decide +kernel) (by decide +kernel)
set_option maxRecDepth 20000 in
theorem gL_law_X10_say : GoodIn wsL_law (wsV RL 113 RX10 yX10_say wsX10_say) := goodIn_app (goodIn_of _ (by decide +kernel)) ggL_law_X10_say
set_option maxRecDepth 20000 in
theorem ggL_law_X9_wipe : GoodIn wsL_law wsX9_wipe := goodIn_r _ [739, 25, 581, 858, 859, 860, 861, 862, 863, 886, 887] (by decide +kernel) (by decide +kernel)
set_option maxRecDepth 20000 in
theorem gL_law_X9_wipe : GoodIn wsL_law (wsV RL 114 RX9 yX9_wipe wsX9_wipe) := goodIn_app (goodIn_of _ (by decide +kernel)) ggL_law_X9_wipe
set_option maxRecDepth 20000 in
theorem ggL_law_X10_wipe : GoodIn wsL_law wsX10_wipe := goodIn_r _ [743, 590, 864, 865, 866, 867, 868, 869, 870, 871, 872, 873] (by decide +kernel) (by decide +kernel)
set_option maxRecDepth 20000 in
theorem gL_law_X10_wipe : GoodIn wsL_law (wsV RL 117 RX10 yX10_wipe wsX10_wipe) := goodIn_app (goodIn_of _ (by decide +kernel)) ggL_law_X10_wipe
set_option maxRecDepth 20000 in
theorem ggL_law_X9_fault : GoodIn wsL_law wsX9_fault := goodIn_r _ [747, 29, 25, 748, 749, 750, 28, 751, 752, 753, 754, 755, 756, 757, 24, 758, 729, 90, 129, 2, 130, 759, 760, 761, 762, 763, 764, 765, 766, 767, 768, 769, 770, 771, 772, 773, 774, 775, 776, 777, 778, 779, 780, 781, 782, 783, 784, 785, 786, 787, 788, 789, 790, 791, 792, 94, 95, 858, 859, 860, 861, 862, 863, 888, 889, 890, 891, 892, 893, 894, 886, 887] (by decide +kernel) (by decide +kernel)
set_option maxRecDepth 20000 in
theorem gL_law_X9_fault : GoodIn wsL_law (wsV RL 118 RX9 yX9_fault wsX9_fault) := goodIn_app (goodIn_of _ (by decide +kernel)) ggL_law_X9_fault
set_option maxRecDepth 20000 in
theorem ggL_law_X10_fault : GoodIn wsL_law wsX10_fault := goodIn_r _ [796, 797, 798, 799, 590, 800, 801, 802, 5, 803, 107, 804, 805, 806, 807, 808, 809, 810, 811, 812, 813, 106, 146, 147, 148, 814, 815, 816, 817, 864, 865, 866, 867, 868, 869, 870, 871, 872, 873] (by decide +kernel) (by decide +kernel)
set_option maxRecDepth 20000 in
theorem gL_law_X10_fault : GoodIn wsL_law (wsV RL 121 RX10 yX10_fault wsX10_fault) := goodIn_app (goodIn_of _ (by decide +kernel)) ggL_law_X10_fault
set_option maxRecDepth 20000 in
theorem ggL_law_X9_read : GoodIn wsL_law wsX9_read := goodIn_r _ [821, 29, 25, 15, 242, 243, 822, 581, 748, 749, 750, 28, 751, 752, 753, 754, 755, 756, 757, 24, 758, 729, 90, 129, 2, 130, 759, 760, 761, 762, 763, 764, 765, 766, 767, 768, 769, 770, 771, 772, 773, 774, 775, 776, 777, 778, 779, 780, 781, 782, 783, 784, 785, 786, 787, 788, 789, 790, 791, 792, 94, 95, 823, 824, 825, 826, 827, 828, 829, 830, 244, 245, 246, 47, 247, 248, 79, 80, 858, 859, 860, 861, 862, 863, 874, 875, 876, 877, 878, 879, 880, 881, 882, 883, 905, 906, 907, 908, 909, 888, 889, 890, 891, 892, 893, 894, 886, 887] (by decide +kernel) (by decide +kernel)
set_option maxRecDepth 20000 in
theorem gL_law_X9_read : GoodIn wsL_law (wsV RL 122 RX9 yX9_read wsX9_read) := goodIn_app (goodIn_of _ (by decide +kernel)) ggL_law_X9_read
set_option maxRecDepth 20000 in
theorem ggL_law_X10_read : GoodIn wsL_law wsX10_read := goodIn_r _ [834, 799, 101, 107, 590, 835, 794, 795, 5, 796, 797, 798, 800, 801, 802, 803, 804, 805, 806, 807, 808, 809, 810, 811, 812, 813, 106, 146, 147, 148, 814, 815, 816, 817, 255, 256, 257, 258, 864, 865, 866, 867, 868, 869, 870, 871, 872, 873] (by decide +kernel) (by decide +kernel)
set_option maxRecDepth 20000 in
theorem gL_law_X10_read : GoodIn wsL_law (wsV RL 125 RX10 yX10_read wsX10_read) := goodIn_app (goodIn_of _ (by decide +kernel)) ggL_law_X10_read
set_option maxRecDepth 20000 in
theorem ggL_law_X9_save : GoodIn wsL_law wsX9_save := goodIn_r _ [839, 840, 15, 841, 310, 128, 129, 2, 130, 842, 843, 844, 845, 20, 21, 628, 629, 630, 14, 631, 36, 40, 44, 48, 327, 632, 633, 326, 634, 635, 636, 637, 638, 35, 639, 58, 640, 641, 642, 643, 644, 645, 646, 39, 647, 135, 64, 648, 649, 650, 66, 651, 338, 652, 342, 352, 653, 654, 655, 43, 656, 73, 364, 74, 371, 389, 365, 366, 657, 658, 659, 47, 660, 79, 661, 80, 248, 81, 284, 884, 885, 858, 859, 860, 861, 862, 863, 874, 875, 876, 877, 878, 879, 880, 881, 882, 883, 895, 896, 897, 910, 911, 912, 913, 898, 899, 900, 901, 902, 903, 904, 905, 906, 907, 908, 909] (by decide +kernel) (by decide +kernel)
set_option maxRecDepth 20000 in
theorem gL_law_X9_save : GoodIn wsL_law (wsV RL 126 RX9 yX9_save wsX9_save) := goodIn_app (goodIn_of _ (by decide +kernel)) ggL_law_X9_save
set_option maxRecDepth 20000 in
theorem ggL_law_X10_save : GoodIn wsL_law wsX10_save := goodIn_r _ [849, 103, 101, 105, 146, 147, 5, 148, 864, 865, 866, 867, 868, 869, 870, 871, 872, 873] (by decide +kernel) (by decide +kernel)
set_option maxRecDepth 20000 in
theorem gL_law_X10_save : GoodIn wsL_law (wsV RL 129 RX10 yX10_save wsX10_save) := goodIn_app (goodIn_of _ (by decide +kernel)) ggL_law_X10_save
set_option maxRecDepth 20000 in
theorem ggL_law_X9_restore : GoodIn wsL_law wsX9_restore := goodIn_r _ [853, 841, 15, 840, 310, 128, 129, 2, 130, 842, 843, 844, 845, 20, 21, 628, 629, 630, 14, 631, 36, 40, 44, 48, 327, 632, 633, 326, 634, 635, 636, 637, 638, 35, 639, 58, 640, 641, 642, 643, 644, 645, 646, 39, 647, 135, 64, 648, 649, 650, 66, 651, 338, 652, 342, 352, 653, 654, 655, 43, 656, 73, 364, 74, 371, 389, 365, 366, 657, 658, 659, 47, 660, 79, 661, 80, 248, 81, 284, 884, 885, 858, 859, 860, 861, 862, 863, 874, 875, 876, 877, 878, 879, 880, 881, 882, 883, 895, 896, 897, 910, 911, 912, 913, 898, 899, 900, 901, 902, 903, 904, 905, 906, 907, 908, 909] (by decide +kernel) (by decide +kernel)
set_option maxRecDepth 20000 in
theorem gL_law_X9_restore : GoodIn wsL_law (wsV RL 130 RX9 yX9_restore wsX9_restore) := goodIn_app (goodIn_of _ (by decide +kernel)) ggL_law_X9_restore
set_option maxRecDepth 20000 in
theorem ggL_law_X10_restore : GoodIn wsL_law wsX10_restore := goodIn_r _ [857, 105, 101, 103, 146, 147, 5, 148, 864, 865, 866, 867, 868, 869, 870, 871, 872, 873] (by decide +kernel) (by decide +kernel)
set_option maxRecDepth 20000 in
theorem gL_law_X10_restore : GoodIn wsL_law (wsV RL 133 RX10 yX10_restore wsX10_restore) := goodIn_app (goodIn_of _ (by decide +kernel)) ggL_law_X10_restore
theorem dL_law_0 : decode cL_law 0 = .ok (.new 7, 3) := by decide +kernel
theorem dL_law_3 : decode cL_law 3 = .ok (.dup, 1) := by decide +kernel
theorem dL_law_4 : decode cL_law 4 = .ok (.invokespecial 9, 3) := by decide +kernel
theorem dL_law_7 : decode cL_law 7 = .ok (.astore_n 1, 1) := by decide +kernel
theorem dL_law_8 : decode cL_law 8 = .ok (.new 10, 3) := by decide +kernel
theorem dL_law_11 : decode cL_law 11 = .ok (.dup, 1) := by decide +kernel
theorem dL_law_12 : decode cL_law 12 = .ok (.invokespecial 12, 3) := by decide +kernel
theorem dL_law_15 : decode cL_law 15 = .ok (.astore_n 2, 1) := by decide +kernel
theorem dL_law_16 : decode cL_law 16 = .ok (.iconst 0, 1) := by decide +kernel
theorem dL_law_17 : decode cL_law 17 = .ok (.istore_n 3, 1) := by decide +kernel
theorem dL_law_18 : decode cL_law 18 = .ok (.iload_n 3, 1) := by decide +kernel
theorem dL_law_19 : decode cL_law 19 = .ok (.aload_n 0, 1) := by decide +kernel
theorem dL_law_20 : decode cL_law 20 = .ok (.arraylength, 1) := by decide +kernel
theorem dL_law_21 : decode cL_law 21 = .ok (.iconst 4, 1) := by decide +kernel
theorem dL_law_22 : decode cL_law 22 = .ok (.isub, 1) := by decide +kernel
theorem dL_law_23 : decode cL_law 23 = .ok (.if_icmp .gt 845, 3) := by decide +kernel
theorem dL_law_26 : decode cL_law 26 = .ok (.aload_n 0, 1) := by decide +kernel
theorem dL_law_27 : decode cL_law 27 = .ok (.iload_n 3, 1) := by decide +kernel
theorem dL_law_28 : decode cL_law 28 = .ok (.iaload, 1) := by decide +kernel
theorem dL_law_29 : decode cL_law 29 = .ok (.bipush 31, 2) := by decide +kernel
theorem dL_law_31 : decode cL_law 31 = .ok (.iand, 1) := by decide +kernel
theorem dL_law_32 : decode cL_law 32 = .ok (.tableswitch 830 0 28 #[132, 175, 198, 231, 264, 297, 310, 323, 346, 369, 382, 395, 418, 451, 474, 497, 530, 553, 586, 610, 643, 666, 689, 722, 745, 758, 771, 784, 807], 132) := by decide +kernel
theorem dL_law_164 : decode cL_law 164 = .ok (.aload_n 1, 1) := by decide +kernel
theorem dL_law_165 : decode cL_law 165 = .ok (.aload_n 0, 1) := by decide +kernel
theorem dL_law_166 : decode cL_law 166 = .ok (.iload_n 3, 1) := by decide +kernel
theorem dL_law_167 : decode cL_law 167 = .ok (.iconst 1, 1) := by decide +kernel
theorem dL_law_168 : decode cL_law 168 = .ok (.iadd, 1) := by decide +kernel
theorem dL_law_169 : decode cL_law 169 = .ok (.iaload, 1) := by decide +kernel
theorem dL_law_170 : decode cL_law 170 = .ok (.aload_n 0, 1) := by decide +kernel
theorem dL_law_171 : decode cL_law 171 = .ok (.iload_n 3, 1) := by decide +kernel
theorem dL_law_172 : decode cL_law 172 = .ok (.iconst 2, 1) := by decide +kernel
theorem dL_law_173 : decode cL_law 173 = .ok (.iadd, 1) := by decide +kernel
theorem dL_law_174 : decode cL_law 174 = .ok (.iaload, 1) := by decide +kernel
theorem dL_law_175 : decode cL_law 175 = .ok (.aload_n 0, 1) := by decide +kernel
theorem dL_law_176 : decode cL_law 176 = .ok (.iload_n 3, 1) := by decide +kernel
theorem dL_law_177 : decode cL_law 177 = .ok (.iconst 3, 1) := by decide +kernel
theorem dL_law_178 : decode cL_law 178 = .ok (.iadd, 1) := by decide +kernel
theorem dL_law_179 : decode cL_law 179 = .ok (.iaload, 1) := by decide +kernel
theorem dL_law_180 : decode cL_law 180 = .ok (.invokevirtual 13, 3) := by decide +kernel
theorem dL_law_183 : decode cL_law 183 = .ok (.aload_n 2, 1) := by decide +kernel
theorem dL_law_184 : decode cL_law 184 = .ok (.aload_n 0, 1) := by decide +kernel
theorem dL_law_185 : decode cL_law 185 = .ok (.iload_n 3, 1) := by decide +kernel
theorem dL_law_186 : decode cL_law 186 = .ok (.iconst 1, 1) := by decide +kernel
theorem dL_law_187 : decode cL_law 187 = .ok (.iadd, 1) := by decide +kernel
theorem dL_law_188 : decode cL_law 188 = .ok (.iaload, 1) := by decide +kernel
theorem dL_law_189 : decode cL_law 189 = .ok (.aload_n 0, 1) := by decide +kernel
theorem dL_law_190 : decode cL_law 190 = .ok (.iload_n 3, 1) := by decide +kernel
theorem dL_law_191 : decode cL_law 191 = .ok (.iconst 2, 1) := by decide +kernel
theorem dL_law_192 : decode cL_law 192 = .ok (.iadd, 1) := by decide +kernel
theorem dL_law_193 : decode cL_law 193 = .ok (.iaload, 1) := by decide +kernel
theorem dL_law_194 : decode cL_law 194 = .ok (.aload_n 0, 1) := by decide +kernel
theorem dL_law_195 : decode cL_law 195 = .ok (.iload_n 3, 1) := by decide +kernel
theorem dL_law_196 : decode cL_law 196 = .ok (.iconst 3, 1) := by decide +kernel
theorem dL_law_197 : decode cL_law 197 = .ok (.iadd, 1) := by decide +kernel
theorem dL_law_198 : decode cL_law 198 = .ok (.iaload, 1) := by decide +kernel
theorem dL_law_199 : decode cL_law 199 = .ok (.invokevirtual 17, 3) := by decide +kernel
theorem dL_law_202 : decode cL_law 202 = .ok (.if_icmp .eq 660, 3) := by decide +kernel
theorem dL_law_205 : decode cL_law 205 = .ok (.iconst 0, 1) := by decide +kernel
theorem dL_law_206 : decode cL_law 206 = .ok (.ireturn, 1) := by decide +kernel
theorem dL_law_207 : decode cL_law 207 = .ok (.aload_n 1, 1) := by decide +kernel
theorem dL_law_208 : decode cL_law 208 = .ok (.aload_n 0, 1) := by decide +kernel
theorem dL_law_209 : decode cL_law 209 = .ok (.iload_n 3, 1) := by decide +kernel
theorem dL_law_210 : decode cL_law 210 = .ok (.iconst 1, 1) := by decide +kernel
theorem dL_law_211 : decode cL_law 211 = .ok (.iadd, 1) := by decide +kernel
theorem dL_law_212 : decode cL_law 212 = .ok (.iaload, 1) := by decide +kernel
theorem dL_law_213 : decode cL_law 213 = .ok (.invokevirtual 18, 3) := by decide +kernel
theorem dL_law_216 : decode cL_law 216 = .ok (.aload_n 2, 1) := by decide +kernel
theorem dL_law_217 : decode cL_law 217 = .ok (.aload_n 0, 1) := by decide +kernel
theorem dL_law_218 : decode cL_law 218 = .ok (.iload_n 3, 1) := by decide +kernel
theorem dL_law_219 : decode cL_law 219 = .ok (.iconst 1, 1) := by decide +kernel
theorem dL_law_220 : decode cL_law 220 = .ok (.iadd, 1) := by decide +kernel
theorem dL_law_221 : decode cL_law 221 = .ok (.iaload, 1) := by decide +kernel
theorem dL_law_222 : decode cL_law 222 = .ok (.invokevirtual 22, 3) := by decide +kernel
theorem dL_law_225 : decode cL_law 225 = .ok (.if_icmp .eq 637, 3) := by decide +kernel
theorem dL_law_228 : decode cL_law 228 = .ok (.iconst 0, 1) := by decide +kernel
theorem dL_law_229 : decode cL_law 229 = .ok (.ireturn, 1) := by decide +kernel
theorem dL_law_230 : decode cL_law 230 = .ok (.aload_n 1, 1) := by decide +kernel
theorem dL_law_231 : decode cL_law 231 = .ok (.aload_n 0, 1) := by decide +kernel
theorem dL_law_232 : decode cL_law 232 = .ok (.iload_n 3, 1) := by decide +kernel
theorem dL_law_233 : decode cL_law 233 = .ok (.iconst 1, 1) := by decide +kernel
theorem dL_law_234 : decode cL_law 234 = .ok (.iadd, 1) := by decide +kernel
theorem dL_law_235 : decode cL_law 235 = .ok (.iaload, 1) := by decide +kernel
theorem dL_law_236 : decode cL_law 236 = .ok (.aload_n 0, 1) := by decide +kernel
theorem dL_law_237 : decode cL_law 237 = .ok (.iload_n 3, 1) := by decide +kernel
theorem dL_law_238 : decode cL_law 238 = .ok (.iconst 2, 1) := by decide +kernel
theorem dL_law_239 : decode cL_law 239 = .ok (.iadd, 1) := by decide +kernel
theorem dL_law_240 : decode cL_law 240 = .ok (.iaload, 1) := by decide +kernel
theorem dL_law_241 : decode cL_law 241 = .ok (.invokevirtual 23, 3) := by decide +kernel
theorem dL_law_244 : decode cL_law 244 = .ok (.aload_n 2, 1) := by decide +kernel
theorem dL_law_245 : decode cL_law 245 = .ok (.aload_n 0, 1) := by decide +kernel
theorem dL_law_246 : decode cL_law 246 = .ok (.iload_n 3, 1) := by decide +kernel
theorem dL_law_247 : decode cL_law 247 = .ok (.iconst 1, 1) := by decide +kernel
theorem dL_law_248 : decode cL_law 248 = .ok (.iadd, 1) := by decide +kernel
theorem dL_law_249 : decode cL_law 249 = .ok (.iaload, 1) := by decide +kernel
theorem dL_law_250 : decode cL_law 250 = .ok (.aload_n 0, 1) := by decide +kernel
theorem dL_law_251 : decode cL_law 251 = .ok (.iload_n 3, 1) := by decide +kernel
theorem dL_law_252 : decode cL_law 252 = .ok (.iconst 2, 1) := by decide +kernel
theorem dL_law_253 : decode cL_law 253 = .ok (.iadd, 1) := by decide +kernel
theorem dL_law_254 : decode cL_law 254 = .ok (.iaload, 1) := by decide +kernel
theorem dL_law_255 : decode cL_law 255 = .ok (.invokevirtual 27, 3) := by decide +kernel
theorem dL_law_258 : decode cL_law 258 = .ok (.if_icmp .eq 604, 3) := by decide +kernel
theorem dL_law_261 : decode cL_law 261 = .ok (.iconst 0, 1) := by decide +kernel
theorem dL_law_262 : decode cL_law 262 = .ok (.ireturn, 1) := by decide +kernel
theorem dL_law_263 : decode cL_law 263 = .ok (.aload_n 1, 1) := by decide +kernel
theorem dL_law_264 : decode cL_law 264 = .ok (.aload_n 0, 1) := by decide +kernel
theorem dL_law_265 : decode cL_law 265 = .ok (.iload_n 3, 1) := by decide +kernel
theorem dL_law_266 : decode cL_law 266 = .ok (.iconst 1, 1) := by decide +kernel
theorem dL_law_267 : decode cL_law 267 = .ok (.iadd, 1) := by decide +kernel
theorem dL_law_268 : decode cL_law 268 = .ok (.iaload, 1) := by decide +kernel
theorem dL_law_269 : decode cL_law 269 = .ok (.aload_n 0, 1) := by decide +kernel
theorem dL_law_270 : decode cL_law 270 = .ok (.iload_n 3, 1) := by decide +kernel
theorem dL_law_271 : decode cL_law 271 = .ok (.iconst 2, 1) := by decide +kernel
theorem dL_law_272 : decode cL_law 272 = .ok (.iadd, 1) := by decide +kernel
theorem dL_law_273 : decode cL_law 273 = .ok (.iaload, 1) := by decide +kernel
theorem dL_law_274 : decode cL_law 274 = .ok (.invokevirtual 28, 3) := by decide +kernel
theorem dL_law_277 : decode cL_law 277 = .ok (.aload_n 2, 1) := by decide +kernel
theorem dL_law_278 : decode cL_law 278 = .ok (.aload_n 0, 1) := by decide +kernel
theorem dL_law_279 : decode cL_law 279 = .ok (.iload_n 3, 1) := by decide +kernel
theorem dL_law_280 : decode cL_law 280 = .ok (.iconst 1, 1) := by decide +kernel
theorem dL_law_281 : decode cL_law 281 = .ok (.iadd, 1) := by decide +kernel
theorem dL_law_282 : decode cL_law 282 = .ok (.iaload, 1) := by decide +kernel
theorem dL_law_283 : decode cL_law 283 = .ok (.aload_n 0, 1) := by decide +kernel
theorem dL_law_284 : decode cL_law 284 = .ok (.iload_n 3, 1) := by decide +kernel
theorem dL_law_285 : decode cL_law 285 = .ok (.iconst 2, 1) := by decide +kernel
theorem dL_law_286 : decode cL_law 286 = .ok (.iadd, 1) := by decide +kernel
theorem dL_law_287 : decode cL_law 287 = .ok (.iaload, 1) := by decide +kernel
theorem dL_law_288 : decode cL_law 288 = .ok (.invokevirtual 31, 3) := by decide +kernel
theorem dL_law_291 : decode cL_law 291 = .ok (.if_icmp .eq 571, 3) := by decide +kernel
theorem dL_law_294 : decode cL_law 294 = .ok (.iconst 0, 1) := by decide +kernel
theorem dL_law_295 : decode cL_law 295 = .ok (.ireturn, 1) := by decide +kernel
theorem dL_law_296 : decode cL_law 296 = .ok (.aload_n 1, 1) := by decide +kernel
theorem dL_law_297 : decode cL_law 297 = .ok (.aload_n 0, 1) := by decide +kernel
theorem dL_law_298 : decode cL_law 298 = .ok (.iload_n 3, 1) := by decide +kernel
theorem dL_law_299 : decode cL_law 299 = .ok (.iconst 1, 1) := by decide +kernel
theorem dL_law_300 : decode cL_law 300 = .ok (.iadd, 1) := by decide +kernel
theorem dL_law_301 : decode cL_law 301 = .ok (.iaload, 1) := by decide +kernel
theorem dL_law_302 : decode cL_law 302 = .ok (.aload_n 0, 1) := by decide +kernel
theorem dL_law_303 : decode cL_law 303 = .ok (.iload_n 3, 1) := by decide +kernel
theorem dL_law_304 : decode cL_law 304 = .ok (.iconst 2, 1) := by decide +kernel
theorem dL_law_305 : decode cL_law 305 = .ok (.iadd, 1) := by decide +kernel
theorem dL_law_306 : decode cL_law 306 = .ok (.iaload, 1) := by decide +kernel
theorem dL_law_307 : decode cL_law 307 = .ok (.invokevirtual 32, 3) := by decide +kernel
theorem dL_law_310 : decode cL_law 310 = .ok (.aload_n 2, 1) := by decide +kernel
theorem dL_law_311 : decode cL_law 311 = .ok (.aload_n 0, 1) := by decide +kernel
theorem dL_law_312 : decode cL_law 312 = .ok (.iload_n 3, 1) := by decide +kernel
theorem dL_law_313 : decode cL_law 313 = .ok (.iconst 1, 1) := by decide +kernel
theorem dL_law_314 : decode cL_law 314 = .ok (.iadd, 1) := by decide +kernel
theorem dL_law_315 : decode cL_law 315 = .ok (.iaload, 1) := by decide +kernel
theorem dL_law_316 : decode cL_law 316 = .ok (.aload_n 0, 1) := by decide +kernel
theorem dL_law_317 : decode cL_law 317 = .ok (.iload_n 3, 1) := by decide +kernel
theorem dL_law_318 : decode cL_law 318 = .ok (.iconst 2, 1) := by decide +kernel
theorem dL_law_319 : decode cL_law 319 = .ok (.iadd, 1) := by decide +kernel
theorem dL_law_320 : decode cL_law 320 = .ok (.iaload, 1) := by decide +kernel
theorem dL_law_321 : decode cL_law 321 = .ok (.invokevirtual 35, 3) := by decide +kernel
theorem dL_law_324 : decode cL_law 324 = .ok (.if_icmp .eq 538, 3) := by decide +kernel
theorem dL_law_327 : decode cL_law 327 = .ok (.iconst 0, 1) := by decide +kernel
theorem dL_law_328 : decode cL_law 328 = .ok (.ireturn, 1) := by decide +kernel
theorem dL_law_329 : decode cL_law 329 = .ok (.aload_n 1, 1) := by decide +kernel
theorem dL_law_330 : decode cL_law 330 = .ok (.invokevirtual 36, 3) := by decide +kernel
theorem dL_law_333 : decode cL_law 333 = .ok (.aload_n 2, 1) := by decide +kernel
theorem dL_law_334 : decode cL_law 334 = .ok (.invokevirtual 40, 3) := by decide +kernel
theorem dL_law_337 : decode cL_law 337 = .ok (.if_icmp .eq 525, 3) := by decide +kernel
theorem dL_law_340 : decode cL_law 340 = .ok (.iconst 0, 1) := by decide +kernel
theorem dL_law_341 : decode cL_law 341 = .ok (.ireturn, 1) := by decide +kernel
theorem dL_law_342 : decode cL_law 342 = .ok (.aload_n 1, 1) := by decide +kernel
theorem dL_law_343 : decode cL_law 343 = .ok (.invokevirtual 41, 3) := by decide +kernel
theorem dL_law_346 : decode cL_law 346 = .ok (.aload_n 2, 1) := by decide +kernel
theorem dL_law_347 : decode cL_law 347 = .ok (.invokevirtual 44, 3) := by decide +kernel
theorem dL_law_350 : decode cL_law 350 = .ok (.if_icmp .eq 512, 3) := by decide +kernel
theorem dL_law_353 : decode cL_law 353 = .ok (.iconst 0, 1) := by decide +kernel
theorem dL_law_354 : decode cL_law 354 = .ok (.ireturn, 1) := by decide +kernel
theorem dL_law_355 : decode cL_law 355 = .ok (.aload_n 1, 1) := by decide +kernel
theorem dL_law_356 : decode cL_law 356 = .ok (.aload_n 0, 1) := by decide +kernel
theorem dL_law_357 : decode cL_law 357 = .ok (.iload_n 3, 1) := by decide +kernel
theorem dL_law_358 : decode cL_law 358 = .ok (.iconst 1, 1) := by decide +kernel
theorem dL_law_359 : decode cL_law 359 = .ok (.iadd, 1) := by decide +kernel
theorem dL_law_360 : decode cL_law 360 = .ok (.iaload, 1) := by decide +kernel
theorem dL_law_361 : decode cL_law 361 = .ok (.invokevirtual 45, 3) := by decide +kernel
theorem dL_law_364 : decode cL_law 364 = .ok (.aload_n 2, 1) := by decide +kernel
theorem dL_law_365 : decode cL_law 365 = .ok (.aload_n 0, 1) := by decide +kernel
theorem dL_law_366 : decode cL_law 366 = .ok (.iload_n 3, 1) := by decide +kernel
theorem dL_law_367 : decode cL_law 367 = .ok (.iconst 1, 1) := by decide +kernel
theorem dL_law_368 : decode cL_law 368 = .ok (.iadd, 1) := by decide +kernel
theorem dL_law_369 : decode cL_law 369 = .ok (.iaload, 1) := by decide +kernel
theorem dL_law_370 : decode cL_law 370 = .ok (.invokevirtual 48, 3) := by decide +kernel
theorem dL_law_373 : decode cL_law 373 = .ok (.if_icmp .eq 489, 3) := by decide +kernel
theorem dL_law_376 : decode cL_law 376 = .ok (.iconst 0, 1) := by decide +kernel
theorem dL_law_377 : decode cL_law 377 = .ok (.ireturn, 1) := by decide +kernel
theorem dL_law_378 : decode cL_law 378 = .ok (.aload_n 1, 1) := by decide +kernel
theorem dL_law_379 : decode cL_law 379 = .ok (.aload_n 0, 1) := by decide +kernel
theorem dL_law_380 : decode cL_law 380 = .ok (.iload_n 3, 1) := by decide +kernel
theorem dL_law_381 : decode cL_law 381 = .ok (.iconst 1, 1) := by decide +kernel
theorem dL_law_382 : decode cL_law 382 = .ok (.iadd, 1) := by decide +kernel
theorem dL_law_383 : decode cL_law 383 = .ok (.iaload, 1) := by decide +kernel
theorem dL_law_384 : decode cL_law 384 = .ok (.invokevirtual 49, 3) := by decide +kernel
theorem dL_law_387 : decode cL_law 387 = .ok (.aload_n 2, 1) := by decide +kernel
theorem dL_law_388 : decode cL_law 388 = .ok (.aload_n 0, 1) := by decide +kernel
theorem dL_law_389 : decode cL_law 389 = .ok (.iload_n 3, 1) := by decide +kernel
theorem dL_law_390 : decode cL_law 390 = .ok (.iconst 1, 1) := by decide +kernel
theorem dL_law_391 : decode cL_law 391 = .ok (.iadd, 1) := by decide +kernel
theorem dL_law_392 : decode cL_law 392 = .ok (.iaload, 1) := by decide +kernel
theorem dL_law_393 : decode cL_law 393 = .ok (.invokevirtual 52, 3) := by decide +kernel
theorem dL_law_396 : decode cL_law 396 = .ok (.if_icmp .eq 466, 3) := by decide +kernel
theorem dL_law_399 : decode cL_law 399 = .ok (.iconst 0, 1) := by decide +kernel
theorem dL_law_400 : decode cL_law 400 = .ok (.ireturn, 1) := by decide +kernel
theorem dL_law_401 : decode cL_law 401 = .ok (.aload_n 1, 1) := by decide +kernel
theorem dL_law_402 : decode cL_law 402 = .ok (.invokevirtual 53, 3) := by decide +kernel
theorem dL_law_405 : decode cL_law 405 = .ok (.aload_n 2, 1) := by decide +kernel
theorem dL_law_406 : decode cL_law 406 = .ok (.invokevirtual 56, 3) := by decide +kernel
theorem dL_law_409 : decode cL_law 409 = .ok (.if_icmp .eq 453, 3) := by decide +kernel
theorem dL_law_412 : decode cL_law 412 = .ok (.iconst 0, 1) := by decide +kernel
theorem dL_law_413 : decode cL_law 413 = .ok (.ireturn, 1) := by decide +kernel
theorem dL_law_414 : decode cL_law 414 = .ok (.aload_n 1, 1) := by decide +kernel
theorem dL_law_415 : decode cL_law 415 = .ok (.invokevirtual 57, 3) := by decide +kernel
theorem dL_law_418 : decode cL_law 418 = .ok (.aload_n 2, 1) := by decide +kernel
theorem dL_law_419 : decode cL_law 419 = .ok (.invokevirtual 60, 3) := by decide +kernel
theorem dL_law_422 : decode cL_law 422 = .ok (.if_icmp .eq 440, 3) := by decide +kernel
theorem dL_law_425 : decode cL_law 425 = .ok (.iconst 0, 1) := by decide +kernel
theorem dL_law_426 : decode cL_law 426 = .ok (.ireturn, 1) := by decide +kernel
theorem dL_law_427 : decode cL_law 427 = .ok (.aload_n 1, 1) := by decide +kernel
theorem dL_law_428 : decode cL_law 428 = .ok (.aload_n 0, 1) := by decide +kernel
theorem dL_law_429 : decode cL_law 429 = .ok (.iload_n 3, 1) := by decide +kernel
theorem dL_law_430 : decode cL_law 430 = .ok (.iconst 1, 1) := by decide +kernel
theorem dL_law_431 : decode cL_law 431 = .ok (.iadd, 1) := by decide +kernel
theorem dL_law_432 : decode cL_law 432 = .ok (.iaload, 1) := by decide +kernel
theorem dL_law_433 : decode cL_law 433 = .ok (.invokevirtual 61, 3) := by decide +kernel
theorem dL_law_436 : decode cL_law 436 = .ok (.aload_n 2, 1) := by decide +kernel
theorem dL_law_437 : decode cL_law 437 = .ok (.aload_n 0, 1) := by decide +kernel
theorem dL_law_438 : decode cL_law 438 = .ok (.iload_n 3, 1) := by decide +kernel
theorem dL_law_439 : decode cL_law 439 = .ok (.iconst 1, 1) := by decide +kernel
theorem dL_law_440 : decode cL_law 440 = .ok (.iadd, 1) := by decide +kernel
theorem dL_law_441 : decode cL_law 441 = .ok (.iaload, 1) := by decide +kernel
theorem dL_law_442 : decode cL_law 442 = .ok (.invokevirtual 64, 3) := by decide +kernel
theorem dL_law_445 : decode cL_law 445 = .ok (.if_icmp .eq 417, 3) := by decide +kernel
theorem dL_law_448 : decode cL_law 448 = .ok (.iconst 0, 1) := by decide +kernel
theorem dL_law_449 : decode cL_law 449 = .ok (.ireturn, 1) := by decide +kernel
theorem dL_law_450 : decode cL_law 450 = .ok (.aload_n 1, 1) := by decide +kernel
theorem dL_law_451 : decode cL_law 451 = .ok (.aload_n 0, 1) := by decide +kernel
theorem dL_law_452 : decode cL_law 452 = .ok (.iload_n 3, 1) := by decide +kernel
theorem dL_law_453 : decode cL_law 453 = .ok (.iconst 1, 1) := by decide +kernel
theorem dL_law_454 : decode cL_law 454 = .ok (.iadd, 1) := by decide +kernel
theorem dL_law_455 : decode cL_law 455 = .ok (.iaload, 1) := by decide +kernel
theorem dL_law_456 : decode cL_law 456 = .ok (.aload_n 0, 1) := by decide +kernel
theorem dL_law_457 : decode cL_law 457 = .ok (.iload_n 3, 1) := by decide +kernel
theorem dL_law_458 : decode cL_law 458 = .ok (.iconst 2, 1) := by decide +kernel
theorem dL_law_459 : decode cL_law 459 = .ok (.iadd, 1) := by decide +kernel
theorem dL_law_460 : decode cL_law 460 = .ok (.iaload, 1) := by decide +kernel
theorem dL_law_461 : decode cL_law 461 = .ok (.invokevirtual 65, 3) := by decide +kernel
theorem dL_law_464 : decode cL_law 464 = .ok (.aload_n 2, 1) := by decide +kernel
theorem dL_law_465 : decode cL_law 465 = .ok (.aload_n 0, 1) := by decide +kernel
theorem dL_law_466 : decode cL_law 466 = .ok (.iload_n 3, 1) := by decide +kernel
theorem dL_law_467 : decode cL_law 467 = .ok (.iconst 1, 1) := by decide +kernel
theorem dL_law_468 : decode cL_law 468 = .ok (.iadd, 1) := by decide +kernel
theorem dL_law_469 : decode cL_law 469 = .ok (.iaload, 1) := by decide +kernel
theorem dL_law_470 : decode cL_law 470 = .ok (.aload_n 0, 1) := by decide +kernel
theorem dL_law_471 : decode cL_law 471 = .ok (.iload_n 3, 1) := by decide +kernel
theorem dL_law_472 : decode cL_law 472 = .ok (.iconst 2, 1) := by decide +kernel
theorem dL_law_473 : decode cL_law 473 = .ok (.iadd, 1) := by decide +kernel
theorem dL_law_474 : decode cL_law 474 = .ok (.iaload, 1) := by decide +kernel
theorem dL_law_475 : decode cL_law 475 = .ok (.invokevirtual 68, 3) := by decide +kernel
theorem dL_law_478 : decode cL_law 478 = .ok (.if_icmp .eq 384, 3) := by decide +kernel
theorem dL_law_481 : decode cL_law 481 = .ok (.iconst 0, 1) := by decide +kernel
theorem dL_law_482 : decode cL_law 482 = .ok (.ireturn, 1) := by decide +kernel
theorem dL_law_483 : decode cL_law 483 = .ok (.aload_n 1, 1) := by decide +kernel
theorem dL_law_484 : decode cL_law 484 = .ok (.aload_n 0, 1) := by decide +kernel
theorem dL_law_485 : decode cL_law 485 = .ok (.iload_n 3, 1) := by decide +kernel
theorem dL_law_486 : decode cL_law 486 = .ok (.iconst 1, 1) := by decide +kernel
theorem dL_law_487 : decode cL_law 487 = .ok (.iadd, 1) := by decide +kernel
theorem dL_law_488 : decode cL_law 488 = .ok (.iaload, 1) := by decide +kernel
theorem dL_law_489 : decode cL_law 489 = .ok (.invokevirtual 69, 3) := by decide +kernel
theorem dL_law_492 : decode cL_law 492 = .ok (.aload_n 2, 1) := by decide +kernel
theorem dL_law_493 : decode cL_law 493 = .ok (.aload_n 0, 1) := by decide +kernel
theorem dL_law_494 : decode cL_law 494 = .ok (.iload_n 3, 1) := by decide +kernel
theorem dL_law_495 : decode cL_law 495 = .ok (.iconst 1, 1) := by decide +kernel
theorem dL_law_496 : decode cL_law 496 = .ok (.iadd, 1) := by decide +kernel
theorem dL_law_497 : decode cL_law 497 = .ok (.iaload, 1) := by decide +kernel
theorem dL_law_498 : decode cL_law 498 = .ok (.invokevirtual 72, 3) := by decide +kernel
theorem dL_law_501 : decode cL_law 501 = .ok (.if_icmp .eq 361, 3) := by decide +kernel
theorem dL_law_504 : decode cL_law 504 = .ok (.iconst 0, 1) := by decide +kernel
theorem dL_law_505 : decode cL_law 505 = .ok (.ireturn, 1) := by decide +kernel
theorem dL_law_506 : decode cL_law 506 = .ok (.aload_n 1, 1) := by decide +kernel
theorem dL_law_507 : decode cL_law 507 = .ok (.aload_n 0, 1) := by decide +kernel
theorem dL_law_508 : decode cL_law 508 = .ok (.iload_n 3, 1) := by decide +kernel
theorem dL_law_509 : decode cL_law 509 = .ok (.iconst 1, 1) := by decide +kernel
theorem dL_law_510 : decode cL_law 510 = .ok (.iadd, 1) := by decide +kernel
theorem dL_law_511 : decode cL_law 511 = .ok (.iaload, 1) := by decide +kernel
theorem dL_law_512 : decode cL_law 512 = .ok (.invokevirtual 73, 3) := by decide +kernel
theorem dL_law_515 : decode cL_law 515 = .ok (.aload_n 2, 1) := by decide +kernel
theorem dL_law_516 : decode cL_law 516 = .ok (.aload_n 0, 1) := by decide +kernel
theorem dL_law_517 : decode cL_law 517 = .ok (.iload_n 3, 1) := by decide +kernel
theorem dL_law_518 : decode cL_law 518 = .ok (.iconst 1, 1) := by decide +kernel
theorem dL_law_519 : decode cL_law 519 = .ok (.iadd, 1) := by decide +kernel
theorem dL_law_520 : decode cL_law 520 = .ok (.iaload, 1) := by decide +kernel
theorem dL_law_521 : decode cL_law 521 = .ok (.invokevirtual 76, 3) := by decide +kernel
theorem dL_law_524 : decode cL_law 524 = .ok (.if_icmp .eq 338, 3) := by decide +kernel
theorem dL_law_527 : decode cL_law 527 = .ok (.iconst 0, 1) := by decide +kernel
theorem dL_law_528 : decode cL_law 528 = .ok (.ireturn, 1) := by decide +kernel
theorem dL_law_529 : decode cL_law 529 = .ok (.aload_n 1, 1) := by decide +kernel
theorem dL_law_530 : decode cL_law 530 = .ok (.aload_n 0, 1) := by decide +kernel
theorem dL_law_531 : decode cL_law 531 = .ok (.iload_n 3, 1) := by decide +kernel
theorem dL_law_532 : decode cL_law 532 = .ok (.iconst 1, 1) := by decide +kernel
theorem dL_law_533 : decode cL_law 533 = .ok (.iadd, 1) := by decide +kernel
theorem dL_law_534 : decode cL_law 534 = .ok (.iaload, 1) := by decide +kernel
theorem dL_law_535 : decode cL_law 535 = .ok (.aload_n 0, 1) := by decide +kernel
theorem dL_law_536 : decode cL_law 536 = .ok (.iload_n 3, 1) := by decide +kernel
theorem dL_law_537 : decode cL_law 537 = .ok (.iconst 2, 1) := by decide +kernel
theorem dL_law_538 : decode cL_law 538 = .ok (.iadd, 1) := by decide +kernel
theorem dL_law_539 : decode cL_law 539 = .ok (.iaload, 1) := by decide +kernel
theorem dL_law_540 : decode cL_law 540 = .ok (.invokevirtual 77, 3) := by decide +kernel
theorem dL_law_543 : decode cL_law 543 = .ok (.aload_n 2, 1) := by decide +kernel
theorem dL_law_544 : decode cL_law 544 = .ok (.aload_n 0, 1) := by decide +kernel
theorem dL_law_545 : decode cL_law 545 = .ok (.iload_n 3, 1) := by decide +kernel
theorem dL_law_546 : decode cL_law 546 = .ok (.iconst 1, 1) := by decide +kernel
theorem dL_law_547 : decode cL_law 547 = .ok (.iadd, 1) := by decide +kernel
theorem dL_law_548 : decode cL_law 548 = .ok (.iaload, 1) := by decide +kernel
theorem dL_law_549 : decode cL_law 549 = .ok (.aload_n 0, 1) := by decide +kernel
theorem dL_law_550 : decode cL_law 550 = .ok (.iload_n 3, 1) := by decide +kernel
theorem dL_law_551 : decode cL_law 551 = .ok (.iconst 2, 1) := by decide +kernel
theorem dL_law_552 : decode cL_law 552 = .ok (.iadd, 1) := by decide +kernel
theorem dL_law_553 : decode cL_law 553 = .ok (.iaload, 1) := by decide +kernel
theorem dL_law_554 : decode cL_law 554 = .ok (.invokevirtual 80, 3) := by decide +kernel
theorem dL_law_557 : decode cL_law 557 = .ok (.if_icmp .eq 305, 3) := by decide +kernel
theorem dL_law_560 : decode cL_law 560 = .ok (.iconst 0, 1) := by decide +kernel
theorem dL_law_561 : decode cL_law 561 = .ok (.ireturn, 1) := by decide +kernel
theorem dL_law_562 : decode cL_law 562 = .ok (.aload_n 1, 1) := by decide +kernel
theorem dL_law_563 : decode cL_law 563 = .ok (.aload_n 0, 1) := by decide +kernel
theorem dL_law_564 : decode cL_law 564 = .ok (.iload_n 3, 1) := by decide +kernel
theorem dL_law_565 : decode cL_law 565 = .ok (.iconst 1, 1) := by decide +kernel
theorem dL_law_566 : decode cL_law 566 = .ok (.iadd, 1) := by decide +kernel
theorem dL_law_567 : decode cL_law 567 = .ok (.iaload, 1) := by decide +kernel
theorem dL_law_568 : decode cL_law 568 = .ok (.invokevirtual 81, 3) := by decide +kernel
theorem dL_law_571 : decode cL_law 571 = .ok (.aload_n 2, 1) := by decide +kernel
theorem dL_law_572 : decode cL_law 572 = .ok (.aload_n 0, 1) := by decide +kernel
theorem dL_law_573 : decode cL_law 573 = .ok (.iload_n 3, 1) := by decide +kernel
theorem dL_law_574 : decode cL_law 574 = .ok (.iconst 1, 1) := by decide +kernel
theorem dL_law_575 : decode cL_law 575 = .ok (.iadd, 1) := by decide +kernel
theorem dL_law_576 : decode cL_law 576 = .ok (.iaload, 1) := by decide +kernel
theorem dL_law_577 : decode cL_law 577 = .ok (.invokevirtual 84, 3) := by decide +kernel
theorem dL_law_580 : decode cL_law 580 = .ok (.if_icmp .eq 282, 3) := by decide +kernel
theorem dL_law_583 : decode cL_law 583 = .ok (.iconst 0, 1) := by decide +kernel
theorem dL_law_584 : decode cL_law 584 = .ok (.ireturn, 1) := by decide +kernel
theorem dL_law_585 : decode cL_law 585 = .ok (.aload_n 1, 1) := by decide +kernel
theorem dL_law_586 : decode cL_law 586 = .ok (.aload_n 0, 1) := by decide +kernel
theorem dL_law_587 : decode cL_law 587 = .ok (.iload_n 3, 1) := by decide +kernel
theorem dL_law_588 : decode cL_law 588 = .ok (.iconst 1, 1) := by decide +kernel
theorem dL_law_589 : decode cL_law 589 = .ok (.iadd, 1) := by decide +kernel
theorem dL_law_590 : decode cL_law 590 = .ok (.iaload, 1) := by decide +kernel
theorem dL_law_591 : decode cL_law 591 = .ok (.aload_n 0, 1) := by decide +kernel
theorem dL_law_592 : decode cL_law 592 = .ok (.iload_n 3, 1) := by decide +kernel
theorem dL_law_593 : decode cL_law 593 = .ok (.iconst 2, 1) := by decide +kernel
theorem dL_law_594 : decode cL_law 594 = .ok (.iadd, 1) := by decide +kernel
theorem dL_law_595 : decode cL_law 595 = .ok (.iaload, 1) := by decide +kernel
theorem dL_law_596 : decode cL_law 596 = .ok (.invokevirtual 85, 3) := by decide +kernel
theorem dL_law_599 : decode cL_law 599 = .ok (.aload_n 2, 1) := by decide +kernel
theorem dL_law_600 : decode cL_law 600 = .ok (.aload_n 0, 1) := by decide +kernel
theorem dL_law_601 : decode cL_law 601 = .ok (.iload_n 3, 1) := by decide +kernel
theorem dL_law_602 : decode cL_law 602 = .ok (.iconst 1, 1) := by decide +kernel
theorem dL_law_603 : decode cL_law 603 = .ok (.iadd, 1) := by decide +kernel
theorem dL_law_604 : decode cL_law 604 = .ok (.iaload, 1) := by decide +kernel
theorem dL_law_605 : decode cL_law 605 = .ok (.aload_n 0, 1) := by decide +kernel
theorem dL_law_606 : decode cL_law 606 = .ok (.iload_n 3, 1) := by decide +kernel
theorem dL_law_607 : decode cL_law 607 = .ok (.iconst 2, 1) := by decide +kernel
theorem dL_law_608 : decode cL_law 608 = .ok (.iadd, 1) := by decide +kernel
theorem dL_law_609 : decode cL_law 609 = .ok (.iaload, 1) := by decide +kernel
theorem dL_law_610 : decode cL_law 610 = .ok (.invokevirtual 88, 3) := by decide +kernel
theorem dL_law_613 : decode cL_law 613 = .ok (.if_icmp .eq 249, 3) := by decide +kernel
theorem dL_law_616 : decode cL_law 616 = .ok (.iconst 0, 1) := by decide +kernel
theorem dL_law_617 : decode cL_law 617 = .ok (.ireturn, 1) := by decide +kernel
theorem dL_law_618 : decode cL_law 618 = .ok (.aload_n 1, 1) := by decide +kernel
theorem dL_law_619 : decode cL_law 619 = .ok (.aload_n 0, 1) := by decide +kernel
theorem dL_law_620 : decode cL_law 620 = .ok (.iload_n 3, 1) := by decide +kernel
theorem dL_law_621 : decode cL_law 621 = .ok (.iconst 1, 1) := by decide +kernel
theorem dL_law_622 : decode cL_law 622 = .ok (.iadd, 1) := by decide +kernel
theorem dL_law_623 : decode cL_law 623 = .ok (.iaload, 1) := by decide +kernel
theorem dL_law_624 : decode cL_law 624 = .ok (.invokevirtual 89, 3) := by decide +kernel
theorem dL_law_627 : decode cL_law 627 = .ok (.aload_n 2, 1) := by decide +kernel
theorem dL_law_628 : decode cL_law 628 = .ok (.aload_n 0, 1) := by decide +kernel
theorem dL_law_629 : decode cL_law 629 = .ok (.iload_n 3, 1) := by decide +kernel
theorem dL_law_630 : decode cL_law 630 = .ok (.iconst 1, 1) := by decide +kernel
theorem dL_law_631 : decode cL_law 631 = .ok (.iadd, 1) := by decide +kernel
theorem dL_law_632 : decode cL_law 632 = .ok (.iaload, 1) := by decide +kernel
theorem dL_law_633 : decode cL_law 633 = .ok (.invokevirtual 93, 3) := by decide +kernel
theorem dL_law_636 : decode cL_law 636 = .ok (.lcmp, 1) := by decide +kernel
theorem dL_law_637 : decode cL_law 637 = .ok (.ifCond .eq 225, 3) := by decide +kernel
theorem dL_law_640 : decode cL_law 640 = .ok (.iconst 0, 1) := by decide +kernel
theorem dL_law_641 : decode cL_law 641 = .ok (.ireturn, 1) := by decide +kernel
theorem dL_law_642 : decode cL_law 642 = .ok (.aload_n 1, 1) := by decide +kernel
theorem dL_law_643 : decode cL_law 643 = .ok (.aload_n 0, 1) := by decide +kernel
theorem dL_law_644 : decode cL_law 644 = .ok (.iload_n 3, 1) := by decide +kernel
theorem dL_law_645 : decode cL_law 645 = .ok (.iconst 1, 1) := by decide +kernel
theorem dL_law_646 : decode cL_law 646 = .ok (.iadd, 1) := by decide +kernel
theorem dL_law_647 : decode cL_law 647 = .ok (.iaload, 1) := by decide +kernel
theorem dL_law_648 : decode cL_law 648 = .ok (.aload_n 0, 1) := by decide +kernel
theorem dL_law_649 : decode cL_law 649 = .ok (.iload_n 3, 1) := by decide +kernel
theorem dL_law_650 : decode cL_law 650 = .ok (.iconst 2, 1) := by decide +kernel
theorem dL_law_651 : decode cL_law 651 = .ok (.iadd, 1) := by decide +kernel
theorem dL_law_652 : decode cL_law 652 = .ok (.iaload, 1) := by decide +kernel
theorem dL_law_653 : decode cL_law 653 = .ok (.invokevirtual 94, 3) := by decide +kernel
theorem dL_law_656 : decode cL_law 656 = .ok (.aload_n 2, 1) := by decide +kernel
theorem dL_law_657 : decode cL_law 657 = .ok (.aload_n 0, 1) := by decide +kernel
theorem dL_law_658 : decode cL_law 658 = .ok (.iload_n 3, 1) := by decide +kernel
theorem dL_law_659 : decode cL_law 659 = .ok (.iconst 1, 1) := by decide +kernel
theorem dL_law_660 : decode cL_law 660 = .ok (.iadd, 1) := by decide +kernel
theorem dL_law_661 : decode cL_law 661 = .ok (.iaload, 1) := by decide +kernel
theorem dL_law_662 : decode cL_law 662 = .ok (.aload_n 0, 1) := by decide +kernel
theorem dL_law_663 : decode cL_law 663 = .ok (.iload_n 3, 1) := by decide +kernel
theorem dL_law_664 : decode cL_law 664 = .ok (.iconst 2, 1) := by decide +kernel
theorem dL_law_665 : decode cL_law 665 = .ok (.iadd, 1) := by decide +kernel
theorem dL_law_666 : decode cL_law 666 = .ok (.iaload, 1) := by decide +kernel
theorem dL_law_667 : decode cL_law 667 = .ok (.invokevirtual 97, 3) := by decide +kernel
theorem dL_law_670 : decode cL_law 670 = .ok (.if_icmp .eq 192, 3) := by decide +kernel
theorem dL_law_673 : decode cL_law 673 = .ok (.iconst 0, 1) := by decide +kernel
theorem dL_law_674 : decode cL_law 674 = .ok (.ireturn, 1) := by decide +kernel
theorem dL_law_675 : decode cL_law 675 = .ok (.aload_n 1, 1) := by decide +kernel
theorem dL_law_676 : decode cL_law 676 = .ok (.aload_n 0, 1) := by decide +kernel
theorem dL_law_677 : decode cL_law 677 = .ok (.iload_n 3, 1) := by decide +kernel
theorem dL_law_678 : decode cL_law 678 = .ok (.iconst 1, 1) := by decide +kernel
theorem dL_law_679 : decode cL_law 679 = .ok (.iadd, 1) := by decide +kernel
theorem dL_law_680 : decode cL_law 680 = .ok (.iaload, 1) := by decide +kernel
theorem dL_law_681 : decode cL_law 681 = .ok (.invokevirtual 98, 3) := by decide +kernel
theorem dL_law_684 : decode cL_law 684 = .ok (.aload_n 2, 1) := by decide +kernel
theorem dL_law_685 : decode cL_law 685 = .ok (.aload_n 0, 1) := by decide +kernel
theorem dL_law_686 : decode cL_law 686 = .ok (.iload_n 3, 1) := by decide +kernel
theorem dL_law_687 : decode cL_law 687 = .ok (.iconst 1, 1) := by decide +kernel
theorem dL_law_688 : decode cL_law 688 = .ok (.iadd, 1) := by decide +kernel
theorem dL_law_689 : decode cL_law 689 = .ok (.iaload, 1) := by decide +kernel
theorem dL_law_690 : decode cL_law 690 = .ok (.invokevirtual 101, 3) := by decide +kernel
theorem dL_law_693 : decode cL_law 693 = .ok (.if_icmp .eq 169, 3) := by decide +kernel
theorem dL_law_696 : decode cL_law 696 = .ok (.iconst 0, 1) := by decide +kernel
theorem dL_law_697 : decode cL_law 697 = .ok (.ireturn, 1) := by decide +kernel
theorem dL_law_698 : decode cL_law 698 = .ok (.aload_n 1, 1) := by decide +kernel
theorem dL_law_699 : decode cL_law 699 = .ok (.aload_n 0, 1) := by decide +kernel
theorem dL_law_700 : decode cL_law 700 = .ok (.iload_n 3, 1) := by decide +kernel
theorem dL_law_701 : decode cL_law 701 = .ok (.iconst 1, 1) := by decide +kernel
theorem dL_law_702 : decode cL_law 702 = .ok (.iadd, 1) := by decide +kernel
theorem dL_law_703 : decode cL_law 703 = .ok (.iaload, 1) := by decide +kernel
theorem dL_law_704 : decode cL_law 704 = .ok (.invokevirtual 102, 3) := by decide +kernel
theorem dL_law_707 : decode cL_law 707 = .ok (.aload_n 2, 1) := by decide +kernel
theorem dL_law_708 : decode cL_law 708 = .ok (.aload_n 0, 1) := by decide +kernel
theorem dL_law_709 : decode cL_law 709 = .ok (.iload_n 3, 1) := by decide +kernel
theorem dL_law_710 : decode cL_law 710 = .ok (.iconst 1, 1) := by decide +kernel
theorem dL_law_711 : decode cL_law 711 = .ok (.iadd, 1) := by decide +kernel
theorem dL_law_712 : decode cL_law 712 = .ok (.iaload, 1) := by decide +kernel
theorem dL_law_713 : decode cL_law 713 = .ok (.invokevirtual 105, 3) := by decide +kernel
theorem dL_law_716 : decode cL_law 716 = .ok (.if_icmp .eq 146, 3) := by decide +kernel
theorem dL_law_719 : decode cL_law 719 = .ok (.iconst 0, 1) := by decide +kernel
theorem dL_law_720 : decode cL_law 720 = .ok (.ireturn, 1) := by decide +kernel
theorem dL_law_721 : decode cL_law 721 = .ok (.aload_n 1, 1) := by decide +kernel
theorem dL_law_722 : decode cL_law 722 = .ok (.aload_n 0, 1) := by decide +kernel
theorem dL_law_723 : decode cL_law 723 = .ok (.iload_n 3, 1) := by decide +kernel
theorem dL_law_724 : decode cL_law 724 = .ok (.iconst 1, 1) := by decide +kernel
theorem dL_law_725 : decode cL_law 725 = .ok (.iadd, 1) := by decide +kernel
theorem dL_law_726 : decode cL_law 726 = .ok (.iaload, 1) := by decide +kernel
theorem dL_law_727 : decode cL_law 727 = .ok (.aload_n 0, 1) := by decide +kernel
theorem dL_law_728 : decode cL_law 728 = .ok (.iload_n 3, 1) := by decide +kernel
theorem dL_law_729 : decode cL_law 729 = .ok (.iconst 2, 1) := by decide +kernel
theorem dL_law_730 : decode cL_law 730 = .ok (.iadd, 1) := by decide +kernel
theorem dL_law_731 : decode cL_law 731 = .ok (.iaload, 1) := by decide +kernel
theorem dL_law_732 : decode cL_law 732 = .ok (.invokevirtual 106, 3) := by decide +kernel
theorem dL_law_735 : decode cL_law 735 = .ok (.aload_n 2, 1) := by decide +kernel
theorem dL_law_736 : decode cL_law 736 = .ok (.aload_n 0, 1) := by decide +kernel
theorem dL_law_737 : decode cL_law 737 = .ok (.iload_n 3, 1) := by decide +kernel
theorem dL_law_738 : decode cL_law 738 = .ok (.iconst 1, 1) := by decide +kernel
theorem dL_law_739 : decode cL_law 739 = .ok (.iadd, 1) := by decide +kernel
theorem dL_law_740 : decode cL_law 740 = .ok (.iaload, 1) := by decide +kernel
theorem dL_law_741 : decode cL_law 741 = .ok (.aload_n 0, 1) := by decide +kernel
theorem dL_law_742 : decode cL_law 742 = .ok (.iload_n 3, 1) := by decide +kernel
theorem dL_law_743 : decode cL_law 743 = .ok (.iconst 2, 1) := by decide +kernel
theorem dL_law_744 : decode cL_law 744 = .ok (.iadd, 1) := by decide +kernel
theorem dL_law_745 : decode cL_law 745 = .ok (.iaload, 1) := by decide +kernel
theorem dL_law_746 : decode cL_law 746 = .ok (.invokevirtual 109, 3) := by decide +kernel
theorem dL_law_749 : decode cL_law 749 = .ok (.if_icmp .eq 113, 3) := by decide +kernel
theorem dL_law_752 : decode cL_law 752 = .ok (.iconst 0, 1) := by decide +kernel
theorem dL_law_753 : decode cL_law 753 = .ok (.ireturn, 1) := by decide +kernel
theorem dL_law_754 : decode cL_law 754 = .ok (.aload_n 1, 1) := by decide +kernel
theorem dL_law_755 : decode cL_law 755 = .ok (.aload_n 0, 1) := by decide +kernel
theorem dL_law_756 : decode cL_law 756 = .ok (.iload_n 3, 1) := by decide +kernel
theorem dL_law_757 : decode cL_law 757 = .ok (.iconst 1, 1) := by decide +kernel
theorem dL_law_758 : decode cL_law 758 = .ok (.iadd, 1) := by decide +kernel
theorem dL_law_759 : decode cL_law 759 = .ok (.iaload, 1) := by decide +kernel
theorem dL_law_760 : decode cL_law 760 = .ok (.invokevirtual 110, 3) := by decide +kernel
theorem dL_law_763 : decode cL_law 763 = .ok (.aload_n 2, 1) := by decide +kernel
theorem dL_law_764 : decode cL_law 764 = .ok (.aload_n 0, 1) := by decide +kernel
theorem dL_law_765 : decode cL_law 765 = .ok (.iload_n 3, 1) := by decide +kernel
theorem dL_law_766 : decode cL_law 766 = .ok (.iconst 1, 1) := by decide +kernel
theorem dL_law_767 : decode cL_law 767 = .ok (.iadd, 1) := by decide +kernel
theorem dL_law_768 : decode cL_law 768 = .ok (.iaload, 1) := by decide +kernel
theorem dL_law_769 : decode cL_law 769 = .ok (.invokevirtual 113, 3) := by decide +kernel
theorem dL_law_772 : decode cL_law 772 = .ok (.if_icmp .eq 90, 3) := by decide +kernel
theorem dL_law_775 : decode cL_law 775 = .ok (.iconst 0, 1) := by decide +kernel
theorem dL_law_776 : decode cL_law 776 = .ok (.ireturn, 1) := by decide +kernel
theorem dL_law_777 : decode cL_law 777 = .ok (.aload_n 1, 1) := by decide +kernel
theorem dL_law_778 : decode cL_law 778 = .ok (.invokevirtual 114, 3) := by decide +kernel
theorem dL_law_781 : decode cL_law 781 = .ok (.aload_n 2, 1) := by decide +kernel
theorem dL_law_782 : decode cL_law 782 = .ok (.invokevirtual 117, 3) := by decide +kernel
theorem dL_law_785 : decode cL_law 785 = .ok (.if_icmp .eq 77, 3) := by decide +kernel
theorem dL_law_788 : decode cL_law 788 = .ok (.iconst 0, 1) := by decide +kernel
theorem dL_law_789 : decode cL_law 789 = .ok (.ireturn, 1) := by decide +kernel
theorem dL_law_790 : decode cL_law 790 = .ok (.aload_n 1, 1) := by decide +kernel
theorem dL_law_791 : decode cL_law 791 = .ok (.invokevirtual 118, 3) := by decide +kernel
theorem dL_law_794 : decode cL_law 794 = .ok (.aload_n 2, 1) := by decide +kernel
theorem dL_law_795 : decode cL_law 795 = .ok (.invokevirtual 121, 3) := by decide +kernel
theorem dL_law_798 : decode cL_law 798 = .ok (.if_icmp .eq 64, 3) := by decide +kernel
theorem dL_law_801 : decode cL_law 801 = .ok (.iconst 0, 1) := by decide +kernel
theorem dL_law_802 : decode cL_law 802 = .ok (.ireturn, 1) := by decide +kernel
theorem dL_law_803 : decode cL_law 803 = .ok (.aload_n 1, 1) := by decide +kernel
theorem dL_law_804 : decode cL_law 804 = .ok (.invokevirtual 122, 3) := by decide +kernel
theorem dL_law_807 : decode cL_law 807 = .ok (.aload_n 2, 1) := by decide +kernel
theorem dL_law_808 : decode cL_law 808 = .ok (.invokevirtual 125, 3) := by decide +kernel
theorem dL_law_811 : decode cL_law 811 = .ok (.if_icmp .eq 51, 3) := by decide +kernel
theorem dL_law_814 : decode cL_law 814 = .ok (.iconst 0, 1) := by decide +kernel
theorem dL_law_815 : decode cL_law 815 = .ok (.ireturn, 1) := by decide +kernel
theorem dL_law_816 : decode cL_law 816 = .ok (.aload_n 1, 1) := by decide +kernel
theorem dL_law_817 : decode cL_law 817 = .ok (.aload_n 0, 1) := by decide +kernel
theorem dL_law_818 : decode cL_law 818 = .ok (.iload_n 3, 1) := by decide +kernel
theorem dL_law_819 : decode cL_law 819 = .ok (.iconst 1, 1) := by decide +kernel
theorem dL_law_820 : decode cL_law 820 = .ok (.iadd, 1) := by decide +kernel
theorem dL_law_821 : decode cL_law 821 = .ok (.iaload, 1) := by decide +kernel
theorem dL_law_822 : decode cL_law 822 = .ok (.invokevirtual 126, 3) := by decide +kernel
theorem dL_law_825 : decode cL_law 825 = .ok (.aload_n 2, 1) := by decide +kernel
theorem dL_law_826 : decode cL_law 826 = .ok (.aload_n 0, 1) := by decide +kernel
theorem dL_law_827 : decode cL_law 827 = .ok (.iload_n 3, 1) := by decide +kernel
theorem dL_law_828 : decode cL_law 828 = .ok (.iconst 1, 1) := by decide +kernel
theorem dL_law_829 : decode cL_law 829 = .ok (.iadd, 1) := by decide +kernel
theorem dL_law_830 : decode cL_law 830 = .ok (.iaload, 1) := by decide +kernel
theorem dL_law_831 : decode cL_law 831 = .ok (.invokevirtual 129, 3) := by decide +kernel
theorem dL_law_834 : decode cL_law 834 = .ok (.if_icmp .eq 28, 3) := by decide +kernel
theorem dL_law_837 : decode cL_law 837 = .ok (.iconst 0, 1) := by decide +kernel
theorem dL_law_838 : decode cL_law 838 = .ok (.ireturn, 1) := by decide +kernel
theorem dL_law_839 : decode cL_law 839 = .ok (.aload_n 1, 1) := by decide +kernel
theorem dL_law_840 : decode cL_law 840 = .ok (.aload_n 0, 1) := by decide +kernel
theorem dL_law_841 : decode cL_law 841 = .ok (.iload_n 3, 1) := by decide +kernel
theorem dL_law_842 : decode cL_law 842 = .ok (.iconst 1, 1) := by decide +kernel
theorem dL_law_843 : decode cL_law 843 = .ok (.iadd, 1) := by decide +kernel
theorem dL_law_844 : decode cL_law 844 = .ok (.iaload, 1) := by decide +kernel
theorem dL_law_845 : decode cL_law 845 = .ok (.invokevirtual 130, 3) := by decide +kernel
theorem dL_law_848 : decode cL_law 848 = .ok (.aload_n 2, 1) := by decide +kernel
theorem dL_law_849 : decode cL_law 849 = .ok (.aload_n 0, 1) := by decide +kernel
theorem dL_law_850 : decode cL_law 850 = .ok (.iload_n 3, 1) := by decide +kernel
theorem dL_law_851 : decode cL_law 851 = .ok (.iconst 1, 1) := by decide +kernel
theorem dL_law_852 : decode cL_law 852 = .ok (.iadd, 1) := by decide +kernel
theorem dL_law_853 : decode cL_law 853 = .ok (.iaload, 1) := by decide +kernel
theorem dL_law_854 : decode cL_law 854 = .ok (.invokevirtual 133, 3) := by decide +kernel
theorem dL_law_857 : decode cL_law 857 = .ok (.if_icmp .eq 5, 3) := by decide +kernel
theorem dL_law_860 : decode cL_law 860 = .ok (.iconst 0, 1) := by decide +kernel
theorem dL_law_861 : decode cL_law 861 = .ok (.ireturn, 1) := by decide +kernel
theorem dL_law_862 : decode cL_law 862 = .ok (.iinc 3 4, 3) := by decide +kernel
theorem dL_law_865 : decode cL_law 865 = .ok (.goto (-847), 3) := by decide +kernel
theorem dL_law_868 : decode cL_law 868 = .ok (.iconst 1, 1) := by decide +kernel
theorem dL_law_869 : decode cL_law 869 = .ok (.ireturn, 1) := by decide +kernel
end
