section
-- ===== PART A: goes FIRST, ahead of the names: the tables' words, and 'selects' of the private methods out of them =====
/-- a private method of a class that the tables say can be made, by its rows of tables_1 -/
def lw_okq (q : MethodName × Nat) : Prop := (q.1.cls ≠ "java/lang/invoke/MethodHandle" ∧ q.1.cls ≠ "java/lang/invoke/VarHandle") ∧ Cond.instantiable q.1.cls q.2 ∈ tables_1 ∧ Cond.privateMethod q.1 ∈ tables_1 ∧ Cond.instanceMethod q.1 ∈ tables_1
theorem lw_p0 : lw_okq (⟨"SunMirrors$Shelf", "state", "(I)LSunMirrors$Field;"⟩, 1) := ⟨⟨by decide +kernel, by decide +kernel⟩, List.mem_of_getElem? (i := 210) (by decide +kernel), List.mem_of_getElem? (i := 273) (by decide +kernel), List.mem_of_getElem? (i := 274) (by decide +kernel)⟩
theorem lw_p1 : lw_okq (⟨"SunMirrors", "recorded", "(I)I"⟩, 8) := ⟨⟨by decide +kernel, by decide +kernel⟩, List.mem_of_getElem? (i := 16) (by decide +kernel), List.mem_of_getElem? (i := 302) (by decide +kernel), List.mem_of_getElem? (i := 303) (by decide +kernel)⟩
theorem lw_p2 : lw_okq (⟨"SunMirrors$Light", "hasBlocker", "(I)Z"⟩, 8) := ⟨⟨by decide +kernel, by decide +kernel⟩, List.mem_of_getElem? (i := 97) (by decide +kernel), List.mem_of_getElem? (i := 398) (by decide +kernel), List.mem_of_getElem? (i := 399) (by decide +kernel)⟩
theorem lw_p3 : lw_okq (⟨"SunMirrors$Light", "inPlace", "(II)I"⟩, 8) := ⟨⟨by decide +kernel, by decide +kernel⟩, List.mem_of_getElem? (i := 97) (by decide +kernel), List.mem_of_getElem? (i := 402) (by decide +kernel), List.mem_of_getElem? (i := 403) (by decide +kernel)⟩
theorem lw_p4 : lw_okq (⟨"SunMirrors$Light", "nearestShader", "(II)I"⟩, 8) := ⟨⟨by decide +kernel, by decide +kernel⟩, List.mem_of_getElem? (i := 97) (by decide +kernel), List.mem_of_getElem? (i := 407) (by decide +kernel), List.mem_of_getElem? (i := 408) (by decide +kernel)⟩
theorem lw_p5 : lw_okq (⟨"SunMirrors$Light", "gift", "(II)I"⟩, 8) := ⟨⟨by decide +kernel, by decide +kernel⟩, List.mem_of_getElem? (i := 97) (by decide +kernel), List.mem_of_getElem? (i := 425) (by decide +kernel), List.mem_of_getElem? (i := 426) (by decide +kernel)⟩
theorem lw_p6 : lw_okq (⟨"SunMirrors$Light", "putInOrder", "(I)V"⟩, 8) := ⟨⟨by decide +kernel, by decide +kernel⟩, List.mem_of_getElem? (i := 97) (by decide +kernel), List.mem_of_getElem? (i := 437) (by decide +kernel), List.mem_of_getElem? (i := 438) (by decide +kernel)⟩
theorem lw_p7 : lw_okq (⟨"SunMirrors$Light", "useIfBearable", "(I)I"⟩, 8) := ⟨⟨by decide +kernel, by decide +kernel⟩, List.mem_of_getElem? (i := 97) (by decide +kernel), List.mem_of_getElem? (i := 441) (by decide +kernel), List.mem_of_getElem? (i := 442) (by decide +kernel)⟩
theorem lw_p8 : lw_okq (⟨"SunMirrors$Light", "creditUsed", "()V"⟩, 8) := ⟨⟨by decide +kernel, by decide +kernel⟩, List.mem_of_getElem? (i := 97) (by decide +kernel), List.mem_of_getElem? (i := 445) (by decide +kernel), List.mem_of_getElem? (i := 446) (by decide +kernel)⟩
theorem lw_p9 : lw_okq (⟨"SunMirrors$Advice", "forgetBest", "()V"⟩, 5) := ⟨⟨by decide +kernel, by decide +kernel⟩, List.mem_of_getElem? (i := 130) (by decide +kernel), List.mem_of_getElem? (i := 543) (by decide +kernel), List.mem_of_getElem? (i := 544) (by decide +kernel)⟩
theorem lw_p10 : lw_okq (⟨"SunMirrors$Advice", "weigh", "(I)V"⟩, 5) := ⟨⟨by decide +kernel, by decide +kernel⟩, List.mem_of_getElem? (i := 130) (by decide +kernel), List.mem_of_getElem? (i := 549) (by decide +kernel), List.mem_of_getElem? (i := 550) (by decide +kernel)⟩
theorem lw_p11 : lw_okq (⟨"SunMirrors$Advice", "answer", "(I)I"⟩, 5) := ⟨⟨by decide +kernel, by decide +kernel⟩, List.mem_of_getElem? (i := 130) (by decide +kernel), List.mem_of_getElem? (i := 555) (by decide +kernel), List.mem_of_getElem? (i := 556) (by decide +kernel)⟩
theorem lw_p12 : lw_okq (⟨"SunMirrors$Reader", "readOrder", "(I)V"⟩, 8) := ⟨⟨by decide +kernel, by decide +kernel⟩, List.mem_of_getElem? (i := 171) (by decide +kernel), List.mem_of_getElem? (i := 622) (by decide +kernel), List.mem_of_getElem? (i := 623) (by decide +kernel)⟩
theorem lw_p13 : lw_okq (⟨"SunMirrors$Reader", "readNumber", "()I"⟩, 8) := ⟨⟨by decide +kernel, by decide +kernel⟩, List.mem_of_getElem? (i := 171) (by decide +kernel), List.mem_of_getElem? (i := 634) (by decide +kernel), List.mem_of_getElem? (i := 635) (by decide +kernel)⟩
theorem lw_p14 : lw_okq (⟨"SunMirrors$Reader", "readDigit", "(I)I"⟩, 8) := ⟨⟨by decide +kernel, by decide +kernel⟩, List.mem_of_getElem? (i := 171) (by decide +kernel), List.mem_of_getElem? (i := 638) (by decide +kernel), List.mem_of_getElem? (i := 639) (by decide +kernel)⟩
theorem lw_p15 : lw_okq (⟨"SunMirrors$Reader", "expect", "(C)V"⟩, 8) := ⟨⟨by decide +kernel, by decide +kernel⟩, List.mem_of_getElem? (i := 171) (by decide +kernel), List.mem_of_getElem? (i := 642) (by decide +kernel), List.mem_of_getElem? (i := 643) (by decide +kernel)⟩
def lw_privs_1 : List (MethodName × Nat) := [(⟨"SunMirrors$Shelf", "state", "(I)LSunMirrors$Field;"⟩, 1), (⟨"SunMirrors", "recorded", "(I)I"⟩, 8), (⟨"SunMirrors$Light", "hasBlocker", "(I)Z"⟩, 8), (⟨"SunMirrors$Light", "inPlace", "(II)I"⟩, 8), (⟨"SunMirrors$Light", "nearestShader", "(II)I"⟩, 8), (⟨"SunMirrors$Light", "gift", "(II)I"⟩, 8), (⟨"SunMirrors$Light", "putInOrder", "(I)V"⟩, 8), (⟨"SunMirrors$Light", "useIfBearable", "(I)I"⟩, 8), (⟨"SunMirrors$Light", "creditUsed", "()V"⟩, 8), (⟨"SunMirrors$Advice", "forgetBest", "()V"⟩, 5), (⟨"SunMirrors$Advice", "weigh", "(I)V"⟩, 5), (⟨"SunMirrors$Advice", "answer", "(I)I"⟩, 5), (⟨"SunMirrors$Reader", "readOrder", "(I)V"⟩, 8), (⟨"SunMirrors$Reader", "readNumber", "()I"⟩, 8), (⟨"SunMirrors$Reader", "readDigit", "(I)I"⟩, 8), (⟨"SunMirrors$Reader", "expect", "(C)V"⟩, 8)]
theorem lw_r1 : ∀ q ∈ lw_privs_1, lw_okq q := List.forall_mem_cons.mpr ⟨lw_p0, List.forall_mem_cons.mpr ⟨lw_p1, List.forall_mem_cons.mpr ⟨lw_p2, List.forall_mem_cons.mpr ⟨lw_p3, List.forall_mem_cons.mpr ⟨lw_p4, List.forall_mem_cons.mpr ⟨lw_p5, List.forall_mem_cons.mpr ⟨lw_p6, List.forall_mem_cons.mpr ⟨lw_p7, List.forall_mem_cons.mpr ⟨lw_p8, List.forall_mem_cons.mpr ⟨lw_p9, List.forall_mem_cons.mpr ⟨lw_p10, List.forall_mem_cons.mpr ⟨lw_p11, List.forall_mem_cons.mpr ⟨lw_p12, List.forall_mem_cons.mpr ⟨lw_p13, List.forall_mem_cons.mpr ⟨lw_p14, List.forall_mem_cons.mpr ⟨lw_p15, fun _ h => absurd h List.not_mem_nil⟩⟩⟩⟩⟩⟩⟩⟩⟩⟩⟩⟩⟩⟩⟩⟩
theorem lw_p16 : lw_okq (⟨"SunMirrors$Reader", "accept", "(C)Z"⟩, 8) := ⟨⟨by decide +kernel, by decide +kernel⟩, List.mem_of_getElem? (i := 171) (by decide +kernel), List.mem_of_getElem? (i := 646) (by decide +kernel), List.mem_of_getElem? (i := 647) (by decide +kernel)⟩
theorem lw_p17 : lw_okq (⟨"SunMirrors", "carry", "(I)I"⟩, 8) := ⟨⟨by decide +kernel, by decide +kernel⟩, List.mem_of_getElem? (i := 16) (by decide +kernel), List.mem_of_getElem? (i := 660) (by decide +kernel), List.mem_of_getElem? (i := 661) (by decide +kernel)⟩
theorem lw_p18 : lw_okq (⟨"SunMirrorsModel", "changed", "(I)I"⟩, 17) := ⟨⟨by decide +kernel, by decide +kernel⟩, List.mem_of_getElem? (i := 706) (by decide +kernel), List.mem_of_getElem? (i := 780) (by decide +kernel), List.mem_of_getElem? (i := 781) (by decide +kernel)⟩
theorem lw_p19 : lw_okq (⟨"SunMirrorsModel", "doMirror", "(III)I"⟩, 17) := ⟨⟨by decide +kernel, by decide +kernel⟩, List.mem_of_getElem? (i := 706) (by decide +kernel), List.mem_of_getElem? (i := 788) (by decide +kernel), List.mem_of_getElem? (i := 789) (by decide +kernel)⟩
theorem lw_p20 : lw_okq (⟨"SunMirrorsModel", "mirrorAt", "(II)I"⟩, 17) := ⟨⟨by decide +kernel, by decide +kernel⟩, List.mem_of_getElem? (i := 706) (by decide +kernel), List.mem_of_getElem? (i := 797) (by decide +kernel), List.mem_of_getElem? (i := 798) (by decide +kernel)⟩
theorem lw_p21 : lw_okq (⟨"SunMirrorsModel", "its", "(II)I"⟩, 17) := ⟨⟨by decide +kernel, by decide +kernel⟩, List.mem_of_getElem? (i := 706) (by decide +kernel), List.mem_of_getElem? (i := 801) (by decide +kernel), List.mem_of_getElem? (i := 802) (by decide +kernel)⟩
theorem lw_p22 : lw_okq (⟨"SunMirrorsModel", "puts", "(III)V"⟩, 17) := ⟨⟨by decide +kernel, by decide +kernel⟩, List.mem_of_getElem? (i := 706) (by decide +kernel), List.mem_of_getElem? (i := 805) (by decide +kernel), List.mem_of_getElem? (i := 806) (by decide +kernel)⟩
theorem lw_p23 : lw_okq (⟨"SunMirrorsModel", "sets", "(III)V"⟩, 17) := ⟨⟨by decide +kernel, by decide +kernel⟩, List.mem_of_getElem? (i := 706) (by decide +kernel), List.mem_of_getElem? (i := 809) (by decide +kernel), List.mem_of_getElem? (i := 810) (by decide +kernel)⟩
theorem lw_p24 : lw_okq (⟨"SunMirrorsModel", "ends", "(I)I"⟩, 17) := ⟨⟨by decide +kernel, by decide +kernel⟩, List.mem_of_getElem? (i := 706) (by decide +kernel), List.mem_of_getElem? (i := 813) (by decide +kernel), List.mem_of_getElem? (i := 814) (by decide +kernel)⟩
theorem lw_p25 : lw_okq (⟨"SunMirrorsModel", "doTake", "(I)I"⟩, 17) := ⟨⟨by decide +kernel, by decide +kernel⟩, List.mem_of_getElem? (i := 706) (by decide +kernel), List.mem_of_getElem? (i := 821) (by decide +kernel), List.mem_of_getElem? (i := 822) (by decide +kernel)⟩
theorem lw_p26 : lw_okq (⟨"SunMirrorsModel", "isMirror", "(I)Z"⟩, 17) := ⟨⟨by decide +kernel, by decide +kernel⟩, List.mem_of_getElem? (i := 706) (by decide +kernel), List.mem_of_getElem? (i := 825) (by decide +kernel), List.mem_of_getElem? (i := 826) (by decide +kernel)⟩
theorem lw_p27 : lw_okq (⟨"SunMirrorsModel", "takesOut", "(I)V"⟩, 17) := ⟨⟨by decide +kernel, by decide +kernel⟩, List.mem_of_getElem? (i := 706) (by decide +kernel), List.mem_of_getElem? (i := 829) (by decide +kernel), List.mem_of_getElem? (i := 830) (by decide +kernel)⟩
theorem lw_p28 : lw_okq (⟨"SunMirrorsModel", "doAim", "(II)I"⟩, 17) := ⟨⟨by decide +kernel, by decide +kernel⟩, List.mem_of_getElem? (i := 706) (by decide +kernel), List.mem_of_getElem? (i := 837) (by decide +kernel), List.mem_of_getElem? (i := 838) (by decide +kernel)⟩
theorem lw_p29 : lw_okq (⟨"SunMirrorsModel", "doWash", "(I)I"⟩, 17) := ⟨⟨by decide +kernel, by decide +kernel⟩, List.mem_of_getElem? (i := 706) (by decide +kernel), List.mem_of_getElem? (i := 845) (by decide +kernel), List.mem_of_getElem? (i := 846) (by decide +kernel)⟩
theorem lw_p30 : lw_okq (⟨"SunMirrorsModel", "doWind", "(I)I"⟩, 17) := ⟨⟨by decide +kernel, by decide +kernel⟩, List.mem_of_getElem? (i := 706) (by decide +kernel), List.mem_of_getElem? (i := 853) (by decide +kernel), List.mem_of_getElem? (i := 854) (by decide +kernel)⟩
theorem lw_p31 : lw_okq (⟨"SunMirrorsModel", "areFlat", "()Z"⟩, 17) := ⟨⟨by decide +kernel, by decide +kernel⟩, List.mem_of_getElem? (i := 706) (by decide +kernel), List.mem_of_getElem? (i := 857) (by decide +kernel), List.mem_of_getElem? (i := 858) (by decide +kernel)⟩
def lw_privs_2 : List (MethodName × Nat) := [(⟨"SunMirrors$Reader", "accept", "(C)Z"⟩, 8), (⟨"SunMirrors", "carry", "(I)I"⟩, 8), (⟨"SunMirrorsModel", "changed", "(I)I"⟩, 17), (⟨"SunMirrorsModel", "doMirror", "(III)I"⟩, 17), (⟨"SunMirrorsModel", "mirrorAt", "(II)I"⟩, 17), (⟨"SunMirrorsModel", "its", "(II)I"⟩, 17), (⟨"SunMirrorsModel", "puts", "(III)V"⟩, 17), (⟨"SunMirrorsModel", "sets", "(III)V"⟩, 17), (⟨"SunMirrorsModel", "ends", "(I)I"⟩, 17), (⟨"SunMirrorsModel", "doTake", "(I)I"⟩, 17), (⟨"SunMirrorsModel", "isMirror", "(I)Z"⟩, 17), (⟨"SunMirrorsModel", "takesOut", "(I)V"⟩, 17), (⟨"SunMirrorsModel", "doAim", "(II)I"⟩, 17), (⟨"SunMirrorsModel", "doWash", "(I)I"⟩, 17), (⟨"SunMirrorsModel", "doWind", "(I)I"⟩, 17), (⟨"SunMirrorsModel", "areFlat", "()Z"⟩, 17)]
theorem lw_r2 : ∀ q ∈ lw_privs_2, lw_okq q := List.forall_mem_cons.mpr ⟨lw_p16, List.forall_mem_cons.mpr ⟨lw_p17, List.forall_mem_cons.mpr ⟨lw_p18, List.forall_mem_cons.mpr ⟨lw_p19, List.forall_mem_cons.mpr ⟨lw_p20, List.forall_mem_cons.mpr ⟨lw_p21, List.forall_mem_cons.mpr ⟨lw_p22, List.forall_mem_cons.mpr ⟨lw_p23, List.forall_mem_cons.mpr ⟨lw_p24, List.forall_mem_cons.mpr ⟨lw_p25, List.forall_mem_cons.mpr ⟨lw_p26, List.forall_mem_cons.mpr ⟨lw_p27, List.forall_mem_cons.mpr ⟨lw_p28, List.forall_mem_cons.mpr ⟨lw_p29, List.forall_mem_cons.mpr ⟨lw_p30, List.forall_mem_cons.mpr ⟨lw_p31, fun _ h => absurd h List.not_mem_nil⟩⟩⟩⟩⟩⟩⟩⟩⟩⟩⟩⟩⟩⟩⟩⟩
theorem lw_p32 : lw_okq (⟨"SunMirrorsModel", "doPass", "(I)I"⟩, 17) := ⟨⟨by decide +kernel, by decide +kernel⟩, List.mem_of_getElem? (i := 706) (by decide +kernel), List.mem_of_getElem? (i := 865) (by decide +kernel), List.mem_of_getElem? (i := 866) (by decide +kernel)⟩
theorem lw_p33 : lw_okq (⟨"SunMirrorsModel", "day", "()V"⟩, 17) := ⟨⟨by decide +kernel, by decide +kernel⟩, List.mem_of_getElem? (i := 706) (by decide +kernel), List.mem_of_getElem? (i := 869) (by decide +kernel), List.mem_of_getElem? (i := 870) (by decide +kernel)⟩
theorem lw_p34 : lw_okq (⟨"SunMirrorsModel", "looks", "(I)I"⟩, 17) := ⟨⟨by decide +kernel, by decide +kernel⟩, List.mem_of_getElem? (i := 706) (by decide +kernel), List.mem_of_getElem? (i := 873) (by decide +kernel), List.mem_of_getElem? (i := 874) (by decide +kernel)⟩
theorem lw_p35 : lw_okq (⟨"SunMirrorsModel", "gives", "(II)I"⟩, 17) := ⟨⟨by decide +kernel, by decide +kernel⟩, List.mem_of_getElem? (i := 706) (by decide +kernel), List.mem_of_getElem? (i := 877) (by decide +kernel), List.mem_of_getElem? (i := 878) (by decide +kernel)⟩
theorem lw_p36 : lw_okq (⟨"SunMirrorsModel", "shadeOf", "(II)I"⟩, 17) := ⟨⟨by decide +kernel, by decide +kernel⟩, List.mem_of_getElem? (i := 706) (by decide +kernel), List.mem_of_getElem? (i := 881) (by decide +kernel), List.mem_of_getElem? (i := 882) (by decide +kernel)⟩
theorem lw_p37 : lw_okq (⟨"SunMirrorsModel", "isBlocked", "(I)Z"⟩, 17) := ⟨⟨by decide +kernel, by decide +kernel⟩, List.mem_of_getElem? (i := 706) (by decide +kernel), List.mem_of_getElem? (i := 891) (by decide +kernel), List.mem_of_getElem? (i := 892) (by decide +kernel)⟩
theorem lw_p38 : lw_okq (⟨"SunMirrorsModel", "sorts", "()V"⟩, 17) := ⟨⟨by decide +kernel, by decide +kernel⟩, List.mem_of_getElem? (i := 706) (by decide +kernel), List.mem_of_getElem? (i := 896) (by decide +kernel), List.mem_of_getElem? (i := 897) (by decide +kernel)⟩
theorem lw_p39 : lw_okq (⟨"SunMirrorsModel", "mirrorsOf", "(IZ)I"⟩, 17) := ⟨⟨by decide +kernel, by decide +kernel⟩, List.mem_of_getElem? (i := 706) (by decide +kernel), List.mem_of_getElem? (i := 916) (by decide +kernel), List.mem_of_getElem? (i := 917) (by decide +kernel)⟩
theorem lw_p40 : lw_okq (⟨"SunMirrorsModel", "brings", "()I"⟩, 17) := ⟨⟨by decide +kernel, by decide +kernel⟩, List.mem_of_getElem? (i := 706) (by decide +kernel), List.mem_of_getElem? (i := 924) (by decide +kernel), List.mem_of_getElem? (i := 925) (by decide +kernel)⟩
theorem lw_p41 : lw_okq (⟨"SunMirrorsModel", "blockedOnes", "()I"⟩, 17) := ⟨⟨by decide +kernel, by decide +kernel⟩, List.mem_of_getElem? (i := 706) (by decide +kernel), List.mem_of_getElem? (i := 928) (by decide +kernel), List.mem_of_getElem? (i := 929) (by decide +kernel)⟩
theorem lw_p42 : lw_okq (⟨"SunMirrorsModel", "allDirt", "()I"⟩, 17) := ⟨⟨by decide +kernel, by decide +kernel⟩, List.mem_of_getElem? (i := 706) (by decide +kernel), List.mem_of_getElem? (i := 932) (by decide +kernel), List.mem_of_getElem? (i := 933) (by decide +kernel)⟩
theorem lw_p43 : lw_okq (⟨"SunMirrorsModel", "readsOrder", "()Z"⟩, 17) := ⟨⟨by decide +kernel, by decide +kernel⟩, List.mem_of_getElem? (i := 706) (by decide +kernel), List.mem_of_getElem? (i := 971) (by decide +kernel), List.mem_of_getElem? (i := 972) (by decide +kernel)⟩
theorem lw_p44 : lw_okq (⟨"SunMirrorsModel", "takes", "(I)Z"⟩, 17) := ⟨⟨by decide +kernel, by decide +kernel⟩, List.mem_of_getElem? (i := 706) (by decide +kernel), List.mem_of_getElem? (i := 975) (by decide +kernel), List.mem_of_getElem? (i := 976) (by decide +kernel)⟩
theorem lw_p45 : lw_okq (⟨"SunMirrorsModel", "isHere", "(II)Z"⟩, 17) := ⟨⟨by decide +kernel, by decide +kernel⟩, List.mem_of_getElem? (i := 706) (by decide +kernel), List.mem_of_getElem? (i := 979) (by decide +kernel), List.mem_of_getElem? (i := 980) (by decide +kernel)⟩
theorem lw_p46 : lw_okq (⟨"SunMirrorsModel", "readsMirror", "()Z"⟩, 17) := ⟨⟨by decide +kernel, by decide +kernel⟩, List.mem_of_getElem? (i := 706) (by decide +kernel), List.mem_of_getElem? (i := 983) (by decide +kernel), List.mem_of_getElem? (i := 984) (by decide +kernel)⟩
theorem lw_p47 : lw_okq (⟨"SunMirrorsModel", "readsNumber", "(I)Z"⟩, 17) := ⟨⟨by decide +kernel, by decide +kernel⟩, List.mem_of_getElem? (i := 706) (by decide +kernel), List.mem_of_getElem? (i := 987) (by decide +kernel), List.mem_of_getElem? (i := 988) (by decide +kernel)⟩
def lw_privs_3 : List (MethodName × Nat) := [(⟨"SunMirrorsModel", "doPass", "(I)I"⟩, 17), (⟨"SunMirrorsModel", "day", "()V"⟩, 17), (⟨"SunMirrorsModel", "looks", "(I)I"⟩, 17), (⟨"SunMirrorsModel", "gives", "(II)I"⟩, 17), (⟨"SunMirrorsModel", "shadeOf", "(II)I"⟩, 17), (⟨"SunMirrorsModel", "isBlocked", "(I)Z"⟩, 17), (⟨"SunMirrorsModel", "sorts", "()V"⟩, 17), (⟨"SunMirrorsModel", "mirrorsOf", "(IZ)I"⟩, 17), (⟨"SunMirrorsModel", "brings", "()I"⟩, 17), (⟨"SunMirrorsModel", "blockedOnes", "()I"⟩, 17), (⟨"SunMirrorsModel", "allDirt", "()I"⟩, 17), (⟨"SunMirrorsModel", "readsOrder", "()Z"⟩, 17), (⟨"SunMirrorsModel", "takes", "(I)Z"⟩, 17), (⟨"SunMirrorsModel", "isHere", "(II)Z"⟩, 17), (⟨"SunMirrorsModel", "readsMirror", "()Z"⟩, 17), (⟨"SunMirrorsModel", "readsNumber", "(I)Z"⟩, 17)]
theorem lw_r3 : ∀ q ∈ lw_privs_3, lw_okq q := List.forall_mem_cons.mpr ⟨lw_p32, List.forall_mem_cons.mpr ⟨lw_p33, List.forall_mem_cons.mpr ⟨lw_p34, List.forall_mem_cons.mpr ⟨lw_p35, List.forall_mem_cons.mpr ⟨lw_p36, List.forall_mem_cons.mpr ⟨lw_p37, List.forall_mem_cons.mpr ⟨lw_p38, List.forall_mem_cons.mpr ⟨lw_p39, List.forall_mem_cons.mpr ⟨lw_p40, List.forall_mem_cons.mpr ⟨lw_p41, List.forall_mem_cons.mpr ⟨lw_p42, List.forall_mem_cons.mpr ⟨lw_p43, List.forall_mem_cons.mpr ⟨lw_p44, List.forall_mem_cons.mpr ⟨lw_p45, List.forall_mem_cons.mpr ⟨lw_p46, List.forall_mem_cons.mpr ⟨lw_p47, fun _ h => absurd h List.not_mem_nil⟩⟩⟩⟩⟩⟩⟩⟩⟩⟩⟩⟩⟩⟩⟩⟩
theorem lw_p48 : lw_okq (⟨"SunMirrorsModel", "does", "(I)V"⟩, 17) := ⟨⟨by decide +kernel, by decide +kernel⟩, List.mem_of_getElem? (i := 706) (by decide +kernel), List.mem_of_getElem? (i := 991) (by decide +kernel), List.mem_of_getElem? (i := 992) (by decide +kernel)⟩
theorem lw_p49 : lw_okq (⟨"SunMirrorsModel", "readsAim", "()Z"⟩, 17) := ⟨⟨by decide +kernel, by decide +kernel⟩, List.mem_of_getElem? (i := 706) (by decide +kernel), List.mem_of_getElem? (i := 995) (by decide +kernel), List.mem_of_getElem? (i := 996) (by decide +kernel)⟩
def lw_privs_4 : List (MethodName × Nat) := [(⟨"SunMirrorsModel", "does", "(I)V"⟩, 17), (⟨"SunMirrorsModel", "readsAim", "()Z"⟩, 17)]
theorem lw_r4 : ∀ q ∈ lw_privs_4, lw_okq q := List.forall_mem_cons.mpr ⟨lw_p48, List.forall_mem_cons.mpr ⟨lw_p49, fun _ h => absurd h List.not_mem_nil⟩⟩
def lw_privs : List (MethodName × Nat) := lw_privs_1 ++ (lw_privs_2 ++ (lw_privs_3 ++ (lw_privs_4)))
def lw_tbl : List Cond := k2_sels lw_privs ++ tables_1
theorem lw_privs_ok : ∀ q ∈ lw_privs, lw_okq q := by
  show ∀ q ∈ lw_privs_1 ++ (lw_privs_2 ++ (lw_privs_3 ++ (lw_privs_4))), lw_okq q
  exact List.forall_mem_append.mpr ⟨lw_r1, List.forall_mem_append.mpr ⟨lw_r2, List.forall_mem_append.mpr ⟨lw_r3, lw_r4⟩⟩⟩
end
section
theorem goodIn_r {big : List Cond} (ws : List Cond) (ps : List Nat) (hp : ws = ps.filterMap (fun i => big[i]?)) (h : ws.all goodWord = true) : GoodIn big ws := by
  intro w hw
  have h1 := List.all_eq_true.mp h w hw
  rw [hp] at hw
  obtain ⟨i, -, hi⟩ := List.mem_filterMap.mp hw
  have hm : w ∈ big := by first | exact List.mem_of_getElem? hi | exact List.getElem?_mem hi
  exact ⟨hm, good_of_word h1⟩
theorem goodIn_app {big a b : List Cond} (ha : GoodIn big a) (hb : GoodIn big b) : GoodIn big (a ++ b) := fun w h => (List.mem_append.mp h).elim (ha w) (hb w)
theorem goodIn_ca {big a b : List Cond} {c : Cond} (ha : GoodIn big (c :: a)) (hb : GoodIn big b) : GoodIn big (c :: (a ++ b)) := fun w h => (List.mem_cons.mp h).elim (fun e => ha w (List.mem_cons.mpr (Or.inl e))) (fun h => (List.mem_append.mp h).elim (fun h => ha w (List.mem_cons.mpr (Or.inr h))) (hb w))
theorem goodIn_sub {big ws : List Cond} (hm : ∀ w ∈ ws, w ∈ big) (h : ws.all goodWord = true) : GoodIn big ws := fun w hw => ⟨hm w hw, good_of_word (List.all_eq_true.mp h w hw)⟩
def RX0 : String := "SunMirrors$Advice"
def TX0 : u_T := fun k => match k with
  | 0 => ("SunMirrors$Advice", "field", "LSunMirrors$Field;", true)
  | 1 => ("SunMirrors$Advice", "trial", "LSunMirrors$Field;", true)
  | 2 => ("SunMirrors$Advice", "light", "LSunMirrors$Light;", true)
  | 3 => ("SunMirrors$Advice", "best", "I", false)
  | _ => ("SunMirrors$Advice", "bestBrings", "I", false)
def tyX0 : Nat → FieldType := fun k => match k with
  | 0 => .object "SunMirrors$Field"
  | 1 => .object "SunMirrors$Field"
  | 2 => .object "SunMirrors$Light"
  | 3 => .int
  | _ => .int
abbrev wsX00 : List Cond := u_ws RX0 TX0 5
theorem nmX0 : ∀ a, a < 5 → ∀ b, b < 5 → a ≠ b → (TX0 a).2.1 ≠ (TX0 b).2.1 := by decide +kernel
theorem tyX0_ok : ∀ k, k < 5 → parseFieldDescriptor (TX0 k).2.2.1 = some (tyX0 k) := by decide +kernel
abbrev cX0_init : ByteArray := prog_2_method_1_code
def yX0_init : MethodName := ⟨RX0, "<init>", "(LSunMirrors$Field;)V"⟩
abbrev cX0_leastWorth : ByteArray := prog_2_method_2_code
def yX0_leastWorth : MethodName := ⟨RX0, "leastWorth", "(I)I"⟩
abbrev cX0_columnForOneMore : ByteArray := prog_2_method_3_code
def yX0_columnForOneMore : MethodName := ⟨RX0, "columnForOneMore", "(III)I"⟩
abbrev cX0_mirrorToWash : ByteArray := prog_2_method_4_code
def yX0_mirrorToWash : MethodName := ⟨RX0, "mirrorToWash", "()I"⟩
abbrev cX0_limitForAll : ByteArray := prog_2_method_5_code
def yX0_limitForAll : MethodName := ⟨RX0, "limitForAll", "()I"⟩
abbrev cX0_forgetBest : ByteArray := prog_2_method_6_code
def yX0_forgetBest : MethodName := ⟨RX0, "forgetBest", "()V"⟩
abbrev cX0_weigh : ByteArray := prog_2_method_7_code
def yX0_weigh : MethodName := ⟨RX0, "weigh", "(I)V"⟩
abbrev cX0_answer : ByteArray := prog_2_method_8_code
def yX0_answer : MethodName := ⟨RX0, "answer", "(I)I"⟩
def RX1 : String := "SunMirrors$Cells"
def TX1 : u_T := fun k => match k with
  | _ => ("SunMirrors$Cells", "numbers", "[I", true)
def tyX1 : Nat → FieldType := fun k => match k with
  | _ => .array .int
abbrev wsX10 : List Cond := u_ws RX1 TX1 1
theorem nmX1 : ∀ a, a < 1 → ∀ b, b < 1 → a ≠ b → (TX1 a).2.1 ≠ (TX1 b).2.1 := by decide +kernel
theorem tyX1_ok : ∀ k, k < 1 → parseFieldDescriptor (TX1 k).2.2.1 = some (tyX1 k) := by decide +kernel
abbrev cX1_init : ByteArray := prog_3_method_1_code
def yX1_init : MethodName := ⟨RX1, "<init>", "(I)V"⟩
abbrev cX1_read : ByteArray := prog_3_method_2_code
def yX1_read : MethodName := ⟨RX1, "read", "(I)I"⟩
abbrev cX1_write : ByteArray := prog_3_method_3_code
def yX1_write : MethodName := ⟨RX1, "write", "(II)V"⟩
abbrev cX1_fill : ByteArray := prog_3_method_4_code
def yX1_fill : MethodName := ⟨RX1, "fill", "(I)V"⟩
abbrev cX1_copy : ByteArray := prog_3_method_5_code
def yX1_copy : MethodName := ⟨RX1, "copy", "(LSunMirrors$Cells;)V"⟩
abbrev cX1_leaveOut : ByteArray := prog_3_method_6_code
def yX1_leaveOut : MethodName := ⟨RX1, "leaveOut", "(I)V"⟩
def RX2 : String := "SunMirrors$Field"
def TX2 : u_T := fun k => match k with
  | 0 => ("SunMirrors$Field", "settings", "LSunMirrors$Cells;", true)
  | 1 => ("SunMirrors$Field", "rows", "LSunMirrors$Cells;", true)
  | 2 => ("SunMirrors$Field", "columns", "LSunMirrors$Cells;", true)
  | 3 => ("SunMirrors$Field", "aims", "LSunMirrors$Cells;", true)
  | 4 => ("SunMirrors$Field", "dusts", "LSunMirrors$Cells;", true)
  | 5 => ("SunMirrors$Field", "brought", "LSunMirrors$Cells;", true)
  | 6 => ("SunMirrors$Field", "mirrors", "I", false)
  | 7 => ("SunMirrors$Field", "wind", "I", false)
  | 8 => ("SunMirrors$Field", "days", "I", false)
  | _ => ("SunMirrors$Field", "broughtByAll", "I", false)
def tyX2 : Nat → FieldType := fun k => match k with
  | 0 => .object "SunMirrors$Cells"
  | 1 => .object "SunMirrors$Cells"
  | 2 => .object "SunMirrors$Cells"
  | 3 => .object "SunMirrors$Cells"
  | 4 => .object "SunMirrors$Cells"
  | 5 => .object "SunMirrors$Cells"
  | 6 => .int
  | 7 => .int
  | 8 => .int
  | _ => .int
abbrev wsX20 : List Cond := u_ws RX2 TX2 10
theorem nmX2 : ∀ a, a < 10 → ∀ b, b < 10 → a ≠ b → (TX2 a).2.1 ≠ (TX2 b).2.1 := by decide +kernel
theorem tyX2_ok : ∀ k, k < 10 → parseFieldDescriptor (TX2 k).2.2.1 = some (tyX2 k) := by decide +kernel
abbrev cX2_init : ByteArray := prog_4_method_1_code
def yX2_init : MethodName := ⟨RX2, "<init>", "()V"⟩
abbrev cX2_copy : ByteArray := prog_4_method_2_code
def yX2_copy : MethodName := ⟨RX2, "copy", "(LSunMirrors$Field;)V"⟩
abbrev cX2_changeSetting : ByteArray := prog_4_method_3_code
def yX2_changeSetting : MethodName := ⟨RX2, "changeSetting", "(II)I"⟩
abbrev cX2_isSettingValue : ByteArray := prog_4_method_4_code
def yX2_isSettingValue : MethodName := ⟨RX2, "isSettingValue", "(II)Z"⟩
abbrev cX2_place : ByteArray := prog_4_method_5_code
def yX2_place : MethodName := ⟨RX2, "place", "(III)I"⟩
abbrev cX2_add : ByteArray := prog_4_method_6_code
def yX2_add : MethodName := ⟨RX2, "add", "(III)I"⟩
abbrev cX2_remove : ByteArray := prog_4_method_7_code
def yX2_remove : MethodName := ⟨RX2, "remove", "(I)I"⟩
abbrev cX2_turn : ByteArray := prog_4_method_8_code
def yX2_turn : MethodName := ⟨RX2, "turn", "(II)I"⟩
abbrev cX2_clean : ByteArray := prog_4_method_9_code
def yX2_clean : MethodName := ⟨RX2, "clean", "(I)I"⟩
abbrev cX2_blow : ByteArray := prog_4_method_10_code
def yX2_blow : MethodName := ⟨RX2, "blow", "(I)I"⟩
abbrev cX2_credit : ByteArray := prog_4_method_11_code
def yX2_credit : MethodName := ⟨RX2, "credit", "(II)V"⟩
abbrev cX2_endDay : ByteArray := prog_4_method_12_code
def yX2_endDay : MethodName := ⟨RX2, "endDay", "(I)V"⟩
abbrev cX2_isMirror : ByteArray := prog_4_method_13_code
def yX2_isMirror : MethodName := ⟨RX2, "isMirror", "(I)Z"⟩
abbrev cX2_mirrorIn : ByteArray := prog_4_method_14_code
def yX2_mirrorIn : MethodName := ⟨RX2, "mirrorIn", "(II)I"⟩
abbrev cX2_mirrorsOf : ByteArray := prog_4_method_15_code
def yX2_mirrorsOf : MethodName := ⟨RX2, "mirrorsOf", "(I)I"⟩
abbrev cX2_allDust : ByteArray := prog_4_method_16_code
def yX2_allDust : MethodName := ⟨RX2, "allDust", "()I"⟩
abbrev cX2_liesFlat : ByteArray := prog_4_method_17_code
def yX2_liesFlat : MethodName := ⟨RX2, "liesFlat", "()Z"⟩
def RX3 : String := "SunMirrors$History"
def TX3 : u_T := fun k => match k with
  | 0 => ("SunMirrors$History", "states", "LSunMirrors$Shelf;", true)
  | 1 => ("SunMirrors$History", "next", "I", false)
  | _ => ("SunMirrors$History", "size", "I", false)
def tyX3 : Nat → FieldType := fun k => match k with
  | 0 => .object "SunMirrors$Shelf"
  | 1 => .int
  | _ => .int
abbrev wsX30 : List Cond := u_ws RX3 TX3 3
theorem nmX3 : ∀ a, a < 3 → ∀ b, b < 3 → a ≠ b → (TX3 a).2.1 ≠ (TX3 b).2.1 := by decide +kernel
theorem tyX3_ok : ∀ k, k < 3 → parseFieldDescriptor (TX3 k).2.2.1 = some (tyX3 k) := by decide +kernel
abbrev cX3_init : ByteArray := prog_5_method_1_code
def yX3_init : MethodName := ⟨RX3, "<init>", "()V"⟩
abbrev cX3_note : ByteArray := prog_5_method_2_code
def yX3_note : MethodName := ⟨RX3, "note", "(LSunMirrors$Field;)V"⟩
abbrev cX3_keepNote : ByteArray := prog_5_method_3_code
def yX3_keepNote : MethodName := ⟨RX3, "keepNote", "()V"⟩
abbrev cX3_stepBack : ByteArray := prog_5_method_4_code
def yX3_stepBack : MethodName := ⟨RX3, "stepBack", "(LSunMirrors$Field;)Z"⟩
abbrev cX3_size : ByteArray := prog_5_method_5_code
def yX3_size : MethodName := ⟨RX3, "size", "()I"⟩
def RX4 : String := "SunMirrors$Light"
def TX4 : u_T := fun k => match k with
  | 0 => ("SunMirrors$Light", "field", "LSunMirrors$Field;", true)
  | 1 => ("SunMirrors$Light", "places", "LSunMirrors$Cells;", true)
  | 2 => ("SunMirrors$Light", "shaders", "LSunMirrors$Cells;", true)
  | 3 => ("SunMirrors$Light", "gives", "LSunMirrors$Cells;", true)
  | 4 => ("SunMirrors$Light", "order", "LSunMirrors$Cells;", true)
  | 5 => ("SunMirrors$Light", "held", "LSunMirrors$Cells;", true)
  | 6 => ("SunMirrors$Light", "blocked", "I", false)
  | _ => ("SunMirrors$Light", "used", "I", false)
def tyX4 : Nat → FieldType := fun k => match k with
  | 0 => .object "SunMirrors$Field"
  | 1 => .object "SunMirrors$Cells"
  | 2 => .object "SunMirrors$Cells"
  | 3 => .object "SunMirrors$Cells"
  | 4 => .object "SunMirrors$Cells"
  | 5 => .object "SunMirrors$Cells"
  | 6 => .int
  | _ => .int
abbrev wsX40 : List Cond := u_ws RX4 TX4 8
theorem nmX4 : ∀ a, a < 8 → ∀ b, b < 8 → a ≠ b → (TX4 a).2.1 ≠ (TX4 b).2.1 := by decide +kernel
theorem tyX4_ok : ∀ k, k < 8 → parseFieldDescriptor (TX4 k).2.2.1 = some (tyX4 k) := by decide +kernel
abbrev cX4_init : ByteArray := prog_6_method_1_code
def yX4_init : MethodName := ⟨RX4, "<init>", "(LSunMirrors$Field;)V"⟩
abbrev cX4_look : ByteArray := prog_6_method_2_code
def yX4_look : MethodName := ⟨RX4, "look", "()V"⟩
abbrev cX4_hasBlocker : ByteArray := prog_6_method_3_code
def yX4_hasBlocker : MethodName := ⟨RX4, "hasBlocker", "(I)Z"⟩
abbrev cX4_nearestShader : ByteArray := prog_6_method_4_code
def yX4_nearestShader : MethodName := ⟨RX4, "nearestShader", "(II)I"⟩
abbrev cX4_inPlace : ByteArray := prog_6_method_5_code
def yX4_inPlace : MethodName := ⟨RX4, "inPlace", "(II)I"⟩
abbrev cX4_work : ByteArray := prog_6_method_6_code
def yX4_work : MethodName := ⟨RX4, "work", "(I)I"⟩
abbrev cX4_gift : ByteArray := prog_6_method_7_code
def yX4_gift : MethodName := ⟨RX4, "gift", "(II)I"⟩
abbrev cX4_putInOrder : ByteArray := prog_6_method_8_code
def yX4_putInOrder : MethodName := ⟨RX4, "putInOrder", "(I)V"⟩
abbrev cX4_useIfBearable : ByteArray := prog_6_method_9_code
def yX4_useIfBearable : MethodName := ⟨RX4, "useIfBearable", "(I)I"⟩
abbrev cX4_day : ByteArray := prog_6_method_10_code
def yX4_day : MethodName := ⟨RX4, "day", "()I"⟩
abbrev cX4_spend : ByteArray := prog_6_method_11_code
def yX4_spend : MethodName := ⟨RX4, "spend", "(I)I"⟩
abbrev cX4_creditUsed : ByteArray := prog_6_method_12_code
def yX4_creditUsed : MethodName := ⟨RX4, "creditUsed", "()V"⟩
abbrev cX4_isBlocked : ByteArray := prog_6_method_13_code
def yX4_isBlocked : MethodName := ⟨RX4, "isBlocked", "(I)Z"⟩
abbrev cX4_blocked : ByteArray := prog_6_method_14_code
def yX4_blocked : MethodName := ⟨RX4, "blocked", "()I"⟩
abbrev cX4_shader : ByteArray := prog_6_method_15_code
def yX4_shader : MethodName := ⟨RX4, "shader", "(II)I"⟩
abbrev cX4_given : ByteArray := prog_6_method_16_code
def yX4_given : MethodName := ⟨RX4, "given", "(I)I"⟩
abbrev cX4_isUsed : ByteArray := prog_6_method_17_code
def yX4_isUsed : MethodName := ⟨RX4, "isUsed", "(I)Z"⟩
abbrev cX4_used : ByteArray := prog_6_method_18_code
def yX4_used : MethodName := ⟨RX4, "used", "()I"⟩
abbrev cX4_held : ByteArray := prog_6_method_19_code
def yX4_held : MethodName := ⟨RX4, "held", "(I)I"⟩
def RX5 : String := "SunMirrors$Pad"
def TX5 : u_T := fun k => match k with
  | 0 => ("SunMirrors$Pad", "signs", "LSunMirrors$Cells;", true)
  | _ => ("SunMirrors$Pad", "length", "I", false)
def tyX5 : Nat → FieldType := fun k => match k with
  | 0 => .object "SunMirrors$Cells"
  | _ => .int
abbrev wsX50 : List Cond := u_ws RX5 TX5 2
theorem nmX5 : ∀ a, a < 2 → ∀ b, b < 2 → a ≠ b → (TX5 a).2.1 ≠ (TX5 b).2.1 := by decide +kernel
theorem tyX5_ok : ∀ k, k < 2 → parseFieldDescriptor (TX5 k).2.2.1 = some (tyX5 k) := by decide +kernel
abbrev cX5_init : ByteArray := prog_7_method_1_code
def yX5_init : MethodName := ⟨RX5, "<init>", "()V"⟩
abbrev cX5_append : ByteArray := prog_7_method_2_code
def yX5_append : MethodName := ⟨RX5, "append", "(J)I"⟩
abbrev cX5_countSigns : ByteArray := prog_7_method_3_code
def yX5_countSigns : MethodName := ⟨RX5, "countSigns", "(J)I"⟩
abbrev cX5_signFromEnd : ByteArray := prog_7_method_4_code
def yX5_signFromEnd : MethodName := ⟨RX5, "signFromEnd", "(JI)I"⟩
abbrev cX5_empty : ByteArray := prog_7_method_5_code
def yX5_empty : MethodName := ⟨RX5, "empty", "()I"⟩
abbrev cX5_length : ByteArray := prog_7_method_6_code
def yX5_length : MethodName := ⟨RX5, "length", "()I"⟩
abbrev cX5_sign : ByteArray := prog_7_method_7_code
def yX5_sign : MethodName := ⟨RX5, "sign", "(I)I"⟩
def RX6 : String := "SunMirrors$Reader"
def TX6 : u_T := fun k => match k with
  | 0 => ("SunMirrors$Reader", "pad", "LSunMirrors$Pad;", true)
  | 1 => ("SunMirrors$Reader", "kinds", "LSunMirrors$Cells;", true)
  | 2 => ("SunMirrors$Reader", "firsts", "LSunMirrors$Cells;", true)
  | 3 => ("SunMirrors$Reader", "seconds", "LSunMirrors$Cells;", true)
  | 4 => ("SunMirrors$Reader", "thirds", "LSunMirrors$Cells;", true)
  | 5 => ("SunMirrors$Reader", "orders", "I", false)
  | 6 => ("SunMirrors$Reader", "position", "I", false)
  | _ => ("SunMirrors$Reader", "broken", "Z", false)
def tyX6 : Nat → FieldType := fun k => match k with
  | 0 => .object "SunMirrors$Pad"
  | 1 => .object "SunMirrors$Cells"
  | 2 => .object "SunMirrors$Cells"
  | 3 => .object "SunMirrors$Cells"
  | 4 => .object "SunMirrors$Cells"
  | 5 => .int
  | 6 => .int
  | _ => .boolean
abbrev wsX60 : List Cond := u_ws RX6 TX6 8
theorem nmX6 : ∀ a, a < 8 → ∀ b, b < 8 → a ≠ b → (TX6 a).2.1 ≠ (TX6 b).2.1 := by decide +kernel
theorem tyX6_ok : ∀ k, k < 8 → parseFieldDescriptor (TX6 k).2.2.1 = some (tyX6 k) := by decide +kernel
abbrev cX6_init : ByteArray := prog_8_method_1_code
def yX6_init : MethodName := ⟨RX6, "<init>", "(LSunMirrors$Pad;)V"⟩
abbrev cX6_read : ByteArray := prog_8_method_2_code
def yX6_read : MethodName := ⟨RX6, "read", "()I"⟩
abbrev cX6_readOrder : ByteArray := prog_8_method_3_code
def yX6_readOrder : MethodName := ⟨RX6, "readOrder", "(I)V"⟩
abbrev cX6_isKind : ByteArray := prog_8_method_4_code
def yX6_isKind : MethodName := ⟨RX6, "isKind", "(I)Z"⟩
abbrev cX6_readNumber : ByteArray := prog_8_method_5_code
def yX6_readNumber : MethodName := ⟨RX6, "readNumber", "()I"⟩
abbrev cX6_readDigit : ByteArray := prog_8_method_6_code
def yX6_readDigit : MethodName := ⟨RX6, "readDigit", "(I)I"⟩
abbrev cX6_accept : ByteArray := prog_8_method_7_code
def yX6_accept : MethodName := ⟨RX6, "accept", "(C)Z"⟩
abbrev cX6_expect : ByteArray := prog_8_method_8_code
def yX6_expect : MethodName := ⟨RX6, "expect", "(C)V"⟩
abbrev cX6_orders : ByteArray := prog_8_method_9_code
def yX6_orders : MethodName := ⟨RX6, "orders", "()I"⟩
abbrev cX6_kind : ByteArray := prog_8_method_10_code
def yX6_kind : MethodName := ⟨RX6, "kind", "(I)I"⟩
abbrev cX6_first : ByteArray := prog_8_method_11_code
def yX6_first : MethodName := ⟨RX6, "first", "(I)I"⟩
abbrev cX6_second : ByteArray := prog_8_method_12_code
def yX6_second : MethodName := ⟨RX6, "second", "(I)I"⟩
abbrev cX6_third : ByteArray := prog_8_method_13_code
def yX6_third : MethodName := ⟨RX6, "third", "(I)I"⟩
def RX7 : String := "SunMirrors$Shelf"
def TX7 : u_T := fun k => match k with
  | _ => ("SunMirrors$Shelf", "states", "[LSunMirrors$Field;", true)
def tyX7 : Nat → FieldType := fun k => match k with
  | _ => .array (.object "SunMirrors$Field")
abbrev wsX70 : List Cond := u_ws RX7 TX7 1
theorem nmX7 : ∀ a, a < 1 → ∀ b, b < 1 → a ≠ b → (TX7 a).2.1 ≠ (TX7 b).2.1 := by decide +kernel
theorem tyX7_ok : ∀ k, k < 1 → parseFieldDescriptor (TX7 k).2.2.1 = some (tyX7 k) := by decide +kernel
abbrev cX7_init : ByteArray := prog_9_method_1_code
def yX7_init : MethodName := ⟨RX7, "<init>", "(I)V"⟩
abbrev cX7_keep : ByteArray := prog_9_method_2_code
def yX7_keep : MethodName := ⟨RX7, "keep", "(ILSunMirrors$Field;)V"⟩
abbrev cX7_bringBack : ByteArray := prog_9_method_3_code
def yX7_bringBack : MethodName := ⟨RX7, "bringBack", "(ILSunMirrors$Field;)V"⟩
abbrev cX7_state : ByteArray := prog_9_method_4_code
def yX7_state : MethodName := ⟨RX7, "state", "(I)LSunMirrors$Field;"⟩
def RX8 : String := "SunMirrors$Sun"
def TX8 : u_T := fun k => match k with
  | _ => ("", "", "", false)
def tyX8 : Nat → FieldType := fun k => match k with
  | _ => .int
abbrev wsX80 : List Cond := u_ws RX8 TX8 0
theorem nmX8 : ∀ a, a < 0 → ∀ b, b < 0 → a ≠ b → (TX8 a).2.1 ≠ (TX8 b).2.1 := by decide +kernel
theorem tyX8_ok : ∀ k, k < 0 → parseFieldDescriptor (TX8 k).2.2.1 = some (tyX8 k) := by decide +kernel
abbrev cX8_isHour : ByteArray := prog_10_method_2_code
def yX8_isHour : MethodName := ⟨RX8, "isHour", "(I)Z"⟩
abbrev cX8_height : ByteArray := prog_10_method_3_code
def yX8_height : MethodName := ⟨RX8, "height", "(I)I"⟩
abbrev cX8_columns : ByteArray := prog_10_method_4_code
def yX8_columns : MethodName := ⟨RX8, "columns", "(I)I"⟩
def RX9 : String := "SunMirrors"
def TX9 : u_T := fun k => match k with
  | 0 => ("SunMirrors", "field", "LSunMirrors$Field;", true)
  | 1 => ("SunMirrors", "light", "LSunMirrors$Light;", true)
  | 2 => ("SunMirrors", "advice", "LSunMirrors$Advice;", true)
  | 3 => ("SunMirrors", "pad", "LSunMirrors$Pad;", true)
  | 4 => ("SunMirrors", "reader", "LSunMirrors$Reader;", true)
  | 5 => ("SunMirrors", "history", "LSunMirrors$History;", true)
  | 6 => ("SunMirrors", "slots", "LSunMirrors$Shelf;", true)
  | _ => ("SunMirrors", "savedSlots", "I", false)
def tyX9 : Nat → FieldType := fun k => match k with
  | 0 => .object "SunMirrors$Field"
  | 1 => .object "SunMirrors$Light"
  | 2 => .object "SunMirrors$Advice"
  | 3 => .object "SunMirrors$Pad"
  | 4 => .object "SunMirrors$Reader"
  | 5 => .object "SunMirrors$History"
  | 6 => .object "SunMirrors$Shelf"
  | _ => .int
abbrev wsX90 : List Cond := u_ws RX9 TX9 8
theorem nmX9 : ∀ a, a < 8 → ∀ b, b < 8 → a ≠ b → (TX9 a).2.1 ≠ (TX9 b).2.1 := by decide +kernel
theorem tyX9_ok : ∀ k, k < 8 → parseFieldDescriptor (TX9 k).2.2.1 = some (tyX9 k) := by decide +kernel
abbrev cX9_init : ByteArray := prog_1_method_1_code
def yX9_init : MethodName := ⟨RX9, "<init>", "()V"⟩
abbrev cX9_set : ByteArray := prog_1_method_2_code
def yX9_set : MethodName := ⟨RX9, "set", "(II)I"⟩
abbrev cX9_mirror : ByteArray := prog_1_method_3_code
def yX9_mirror : MethodName := ⟨RX9, "mirror", "(III)I"⟩
abbrev cX9_take : ByteArray := prog_1_method_4_code
def yX9_take : MethodName := ⟨RX9, "take", "(I)I"⟩
abbrev cX9_aim : ByteArray := prog_1_method_5_code
def yX9_aim : MethodName := ⟨RX9, "aim", "(II)I"⟩
abbrev cX9_wash : ByteArray := prog_1_method_6_code
def yX9_wash : MethodName := ⟨RX9, "wash", "(I)I"⟩
abbrev cX9_wind : ByteArray := prog_1_method_7_code
def yX9_wind : MethodName := ⟨RX9, "wind", "(I)I"⟩
abbrev cX9_pass : ByteArray := prog_1_method_8_code
def yX9_pass : MethodName := ⟨RX9, "pass", "(I)I"⟩
abbrev cX9_of : ByteArray := prog_1_method_9_code
def yX9_of : MethodName := ⟨RX9, "of", "(II)I"⟩
abbrev cX9_at : ByteArray := prog_1_method_10_code
def yX9_at : MethodName := ⟨RX9, "at", "(III)I"⟩
abbrev cX9_point : ByteArray := prog_1_method_11_code
def yX9_point : MethodName := ⟨RX9, "point", "(III)I"⟩
abbrev cX9_count : ByteArray := prog_1_method_12_code
def yX9_count : MethodName := ⟨RX9, "count", "(I)I"⟩
abbrev cX9_in : ByteArray := prog_1_method_13_code
def yX9_in : MethodName := ⟨RX9, "in", "(II)I"⟩
abbrev cX9_worthLeast : ByteArray := prog_1_method_14_code
def yX9_worthLeast : MethodName := ⟨RX9, "worthLeast", "(I)I"⟩
abbrev cX9_bestColumn : ByteArray := prog_1_method_15_code
def yX9_bestColumn : MethodName := ⟨RX9, "bestColumn", "(III)I"⟩
abbrev cX9_toWash : ByteArray := prog_1_method_16_code
def yX9_toWash : MethodName := ⟨RX9, "toWash", "()I"⟩
abbrev cX9_leastLimit : ByteArray := prog_1_method_17_code
def yX9_leastLimit : MethodName := ⟨RX9, "leastLimit", "()I"⟩
abbrev cX9_put : ByteArray := prog_1_method_18_code
def yX9_put : MethodName := ⟨RX9, "put", "(J)I"⟩
abbrev cX9_wipe : ByteArray := prog_1_method_19_code
def yX9_wipe : MethodName := ⟨RX9, "wipe", "()I"⟩
abbrev cX9_fault : ByteArray := prog_1_method_20_code
def yX9_fault : MethodName := ⟨RX9, "fault", "()I"⟩
abbrev cX9_carryOut : ByteArray := prog_1_method_21_code
def yX9_carryOut : MethodName := ⟨RX9, "carryOut", "()I"⟩
abbrev cX9_undo : ByteArray := prog_1_method_22_code
def yX9_undo : MethodName := ⟨RX9, "undo", "()I"⟩
abbrev cX9_save : ByteArray := prog_1_method_23_code
def yX9_save : MethodName := ⟨RX9, "save", "(I)I"⟩
abbrev cX9_restore : ByteArray := prog_1_method_24_code
def yX9_restore : MethodName := ⟨RX9, "restore", "(I)I"⟩
abbrev cX9_recorded : ByteArray := prog_1_method_25_code
def yX9_recorded : MethodName := ⟨RX9, "recorded", "(I)I"⟩
abbrev cX9_carry : ByteArray := prog_1_method_26_code
def yX9_carry : MethodName := ⟨RX9, "carry", "(I)I"⟩
abbrev cX9_isPlace : ByteArray := prog_1_method_27_code
def yX9_isPlace : MethodName := ⟨RX9, "isPlace", "(II)Z"⟩
abbrev cX9_isAimPoint : ByteArray := prog_1_method_28_code
def yX9_isAimPoint : MethodName := ⟨RX9, "isAimPoint", "(I)Z"⟩
abbrev cX9_isChoice : ByteArray := prog_1_method_29_code
def yX9_isChoice : MethodName := ⟨RX9, "isChoice", "(I)Z"⟩
abbrev cX9_isSlot : ByteArray := prog_1_method_30_code
def yX9_isSlot : MethodName := ⟨RX9, "isSlot", "(I)Z"⟩
def RX10 : String := "SunMirrorsModel"
def TX10 : u_T := fun k => match k with
  | 0 => ("SunMirrorsModel", "all", "[I", true)
  | 1 => ("SunMirrorsModel", "kept", "[I", true)
  | 2 => ("SunMirrorsModel", "tried", "[I", true)
  | 3 => ("SunMirrorsModel", "history", "[I", true)
  | 4 => ("SunMirrorsModel", "historyLong", "I", false)
  | 5 => ("SunMirrorsModel", "slots", "[I", true)
  | 6 => ("SunMirrorsModel", "isSaved", "[I", true)
  | 7 => ("SunMirrorsModel", "given", "[I", true)
  | 8 => ("SunMirrorsModel", "isUsed", "[I", true)
  | 9 => ("SunMirrorsModel", "has", "[I", true)
  | 10 => ("SunMirrorsModel", "order", "[I", true)
  | 11 => ("SunMirrorsModel", "pad", "[I", true)
  | 12 => ("SunMirrorsModel", "padLong", "I", false)
  | 13 => ("SunMirrorsModel", "spot", "I", false)
  | 14 => ("SunMirrorsModel", "number", "I", false)
  | 15 => ("SunMirrorsModel", "isDone", "Z", false)
  | _ => ("SunMirrorsModel", "error", "I", false)
def tyX10 : Nat → FieldType := fun k => match k with
  | 0 => .array .int
  | 1 => .array .int
  | 2 => .array .int
  | 3 => .array .int
  | 4 => .int
  | 5 => .array .int
  | 6 => .array .int
  | 7 => .array .int
  | 8 => .array .int
  | 9 => .array .int
  | 10 => .array .int
  | 11 => .array .int
  | 12 => .int
  | 13 => .int
  | 14 => .int
  | 15 => .boolean
  | _ => .int
abbrev wsX100 : List Cond := u_ws RX10 TX10 17
theorem nmX10 : ∀ a, a < 17 → ∀ b, b < 17 → a ≠ b → (TX10 a).2.1 ≠ (TX10 b).2.1 := by decide +kernel
theorem tyX10_ok : ∀ k, k < 17 → parseFieldDescriptor (TX10 k).2.2.1 = some (tyX10 k) := by decide +kernel
abbrev cX10_init : ByteArray := prog_12_method_1_code
def yX10_init : MethodName := ⟨RX10, "<init>", "()V"⟩
abbrev cX10_isIn : ByteArray := prog_12_method_3_code
def yX10_isIn : MethodName := ⟨RX10, "isIn", "(JJJ)Z"⟩
abbrev cX10_copy : ByteArray := prog_12_method_4_code
def yX10_copy : MethodName := ⟨RX10, "copy", "([I[I)V"⟩
abbrev cX10_changed : ByteArray := prog_12_method_5_code
def yX10_changed : MethodName := ⟨RX10, "changed", "(I)I"⟩
abbrev cX10_size : ByteArray := prog_12_method_6_code
def yX10_size : MethodName := ⟨RX10, "size", "(I)I"⟩
abbrev cX10_high : ByteArray := prog_12_method_7_code
def yX10_high : MethodName := ⟨RX10, "high", "(I)I"⟩
abbrev cX10_its : ByteArray := prog_12_method_8_code
def yX10_its : MethodName := ⟨RX10, "its", "(II)I"⟩
abbrev cX10_sets : ByteArray := prog_12_method_9_code
def yX10_sets : MethodName := ⟨RX10, "sets", "(III)V"⟩
abbrev cX10_isMirror : ByteArray := prog_12_method_10_code
def yX10_isMirror : MethodName := ⟨RX10, "isMirror", "(I)Z"⟩
abbrev cX10_isPlace : ByteArray := prog_12_method_11_code
def yX10_isPlace : MethodName := ⟨RX10, "isPlace", "(II)Z"⟩
abbrev cX10_mirrorAt : ByteArray := prog_12_method_12_code
def yX10_mirrorAt : MethodName := ⟨RX10, "mirrorAt", "(II)I"⟩
abbrev cX10_shadeOf : ByteArray := prog_12_method_13_code
def yX10_shadeOf : MethodName := ⟨RX10, "shadeOf", "(II)I"⟩
abbrev cX10_isBlocked : ByteArray := prog_12_method_14_code
def yX10_isBlocked : MethodName := ⟨RX10, "isBlocked", "(I)Z"⟩
abbrev cX10_areFlat : ByteArray := prog_12_method_15_code
def yX10_areFlat : MethodName := ⟨RX10, "areFlat", "()Z"⟩
abbrev cX10_gives : ByteArray := prog_12_method_16_code
def yX10_gives : MethodName := ⟨RX10, "gives", "(II)I"⟩
abbrev cX10_sorts : ByteArray := prog_12_method_17_code
def yX10_sorts : MethodName := ⟨RX10, "sorts", "()V"⟩
abbrev cX10_looks : ByteArray := prog_12_method_18_code
def yX10_looks : MethodName := ⟨RX10, "looks", "(I)I"⟩
abbrev cX10_brings : ByteArray := prog_12_method_19_code
def yX10_brings : MethodName := ⟨RX10, "brings", "()I"⟩
abbrev cX10_day : ByteArray := prog_12_method_20_code
def yX10_day : MethodName := ⟨RX10, "day", "()V"⟩
abbrev cX10_puts : ByteArray := prog_12_method_21_code
def yX10_puts : MethodName := ⟨RX10, "puts", "(III)V"⟩
abbrev cX10_takesOut : ByteArray := prog_12_method_22_code
def yX10_takesOut : MethodName := ⟨RX10, "takesOut", "(I)V"⟩
abbrev cX10_isSetting : ByteArray := prog_12_method_23_code
def yX10_isSetting : MethodName := ⟨RX10, "isSetting", "(II)Z"⟩
abbrev cX10_doMirror : ByteArray := prog_12_method_24_code
def yX10_doMirror : MethodName := ⟨RX10, "doMirror", "(III)I"⟩
abbrev cX10_doTake : ByteArray := prog_12_method_25_code
def yX10_doTake : MethodName := ⟨RX10, "doTake", "(I)I"⟩
abbrev cX10_doAim : ByteArray := prog_12_method_26_code
def yX10_doAim : MethodName := ⟨RX10, "doAim", "(II)I"⟩
abbrev cX10_doWash : ByteArray := prog_12_method_27_code
def yX10_doWash : MethodName := ⟨RX10, "doWash", "(I)I"⟩
abbrev cX10_doWind : ByteArray := prog_12_method_28_code
def yX10_doWind : MethodName := ⟨RX10, "doWind", "(I)I"⟩
abbrev cX10_doPass : ByteArray := prog_12_method_29_code
def yX10_doPass : MethodName := ⟨RX10, "doPass", "(I)I"⟩
abbrev cX10_ends : ByteArray := prog_12_method_30_code
def yX10_ends : MethodName := ⟨RX10, "ends", "(I)I"⟩
abbrev cX10_set : ByteArray := prog_12_method_31_code
def yX10_set : MethodName := ⟨RX10, "set", "(II)I"⟩
abbrev cX10_mirror : ByteArray := prog_12_method_32_code
def yX10_mirror : MethodName := ⟨RX10, "mirror", "(III)I"⟩
abbrev cX10_take : ByteArray := prog_12_method_33_code
def yX10_take : MethodName := ⟨RX10, "take", "(I)I"⟩
abbrev cX10_aim : ByteArray := prog_12_method_34_code
def yX10_aim : MethodName := ⟨RX10, "aim", "(II)I"⟩
abbrev cX10_wash : ByteArray := prog_12_method_35_code
def yX10_wash : MethodName := ⟨RX10, "wash", "(I)I"⟩
abbrev cX10_wind : ByteArray := prog_12_method_36_code
def yX10_wind : MethodName := ⟨RX10, "wind", "(I)I"⟩
abbrev cX10_pass : ByteArray := prog_12_method_37_code
def yX10_pass : MethodName := ⟨RX10, "pass", "(I)I"⟩
abbrev cX10_of : ByteArray := prog_12_method_38_code
def yX10_of : MethodName := ⟨RX10, "of", "(II)I"⟩
abbrev cX10_isHour : ByteArray := prog_12_method_39_code
def yX10_isHour : MethodName := ⟨RX10, "isHour", "(I)Z"⟩
abbrev cX10_at : ByteArray := prog_12_method_40_code
def yX10_at : MethodName := ⟨RX10, "at", "(III)I"⟩
abbrev cX10_mirrorsOf : ByteArray := prog_12_method_41_code
def yX10_mirrorsOf : MethodName := ⟨RX10, "mirrorsOf", "(IZ)I"⟩
abbrev cX10_point : ByteArray := prog_12_method_42_code
def yX10_point : MethodName := ⟨RX10, "point", "(III)I"⟩
abbrev cX10_blockedOnes : ByteArray := prog_12_method_43_code
def yX10_blockedOnes : MethodName := ⟨RX10, "blockedOnes", "()I"⟩
abbrev cX10_allDirt : ByteArray := prog_12_method_44_code
def yX10_allDirt : MethodName := ⟨RX10, "allDirt", "()I"⟩
abbrev cX10_count : ByteArray := prog_12_method_45_code
def yX10_count : MethodName := ⟨RX10, "count", "(I)I"⟩
abbrev cX10_in : ByteArray := prog_12_method_46_code
def yX10_in : MethodName := ⟨RX10, "in", "(II)I"⟩
abbrev cX10_worthLeast : ByteArray := prog_12_method_47_code
def yX10_worthLeast : MethodName := ⟨RX10, "worthLeast", "(I)I"⟩
abbrev cX10_bestColumn : ByteArray := prog_12_method_48_code
def yX10_bestColumn : MethodName := ⟨RX10, "bestColumn", "(III)I"⟩
abbrev cX10_toWash : ByteArray := prog_12_method_49_code
def yX10_toWash : MethodName := ⟨RX10, "toWash", "()I"⟩
abbrev cX10_leastLimit : ByteArray := prog_12_method_50_code
def yX10_leastLimit : MethodName := ⟨RX10, "leastLimit", "()I"⟩
abbrev cX10_put : ByteArray := prog_12_method_51_code
def yX10_put : MethodName := ⟨RX10, "put", "(J)I"⟩
abbrev cX10_wipe : ByteArray := prog_12_method_52_code
def yX10_wipe : MethodName := ⟨RX10, "wipe", "()I"⟩
abbrev cX10_isHere : ByteArray := prog_12_method_53_code
def yX10_isHere : MethodName := ⟨RX10, "isHere", "(II)Z"⟩
abbrev cX10_takes : ByteArray := prog_12_method_54_code
def yX10_takes : MethodName := ⟨RX10, "takes", "(I)Z"⟩
abbrev cX10_readsNumber : ByteArray := prog_12_method_55_code
def yX10_readsNumber : MethodName := ⟨RX10, "readsNumber", "(I)Z"⟩
abbrev cX10_does : ByteArray := prog_12_method_56_code
def yX10_does : MethodName := ⟨RX10, "does", "(I)V"⟩
abbrev cX10_readsMirror : ByteArray := prog_12_method_57_code
def yX10_readsMirror : MethodName := ⟨RX10, "readsMirror", "()Z"⟩
abbrev cX10_readsAim : ByteArray := prog_12_method_58_code
def yX10_readsAim : MethodName := ⟨RX10, "readsAim", "()Z"⟩
abbrev cX10_readsOrder : ByteArray := prog_12_method_59_code
def yX10_readsOrder : MethodName := ⟨RX10, "readsOrder", "()Z"⟩
abbrev cX10_fault : ByteArray := prog_12_method_60_code
def yX10_fault : MethodName := ⟨RX10, "fault", "()I"⟩
abbrev cX10_carryOut : ByteArray := prog_12_method_61_code
def yX10_carryOut : MethodName := ⟨RX10, "carryOut", "()I"⟩
abbrev cX10_undo : ByteArray := prog_12_method_62_code
def yX10_undo : MethodName := ⟨RX10, "undo", "()I"⟩
abbrev cX10_save : ByteArray := prog_12_method_63_code
def yX10_save : MethodName := ⟨RX10, "save", "(I)I"⟩
abbrev cX10_restore : ByteArray := prog_12_method_64_code
def yX10_restore : MethodName := ⟨RX10, "restore", "(I)I"⟩
def RJ9 : String := "java/lang/Math"
def TJ9 : u_T := fun k => match k with
  | _ => ("", "", "", false)
def tyJ9 : Nat → FieldType := fun k => match k with
  | _ => .int
abbrev wsJ90 : List Cond := u_ws RJ9 TJ9 0
theorem nmJ9 : ∀ a, a < 0 → ∀ b, b < 0 → a ≠ b → (TJ9 a).2.1 ≠ (TJ9 b).2.1 := by decide +kernel
theorem tyJ9_ok : ∀ k, k < 0 → parseFieldDescriptor (TJ9 k).2.2.1 = some (tyJ9 k) := by decide +kernel
abbrev cJ9_abs_0f7a4 : ByteArray := prog_13_method_59_code
def yJ9_abs_0f7a4 : MethodName := ⟨RJ9, "abs", "(I)I"⟩
abbrev cJ9_max_7cf53 : ByteArray := prog_13_method_65_code
def yJ9_max_7cf53 : MethodName := ⟨RJ9, "max", "(II)I"⟩
abbrev cJ9_min_7cf53 : ByteArray := prog_13_method_69_code
def yJ9_min_7cf53 : MethodName := ⟨RJ9, "min", "(II)I"⟩
def RJ10 : String := "java/lang/System"
def TJ10 : u_T := fun k => match k with
  | _ => ("", "", "", false)
def tyJ10 : Nat → FieldType := fun k => match k with
  | _ => .int
abbrev wsJ100 : List Cond := u_ws RJ10 TJ10 0
theorem nmJ10 : ∀ a, a < 0 → ∀ b, b < 0 → a ≠ b → (TJ10 a).2.1 ≠ (TJ10 b).2.1 := by decide +kernel
theorem tyJ10_ok : ∀ k, k < 0 → parseFieldDescriptor (TJ10 k).2.2.1 = some (tyJ10 k) := by decide +kernel
def RJ7 : String := "java/util/Arrays"
def TJ7 : u_T := fun k => match k with
  | _ => ("", "", "", false)
def tyJ7 : Nat → FieldType := fun k => match k with
  | _ => .int
abbrev wsJ70 : List Cond := u_ws RJ7 TJ7 0
theorem nmJ7 : ∀ a, a < 0 → ∀ b, b < 0 → a ≠ b → (TJ7 a).2.1 ≠ (TJ7 b).2.1 := by decide +kernel
theorem tyJ7_ok : ∀ k, k < 0 → parseFieldDescriptor (TJ7 k).2.2.1 = some (tyJ7 k) := by decide +kernel
abbrev cJ7_fill_53178 : ByteArray := prog_15_method_103_code
def yJ7_fill_53178 : MethodName := ⟨RJ7, "fill", "([II)V"⟩
def RL : String := "SunMirrorsLaw"
abbrev cL_law : ByteArray := code
def yL_law : MethodName := ⟨RL, "law", "([I)Z"⟩
def wsL_law_r1 : List Cond := [Cond.classLink RL 7 RX9, Cond.instantiable RX9 8, Cond.initialized RX9, Cond.classLink RL 10 RX10, Cond.instantiable RX10 17, Cond.initialized RX10, Cond.constantLong RL 81 (4294967295), Cond.methodLink RL 9 yX9_init, Cond.instanceMethod yX9_init, Cond.code yX9_init cX9_init 1 none, Cond.methodLink RX9 3 objectInit, Cond.instanceMethod objectInit, Cond.code objectInit ⟨#[0xb1]⟩ 1 none, Cond.classLink RX9 9 RX2, Cond.instantiable RX2 10, Cond.initialized RX2, Cond.fieldLink RX9 12 "SunMirrors" "field" "LSunMirrors$Field;", Cond.classLink RX9 16 RX4, Cond.instantiable RX4 8, Cond.initialized RX4, Cond.fieldLink RX9 21 "SunMirrors" "light" "LSunMirrors$Light;", Cond.classLink RX9 25 RX0, Cond.instantiable RX0 5, Cond.initialized RX0]
def wsL_law_r2 : List Cond := [Cond.fieldLink RX9 28 "SunMirrors" "advice" "LSunMirrors$Advice;", Cond.classLink RX9 32 RX5, Cond.instantiable RX5 2, Cond.initialized RX5, Cond.fieldLink RX9 35 "SunMirrors" "pad" "LSunMirrors$Pad;", Cond.classLink RX9 39 RX6, Cond.instantiable RX6 8, Cond.initialized RX6, Cond.fieldLink RX9 44 "SunMirrors" "reader" "LSunMirrors$Reader;", Cond.classLink RX9 48 RX3, Cond.instantiable RX3 3, Cond.initialized RX3, Cond.fieldLink RX9 51 "SunMirrors" "history" "LSunMirrors$History;", Cond.classLink RX9 55 RX7, Cond.instantiable RX7 1, Cond.initialized RX7, Cond.fieldLink RX9 60 "SunMirrors" "slots" "LSunMirrors$Shelf;", Cond.fieldLink RX9 64 "SunMirrors" "savedSlots" "I", Cond.methodLink RX9 11 yX2_init, Cond.instanceMethod yX2_init, Cond.code yX2_init cX2_init 1 none, Cond.methodLink RX2 3 objectInit, Cond.classLink RX2 9 RX1, Cond.instantiable RX1 1]
def wsL_law_r3 : List Cond := [Cond.initialized RX1, Cond.fieldLink RX2 14 "SunMirrors$Field" "settings" "LSunMirrors$Cells;", Cond.fieldLink RX2 20 "SunMirrors$Field" "rows" "LSunMirrors$Cells;", Cond.fieldLink RX2 23 "SunMirrors$Field" "columns" "LSunMirrors$Cells;", Cond.fieldLink RX2 26 "SunMirrors$Field" "aims" "LSunMirrors$Cells;", Cond.fieldLink RX2 29 "SunMirrors$Field" "dusts" "LSunMirrors$Cells;", Cond.fieldLink RX2 32 "SunMirrors$Field" "brought" "LSunMirrors$Cells;", Cond.fieldLink RX2 35 "SunMirrors$Field" "mirrors" "I", Cond.fieldLink RX2 39 "SunMirrors$Field" "wind" "I", Cond.fieldLink RX2 42 "SunMirrors$Field" "days" "I", Cond.fieldLink RX2 45 "SunMirrors$Field" "broughtByAll" "I", Cond.methodLink RX2 11 yX1_init, Cond.instanceMethod yX1_init, Cond.code yX1_init cX1_init 2 none, Cond.methodLink RX1 1 objectInit, Cond.methodLink RX1 7 Lib.Math.max.name, Cond.static Lib.Math.max.name, Cond.initialized "java/lang/Math", Cond.code Lib.Math.max.name Lib.Math.max.code 2 (some .int), Cond.arrayClass .int, Cond.fieldLink RX1 13 "SunMirrors$Cells" "numbers" "[I", Cond.methodLink RX2 48 yX1_write, Cond.instanceMethod yX1_write, Cond.selects RX1 yX1_write yX1_write]
def wsL_law_r4 : List Cond := [Cond.code yX1_write cX1_write 3 none, Cond.methodLink RX9 18 yX4_init, Cond.instanceMethod yX4_init, Cond.code yX4_init cX4_init 2 none, Cond.methodLink RX4 3 objectInit, Cond.classLink RX4 9 RX1, Cond.fieldLink RX4 14 "SunMirrors$Light" "places" "LSunMirrors$Cells;", Cond.fieldLink RX4 20 "SunMirrors$Light" "shaders" "LSunMirrors$Cells;", Cond.fieldLink RX4 23 "SunMirrors$Light" "gives" "LSunMirrors$Cells;", Cond.fieldLink RX4 26 "SunMirrors$Light" "order" "LSunMirrors$Cells;", Cond.fieldLink RX4 29 "SunMirrors$Light" "held" "LSunMirrors$Cells;", Cond.fieldLink RX4 32 "SunMirrors$Light" "blocked" "I", Cond.fieldLink RX4 36 "SunMirrors$Light" "used" "I", Cond.fieldLink RX4 39 "SunMirrors$Light" "field" "LSunMirrors$Field;", Cond.methodLink RX4 11 yX1_init, Cond.methodLink RX9 27 yX0_init, Cond.instanceMethod yX0_init, Cond.code yX0_init cX0_init 2 none, Cond.methodLink RX0 3 objectInit, Cond.classLink RX0 9 RX2, Cond.fieldLink RX0 12 "SunMirrors$Advice" "trial" "LSunMirrors$Field;", Cond.classLink RX0 18 RX4, Cond.fieldLink RX0 23 "SunMirrors$Advice" "light" "LSunMirrors$Light;", Cond.fieldLink RX0 27 "SunMirrors$Advice" "best" "I"]
def wsL_law_r5 : List Cond := [Cond.fieldLink RX0 31 "SunMirrors$Advice" "bestBrings" "I", Cond.fieldLink RX0 34 "SunMirrors$Advice" "field" "LSunMirrors$Field;", Cond.methodLink RX0 11 yX2_init, Cond.methodLink RX0 20 yX4_init, Cond.instanceMethod yX5_init, Cond.code yX5_init cX5_init 1 none, Cond.methodLink RX5 3 objectInit, Cond.classLink RX5 9 RX1, Cond.fieldLink RX5 14 "SunMirrors$Pad" "signs" "LSunMirrors$Cells;", Cond.fieldLink RX5 20 "SunMirrors$Pad" "length" "I", Cond.methodLink RX5 11 yX1_init, Cond.methodLink RX9 41 yX6_init, Cond.instanceMethod yX6_init, Cond.code yX6_init cX6_init 2 none, Cond.methodLink RX6 3 objectInit, Cond.classLink RX6 9 RX1, Cond.fieldLink RX6 14 "SunMirrors$Reader" "kinds" "LSunMirrors$Cells;", Cond.fieldLink RX6 20 "SunMirrors$Reader" "firsts" "LSunMirrors$Cells;", Cond.fieldLink RX6 23 "SunMirrors$Reader" "seconds" "LSunMirrors$Cells;", Cond.fieldLink RX6 26 "SunMirrors$Reader" "thirds" "LSunMirrors$Cells;", Cond.fieldLink RX6 29 "SunMirrors$Reader" "orders" "I", Cond.fieldLink RX6 33 "SunMirrors$Reader" "position" "I", Cond.fieldLink RX6 36 "SunMirrors$Reader" "broken" "Z", Cond.fieldLink RX6 40 "SunMirrors$Reader" "pad" "LSunMirrors$Pad;"]
def wsL_law_r6 : List Cond := [Cond.methodLink RX6 11 yX1_init, Cond.instanceMethod yX3_init, Cond.code yX3_init cX3_init 1 none, Cond.methodLink RX3 3 objectInit, Cond.classLink RX3 9 RX7, Cond.fieldLink RX3 16 "SunMirrors$History" "states" "LSunMirrors$Shelf;", Cond.fieldLink RX3 20 "SunMirrors$History" "next" "I", Cond.fieldLink RX3 24 "SunMirrors$History" "size" "I", Cond.methodLink RX3 13 yX7_init, Cond.instanceMethod yX7_init, Cond.code yX7_init cX7_init 3 none, Cond.methodLink RX7 1 objectInit, Cond.methodLink RX7 7 Lib.Math.max.name, Cond.classLink RX7 13 RX2, Cond.fieldLink RX7 15 "SunMirrors$Shelf" "states" "[LSunMirrors$Field;", Cond.methodLink RX7 21 yX2_init, Cond.methodLink RX9 57 yX7_init, Cond.methodLink RL 12 yX10_init, Cond.instanceMethod yX10_init, Cond.code yX10_init cX10_init 1 none, Cond.methodLink RX10 1 objectInit, Cond.fieldLink RX10 7 "SunMirrorsModel" "all" "[I", Cond.fieldLink RX10 13 "SunMirrorsModel" "kept" "[I", Cond.fieldLink RX10 16 "SunMirrorsModel" "tried" "[I"]
def wsL_law_r7 : List Cond := [Cond.fieldLink RX10 19 "SunMirrorsModel" "history" "[I", Cond.fieldLink RX10 22 "SunMirrorsModel" "slots" "[I", Cond.fieldLink RX10 25 "SunMirrorsModel" "isSaved" "[I", Cond.fieldLink RX10 28 "SunMirrorsModel" "given" "[I", Cond.fieldLink RX10 31 "SunMirrorsModel" "isUsed" "[I", Cond.fieldLink RX10 34 "SunMirrorsModel" "has" "[I", Cond.fieldLink RX10 37 "SunMirrorsModel" "order" "[I", Cond.fieldLink RX10 40 "SunMirrorsModel" "pad" "[I", Cond.methodLink RL 13 yX9_set, Cond.instanceMethod yX9_set, Cond.selects RX9 yX9_set yX9_set, Cond.code yX9_set cX9_set 3 (some .int), Cond.methodLink RX9 68 yX3_note, Cond.instanceMethod yX3_note, Cond.selects RX3 yX3_note yX3_note, Cond.code yX3_note cX3_note 2 none, Cond.methodLink RX3 27 yX7_keep, Cond.instanceMethod yX7_keep, Cond.selects RX7 yX7_keep yX7_keep, Cond.code yX7_keep cX7_keep 4 none, Cond.methodLink RX7 22 yX7_state, Cond.instanceMethod yX7_state, Cond.selects RX7 yX7_state yX7_state, Cond.code yX7_state cX7_state 2 (some (.object "SunMirrors$Field"))]
def wsL_law_r8 : List Cond := [Cond.methodLink RX7 26 yX2_copy, Cond.instanceMethod yX2_copy, Cond.selects RX2 yX2_copy yX2_copy, Cond.code yX2_copy cX2_copy 2 none, Cond.methodLink RX2 52 yX1_copy, Cond.instanceMethod yX1_copy, Cond.selects RX1 yX1_copy yX1_copy, Cond.code yX1_copy cX1_copy 2 none, Cond.methodLink RX1 25 Lib.Math.min.name, Cond.static Lib.Math.min.name, Cond.code Lib.Math.min.name Lib.Math.min.code 2 (some .int), Cond.methodLink RX1 28 arraycopyName, Cond.native arraycopyName, Cond.static arraycopyName, Cond.initialized "java/lang/System", Cond.methodLink RX9 71 yX2_changeSetting, Cond.instanceMethod yX2_changeSetting, Cond.selects RX2 yX2_changeSetting yX2_changeSetting, Cond.code yX2_changeSetting cX2_changeSetting 4 (some .int), Cond.methodLink RX2 56 yX2_isSettingValue, Cond.static yX2_isSettingValue, Cond.code yX2_isSettingValue cX2_isSettingValue 2 (some .boolean), Cond.methodLink RX2 60 yX1_read, Cond.instanceMethod yX1_read]
def wsL_law_r9 : List Cond := [Cond.selects RX1 yX1_read yX1_read, Cond.code yX1_read cX1_read 2 (some .int), Cond.methodLink RX9 75 yX9_recorded, Cond.instanceMethod yX9_recorded, Cond.selects RX9 yX9_recorded yX9_recorded, Cond.code yX9_recorded cX9_recorded 2 (some .int), Cond.methodLink RX9 244 yX3_keepNote, Cond.instanceMethod yX3_keepNote, Cond.selects RX3 yX3_keepNote yX3_keepNote, Cond.code yX3_keepNote cX3_keepNote 1 none, Cond.methodLink RX3 31 Lib.Math.min.name, Cond.methodLink RL 17 yX10_set, Cond.instanceMethod yX10_set, Cond.selects RX10 yX10_set yX10_set, Cond.code yX10_set cX10_set 3 (some .int), Cond.methodLink RX10 121 yX10_isSetting, Cond.static yX10_isSetting, Cond.code yX10_isSetting cX10_isSetting 2 (some .boolean), Cond.constantLong RX10 93 (9999), Cond.constantLong RX10 95 (99), Cond.constantLong RX10 97 (20), Cond.methodLink RX10 51 yX10_isIn, Cond.static yX10_isIn, Cond.code yX10_isIn cX10_isIn 6 (some .boolean)]
def wsL_law_r10 : List Cond := [Cond.methodLink RX10 124 yX10_copy, Cond.static yX10_copy, Cond.code yX10_copy cX10_copy 3 none, Cond.methodLink RX10 118 yX10_changed, Cond.instanceMethod yX10_changed, Cond.selects RX10 yX10_changed yX10_changed, Cond.code yX10_changed cX10_changed 3 (some .int), Cond.fieldLink RX10 43 "SunMirrorsModel" "historyLong" "I", Cond.methodLink RL 18 yX9_mirror, Cond.instanceMethod yX9_mirror, Cond.selects RX9 yX9_mirror yX9_mirror, Cond.code yX9_mirror cX9_mirror 4 (some .int), Cond.methodLink RX9 79 yX2_place, Cond.instanceMethod yX2_place, Cond.selects RX2 yX2_place yX2_place, Cond.code yX2_place cX2_place 4 (some .int), Cond.static yX9_isPlace, Cond.code yX9_isPlace cX9_isPlace 2 (some .boolean), Cond.static yX9_isAimPoint, Cond.code yX9_isAimPoint cX9_isAimPoint 1 (some .boolean), Cond.methodLink RX2 71 yX2_mirrorIn, Cond.instanceMethod yX2_mirrorIn, Cond.selects RX2 yX2_mirrorIn yX2_mirrorIn, Cond.code yX2_mirrorIn cX2_mirrorIn 4 (some .int)]
def wsL_law_r11 : List Cond := [Cond.methodLink RX2 75 yX2_add, Cond.instanceMethod yX2_add, Cond.selects RX2 yX2_add yX2_add, Cond.code yX2_add cX2_add 5 (some .int), Cond.methodLink RL 22 yX10_mirror, Cond.instanceMethod yX10_mirror, Cond.selects RX10 yX10_mirror yX10_mirror, Cond.code yX10_mirror cX10_mirror 4 (some .int), Cond.methodLink RX10 128 yX10_doMirror, Cond.instanceMethod yX10_doMirror, Cond.selects RX10 yX10_doMirror yX10_doMirror, Cond.code yX10_doMirror cX10_doMirror 4 (some .int), Cond.constantLong RX10 103 (3), Cond.methodLink RX10 99 yX10_isPlace, Cond.static yX10_isPlace, Cond.code yX10_isPlace cX10_isPlace 2 (some .boolean), Cond.constantLong RX10 55 (19), Cond.methodLink RX10 64 yX10_mirrorAt, Cond.instanceMethod yX10_mirrorAt, Cond.selects RX10 yX10_mirrorAt yX10_mirrorAt, Cond.code yX10_mirrorAt cX10_mirrorAt 4 (some .int), Cond.methodLink RX10 57 yX10_its, Cond.instanceMethod yX10_its, Cond.selects RX10 yX10_its yX10_its]
def wsL_law_r12 : List Cond := [Cond.code yX10_its cX10_its 3 (some .int), Cond.methodLink RX10 105 yX10_puts, Cond.instanceMethod yX10_puts, Cond.selects RX10 yX10_puts yX10_puts, Cond.code yX10_puts cX10_puts 5 none, Cond.methodLink RX10 89 yX10_sets, Cond.instanceMethod yX10_sets, Cond.selects RX10 yX10_sets yX10_sets, Cond.code yX10_sets cX10_sets 4 none, Cond.methodLink RX10 132 yX10_ends, Cond.instanceMethod yX10_ends, Cond.selects RX10 yX10_ends yX10_ends, Cond.code yX10_ends cX10_ends 2 (some .int), Cond.methodLink RL 23 yX9_take, Cond.instanceMethod yX9_take, Cond.selects RX9 yX9_take yX9_take, Cond.code yX9_take cX9_take 2 (some .int), Cond.methodLink RX9 83 yX2_remove, Cond.instanceMethod yX2_remove, Cond.selects RX2 yX2_remove yX2_remove, Cond.code yX2_remove cX2_remove 2 (some .int), Cond.methodLink RX2 79 yX2_isMirror, Cond.instanceMethod yX2_isMirror, Cond.selects RX2 yX2_isMirror yX2_isMirror]
def wsL_law_r13 : List Cond := [Cond.code yX2_isMirror cX2_isMirror 2 (some .boolean), Cond.methodLink RX2 82 yX1_leaveOut, Cond.instanceMethod yX1_leaveOut, Cond.selects RX1 yX1_leaveOut yX1_leaveOut, Cond.code yX1_leaveOut cX1_leaveOut 2 none, Cond.methodLink RL 27 yX10_take, Cond.instanceMethod yX10_take, Cond.selects RX10 yX10_take yX10_take, Cond.code yX10_take cX10_take 2 (some .int), Cond.methodLink RX10 135 yX10_doTake, Cond.instanceMethod yX10_doTake, Cond.selects RX10 yX10_doTake yX10_doTake, Cond.code yX10_doTake cX10_doTake 2 (some .int), Cond.methodLink RX10 108 yX10_isMirror, Cond.instanceMethod yX10_isMirror, Cond.selects RX10 yX10_isMirror yX10_isMirror, Cond.code yX10_isMirror cX10_isMirror 2 (some .boolean), Cond.methodLink RX10 111 yX10_takesOut, Cond.instanceMethod yX10_takesOut, Cond.selects RX10 yX10_takesOut yX10_takesOut, Cond.code yX10_takesOut cX10_takesOut 3 none, Cond.methodLink RL 28 yX9_aim, Cond.instanceMethod yX9_aim, Cond.selects RX9 yX9_aim yX9_aim]
def wsL_law_r14 : List Cond := [Cond.code yX9_aim cX9_aim 3 (some .int), Cond.methodLink RX9 86 yX2_turn, Cond.instanceMethod yX2_turn, Cond.selects RX2 yX2_turn yX2_turn, Cond.code yX2_turn cX2_turn 4 (some .int), Cond.methodLink RL 31 yX10_aim, Cond.instanceMethod yX10_aim, Cond.selects RX10 yX10_aim yX10_aim, Cond.code yX10_aim cX10_aim 3 (some .int), Cond.methodLink RX10 138 yX10_doAim, Cond.instanceMethod yX10_doAim, Cond.selects RX10 yX10_doAim yX10_doAim, Cond.code yX10_doAim cX10_doAim 4 (some .int), Cond.methodLink RL 32 yX9_wash, Cond.instanceMethod yX9_wash, Cond.selects RX9 yX9_wash yX9_wash, Cond.code yX9_wash cX9_wash 2 (some .int), Cond.methodLink RX9 89 yX2_clean, Cond.instanceMethod yX2_clean, Cond.selects RX2 yX2_clean yX2_clean, Cond.code yX2_clean cX2_clean 3 (some .int), Cond.methodLink RL 35 yX10_wash, Cond.instanceMethod yX10_wash, Cond.selects RX10 yX10_wash yX10_wash]
def wsL_law_r15 : List Cond := [Cond.code yX10_wash cX10_wash 2 (some .int), Cond.methodLink RX10 141 yX10_doWash, Cond.instanceMethod yX10_doWash, Cond.selects RX10 yX10_doWash yX10_doWash, Cond.code yX10_doWash cX10_doWash 3 (some .int), Cond.methodLink RL 36 yX9_wind, Cond.instanceMethod yX9_wind, Cond.selects RX9 yX9_wind yX9_wind, Cond.code yX9_wind cX9_wind 2 (some .int), Cond.methodLink RX9 92 yX2_blow, Cond.instanceMethod yX2_blow, Cond.selects RX2 yX2_blow yX2_blow, Cond.code yX2_blow cX2_blow 2 (some .int), Cond.methodLink RX2 85 yX2_liesFlat, Cond.instanceMethod yX2_liesFlat, Cond.selects RX2 yX2_liesFlat yX2_liesFlat, Cond.code yX2_liesFlat cX2_liesFlat 1 (some .boolean), Cond.methodLink RL 39 yX10_wind, Cond.instanceMethod yX10_wind, Cond.selects RX10 yX10_wind yX10_wind, Cond.code yX10_wind cX10_wind 2 (some .int), Cond.methodLink RX10 144 yX10_doWind, Cond.instanceMethod yX10_doWind, Cond.selects RX10 yX10_doWind yX10_doWind]
def wsL_law_r16 : List Cond := [Cond.code yX10_doWind cX10_doWind 2 (some .int), Cond.methodLink RX10 69 yX10_areFlat, Cond.instanceMethod yX10_areFlat, Cond.selects RX10 yX10_areFlat yX10_areFlat, Cond.code yX10_areFlat cX10_areFlat 1 (some .boolean), Cond.methodLink RL 40 yX9_pass, Cond.instanceMethod yX9_pass, Cond.selects RX9 yX9_pass yX9_pass, Cond.code yX9_pass cX9_pass 2 (some .int), Cond.methodLink RX9 95 yX4_spend, Cond.instanceMethod yX4_spend, Cond.selects RX4 yX4_spend yX4_spend, Cond.code yX4_spend cX4_spend 6 (some .int), Cond.fieldLink RX4 118 "SunMirrors$Field" "days" "I", Cond.methodLink RX4 121 yX4_look, Cond.instanceMethod yX4_look, Cond.selects RX4 yX4_look yX4_look, Cond.code yX4_look cX4_look 3 none, Cond.fieldLink RX4 46 "SunMirrors$Field" "mirrors" "I", Cond.fieldLink RX4 51 "SunMirrors$Field" "rows" "LSunMirrors$Cells;", Cond.fieldLink RX4 58 "SunMirrors$Field" "columns" "LSunMirrors$Cells;", Cond.methodLink RX4 43 yX1_fill, Cond.instanceMethod yX1_fill, Cond.selects RX1 yX1_fill yX1_fill]
def wsL_law_r17 : List Cond := [Cond.code yX1_fill cX1_fill 2 none, Cond.methodLink RX1 19 yJ7_fill_53178, Cond.static yJ7_fill_53178, Cond.initialized RJ7, Cond.code yJ7_fill_53178 cJ7_fill_53178 4 none, Cond.methodLink RX4 54 yX1_read, Cond.methodLink RX4 61 yX1_write, Cond.methodLink RX4 65 yX4_hasBlocker, Cond.instanceMethod yX4_hasBlocker, Cond.selects RX4 yX4_hasBlocker yX4_hasBlocker, Cond.code yX4_hasBlocker cX4_hasBlocker 7 (some .boolean), Cond.methodLink RX4 73 yX4_inPlace, Cond.instanceMethod yX4_inPlace, Cond.selects RX4 yX4_inPlace yX4_inPlace, Cond.code yX4_inPlace cX4_inPlace 3 (some .int), Cond.methodLink RX4 69 yX4_nearestShader, Cond.instanceMethod yX4_nearestShader, Cond.selects RX4 yX4_nearestShader yX4_nearestShader, Cond.code yX4_nearestShader cX4_nearestShader 8 (some .int), Cond.methodLink RX4 76 yX8_height, Cond.static yX8_height, Cond.initialized RX8, Cond.code yX8_height cX8_height 1 (some .int), Cond.methodLink RX8 9 Lib.Math.abs.name]
def wsL_law_r18 : List Cond := [Cond.static Lib.Math.abs.name, Cond.code Lib.Math.abs.name Lib.Math.abs.code 1 (some .int), Cond.methodLink RX4 81 yX8_columns, Cond.static yX8_columns, Cond.code yX8_columns cX8_columns 1 (some .int), Cond.methodLink RX4 115 yX4_work, Cond.instanceMethod yX4_work, Cond.selects RX4 yX4_work yX4_work, Cond.code yX4_work cX4_work 6 (some .int), Cond.methodLink RX4 87 yX2_liesFlat, Cond.methodLink RX4 91 yX4_gift, Cond.instanceMethod yX4_gift, Cond.selects RX4 yX4_gift yX4_gift, Cond.code yX4_gift cX4_gift 4 (some .int), Cond.fieldLink RX4 106 "SunMirrors$Field" "dusts" "LSunMirrors$Cells;", Cond.methodLink RX4 100 yX4_isBlocked, Cond.instanceMethod yX4_isBlocked, Cond.selects RX4 yX4_isBlocked yX4_isBlocked, Cond.code yX4_isBlocked cX4_isBlocked 2 (some .boolean), Cond.methodLink RX4 103 yX4_shader, Cond.instanceMethod yX4_shader, Cond.selects RX4 yX4_shader yX4_shader, Cond.code yX4_shader cX4_shader 3 (some .int), Cond.methodLink RX4 94 yX4_putInOrder]
def wsL_law_r19 : List Cond := [Cond.instanceMethod yX4_putInOrder, Cond.selects RX4 yX4_putInOrder yX4_putInOrder, Cond.code yX4_putInOrder cX4_putInOrder 3 none, Cond.methodLink RX4 97 yX4_useIfBearable, Cond.instanceMethod yX4_useIfBearable, Cond.selects RX4 yX4_useIfBearable yX4_useIfBearable, Cond.code yX4_useIfBearable cX4_useIfBearable 4 (some .int), Cond.fieldLink RX4 109 "SunMirrors$Field" "aims" "LSunMirrors$Cells;", Cond.fieldLink RX4 112 "SunMirrors$Field" "settings" "LSunMirrors$Cells;", Cond.methodLink RX4 124 yX4_creditUsed, Cond.instanceMethod yX4_creditUsed, Cond.selects RX4 yX4_creditUsed yX4_creditUsed, Cond.code yX4_creditUsed cX4_creditUsed 2 none, Cond.methodLink RX4 130 yX4_isUsed, Cond.instanceMethod yX4_isUsed, Cond.selects RX4 yX4_isUsed yX4_isUsed, Cond.code yX4_isUsed cX4_isUsed 2 (some .boolean), Cond.methodLink RX4 133 yX2_credit, Cond.instanceMethod yX2_credit, Cond.selects RX2 yX2_credit yX2_credit, Cond.code yX2_credit cX2_credit 3 none, Cond.methodLink RX4 127 yX2_endDay, Cond.instanceMethod yX2_endDay, Cond.selects RX2 yX2_endDay yX2_endDay]
def wsL_law_r20 : List Cond := [Cond.code yX2_endDay cX2_endDay 3 none, Cond.methodLink RX2 89 Lib.Math.min.name, Cond.methodLink RL 43 yX10_pass, Cond.instanceMethod yX10_pass, Cond.selects RX10 yX10_pass yX10_pass, Cond.code yX10_pass cX10_pass 2 (some .int), Cond.methodLink RX10 147 yX10_doPass, Cond.instanceMethod yX10_doPass, Cond.selects RX10 yX10_doPass yX10_doPass, Cond.code yX10_doPass cX10_doPass 4 (some .int), Cond.methodLink RX10 115 yX10_day, Cond.instanceMethod yX10_day, Cond.selects RX10 yX10_day yX10_day, Cond.code yX10_day cX10_day 3 none, Cond.methodLink RX10 86 yX10_looks, Cond.instanceMethod yX10_looks, Cond.selects RX10 yX10_looks yX10_looks, Cond.code yX10_looks cX10_looks 6 (some .int), Cond.methodLink RX10 80 yX10_gives, Cond.instanceMethod yX10_gives, Cond.selects RX10 yX10_gives yX10_gives, Cond.code yX10_gives cX10_gives 3 (some .int), Cond.methodLink RX10 73 yX10_shadeOf, Cond.instanceMethod yX10_shadeOf]
def wsL_law_r21 : List Cond := [Cond.selects RX10 yX10_shadeOf yX10_shadeOf, Cond.code yX10_shadeOf cX10_shadeOf 5 (some .int), Cond.methodLink RX10 61 yX10_high, Cond.static yX10_high, Cond.code yX10_high cX10_high 1 (some .int), Cond.methodLink RX10 47 yX10_size, Cond.static yX10_size, Cond.code yX10_size cX10_size 1 (some .int), Cond.methodLink RX10 76 yX10_isBlocked, Cond.instanceMethod yX10_isBlocked, Cond.selects RX10 yX10_isBlocked yX10_isBlocked, Cond.code yX10_isBlocked cX10_isBlocked 7 (some .boolean), Cond.constantLong RX10 67 (4), Cond.methodLink RX10 83 yX10_sorts, Cond.instanceMethod yX10_sorts, Cond.selects RX10 yX10_sorts yX10_sorts, Cond.code yX10_sorts cX10_sorts 3 none, Cond.methodLink RL 44 yX9_of, Cond.instanceMethod yX9_of, Cond.selects RX9 yX9_of yX9_of, Cond.code yX9_of cX9_of 3 (some .int), Cond.fieldLink RX9 102 "SunMirrors$Field" "rows" "LSunMirrors$Cells;", Cond.fieldLink RX9 111 "SunMirrors$Field" "columns" "LSunMirrors$Cells;", Cond.fieldLink RX9 114 "SunMirrors$Field" "aims" "LSunMirrors$Cells;"]
def wsL_law_r22 : List Cond := [Cond.fieldLink RX9 117 "SunMirrors$Field" "dusts" "LSunMirrors$Cells;", Cond.fieldLink RX9 126 "SunMirrors$Field" "brought" "LSunMirrors$Cells;", Cond.methodLink RX9 98 yX2_isMirror, Cond.methodLink RX9 106 yX1_read, Cond.methodLink RX9 120 yX4_look, Cond.methodLink RX9 123 yX4_isBlocked, Cond.methodLink RL 47 yX10_of, Cond.instanceMethod yX10_of, Cond.selects RX10 yX10_of yX10_of, Cond.code yX10_of cX10_of 3 (some .int), Cond.methodLink RL 48 yX9_at, Cond.instanceMethod yX9_at, Cond.selects RX9 yX9_at yX9_at, Cond.code yX9_at cX9_at 4 (some .int), Cond.methodLink RX9 129 yX8_isHour, Cond.static yX8_isHour, Cond.code yX8_isHour cX8_isHour 1 (some .boolean), Cond.methodLink RX9 134 yX4_work, Cond.methodLink RX9 137 yX4_shader, Cond.methodLink RX9 140 yX4_given, Cond.instanceMethod yX4_given, Cond.selects RX4 yX4_given yX4_given, Cond.code yX4_given cX4_given 2 (some .int), Cond.methodLink RX9 143 yX4_isUsed]
def wsL_law_r23 : List Cond := [Cond.methodLink RL 51 yX10_at, Cond.instanceMethod yX10_at, Cond.selects RX10 yX10_at yX10_at, Cond.code yX10_at cX10_at 6 (some .int), Cond.methodLink RX10 152 yX10_isHour, Cond.static yX10_isHour, Cond.code yX10_isHour cX10_isHour 1 (some .boolean), Cond.constantLong RX10 150 (10), Cond.methodLink RL 52 yX9_point, Cond.instanceMethod yX9_point, Cond.selects RX9 yX9_point yX9_point, Cond.code yX9_point cX9_point 4 (some .int), Cond.methodLink RX9 146 yX9_isAimPoint, Cond.methodLink RX9 149 yX4_held, Cond.instanceMethod yX4_held, Cond.selects RX4 yX4_held yX4_held, Cond.code yX4_held cX4_held 2 (some .int), Cond.methodLink RX9 152 yX2_mirrorsOf, Cond.instanceMethod yX2_mirrorsOf, Cond.selects RX2 yX2_mirrorsOf yX2_mirrorsOf, Cond.code yX2_mirrorsOf cX2_mirrorsOf 4 (some .int), Cond.methodLink RX9 155 yX4_used, Cond.instanceMethod yX4_used, Cond.selects RX4 yX4_used yX4_used]
def wsL_law_r24 : List Cond := [Cond.code yX4_used cX4_used 1 (some .int), Cond.methodLink RL 55 yX10_point, Cond.instanceMethod yX10_point, Cond.selects RX10 yX10_point yX10_point, Cond.code yX10_point cX10_point 5 (some .int), Cond.methodLink RX10 155 yX10_mirrorsOf, Cond.instanceMethod yX10_mirrorsOf, Cond.selects RX10 yX10_mirrorsOf yX10_mirrorsOf, Cond.code yX10_mirrorsOf cX10_mirrorsOf 5 (some .int), Cond.methodLink RL 56 yX9_count, Cond.instanceMethod yX9_count, Cond.selects RX9 yX9_count yX9_count, Cond.code yX9_count cX9_count 2 (some .int), Cond.fieldLink RX9 159 "SunMirrors$Field" "days" "I", Cond.fieldLink RX9 162 "SunMirrors$Field" "mirrors" "I", Cond.fieldLink RX9 165 "SunMirrors$Field" "wind" "I", Cond.fieldLink RX9 172 "SunMirrors$Field" "broughtByAll" "I", Cond.fieldLink RX9 184 "SunMirrors$Field" "settings" "LSunMirrors$Cells;", Cond.methodLink RX9 168 yX2_liesFlat, Cond.methodLink RX9 175 yX4_day, Cond.instanceMethod yX4_day, Cond.selects RX4 yX4_day yX4_day, Cond.code yX4_day cX4_day 3 (some .int), Cond.methodLink RX9 178 yX4_blocked]
def wsL_law_r25 : List Cond := [Cond.instanceMethod yX4_blocked, Cond.selects RX4 yX4_blocked yX4_blocked, Cond.code yX4_blocked cX4_blocked 1 (some .int), Cond.methodLink RX9 181 yX2_allDust, Cond.instanceMethod yX2_allDust, Cond.selects RX2 yX2_allDust yX2_allDust, Cond.code yX2_allDust cX2_allDust 3 (some .int), Cond.methodLink RX9 187 yX5_length, Cond.instanceMethod yX5_length, Cond.selects RX5 yX5_length yX5_length, Cond.code yX5_length cX5_length 1 (some .int), Cond.methodLink RX9 190 yX3_size, Cond.instanceMethod yX3_size, Cond.selects RX3 yX3_size yX3_size, Cond.code yX3_size cX3_size 1 (some .int), Cond.methodLink RL 59 yX10_count, Cond.instanceMethod yX10_count, Cond.selects RX10 yX10_count yX10_count, Cond.code yX10_count cX10_count 2 (some .int), Cond.fieldLink RX10 169 "SunMirrorsModel" "padLong" "I", Cond.methodLink RX10 159 yX10_brings, Cond.instanceMethod yX10_brings, Cond.selects RX10 yX10_brings yX10_brings, Cond.code yX10_brings cX10_brings 3 (some .int)]
def wsL_law_r26 : List Cond := [Cond.methodLink RX10 163 yX10_blockedOnes, Cond.instanceMethod yX10_blockedOnes, Cond.selects RX10 yX10_blockedOnes yX10_blockedOnes, Cond.code yX10_blockedOnes cX10_blockedOnes 3 (some .int), Cond.methodLink RX10 166 yX10_allDirt, Cond.instanceMethod yX10_allDirt, Cond.selects RX10 yX10_allDirt yX10_allDirt, Cond.code yX10_allDirt cX10_allDirt 3 (some .int), Cond.methodLink RL 60 yX9_in, Cond.instanceMethod yX9_in, Cond.selects RX9 yX9_in yX9_in, Cond.code yX9_in cX9_in 3 (some .int), Cond.methodLink RX9 193 yX9_isPlace, Cond.methodLink RX9 197 yX2_mirrorIn, Cond.methodLink RL 63 yX10_in, Cond.instanceMethod yX10_in, Cond.selects RX10 yX10_in yX10_in, Cond.code yX10_in cX10_in 3 (some .int), Cond.methodLink RL 64 yX9_worthLeast, Cond.instanceMethod yX9_worthLeast, Cond.selects RX9 yX9_worthLeast yX9_worthLeast, Cond.code yX9_worthLeast cX9_worthLeast 2 (some .int), Cond.methodLink RX9 200 yX9_isChoice, Cond.static yX9_isChoice]
def wsL_law_r27 : List Cond := [Cond.code yX9_isChoice cX9_isChoice 1 (some .boolean), Cond.methodLink RX9 203 yX0_leastWorth, Cond.instanceMethod yX0_leastWorth, Cond.selects RX0 yX0_leastWorth yX0_leastWorth, Cond.code yX0_leastWorth cX0_leastWorth 3 (some .int), Cond.fieldLink RX0 40 "SunMirrors$Field" "mirrors" "I", Cond.methodLink RX0 37 yX0_forgetBest, Cond.instanceMethod yX0_forgetBest, Cond.selects RX0 yX0_forgetBest yX0_forgetBest, Cond.code yX0_forgetBest cX0_forgetBest 1 none, Cond.methodLink RX0 43 yX2_copy, Cond.methodLink RX0 46 yX2_remove, Cond.methodLink RX0 50 yX0_weigh, Cond.instanceMethod yX0_weigh, Cond.selects RX0 yX0_weigh yX0_weigh, Cond.code yX0_weigh cX0_weigh 3 none, Cond.methodLink RX0 71 yX4_look, Cond.methodLink RX0 89 yX4_day, Cond.methodLink RX0 54 yX0_answer, Cond.instanceMethod yX0_answer, Cond.selects RX0 yX0_answer yX0_answer, Cond.code yX0_answer cX0_answer 2 (some .int), Cond.methodLink RL 67 yX10_worthLeast, Cond.instanceMethod yX10_worthLeast]
def wsL_law_r28 : List Cond := [Cond.selects RX10 yX10_worthLeast yX10_worthLeast, Cond.code yX10_worthLeast cX10_worthLeast 6 (some .int), Cond.methodLink RL 68 yX9_bestColumn, Cond.instanceMethod yX9_bestColumn, Cond.selects RX9 yX9_bestColumn yX9_bestColumn, Cond.code yX9_bestColumn cX9_bestColumn 4 (some .int), Cond.methodLink RX9 206 yX0_columnForOneMore, Cond.instanceMethod yX0_columnForOneMore, Cond.selects RX0 yX0_columnForOneMore yX0_columnForOneMore, Cond.code yX0_columnForOneMore cX0_columnForOneMore 5 (some .int), Cond.methodLink RX0 57 yX2_mirrorIn, Cond.methodLink RX0 61 yX2_add, Cond.methodLink RL 71 yX10_bestColumn, Cond.instanceMethod yX10_bestColumn, Cond.selects RX10 yX10_bestColumn yX10_bestColumn, Cond.code yX10_bestColumn cX10_bestColumn 8 (some .int), Cond.methodLink RL 72 yX9_toWash, Cond.instanceMethod yX9_toWash, Cond.selects RX9 yX9_toWash yX9_toWash, Cond.code yX9_toWash cX9_toWash 1 (some .int), Cond.methodLink RX9 209 yX0_mirrorToWash, Cond.instanceMethod yX0_mirrorToWash, Cond.selects RX0 yX0_mirrorToWash yX0_mirrorToWash, Cond.code yX0_mirrorToWash cX0_mirrorToWash 2 (some .int)]
def wsL_law_r29 : List Cond := [Cond.methodLink RX0 65 yX2_clean, Cond.methodLink RL 76 yX10_toWash, Cond.instanceMethod yX10_toWash, Cond.selects RX10 yX10_toWash yX10_toWash, Cond.code yX10_toWash cX10_toWash 6 (some .int), Cond.methodLink RL 77 yX9_leastLimit, Cond.instanceMethod yX9_leastLimit, Cond.selects RX9 yX9_leastLimit yX9_leastLimit, Cond.code yX9_leastLimit cX9_leastLimit 1 (some .int), Cond.methodLink RX9 212 yX0_limitForAll, Cond.instanceMethod yX0_limitForAll, Cond.selects RX0 yX0_limitForAll yX0_limitForAll, Cond.code yX0_limitForAll cX0_limitForAll 5 (some .int), Cond.methodLink RX0 84 Lib.Math.max.name, Cond.methodLink RX0 68 yX2_changeSetting, Cond.methodLink RX0 74 yX4_work, Cond.methodLink RX0 77 yX4_used, Cond.methodLink RX0 81 yX4_held, Cond.methodLink RL 80 yX10_leastLimit, Cond.instanceMethod yX10_leastLimit, Cond.selects RX10 yX10_leastLimit yX10_leastLimit, Cond.code yX10_leastLimit cX10_leastLimit 6 (some .int), Cond.methodLink RL 83 yX9_put, Cond.instanceMethod yX9_put]
def wsL_law_r30 : List Cond := [Cond.selects RX9 yX9_put yX9_put, Cond.code yX9_put cX9_put 3 (some .int), Cond.methodLink RX9 215 yX5_append, Cond.instanceMethod yX5_append, Cond.selects RX5 yX5_append yX5_append, Cond.code yX5_append cX5_append 5 (some .int), Cond.methodLink RX5 24 yX5_countSigns, Cond.static yX5_countSigns, Cond.code yX5_countSigns cX5_countSigns 4 (some .int), Cond.methodLink RX5 28 yX5_signFromEnd, Cond.static yX5_signFromEnd, Cond.code yX5_signFromEnd cX5_signFromEnd 3 (some .int), Cond.methodLink RX5 32 yX1_write, Cond.methodLink RL 87 yX10_put, Cond.instanceMethod yX10_put, Cond.selects RX10 yX10_put yX10_put, Cond.code yX10_put cX10_put 8 (some .int), Cond.constantLong RX10 172 (255), Cond.constantLong RX10 174 (33), Cond.constantLong RX10 176 (126), Cond.methodLink RL 88 yX9_wipe, Cond.instanceMethod yX9_wipe, Cond.selects RX9 yX9_wipe yX9_wipe, Cond.code yX9_wipe cX9_wipe 1 (some .int)]
def wsL_law_r31 : List Cond := [Cond.methodLink RX9 219 yX5_empty, Cond.instanceMethod yX5_empty, Cond.selects RX5 yX5_empty yX5_empty, Cond.code yX5_empty cX5_empty 2 (some .int), Cond.methodLink RL 91 yX10_wipe, Cond.instanceMethod yX10_wipe, Cond.selects RX10 yX10_wipe yX10_wipe, Cond.code yX10_wipe cX10_wipe 2 (some .int), Cond.methodLink RL 92 yX9_fault, Cond.instanceMethod yX9_fault, Cond.selects RX9 yX9_fault yX9_fault, Cond.code yX9_fault cX9_fault 1 (some .int), Cond.methodLink RX9 222 yX6_read, Cond.instanceMethod yX6_read, Cond.selects RX6 yX6_read yX6_read, Cond.code yX6_read cX6_read 1 (some .int), Cond.methodLink RX6 44 yX6_readOrder, Cond.instanceMethod yX6_readOrder, Cond.selects RX6 yX6_readOrder yX6_readOrder, Cond.code yX6_readOrder cX6_readOrder 6 none, Cond.methodLink RX6 57 yX5_sign, Cond.instanceMethod yX5_sign, Cond.selects RX5 yX5_sign yX5_sign, Cond.code yX5_sign cX5_sign 2 (some .int)]
def wsL_law_r32 : List Cond := [Cond.methodLink RX5 36 yX1_read, Cond.methodLink RX6 61 yX6_isKind, Cond.static yX6_isKind, Cond.code yX6_isKind cX6_isKind 1 (some .boolean), Cond.methodLink RX6 65 yX6_readNumber, Cond.instanceMethod yX6_readNumber, Cond.selects RX6 yX6_readNumber yX6_readNumber, Cond.code yX6_readNumber cX6_readNumber 4 (some .int), Cond.methodLink RX6 72 yX6_readDigit, Cond.instanceMethod yX6_readDigit, Cond.selects RX6 yX6_readDigit yX6_readDigit, Cond.code yX6_readDigit cX6_readDigit 3 (some .int), Cond.methodLink RX6 53 yX6_expect, Cond.instanceMethod yX6_expect, Cond.selects RX6 yX6_expect yX6_expect, Cond.code yX6_expect cX6_expect 2 none, Cond.methodLink RX6 68 yX6_accept, Cond.instanceMethod yX6_accept, Cond.selects RX6 yX6_accept yX6_accept, Cond.code yX6_accept cX6_accept 3 (some .boolean), Cond.methodLink RX6 75 yX1_write, Cond.methodLink RX6 47 yX5_length, Cond.methodLink RL 95 yX10_fault, Cond.instanceMethod yX10_fault]
def wsL_law_r33 : List Cond := [Cond.selects RX10 yX10_fault yX10_fault, Cond.code yX10_fault cX10_fault 2 (some .int), Cond.fieldLink RX10 178 "SunMirrorsModel" "spot" "I", Cond.fieldLink RX10 196 "SunMirrorsModel" "isDone" "Z", Cond.methodLink RX10 209 yX10_readsOrder, Cond.instanceMethod yX10_readsOrder, Cond.selects RX10 yX10_readsOrder yX10_readsOrder, Cond.code yX10_readsOrder cX10_readsOrder 2 (some .boolean), Cond.fieldLink RX10 184 "SunMirrorsModel" "number" "I", Cond.methodLink RX10 193 yX10_takes, Cond.instanceMethod yX10_takes, Cond.selects RX10 yX10_takes yX10_takes, Cond.code yX10_takes cX10_takes 3 (some .boolean), Cond.methodLink RX10 181 yX10_isHere, Cond.instanceMethod yX10_isHere, Cond.selects RX10 yX10_isHere yX10_isHere, Cond.code yX10_isHere cX10_isHere 3 (some .boolean), Cond.methodLink RX10 203 yX10_readsMirror, Cond.instanceMethod yX10_readsMirror, Cond.selects RX10 yX10_readsMirror yX10_readsMirror, Cond.code yX10_readsMirror cX10_readsMirror 3 (some .boolean), Cond.methodLink RX10 190 yX10_readsNumber, Cond.instanceMethod yX10_readsNumber, Cond.selects RX10 yX10_readsNumber yX10_readsNumber]
def wsL_law_r34 : List Cond := [Cond.code yX10_readsNumber cX10_readsNumber 2 (some .boolean), Cond.methodLink RX10 200 yX10_does, Cond.instanceMethod yX10_does, Cond.selects RX10 yX10_does yX10_does, Cond.code yX10_does cX10_does 2 none, Cond.fieldLink RX10 187 "SunMirrorsModel" "error" "I", Cond.methodLink RX10 206 yX10_readsAim, Cond.instanceMethod yX10_readsAim, Cond.selects RX10 yX10_readsAim yX10_readsAim, Cond.code yX10_readsAim cX10_readsAim 2 (some .boolean), Cond.methodLink RL 96 yX9_carryOut, Cond.instanceMethod yX9_carryOut, Cond.selects RX9 yX9_carryOut yX9_carryOut, Cond.code yX9_carryOut cX9_carryOut 3 (some .int), Cond.methodLink RX9 224 yX6_orders, Cond.instanceMethod yX6_orders, Cond.selects RX6 yX6_orders yX6_orders, Cond.code yX6_orders cX6_orders 1 (some .int), Cond.methodLink RX9 227 yX9_carry, Cond.instanceMethod yX9_carry, Cond.selects RX9 yX9_carry yX9_carry, Cond.code yX9_carry cX9_carry 4 (some .int), Cond.methodLink RX9 247 yX6_first, Cond.instanceMethod yX6_first]
def wsL_law_r35 : List Cond := [Cond.selects RX6 yX6_first yX6_first, Cond.code yX6_first cX6_first 2 (some .int), Cond.methodLink RX6 79 yX1_read, Cond.methodLink RX9 250 yX6_second, Cond.instanceMethod yX6_second, Cond.selects RX6 yX6_second yX6_second, Cond.code yX6_second cX6_second 2 (some .int), Cond.methodLink RX9 253 yX6_kind, Cond.instanceMethod yX6_kind, Cond.selects RX6 yX6_kind yX6_kind, Cond.code yX6_kind cX6_kind 2 (some .int), Cond.methodLink RX9 256 yX6_third, Cond.instanceMethod yX6_third, Cond.selects RX6 yX6_third yX6_third, Cond.code yX6_third cX6_third 2 (some .int), Cond.methodLink RL 99 yX10_carryOut, Cond.instanceMethod yX10_carryOut, Cond.selects RX10 yX10_carryOut yX10_carryOut, Cond.code yX10_carryOut cX10_carryOut 4 (some .int), Cond.methodLink RX10 212 yX10_fault, Cond.methodLink RL 100 yX9_undo, Cond.instanceMethod yX9_undo, Cond.selects RX9 yX9_undo yX9_undo, Cond.code yX9_undo cX9_undo 1 (some .int)]
def wsL_law_r36 : List Cond := [Cond.methodLink RX9 230 yX3_stepBack, Cond.instanceMethod yX3_stepBack, Cond.selects RX3 yX3_stepBack yX3_stepBack, Cond.code yX3_stepBack cX3_stepBack 2 (some .boolean), Cond.methodLink RX3 37 yX7_bringBack, Cond.instanceMethod yX7_bringBack, Cond.selects RX7 yX7_bringBack yX7_bringBack, Cond.code yX7_bringBack cX7_bringBack 4 none, Cond.methodLink RL 103 yX10_undo, Cond.instanceMethod yX10_undo, Cond.selects RX10 yX10_undo yX10_undo, Cond.code yX10_undo cX10_undo 2 (some .int), Cond.methodLink RL 104 yX9_save, Cond.instanceMethod yX9_save, Cond.selects RX9 yX9_save yX9_save, Cond.code yX9_save cX9_save 2 (some .int), Cond.methodLink RX9 234 yX9_isSlot, Cond.static yX9_isSlot, Cond.code yX9_isSlot cX9_isSlot 1 (some .boolean), Cond.methodLink RX9 237 yX7_keep, Cond.methodLink RL 107 yX10_save, Cond.instanceMethod yX10_save, Cond.selects RX10 yX10_save yX10_save, Cond.code yX10_save cX10_save 3 (some .int)]
def wsL_law_r37 : List Cond := [Cond.methodLink RL 108 yX9_restore, Cond.instanceMethod yX9_restore, Cond.selects RX9 yX9_restore yX9_restore, Cond.code yX9_restore cX9_restore 2 (some .int), Cond.methodLink RX9 241 yX7_bringBack, Cond.methodLink RL 111 yX10_restore, Cond.instanceMethod yX10_restore, Cond.selects RX10 yX10_restore yX10_restore, Cond.code yX10_restore cX10_restore 3 (some .int)]
def wsL_law : List Cond := (wsL_law_r1 ++ (wsL_law_r2 ++ (wsL_law_r3 ++ (wsL_law_r4 ++ (wsL_law_r5 ++ (wsL_law_r6 ++ (wsL_law_r7 ++ (wsL_law_r8 ++ (wsL_law_r9 ++ (wsL_law_r10 ++ (wsL_law_r11 ++ (wsL_law_r12 ++ (wsL_law_r13 ++ (wsL_law_r14 ++ (wsL_law_r15 ++ (wsL_law_r16 ++ (wsL_law_r17 ++ (wsL_law_r18 ++ (wsL_law_r19 ++ (wsL_law_r20 ++ (wsL_law_r21 ++ (wsL_law_r22 ++ (wsL_law_r23 ++ (wsL_law_r24 ++ (wsL_law_r25 ++ (wsL_law_r26 ++ (wsL_law_r27 ++ (wsL_law_r28 ++ (wsL_law_r29 ++ (wsL_law_r30 ++ (wsL_law_r31 ++ (wsL_law_r32 ++ (wsL_law_r33 ++ (wsL_law_r34 ++ (wsL_law_r35 ++ (wsL_law_r36 ++ wsL_law_r37)))))))))))))))))))))))))))))))))))) ++ wsX90 ++ wsX100 ++ wsX20 ++ wsX40 ++ wsX00 ++ wsX50 ++ wsX60 ++ wsX30 ++ wsX70 ++ wsX10 ++ ([] : List Cond)
abbrev vwCl : List vw_C := [(RX0, TX0, 5), (RX1, TX1, 1), (RX2, TX2, 10), (RX3, TX3, 3), (RX4, TX4, 8), (RX5, TX5, 2), (RX6, TX6, 8), (RX7, TX7, 1), (RX9, TX9, 8), (RX10, TX10, 17)]
end
section
theorem tb_app {a b : List Cond} {w : Cond} (h : w ∈ a ++ b) : w ∈ a ∨ w ∈ b := List.mem_append.mp h
theorem tb1_in : ∀ w ∈ tables_1_1, w ∈ lw_tbl := fun w h => List.mem_append_right _ (List.mem_append_left _ h)
theorem tb2_in : ∀ w ∈ tables_1_2, w ∈ lw_tbl := fun w h => List.mem_append_right _ (List.mem_append_right _ (List.mem_append_left _ h))
theorem tb3_in : ∀ w ∈ tables_1_3, w ∈ lw_tbl := fun w h => List.mem_append_right _ (List.mem_append_right _ (List.mem_append_right _ (List.mem_append_left _ h)))
theorem tb4_in : ∀ w ∈ tables_1_4, w ∈ lw_tbl := fun w h => List.mem_append_right _ (List.mem_append_right _ (List.mem_append_right _ (List.mem_append_right _ (List.mem_append_left _ h))))
theorem tb5_in : ∀ w ∈ tables_1_5, w ∈ lw_tbl := fun w h => List.mem_append_right _ (List.mem_append_right _ (List.mem_append_right _ (List.mem_append_right _ (List.mem_append_right _ h))))
theorem tb0_in : ∀ w ∈ k2_sels lw_privs, w ∈ lw_tbl := fun w h => List.mem_append_left _ h
theorem wq_1_0 : Cond.classLink RL 7 RX9 ∈ lw_tbl := tb1_in _ (List.mem_of_getElem? (i := 15) (by decide +kernel))
theorem wq_1_1 : Cond.instantiable RX9 8 ∈ lw_tbl := tb1_in _ (List.mem_of_getElem? (i := 16) (by decide +kernel))
theorem wq_1_2 : Cond.initialized RX9 ∈ lw_tbl := tb1_in _ (List.mem_of_getElem? (i := 1) (by decide +kernel))
theorem wq_1_3 : Cond.classLink RL 10 RX10 ∈ lw_tbl := tb3_in _ (List.mem_of_getElem? (i := 225) (by decide +kernel))
theorem wq_1_4 : Cond.instantiable RX10 17 ∈ lw_tbl := tb3_in _ (List.mem_of_getElem? (i := 226) (by decide +kernel))
theorem wq_1_5 : Cond.initialized RX10 ∈ lw_tbl := tb1_in _ (List.mem_of_getElem? (i := 11) (by decide +kernel))
theorem wq_1_6 : Cond.constantLong RL 81 (4294967295) ∈ lw_tbl := tb5_in _ (List.mem_of_getElem? (i := 55) (by decide +kernel))
theorem wq_1_7 : Cond.methodLink RL 9 yX9_init ∈ lw_tbl := tb1_in _ (List.mem_of_getElem? (i := 17) (by decide +kernel))
theorem wq_1_8 : Cond.instanceMethod yX9_init ∈ lw_tbl := tb1_in _ (List.mem_of_getElem? (i := 18) (by decide +kernel))
theorem wq_1_9 : Cond.code yX9_init cX9_init 1 none ∈ lw_tbl := tb1_in _ (List.mem_of_getElem? (i := 19) (by decide +kernel))
theorem wq_1_10 : Cond.methodLink RX9 3 objectInit ∈ lw_tbl := tb1_in _ (List.mem_of_getElem? (i := 20) (by decide +kernel))
theorem wq_1_11 : Cond.instanceMethod objectInit ∈ lw_tbl := tb1_in _ (List.mem_of_getElem? (i := 21) (by decide +kernel))
theorem wq_1_12 : Cond.code objectInit ⟨#[0xb1]⟩ 1 none ∈ lw_tbl := tb1_in _ (List.mem_of_getElem? (i := 22) (by decide +kernel))
theorem wq_1_13 : Cond.classLink RX9 9 RX2 ∈ lw_tbl := tb1_in _ (List.mem_of_getElem? (i := 23) (by decide +kernel))
theorem wq_1_14 : Cond.instantiable RX2 10 ∈ lw_tbl := tb1_in _ (List.mem_of_getElem? (i := 24) (by decide +kernel))
theorem wq_1_15 : Cond.initialized RX2 ∈ lw_tbl := tb1_in _ (List.mem_of_getElem? (i := 2) (by decide +kernel))
theorem wq_1_16 : Cond.fieldLink RX9 12 "SunMirrors" "field" "LSunMirrors$Field;" ∈ lw_tbl := tb1_in _ (List.mem_of_getElem? (i := 235) (by decide +kernel))
theorem wq_1_17 : Cond.classLink RX9 16 RX4 ∈ lw_tbl := tb1_in _ (List.mem_of_getElem? (i := 96) (by decide +kernel))
theorem wq_1_18 : Cond.instantiable RX4 8 ∈ lw_tbl := tb1_in _ (List.mem_of_getElem? (i := 97) (by decide +kernel))
theorem wq_1_19 : Cond.initialized RX4 ∈ lw_tbl := tb1_in _ (List.mem_of_getElem? (i := 5) (by decide +kernel))
theorem wq_1_20 : Cond.fieldLink RX9 21 "SunMirrors" "light" "LSunMirrors$Light;" ∈ lw_tbl := tb1_in _ (List.mem_of_getElem? (i := 236) (by decide +kernel))
theorem wq_1_21 : Cond.classLink RX9 25 RX0 ∈ lw_tbl := tb1_in _ (List.mem_of_getElem? (i := 129) (by decide +kernel))
theorem wq_1_22 : Cond.instantiable RX0 5 ∈ lw_tbl := tb1_in _ (List.mem_of_getElem? (i := 130) (by decide +kernel))
theorem wq_1_23 : Cond.initialized RX0 ∈ lw_tbl := tb1_in _ (List.mem_of_getElem? (i := 6) (by decide +kernel))
theorem wl_r1 : ∀ w ∈ wsL_law_r1, w ∈ lw_tbl := List.forall_mem_cons.mpr ⟨wq_1_0, List.forall_mem_cons.mpr ⟨wq_1_1, List.forall_mem_cons.mpr ⟨wq_1_2, List.forall_mem_cons.mpr ⟨wq_1_3, List.forall_mem_cons.mpr ⟨wq_1_4, List.forall_mem_cons.mpr ⟨wq_1_5, List.forall_mem_cons.mpr ⟨wq_1_6, List.forall_mem_cons.mpr ⟨wq_1_7, List.forall_mem_cons.mpr ⟨wq_1_8, List.forall_mem_cons.mpr ⟨wq_1_9, List.forall_mem_cons.mpr ⟨wq_1_10, List.forall_mem_cons.mpr ⟨wq_1_11, List.forall_mem_cons.mpr ⟨wq_1_12, List.forall_mem_cons.mpr ⟨wq_1_13, List.forall_mem_cons.mpr ⟨wq_1_14, List.forall_mem_cons.mpr ⟨wq_1_15, List.forall_mem_cons.mpr ⟨wq_1_16, List.forall_mem_cons.mpr ⟨wq_1_17, List.forall_mem_cons.mpr ⟨wq_1_18, List.forall_mem_cons.mpr ⟨wq_1_19, List.forall_mem_cons.mpr ⟨wq_1_20, List.forall_mem_cons.mpr ⟨wq_1_21, List.forall_mem_cons.mpr ⟨wq_1_22, List.forall_mem_cons.mpr ⟨wq_1_23, fun _ h => absurd h List.not_mem_nil⟩⟩⟩⟩⟩⟩⟩⟩⟩⟩⟩⟩⟩⟩⟩⟩⟩⟩⟩⟩⟩⟩⟩⟩
theorem wg_r1 : ∀ w ∈ wsL_law_r1, goodWord w = true := List.all_eq_true.mp (by decide +kernel)
theorem wq_2_0 : Cond.fieldLink RX9 28 "SunMirrors" "advice" "LSunMirrors$Advice;" ∈ lw_tbl := tb1_in _ (List.mem_of_getElem? (i := 237) (by decide +kernel))
theorem wq_2_1 : Cond.classLink RX9 32 RX5 ∈ lw_tbl := tb1_in _ (List.mem_of_getElem? (i := 155) (by decide +kernel))
theorem wq_2_2 : Cond.instantiable RX5 2 ∈ lw_tbl := tb1_in _ (List.mem_of_getElem? (i := 156) (by decide +kernel))
theorem wq_2_3 : Cond.initialized RX5 ∈ lw_tbl := tb1_in _ (List.mem_of_getElem? (i := 7) (by decide +kernel))
theorem wq_2_4 : Cond.fieldLink RX9 35 "SunMirrors" "pad" "LSunMirrors$Pad;" ∈ lw_tbl := tb1_in _ (List.mem_of_getElem? (i := 238) (by decide +kernel))
theorem wq_2_5 : Cond.classLink RX9 39 RX6 ∈ lw_tbl := tb1_in _ (List.mem_of_getElem? (i := 170) (by decide +kernel))
theorem wq_2_6 : Cond.instantiable RX6 8 ∈ lw_tbl := tb1_in _ (List.mem_of_getElem? (i := 171) (by decide +kernel))
theorem wq_2_7 : Cond.initialized RX6 ∈ lw_tbl := tb1_in _ (List.mem_of_getElem? (i := 8) (by decide +kernel))
theorem wq_2_8 : Cond.fieldLink RX9 44 "SunMirrors" "reader" "LSunMirrors$Reader;" ∈ lw_tbl := tb1_in _ (List.mem_of_getElem? (i := 239) (by decide +kernel))
theorem wq_2_9 : Cond.classLink RX9 48 RX3 ∈ lw_tbl := tb1_in _ (List.mem_of_getElem? (i := 203) (by decide +kernel))
theorem wq_2_10 : Cond.instantiable RX3 3 ∈ lw_tbl := tb1_in _ (List.mem_of_getElem? (i := 204) (by decide +kernel))
theorem wq_2_11 : Cond.initialized RX3 ∈ lw_tbl := tb1_in _ (List.mem_of_getElem? (i := 9) (by decide +kernel))
theorem wq_2_12 : Cond.fieldLink RX9 51 "SunMirrors" "history" "LSunMirrors$History;" ∈ lw_tbl := tb2_in _ (List.mem_of_getElem? (i := 0) (by decide +kernel))
theorem wq_2_13 : Cond.classLink RX9 55 RX7 ∈ lw_tbl := tb1_in _ (List.mem_of_getElem? (i := 233) (by decide +kernel))
theorem wq_2_14 : Cond.instantiable RX7 1 ∈ lw_tbl := tb1_in _ (List.mem_of_getElem? (i := 210) (by decide +kernel))
theorem wq_2_15 : Cond.initialized RX7 ∈ lw_tbl := tb1_in _ (List.mem_of_getElem? (i := 10) (by decide +kernel))
theorem wq_2_16 : Cond.fieldLink RX9 60 "SunMirrors" "slots" "LSunMirrors$Shelf;" ∈ lw_tbl := tb2_in _ (List.mem_of_getElem? (i := 1) (by decide +kernel))
theorem wq_2_17 : Cond.fieldLink RX9 64 "SunMirrors" "savedSlots" "I" ∈ lw_tbl := tb2_in _ (List.mem_of_getElem? (i := 2) (by decide +kernel))
theorem wq_2_18 : Cond.methodLink RX9 11 yX2_init ∈ lw_tbl := tb1_in _ (List.mem_of_getElem? (i := 25) (by decide +kernel))
theorem wq_2_19 : Cond.instanceMethod yX2_init ∈ lw_tbl := tb1_in _ (List.mem_of_getElem? (i := 26) (by decide +kernel))
theorem wq_2_20 : Cond.code yX2_init cX2_init 1 none ∈ lw_tbl := tb1_in _ (List.mem_of_getElem? (i := 27) (by decide +kernel))
theorem wq_2_21 : Cond.methodLink RX2 3 objectInit ∈ lw_tbl := tb1_in _ (List.mem_of_getElem? (i := 28) (by decide +kernel))
theorem wq_2_22 : Cond.classLink RX2 9 RX1 ∈ lw_tbl := tb1_in _ (List.mem_of_getElem? (i := 29) (by decide +kernel))
theorem wq_2_23 : Cond.instantiable RX1 1 ∈ lw_tbl := tb1_in _ (List.mem_of_getElem? (i := 30) (by decide +kernel))
theorem wl_r2 : ∀ w ∈ wsL_law_r2, w ∈ lw_tbl := List.forall_mem_cons.mpr ⟨wq_2_0, List.forall_mem_cons.mpr ⟨wq_2_1, List.forall_mem_cons.mpr ⟨wq_2_2, List.forall_mem_cons.mpr ⟨wq_2_3, List.forall_mem_cons.mpr ⟨wq_2_4, List.forall_mem_cons.mpr ⟨wq_2_5, List.forall_mem_cons.mpr ⟨wq_2_6, List.forall_mem_cons.mpr ⟨wq_2_7, List.forall_mem_cons.mpr ⟨wq_2_8, List.forall_mem_cons.mpr ⟨wq_2_9, List.forall_mem_cons.mpr ⟨wq_2_10, List.forall_mem_cons.mpr ⟨wq_2_11, List.forall_mem_cons.mpr ⟨wq_2_12, List.forall_mem_cons.mpr ⟨wq_2_13, List.forall_mem_cons.mpr ⟨wq_2_14, List.forall_mem_cons.mpr ⟨wq_2_15, List.forall_mem_cons.mpr ⟨wq_2_16, List.forall_mem_cons.mpr ⟨wq_2_17, List.forall_mem_cons.mpr ⟨wq_2_18, List.forall_mem_cons.mpr ⟨wq_2_19, List.forall_mem_cons.mpr ⟨wq_2_20, List.forall_mem_cons.mpr ⟨wq_2_21, List.forall_mem_cons.mpr ⟨wq_2_22, List.forall_mem_cons.mpr ⟨wq_2_23, fun _ h => absurd h List.not_mem_nil⟩⟩⟩⟩⟩⟩⟩⟩⟩⟩⟩⟩⟩⟩⟩⟩⟩⟩⟩⟩⟩⟩⟩⟩
theorem wg_r2 : ∀ w ∈ wsL_law_r2, goodWord w = true := List.all_eq_true.mp (by decide +kernel)
theorem wq_3_0 : Cond.initialized RX1 ∈ lw_tbl := tb1_in _ (List.mem_of_getElem? (i := 3) (by decide +kernel))
theorem wq_3_1 : Cond.fieldLink RX2 14 "SunMirrors$Field" "settings" "LSunMirrors$Cells;" ∈ lw_tbl := tb1_in _ (List.mem_of_getElem? (i := 47) (by decide +kernel))
theorem wq_3_2 : Cond.fieldLink RX2 20 "SunMirrors$Field" "rows" "LSunMirrors$Cells;" ∈ lw_tbl := tb1_in _ (List.mem_of_getElem? (i := 50) (by decide +kernel))
theorem wq_3_3 : Cond.fieldLink RX2 23 "SunMirrors$Field" "columns" "LSunMirrors$Cells;" ∈ lw_tbl := tb1_in _ (List.mem_of_getElem? (i := 53) (by decide +kernel))
theorem wq_3_4 : Cond.fieldLink RX2 26 "SunMirrors$Field" "aims" "LSunMirrors$Cells;" ∈ lw_tbl := tb1_in _ (List.mem_of_getElem? (i := 56) (by decide +kernel))
theorem wq_3_5 : Cond.fieldLink RX2 29 "SunMirrors$Field" "dusts" "LSunMirrors$Cells;" ∈ lw_tbl := tb1_in _ (List.mem_of_getElem? (i := 59) (by decide +kernel))
theorem wq_3_6 : Cond.fieldLink RX2 32 "SunMirrors$Field" "brought" "LSunMirrors$Cells;" ∈ lw_tbl := tb1_in _ (List.mem_of_getElem? (i := 62) (by decide +kernel))
theorem wq_3_7 : Cond.fieldLink RX2 35 "SunMirrors$Field" "mirrors" "I" ∈ lw_tbl := tb1_in _ (List.mem_of_getElem? (i := 64) (by decide +kernel))
theorem wq_3_8 : Cond.fieldLink RX2 39 "SunMirrors$Field" "wind" "I" ∈ lw_tbl := tb1_in _ (List.mem_of_getElem? (i := 68) (by decide +kernel))
theorem wq_3_9 : Cond.fieldLink RX2 42 "SunMirrors$Field" "days" "I" ∈ lw_tbl := tb1_in _ (List.mem_of_getElem? (i := 70) (by decide +kernel))
theorem wq_3_10 : Cond.fieldLink RX2 45 "SunMirrors$Field" "broughtByAll" "I" ∈ lw_tbl := tb1_in _ (List.mem_of_getElem? (i := 73) (by decide +kernel))
theorem wq_3_11 : Cond.methodLink RX2 11 yX1_init ∈ lw_tbl := tb1_in _ (List.mem_of_getElem? (i := 31) (by decide +kernel))
theorem wq_3_12 : Cond.instanceMethod yX1_init ∈ lw_tbl := tb1_in _ (List.mem_of_getElem? (i := 32) (by decide +kernel))
theorem wq_3_13 : Cond.code yX1_init cX1_init 2 none ∈ lw_tbl := tb1_in _ (List.mem_of_getElem? (i := 33) (by decide +kernel))
theorem wq_3_14 : Cond.methodLink RX1 1 objectInit ∈ lw_tbl := tb1_in _ (List.mem_of_getElem? (i := 34) (by decide +kernel))
theorem wq_3_15 : Cond.methodLink RX1 7 Lib.Math.max.name ∈ lw_tbl := tb1_in _ (List.mem_of_getElem? (i := 35) (by decide +kernel))
theorem wq_3_16 : Cond.static Lib.Math.max.name ∈ lw_tbl := tb1_in _ (List.mem_of_getElem? (i := 36) (by decide +kernel))
theorem wq_3_17 : Cond.initialized "java/lang/Math" ∈ lw_tbl := tb1_in _ (List.mem_of_getElem? (i := 4) (by decide +kernel))
theorem wq_3_18 : Cond.code Lib.Math.max.name Lib.Math.max.code 2 (some .int) ∈ lw_tbl := tb1_in _ (List.mem_of_getElem? (i := 37) (by decide +kernel))
theorem wq_3_19 : Cond.arrayClass .int ∈ lw_tbl := tb1_in _ (List.mem_of_getElem? (i := 42) (by decide +kernel))
theorem wq_3_20 : Cond.fieldLink RX1 13 "SunMirrors$Cells" "numbers" "[I" ∈ lw_tbl := tb1_in _ (List.mem_of_getElem? (i := 38) (by decide +kernel))
theorem wq_3_21 : Cond.methodLink RX2 48 yX1_write ∈ lw_tbl := tb1_in _ (List.mem_of_getElem? (i := 43) (by decide +kernel))
theorem wq_3_22 : Cond.instanceMethod yX1_write ∈ lw_tbl := tb1_in _ (List.mem_of_getElem? (i := 44) (by decide +kernel))
theorem wq_3_23 : Cond.selects RX1 yX1_write yX1_write ∈ lw_tbl := tb1_in _ (List.mem_of_getElem? (i := 45) (by decide +kernel))
theorem wl_r3 : ∀ w ∈ wsL_law_r3, w ∈ lw_tbl := List.forall_mem_cons.mpr ⟨wq_3_0, List.forall_mem_cons.mpr ⟨wq_3_1, List.forall_mem_cons.mpr ⟨wq_3_2, List.forall_mem_cons.mpr ⟨wq_3_3, List.forall_mem_cons.mpr ⟨wq_3_4, List.forall_mem_cons.mpr ⟨wq_3_5, List.forall_mem_cons.mpr ⟨wq_3_6, List.forall_mem_cons.mpr ⟨wq_3_7, List.forall_mem_cons.mpr ⟨wq_3_8, List.forall_mem_cons.mpr ⟨wq_3_9, List.forall_mem_cons.mpr ⟨wq_3_10, List.forall_mem_cons.mpr ⟨wq_3_11, List.forall_mem_cons.mpr ⟨wq_3_12, List.forall_mem_cons.mpr ⟨wq_3_13, List.forall_mem_cons.mpr ⟨wq_3_14, List.forall_mem_cons.mpr ⟨wq_3_15, List.forall_mem_cons.mpr ⟨wq_3_16, List.forall_mem_cons.mpr ⟨wq_3_17, List.forall_mem_cons.mpr ⟨wq_3_18, List.forall_mem_cons.mpr ⟨wq_3_19, List.forall_mem_cons.mpr ⟨wq_3_20, List.forall_mem_cons.mpr ⟨wq_3_21, List.forall_mem_cons.mpr ⟨wq_3_22, List.forall_mem_cons.mpr ⟨wq_3_23, fun _ h => absurd h List.not_mem_nil⟩⟩⟩⟩⟩⟩⟩⟩⟩⟩⟩⟩⟩⟩⟩⟩⟩⟩⟩⟩⟩⟩⟩⟩
theorem wg_r3 : ∀ w ∈ wsL_law_r3, goodWord w = true := List.all_eq_true.mp (by decide +kernel)
theorem wq_4_0 : Cond.code yX1_write cX1_write 3 none ∈ lw_tbl := tb1_in _ (List.mem_of_getElem? (i := 46) (by decide +kernel))
theorem wq_4_1 : Cond.methodLink RX9 18 yX4_init ∈ lw_tbl := tb1_in _ (List.mem_of_getElem? (i := 98) (by decide +kernel))
theorem wq_4_2 : Cond.instanceMethod yX4_init ∈ lw_tbl := tb1_in _ (List.mem_of_getElem? (i := 99) (by decide +kernel))
theorem wq_4_3 : Cond.code yX4_init cX4_init 2 none ∈ lw_tbl := tb1_in _ (List.mem_of_getElem? (i := 100) (by decide +kernel))
theorem wq_4_4 : Cond.methodLink RX4 3 objectInit ∈ lw_tbl := tb1_in _ (List.mem_of_getElem? (i := 101) (by decide +kernel))
theorem wq_4_5 : Cond.classLink RX4 9 RX1 ∈ lw_tbl := tb1_in _ (List.mem_of_getElem? (i := 102) (by decide +kernel))
theorem wq_4_6 : Cond.fieldLink RX4 14 "SunMirrors$Light" "places" "LSunMirrors$Cells;" ∈ lw_tbl := tb1_in _ (List.mem_of_getElem? (i := 105) (by decide +kernel))
theorem wq_4_7 : Cond.fieldLink RX4 20 "SunMirrors$Light" "shaders" "LSunMirrors$Cells;" ∈ lw_tbl := tb1_in _ (List.mem_of_getElem? (i := 106) (by decide +kernel))
theorem wq_4_8 : Cond.fieldLink RX4 23 "SunMirrors$Light" "gives" "LSunMirrors$Cells;" ∈ lw_tbl := tb1_in _ (List.mem_of_getElem? (i := 107) (by decide +kernel))
theorem wq_4_9 : Cond.fieldLink RX4 26 "SunMirrors$Light" "order" "LSunMirrors$Cells;" ∈ lw_tbl := tb1_in _ (List.mem_of_getElem? (i := 108) (by decide +kernel))
theorem wq_4_10 : Cond.fieldLink RX4 29 "SunMirrors$Light" "held" "LSunMirrors$Cells;" ∈ lw_tbl := tb1_in _ (List.mem_of_getElem? (i := 109) (by decide +kernel))
theorem wq_4_11 : Cond.fieldLink RX4 32 "SunMirrors$Light" "blocked" "I" ∈ lw_tbl := tb1_in _ (List.mem_of_getElem? (i := 110) (by decide +kernel))
theorem wq_4_12 : Cond.fieldLink RX4 36 "SunMirrors$Light" "used" "I" ∈ lw_tbl := tb1_in _ (List.mem_of_getElem? (i := 111) (by decide +kernel))
theorem wq_4_13 : Cond.fieldLink RX4 39 "SunMirrors$Light" "field" "LSunMirrors$Field;" ∈ lw_tbl := tb1_in _ (List.mem_of_getElem? (i := 104) (by decide +kernel))
theorem wq_4_14 : Cond.methodLink RX4 11 yX1_init ∈ lw_tbl := tb1_in _ (List.mem_of_getElem? (i := 103) (by decide +kernel))
theorem wq_4_15 : Cond.methodLink RX9 27 yX0_init ∈ lw_tbl := tb1_in _ (List.mem_of_getElem? (i := 131) (by decide +kernel))
theorem wq_4_16 : Cond.instanceMethod yX0_init ∈ lw_tbl := tb1_in _ (List.mem_of_getElem? (i := 132) (by decide +kernel))
theorem wq_4_17 : Cond.code yX0_init cX0_init 2 none ∈ lw_tbl := tb1_in _ (List.mem_of_getElem? (i := 133) (by decide +kernel))
theorem wq_4_18 : Cond.methodLink RX0 3 objectInit ∈ lw_tbl := tb1_in _ (List.mem_of_getElem? (i := 134) (by decide +kernel))
theorem wq_4_19 : Cond.classLink RX0 9 RX2 ∈ lw_tbl := tb1_in _ (List.mem_of_getElem? (i := 135) (by decide +kernel))
theorem wq_4_20 : Cond.fieldLink RX0 12 "SunMirrors$Advice" "trial" "LSunMirrors$Field;" ∈ lw_tbl := tb1_in _ (List.mem_of_getElem? (i := 140) (by decide +kernel))
theorem wq_4_21 : Cond.classLink RX0 18 RX4 ∈ lw_tbl := tb1_in _ (List.mem_of_getElem? (i := 137) (by decide +kernel))
theorem wq_4_22 : Cond.fieldLink RX0 23 "SunMirrors$Advice" "light" "LSunMirrors$Light;" ∈ lw_tbl := tb1_in _ (List.mem_of_getElem? (i := 141) (by decide +kernel))
theorem wq_4_23 : Cond.fieldLink RX0 27 "SunMirrors$Advice" "best" "I" ∈ lw_tbl := tb1_in _ (List.mem_of_getElem? (i := 142) (by decide +kernel))
theorem wl_r4 : ∀ w ∈ wsL_law_r4, w ∈ lw_tbl := List.forall_mem_cons.mpr ⟨wq_4_0, List.forall_mem_cons.mpr ⟨wq_4_1, List.forall_mem_cons.mpr ⟨wq_4_2, List.forall_mem_cons.mpr ⟨wq_4_3, List.forall_mem_cons.mpr ⟨wq_4_4, List.forall_mem_cons.mpr ⟨wq_4_5, List.forall_mem_cons.mpr ⟨wq_4_6, List.forall_mem_cons.mpr ⟨wq_4_7, List.forall_mem_cons.mpr ⟨wq_4_8, List.forall_mem_cons.mpr ⟨wq_4_9, List.forall_mem_cons.mpr ⟨wq_4_10, List.forall_mem_cons.mpr ⟨wq_4_11, List.forall_mem_cons.mpr ⟨wq_4_12, List.forall_mem_cons.mpr ⟨wq_4_13, List.forall_mem_cons.mpr ⟨wq_4_14, List.forall_mem_cons.mpr ⟨wq_4_15, List.forall_mem_cons.mpr ⟨wq_4_16, List.forall_mem_cons.mpr ⟨wq_4_17, List.forall_mem_cons.mpr ⟨wq_4_18, List.forall_mem_cons.mpr ⟨wq_4_19, List.forall_mem_cons.mpr ⟨wq_4_20, List.forall_mem_cons.mpr ⟨wq_4_21, List.forall_mem_cons.mpr ⟨wq_4_22, List.forall_mem_cons.mpr ⟨wq_4_23, fun _ h => absurd h List.not_mem_nil⟩⟩⟩⟩⟩⟩⟩⟩⟩⟩⟩⟩⟩⟩⟩⟩⟩⟩⟩⟩⟩⟩⟩⟩
theorem wg_r4 : ∀ w ∈ wsL_law_r4, goodWord w = true := List.all_eq_true.mp (by decide +kernel)
theorem wq_5_0 : Cond.fieldLink RX0 31 "SunMirrors$Advice" "bestBrings" "I" ∈ lw_tbl := tb1_in _ (List.mem_of_getElem? (i := 143) (by decide +kernel))
theorem wq_5_1 : Cond.fieldLink RX0 34 "SunMirrors$Advice" "field" "LSunMirrors$Field;" ∈ lw_tbl := tb1_in _ (List.mem_of_getElem? (i := 139) (by decide +kernel))
theorem wq_5_2 : Cond.methodLink RX0 11 yX2_init ∈ lw_tbl := tb1_in _ (List.mem_of_getElem? (i := 136) (by decide +kernel))
theorem wq_5_3 : Cond.methodLink RX0 20 yX4_init ∈ lw_tbl := tb1_in _ (List.mem_of_getElem? (i := 138) (by decide +kernel))
theorem wq_5_4 : Cond.instanceMethod yX5_init ∈ lw_tbl := tb1_in _ (List.mem_of_getElem? (i := 158) (by decide +kernel))
theorem wq_5_5 : Cond.code yX5_init cX5_init 1 none ∈ lw_tbl := tb1_in _ (List.mem_of_getElem? (i := 159) (by decide +kernel))
theorem wq_5_6 : Cond.methodLink RX5 3 objectInit ∈ lw_tbl := tb1_in _ (List.mem_of_getElem? (i := 160) (by decide +kernel))
theorem wq_5_7 : Cond.classLink RX5 9 RX1 ∈ lw_tbl := tb1_in _ (List.mem_of_getElem? (i := 161) (by decide +kernel))
theorem wq_5_8 : Cond.fieldLink RX5 14 "SunMirrors$Pad" "signs" "LSunMirrors$Cells;" ∈ lw_tbl := tb1_in _ (List.mem_of_getElem? (i := 163) (by decide +kernel))
theorem wq_5_9 : Cond.fieldLink RX5 20 "SunMirrors$Pad" "length" "I" ∈ lw_tbl := tb1_in _ (List.mem_of_getElem? (i := 164) (by decide +kernel))
theorem wq_5_10 : Cond.methodLink RX5 11 yX1_init ∈ lw_tbl := tb1_in _ (List.mem_of_getElem? (i := 162) (by decide +kernel))
theorem wq_5_11 : Cond.methodLink RX9 41 yX6_init ∈ lw_tbl := tb1_in _ (List.mem_of_getElem? (i := 172) (by decide +kernel))
theorem wq_5_12 : Cond.instanceMethod yX6_init ∈ lw_tbl := tb1_in _ (List.mem_of_getElem? (i := 173) (by decide +kernel))
theorem wq_5_13 : Cond.code yX6_init cX6_init 2 none ∈ lw_tbl := tb1_in _ (List.mem_of_getElem? (i := 174) (by decide +kernel))
theorem wq_5_14 : Cond.methodLink RX6 3 objectInit ∈ lw_tbl := tb1_in _ (List.mem_of_getElem? (i := 175) (by decide +kernel))
theorem wq_5_15 : Cond.classLink RX6 9 RX1 ∈ lw_tbl := tb1_in _ (List.mem_of_getElem? (i := 176) (by decide +kernel))
theorem wq_5_16 : Cond.fieldLink RX6 14 "SunMirrors$Reader" "kinds" "LSunMirrors$Cells;" ∈ lw_tbl := tb1_in _ (List.mem_of_getElem? (i := 179) (by decide +kernel))
theorem wq_5_17 : Cond.fieldLink RX6 20 "SunMirrors$Reader" "firsts" "LSunMirrors$Cells;" ∈ lw_tbl := tb1_in _ (List.mem_of_getElem? (i := 180) (by decide +kernel))
theorem wq_5_18 : Cond.fieldLink RX6 23 "SunMirrors$Reader" "seconds" "LSunMirrors$Cells;" ∈ lw_tbl := tb1_in _ (List.mem_of_getElem? (i := 181) (by decide +kernel))
theorem wq_5_19 : Cond.fieldLink RX6 26 "SunMirrors$Reader" "thirds" "LSunMirrors$Cells;" ∈ lw_tbl := tb1_in _ (List.mem_of_getElem? (i := 182) (by decide +kernel))
theorem wq_5_20 : Cond.fieldLink RX6 29 "SunMirrors$Reader" "orders" "I" ∈ lw_tbl := tb1_in _ (List.mem_of_getElem? (i := 183) (by decide +kernel))
theorem wq_5_21 : Cond.fieldLink RX6 33 "SunMirrors$Reader" "position" "I" ∈ lw_tbl := tb1_in _ (List.mem_of_getElem? (i := 184) (by decide +kernel))
theorem wq_5_22 : Cond.fieldLink RX6 36 "SunMirrors$Reader" "broken" "Z" ∈ lw_tbl := tb1_in _ (List.mem_of_getElem? (i := 185) (by decide +kernel))
theorem wq_5_23 : Cond.fieldLink RX6 40 "SunMirrors$Reader" "pad" "LSunMirrors$Pad;" ∈ lw_tbl := tb1_in _ (List.mem_of_getElem? (i := 178) (by decide +kernel))
theorem wl_r5 : ∀ w ∈ wsL_law_r5, w ∈ lw_tbl := List.forall_mem_cons.mpr ⟨wq_5_0, List.forall_mem_cons.mpr ⟨wq_5_1, List.forall_mem_cons.mpr ⟨wq_5_2, List.forall_mem_cons.mpr ⟨wq_5_3, List.forall_mem_cons.mpr ⟨wq_5_4, List.forall_mem_cons.mpr ⟨wq_5_5, List.forall_mem_cons.mpr ⟨wq_5_6, List.forall_mem_cons.mpr ⟨wq_5_7, List.forall_mem_cons.mpr ⟨wq_5_8, List.forall_mem_cons.mpr ⟨wq_5_9, List.forall_mem_cons.mpr ⟨wq_5_10, List.forall_mem_cons.mpr ⟨wq_5_11, List.forall_mem_cons.mpr ⟨wq_5_12, List.forall_mem_cons.mpr ⟨wq_5_13, List.forall_mem_cons.mpr ⟨wq_5_14, List.forall_mem_cons.mpr ⟨wq_5_15, List.forall_mem_cons.mpr ⟨wq_5_16, List.forall_mem_cons.mpr ⟨wq_5_17, List.forall_mem_cons.mpr ⟨wq_5_18, List.forall_mem_cons.mpr ⟨wq_5_19, List.forall_mem_cons.mpr ⟨wq_5_20, List.forall_mem_cons.mpr ⟨wq_5_21, List.forall_mem_cons.mpr ⟨wq_5_22, List.forall_mem_cons.mpr ⟨wq_5_23, fun _ h => absurd h List.not_mem_nil⟩⟩⟩⟩⟩⟩⟩⟩⟩⟩⟩⟩⟩⟩⟩⟩⟩⟩⟩⟩⟩⟩⟩⟩
theorem wg_r5 : ∀ w ∈ wsL_law_r5, goodWord w = true := List.all_eq_true.mp (by decide +kernel)
theorem wq_6_0 : Cond.methodLink RX6 11 yX1_init ∈ lw_tbl := tb1_in _ (List.mem_of_getElem? (i := 177) (by decide +kernel))
theorem wq_6_1 : Cond.instanceMethod yX3_init ∈ lw_tbl := tb1_in _ (List.mem_of_getElem? (i := 206) (by decide +kernel))
theorem wq_6_2 : Cond.code yX3_init cX3_init 1 none ∈ lw_tbl := tb1_in _ (List.mem_of_getElem? (i := 207) (by decide +kernel))
theorem wq_6_3 : Cond.methodLink RX3 3 objectInit ∈ lw_tbl := tb1_in _ (List.mem_of_getElem? (i := 208) (by decide +kernel))
theorem wq_6_4 : Cond.classLink RX3 9 RX7 ∈ lw_tbl := tb1_in _ (List.mem_of_getElem? (i := 209) (by decide +kernel))
theorem wq_6_5 : Cond.fieldLink RX3 16 "SunMirrors$History" "states" "LSunMirrors$Shelf;" ∈ lw_tbl := tb1_in _ (List.mem_of_getElem? (i := 223) (by decide +kernel))
theorem wq_6_6 : Cond.fieldLink RX3 20 "SunMirrors$History" "next" "I" ∈ lw_tbl := tb1_in _ (List.mem_of_getElem? (i := 224) (by decide +kernel))
theorem wq_6_7 : Cond.fieldLink RX3 24 "SunMirrors$History" "size" "I" ∈ lw_tbl := tb1_in _ (List.mem_of_getElem? (i := 225) (by decide +kernel))
theorem wq_6_8 : Cond.methodLink RX3 13 yX7_init ∈ lw_tbl := tb1_in _ (List.mem_of_getElem? (i := 211) (by decide +kernel))
theorem wq_6_9 : Cond.instanceMethod yX7_init ∈ lw_tbl := tb1_in _ (List.mem_of_getElem? (i := 212) (by decide +kernel))
theorem wq_6_10 : Cond.code yX7_init cX7_init 3 none ∈ lw_tbl := tb1_in _ (List.mem_of_getElem? (i := 213) (by decide +kernel))
theorem wq_6_11 : Cond.methodLink RX7 1 objectInit ∈ lw_tbl := tb1_in _ (List.mem_of_getElem? (i := 214) (by decide +kernel))
theorem wq_6_12 : Cond.methodLink RX7 7 Lib.Math.max.name ∈ lw_tbl := tb1_in _ (List.mem_of_getElem? (i := 215) (by decide +kernel))
theorem wq_6_13 : Cond.classLink RX7 13 RX2 ∈ lw_tbl := tb1_in _ (List.mem_of_getElem? (i := 216) (by decide +kernel))
theorem wq_6_14 : Cond.fieldLink RX7 15 "SunMirrors$Shelf" "states" "[LSunMirrors$Field;" ∈ lw_tbl := tb1_in _ (List.mem_of_getElem? (i := 219) (by decide +kernel))
theorem wq_6_15 : Cond.methodLink RX7 21 yX2_init ∈ lw_tbl := tb1_in _ (List.mem_of_getElem? (i := 218) (by decide +kernel))
theorem wq_6_16 : Cond.methodLink RX9 57 yX7_init ∈ lw_tbl := tb1_in _ (List.mem_of_getElem? (i := 234) (by decide +kernel))
theorem wq_6_17 : Cond.methodLink RL 12 yX10_init ∈ lw_tbl := tb3_in _ (List.mem_of_getElem? (i := 227) (by decide +kernel))
theorem wq_6_18 : Cond.instanceMethod yX10_init ∈ lw_tbl := tb3_in _ (List.mem_of_getElem? (i := 228) (by decide +kernel))
theorem wq_6_19 : Cond.code yX10_init cX10_init 1 none ∈ lw_tbl := tb3_in _ (List.mem_of_getElem? (i := 229) (by decide +kernel))
theorem wq_6_20 : Cond.methodLink RX10 1 objectInit ∈ lw_tbl := tb3_in _ (List.mem_of_getElem? (i := 230) (by decide +kernel))
theorem wq_6_21 : Cond.fieldLink RX10 7 "SunMirrorsModel" "all" "[I" ∈ lw_tbl := tb3_in _ (List.mem_of_getElem? (i := 231) (by decide +kernel))
theorem wq_6_22 : Cond.fieldLink RX10 13 "SunMirrorsModel" "kept" "[I" ∈ lw_tbl := tb3_in _ (List.mem_of_getElem? (i := 232) (by decide +kernel))
theorem wq_6_23 : Cond.fieldLink RX10 16 "SunMirrorsModel" "tried" "[I" ∈ lw_tbl := tb3_in _ (List.mem_of_getElem? (i := 233) (by decide +kernel))
theorem wl_r6 : ∀ w ∈ wsL_law_r6, w ∈ lw_tbl := List.forall_mem_cons.mpr ⟨wq_6_0, List.forall_mem_cons.mpr ⟨wq_6_1, List.forall_mem_cons.mpr ⟨wq_6_2, List.forall_mem_cons.mpr ⟨wq_6_3, List.forall_mem_cons.mpr ⟨wq_6_4, List.forall_mem_cons.mpr ⟨wq_6_5, List.forall_mem_cons.mpr ⟨wq_6_6, List.forall_mem_cons.mpr ⟨wq_6_7, List.forall_mem_cons.mpr ⟨wq_6_8, List.forall_mem_cons.mpr ⟨wq_6_9, List.forall_mem_cons.mpr ⟨wq_6_10, List.forall_mem_cons.mpr ⟨wq_6_11, List.forall_mem_cons.mpr ⟨wq_6_12, List.forall_mem_cons.mpr ⟨wq_6_13, List.forall_mem_cons.mpr ⟨wq_6_14, List.forall_mem_cons.mpr ⟨wq_6_15, List.forall_mem_cons.mpr ⟨wq_6_16, List.forall_mem_cons.mpr ⟨wq_6_17, List.forall_mem_cons.mpr ⟨wq_6_18, List.forall_mem_cons.mpr ⟨wq_6_19, List.forall_mem_cons.mpr ⟨wq_6_20, List.forall_mem_cons.mpr ⟨wq_6_21, List.forall_mem_cons.mpr ⟨wq_6_22, List.forall_mem_cons.mpr ⟨wq_6_23, fun _ h => absurd h List.not_mem_nil⟩⟩⟩⟩⟩⟩⟩⟩⟩⟩⟩⟩⟩⟩⟩⟩⟩⟩⟩⟩⟩⟩⟩⟩
theorem wg_r6 : ∀ w ∈ wsL_law_r6, goodWord w = true := List.all_eq_true.mp (by decide +kernel)
theorem wq_7_0 : Cond.fieldLink RX10 19 "SunMirrorsModel" "history" "[I" ∈ lw_tbl := tb3_in _ (List.mem_of_getElem? (i := 234) (by decide +kernel))
theorem wq_7_1 : Cond.fieldLink RX10 22 "SunMirrorsModel" "slots" "[I" ∈ lw_tbl := tb3_in _ (List.mem_of_getElem? (i := 236) (by decide +kernel))
theorem wq_7_2 : Cond.fieldLink RX10 25 "SunMirrorsModel" "isSaved" "[I" ∈ lw_tbl := tb3_in _ (List.mem_of_getElem? (i := 237) (by decide +kernel))
theorem wq_7_3 : Cond.fieldLink RX10 28 "SunMirrorsModel" "given" "[I" ∈ lw_tbl := tb3_in _ (List.mem_of_getElem? (i := 238) (by decide +kernel))
theorem wq_7_4 : Cond.fieldLink RX10 31 "SunMirrorsModel" "isUsed" "[I" ∈ lw_tbl := tb3_in _ (List.mem_of_getElem? (i := 239) (by decide +kernel))
theorem wq_7_5 : Cond.fieldLink RX10 34 "SunMirrorsModel" "has" "[I" ∈ lw_tbl := tb4_in _ (List.mem_of_getElem? (i := 0) (by decide +kernel))
theorem wq_7_6 : Cond.fieldLink RX10 37 "SunMirrorsModel" "order" "[I" ∈ lw_tbl := tb4_in _ (List.mem_of_getElem? (i := 1) (by decide +kernel))
theorem wq_7_7 : Cond.fieldLink RX10 40 "SunMirrorsModel" "pad" "[I" ∈ lw_tbl := tb4_in _ (List.mem_of_getElem? (i := 2) (by decide +kernel))
theorem wq_7_8 : Cond.methodLink RL 13 yX9_set ∈ lw_tbl := tb2_in _ (List.mem_of_getElem? (i := 20) (by decide +kernel))
theorem wq_7_9 : Cond.instanceMethod yX9_set ∈ lw_tbl := tb2_in _ (List.mem_of_getElem? (i := 21) (by decide +kernel))
theorem wq_7_10 : Cond.selects RX9 yX9_set yX9_set ∈ lw_tbl := tb2_in _ (List.mem_of_getElem? (i := 22) (by decide +kernel))
theorem wq_7_11 : Cond.code yX9_set cX9_set 3 (some .int) ∈ lw_tbl := tb2_in _ (List.mem_of_getElem? (i := 23) (by decide +kernel))
theorem wq_7_12 : Cond.methodLink RX9 68 yX3_note ∈ lw_tbl := tb2_in _ (List.mem_of_getElem? (i := 24) (by decide +kernel))
theorem wq_7_13 : Cond.instanceMethod yX3_note ∈ lw_tbl := tb2_in _ (List.mem_of_getElem? (i := 25) (by decide +kernel))
theorem wq_7_14 : Cond.selects RX3 yX3_note yX3_note ∈ lw_tbl := tb2_in _ (List.mem_of_getElem? (i := 26) (by decide +kernel))
theorem wq_7_15 : Cond.code yX3_note cX3_note 2 none ∈ lw_tbl := tb2_in _ (List.mem_of_getElem? (i := 27) (by decide +kernel))
theorem wq_7_16 : Cond.methodLink RX3 27 yX7_keep ∈ lw_tbl := tb2_in _ (List.mem_of_getElem? (i := 28) (by decide +kernel))
theorem wq_7_17 : Cond.instanceMethod yX7_keep ∈ lw_tbl := tb2_in _ (List.mem_of_getElem? (i := 29) (by decide +kernel))
theorem wq_7_18 : Cond.selects RX7 yX7_keep yX7_keep ∈ lw_tbl := tb2_in _ (List.mem_of_getElem? (i := 30) (by decide +kernel))
theorem wq_7_19 : Cond.code yX7_keep cX7_keep 4 none ∈ lw_tbl := tb2_in _ (List.mem_of_getElem? (i := 31) (by decide +kernel))
theorem wq_7_20 : Cond.methodLink RX7 22 yX7_state ∈ lw_tbl := tb2_in _ (List.mem_of_getElem? (i := 32) (by decide +kernel))
theorem wq_7_21 : Cond.instanceMethod yX7_state ∈ lw_tbl := tb2_in _ (List.mem_of_getElem? (i := 34) (by decide +kernel))
theorem wq_7_22 : Cond.selects RX7 yX7_state yX7_state ∈ lw_tbl := tb0_in _ (List.mem_of_getElem? (i := 0) (by decide +kernel))
theorem wq_7_23 : Cond.code yX7_state cX7_state 2 (some (.object "SunMirrors$Field")) ∈ lw_tbl := tb2_in _ (List.mem_of_getElem? (i := 35) (by decide +kernel))
theorem wl_r7 : ∀ w ∈ wsL_law_r7, w ∈ lw_tbl := List.forall_mem_cons.mpr ⟨wq_7_0, List.forall_mem_cons.mpr ⟨wq_7_1, List.forall_mem_cons.mpr ⟨wq_7_2, List.forall_mem_cons.mpr ⟨wq_7_3, List.forall_mem_cons.mpr ⟨wq_7_4, List.forall_mem_cons.mpr ⟨wq_7_5, List.forall_mem_cons.mpr ⟨wq_7_6, List.forall_mem_cons.mpr ⟨wq_7_7, List.forall_mem_cons.mpr ⟨wq_7_8, List.forall_mem_cons.mpr ⟨wq_7_9, List.forall_mem_cons.mpr ⟨wq_7_10, List.forall_mem_cons.mpr ⟨wq_7_11, List.forall_mem_cons.mpr ⟨wq_7_12, List.forall_mem_cons.mpr ⟨wq_7_13, List.forall_mem_cons.mpr ⟨wq_7_14, List.forall_mem_cons.mpr ⟨wq_7_15, List.forall_mem_cons.mpr ⟨wq_7_16, List.forall_mem_cons.mpr ⟨wq_7_17, List.forall_mem_cons.mpr ⟨wq_7_18, List.forall_mem_cons.mpr ⟨wq_7_19, List.forall_mem_cons.mpr ⟨wq_7_20, List.forall_mem_cons.mpr ⟨wq_7_21, List.forall_mem_cons.mpr ⟨wq_7_22, List.forall_mem_cons.mpr ⟨wq_7_23, fun _ h => absurd h List.not_mem_nil⟩⟩⟩⟩⟩⟩⟩⟩⟩⟩⟩⟩⟩⟩⟩⟩⟩⟩⟩⟩⟩⟩⟩⟩
theorem wg_r7 : ∀ w ∈ wsL_law_r7, goodWord w = true := List.all_eq_true.mp (by decide +kernel)
theorem wq_8_0 : Cond.methodLink RX7 26 yX2_copy ∈ lw_tbl := tb2_in _ (List.mem_of_getElem? (i := 36) (by decide +kernel))
theorem wq_8_1 : Cond.instanceMethod yX2_copy ∈ lw_tbl := tb2_in _ (List.mem_of_getElem? (i := 37) (by decide +kernel))
theorem wq_8_2 : Cond.selects RX2 yX2_copy yX2_copy ∈ lw_tbl := tb2_in _ (List.mem_of_getElem? (i := 38) (by decide +kernel))
theorem wq_8_3 : Cond.code yX2_copy cX2_copy 2 none ∈ lw_tbl := tb2_in _ (List.mem_of_getElem? (i := 39) (by decide +kernel))
theorem wq_8_4 : Cond.methodLink RX2 52 yX1_copy ∈ lw_tbl := tb2_in _ (List.mem_of_getElem? (i := 40) (by decide +kernel))
theorem wq_8_5 : Cond.instanceMethod yX1_copy ∈ lw_tbl := tb2_in _ (List.mem_of_getElem? (i := 41) (by decide +kernel))
theorem wq_8_6 : Cond.selects RX1 yX1_copy yX1_copy ∈ lw_tbl := tb2_in _ (List.mem_of_getElem? (i := 42) (by decide +kernel))
theorem wq_8_7 : Cond.code yX1_copy cX1_copy 2 none ∈ lw_tbl := tb2_in _ (List.mem_of_getElem? (i := 43) (by decide +kernel))
theorem wq_8_8 : Cond.methodLink RX1 25 Lib.Math.min.name ∈ lw_tbl := tb2_in _ (List.mem_of_getElem? (i := 44) (by decide +kernel))
theorem wq_8_9 : Cond.static Lib.Math.min.name ∈ lw_tbl := tb2_in _ (List.mem_of_getElem? (i := 45) (by decide +kernel))
theorem wq_8_10 : Cond.code Lib.Math.min.name Lib.Math.min.code 2 (some .int) ∈ lw_tbl := tb2_in _ (List.mem_of_getElem? (i := 46) (by decide +kernel))
theorem wq_8_11 : Cond.methodLink RX1 28 arraycopyName ∈ lw_tbl := tb2_in _ (List.mem_of_getElem? (i := 47) (by decide +kernel))
theorem wq_8_12 : Cond.native arraycopyName ∈ lw_tbl := tb2_in _ (List.mem_of_getElem? (i := 49) (by decide +kernel))
theorem wq_8_13 : Cond.static arraycopyName ∈ lw_tbl := tb2_in _ (List.mem_of_getElem? (i := 48) (by decide +kernel))
theorem wq_8_14 : Cond.initialized "java/lang/System" ∈ lw_tbl := tb1_in _ (List.mem_of_getElem? (i := 12) (by decide +kernel))
theorem wq_8_15 : Cond.methodLink RX9 71 yX2_changeSetting ∈ lw_tbl := tb2_in _ (List.mem_of_getElem? (i := 50) (by decide +kernel))
theorem wq_8_16 : Cond.instanceMethod yX2_changeSetting ∈ lw_tbl := tb2_in _ (List.mem_of_getElem? (i := 51) (by decide +kernel))
theorem wq_8_17 : Cond.selects RX2 yX2_changeSetting yX2_changeSetting ∈ lw_tbl := tb2_in _ (List.mem_of_getElem? (i := 52) (by decide +kernel))
theorem wq_8_18 : Cond.code yX2_changeSetting cX2_changeSetting 4 (some .int) ∈ lw_tbl := tb2_in _ (List.mem_of_getElem? (i := 53) (by decide +kernel))
theorem wq_8_19 : Cond.methodLink RX2 56 yX2_isSettingValue ∈ lw_tbl := tb2_in _ (List.mem_of_getElem? (i := 54) (by decide +kernel))
theorem wq_8_20 : Cond.static yX2_isSettingValue ∈ lw_tbl := tb2_in _ (List.mem_of_getElem? (i := 55) (by decide +kernel))
theorem wq_8_21 : Cond.code yX2_isSettingValue cX2_isSettingValue 2 (some .boolean) ∈ lw_tbl := tb2_in _ (List.mem_of_getElem? (i := 56) (by decide +kernel))
theorem wq_8_22 : Cond.methodLink RX2 60 yX1_read ∈ lw_tbl := tb2_in _ (List.mem_of_getElem? (i := 57) (by decide +kernel))
theorem wq_8_23 : Cond.instanceMethod yX1_read ∈ lw_tbl := tb2_in _ (List.mem_of_getElem? (i := 58) (by decide +kernel))
theorem wl_r8 : ∀ w ∈ wsL_law_r8, w ∈ lw_tbl := List.forall_mem_cons.mpr ⟨wq_8_0, List.forall_mem_cons.mpr ⟨wq_8_1, List.forall_mem_cons.mpr ⟨wq_8_2, List.forall_mem_cons.mpr ⟨wq_8_3, List.forall_mem_cons.mpr ⟨wq_8_4, List.forall_mem_cons.mpr ⟨wq_8_5, List.forall_mem_cons.mpr ⟨wq_8_6, List.forall_mem_cons.mpr ⟨wq_8_7, List.forall_mem_cons.mpr ⟨wq_8_8, List.forall_mem_cons.mpr ⟨wq_8_9, List.forall_mem_cons.mpr ⟨wq_8_10, List.forall_mem_cons.mpr ⟨wq_8_11, List.forall_mem_cons.mpr ⟨wq_8_12, List.forall_mem_cons.mpr ⟨wq_8_13, List.forall_mem_cons.mpr ⟨wq_8_14, List.forall_mem_cons.mpr ⟨wq_8_15, List.forall_mem_cons.mpr ⟨wq_8_16, List.forall_mem_cons.mpr ⟨wq_8_17, List.forall_mem_cons.mpr ⟨wq_8_18, List.forall_mem_cons.mpr ⟨wq_8_19, List.forall_mem_cons.mpr ⟨wq_8_20, List.forall_mem_cons.mpr ⟨wq_8_21, List.forall_mem_cons.mpr ⟨wq_8_22, List.forall_mem_cons.mpr ⟨wq_8_23, fun _ h => absurd h List.not_mem_nil⟩⟩⟩⟩⟩⟩⟩⟩⟩⟩⟩⟩⟩⟩⟩⟩⟩⟩⟩⟩⟩⟩⟩⟩
theorem wg_r8 : ∀ w ∈ wsL_law_r8, goodWord w = true := List.all_eq_true.mp (by decide +kernel)
theorem wq_9_0 : Cond.selects RX1 yX1_read yX1_read ∈ lw_tbl := tb2_in _ (List.mem_of_getElem? (i := 59) (by decide +kernel))
theorem wq_9_1 : Cond.code yX1_read cX1_read 2 (some .int) ∈ lw_tbl := tb2_in _ (List.mem_of_getElem? (i := 60) (by decide +kernel))
theorem wq_9_2 : Cond.methodLink RX9 75 yX9_recorded ∈ lw_tbl := tb2_in _ (List.mem_of_getElem? (i := 61) (by decide +kernel))
theorem wq_9_3 : Cond.instanceMethod yX9_recorded ∈ lw_tbl := tb2_in _ (List.mem_of_getElem? (i := 63) (by decide +kernel))
theorem wq_9_4 : Cond.selects RX9 yX9_recorded yX9_recorded ∈ lw_tbl := tb0_in _ (List.mem_of_getElem? (i := 1) (by decide +kernel))
theorem wq_9_5 : Cond.code yX9_recorded cX9_recorded 2 (some .int) ∈ lw_tbl := tb2_in _ (List.mem_of_getElem? (i := 64) (by decide +kernel))
theorem wq_9_6 : Cond.methodLink RX9 244 yX3_keepNote ∈ lw_tbl := tb2_in _ (List.mem_of_getElem? (i := 65) (by decide +kernel))
theorem wq_9_7 : Cond.instanceMethod yX3_keepNote ∈ lw_tbl := tb2_in _ (List.mem_of_getElem? (i := 66) (by decide +kernel))
theorem wq_9_8 : Cond.selects RX3 yX3_keepNote yX3_keepNote ∈ lw_tbl := tb2_in _ (List.mem_of_getElem? (i := 67) (by decide +kernel))
theorem wq_9_9 : Cond.code yX3_keepNote cX3_keepNote 1 none ∈ lw_tbl := tb2_in _ (List.mem_of_getElem? (i := 68) (by decide +kernel))
theorem wq_9_10 : Cond.methodLink RX3 31 Lib.Math.min.name ∈ lw_tbl := tb2_in _ (List.mem_of_getElem? (i := 69) (by decide +kernel))
theorem wq_9_11 : Cond.methodLink RL 17 yX10_set ∈ lw_tbl := tb4_in _ (List.mem_of_getElem? (i := 43) (by decide +kernel))
theorem wq_9_12 : Cond.instanceMethod yX10_set ∈ lw_tbl := tb4_in _ (List.mem_of_getElem? (i := 44) (by decide +kernel))
theorem wq_9_13 : Cond.selects RX10 yX10_set yX10_set ∈ lw_tbl := tb4_in _ (List.mem_of_getElem? (i := 45) (by decide +kernel))
theorem wq_9_14 : Cond.code yX10_set cX10_set 3 (some .int) ∈ lw_tbl := tb4_in _ (List.mem_of_getElem? (i := 46) (by decide +kernel))
theorem wq_9_15 : Cond.methodLink RX10 121 yX10_isSetting ∈ lw_tbl := tb4_in _ (List.mem_of_getElem? (i := 47) (by decide +kernel))
theorem wq_9_16 : Cond.static yX10_isSetting ∈ lw_tbl := tb4_in _ (List.mem_of_getElem? (i := 48) (by decide +kernel))
theorem wq_9_17 : Cond.code yX10_isSetting cX10_isSetting 2 (some .boolean) ∈ lw_tbl := tb4_in _ (List.mem_of_getElem? (i := 49) (by decide +kernel))
theorem wq_9_18 : Cond.constantLong RX10 93 (9999) ∈ lw_tbl := tb4_in _ (List.mem_of_getElem? (i := 50) (by decide +kernel))
theorem wq_9_19 : Cond.constantLong RX10 95 (99) ∈ lw_tbl := tb4_in _ (List.mem_of_getElem? (i := 54) (by decide +kernel))
theorem wq_9_20 : Cond.constantLong RX10 97 (20) ∈ lw_tbl := tb4_in _ (List.mem_of_getElem? (i := 55) (by decide +kernel))
theorem wq_9_21 : Cond.methodLink RX10 51 yX10_isIn ∈ lw_tbl := tb4_in _ (List.mem_of_getElem? (i := 51) (by decide +kernel))
theorem wq_9_22 : Cond.static yX10_isIn ∈ lw_tbl := tb4_in _ (List.mem_of_getElem? (i := 52) (by decide +kernel))
theorem wq_9_23 : Cond.code yX10_isIn cX10_isIn 6 (some .boolean) ∈ lw_tbl := tb4_in _ (List.mem_of_getElem? (i := 53) (by decide +kernel))
theorem wl_r9 : ∀ w ∈ wsL_law_r9, w ∈ lw_tbl := List.forall_mem_cons.mpr ⟨wq_9_0, List.forall_mem_cons.mpr ⟨wq_9_1, List.forall_mem_cons.mpr ⟨wq_9_2, List.forall_mem_cons.mpr ⟨wq_9_3, List.forall_mem_cons.mpr ⟨wq_9_4, List.forall_mem_cons.mpr ⟨wq_9_5, List.forall_mem_cons.mpr ⟨wq_9_6, List.forall_mem_cons.mpr ⟨wq_9_7, List.forall_mem_cons.mpr ⟨wq_9_8, List.forall_mem_cons.mpr ⟨wq_9_9, List.forall_mem_cons.mpr ⟨wq_9_10, List.forall_mem_cons.mpr ⟨wq_9_11, List.forall_mem_cons.mpr ⟨wq_9_12, List.forall_mem_cons.mpr ⟨wq_9_13, List.forall_mem_cons.mpr ⟨wq_9_14, List.forall_mem_cons.mpr ⟨wq_9_15, List.forall_mem_cons.mpr ⟨wq_9_16, List.forall_mem_cons.mpr ⟨wq_9_17, List.forall_mem_cons.mpr ⟨wq_9_18, List.forall_mem_cons.mpr ⟨wq_9_19, List.forall_mem_cons.mpr ⟨wq_9_20, List.forall_mem_cons.mpr ⟨wq_9_21, List.forall_mem_cons.mpr ⟨wq_9_22, List.forall_mem_cons.mpr ⟨wq_9_23, fun _ h => absurd h List.not_mem_nil⟩⟩⟩⟩⟩⟩⟩⟩⟩⟩⟩⟩⟩⟩⟩⟩⟩⟩⟩⟩⟩⟩⟩⟩
theorem wg_r9 : ∀ w ∈ wsL_law_r9, goodWord w = true := List.all_eq_true.mp (by decide +kernel)
theorem wq_10_0 : Cond.methodLink RX10 124 yX10_copy ∈ lw_tbl := tb4_in _ (List.mem_of_getElem? (i := 56) (by decide +kernel))
theorem wq_10_1 : Cond.static yX10_copy ∈ lw_tbl := tb4_in _ (List.mem_of_getElem? (i := 57) (by decide +kernel))
theorem wq_10_2 : Cond.code yX10_copy cX10_copy 3 none ∈ lw_tbl := tb4_in _ (List.mem_of_getElem? (i := 58) (by decide +kernel))
theorem wq_10_3 : Cond.methodLink RX10 118 yX10_changed ∈ lw_tbl := tb4_in _ (List.mem_of_getElem? (i := 59) (by decide +kernel))
theorem wq_10_4 : Cond.instanceMethod yX10_changed ∈ lw_tbl := tb4_in _ (List.mem_of_getElem? (i := 61) (by decide +kernel))
theorem wq_10_5 : Cond.selects RX10 yX10_changed yX10_changed ∈ lw_tbl := tb0_in _ (List.mem_of_getElem? (i := 18) (by decide +kernel))
theorem wq_10_6 : Cond.code yX10_changed cX10_changed 3 (some .int) ∈ lw_tbl := tb4_in _ (List.mem_of_getElem? (i := 62) (by decide +kernel))
theorem wq_10_7 : Cond.fieldLink RX10 43 "SunMirrorsModel" "historyLong" "I" ∈ lw_tbl := tb3_in _ (List.mem_of_getElem? (i := 235) (by decide +kernel))
theorem wq_10_8 : Cond.methodLink RL 18 yX9_mirror ∈ lw_tbl := tb2_in _ (List.mem_of_getElem? (i := 70) (by decide +kernel))
theorem wq_10_9 : Cond.instanceMethod yX9_mirror ∈ lw_tbl := tb2_in _ (List.mem_of_getElem? (i := 71) (by decide +kernel))
theorem wq_10_10 : Cond.selects RX9 yX9_mirror yX9_mirror ∈ lw_tbl := tb2_in _ (List.mem_of_getElem? (i := 72) (by decide +kernel))
theorem wq_10_11 : Cond.code yX9_mirror cX9_mirror 4 (some .int) ∈ lw_tbl := tb2_in _ (List.mem_of_getElem? (i := 73) (by decide +kernel))
theorem wq_10_12 : Cond.methodLink RX9 79 yX2_place ∈ lw_tbl := tb2_in _ (List.mem_of_getElem? (i := 74) (by decide +kernel))
theorem wq_10_13 : Cond.instanceMethod yX2_place ∈ lw_tbl := tb2_in _ (List.mem_of_getElem? (i := 75) (by decide +kernel))
theorem wq_10_14 : Cond.selects RX2 yX2_place yX2_place ∈ lw_tbl := tb2_in _ (List.mem_of_getElem? (i := 76) (by decide +kernel))
theorem wq_10_15 : Cond.code yX2_place cX2_place 4 (some .int) ∈ lw_tbl := tb2_in _ (List.mem_of_getElem? (i := 77) (by decide +kernel))
theorem wq_10_16 : Cond.static yX9_isPlace ∈ lw_tbl := tb2_in _ (List.mem_of_getElem? (i := 79) (by decide +kernel))
theorem wq_10_17 : Cond.code yX9_isPlace cX9_isPlace 2 (some .boolean) ∈ lw_tbl := tb2_in _ (List.mem_of_getElem? (i := 80) (by decide +kernel))
theorem wq_10_18 : Cond.static yX9_isAimPoint ∈ lw_tbl := tb2_in _ (List.mem_of_getElem? (i := 82) (by decide +kernel))
theorem wq_10_19 : Cond.code yX9_isAimPoint cX9_isAimPoint 1 (some .boolean) ∈ lw_tbl := tb2_in _ (List.mem_of_getElem? (i := 83) (by decide +kernel))
theorem wq_10_20 : Cond.methodLink RX2 71 yX2_mirrorIn ∈ lw_tbl := tb2_in _ (List.mem_of_getElem? (i := 84) (by decide +kernel))
theorem wq_10_21 : Cond.instanceMethod yX2_mirrorIn ∈ lw_tbl := tb2_in _ (List.mem_of_getElem? (i := 85) (by decide +kernel))
theorem wq_10_22 : Cond.selects RX2 yX2_mirrorIn yX2_mirrorIn ∈ lw_tbl := tb2_in _ (List.mem_of_getElem? (i := 86) (by decide +kernel))
theorem wq_10_23 : Cond.code yX2_mirrorIn cX2_mirrorIn 4 (some .int) ∈ lw_tbl := tb2_in _ (List.mem_of_getElem? (i := 87) (by decide +kernel))
theorem wl_r10 : ∀ w ∈ wsL_law_r10, w ∈ lw_tbl := List.forall_mem_cons.mpr ⟨wq_10_0, List.forall_mem_cons.mpr ⟨wq_10_1, List.forall_mem_cons.mpr ⟨wq_10_2, List.forall_mem_cons.mpr ⟨wq_10_3, List.forall_mem_cons.mpr ⟨wq_10_4, List.forall_mem_cons.mpr ⟨wq_10_5, List.forall_mem_cons.mpr ⟨wq_10_6, List.forall_mem_cons.mpr ⟨wq_10_7, List.forall_mem_cons.mpr ⟨wq_10_8, List.forall_mem_cons.mpr ⟨wq_10_9, List.forall_mem_cons.mpr ⟨wq_10_10, List.forall_mem_cons.mpr ⟨wq_10_11, List.forall_mem_cons.mpr ⟨wq_10_12, List.forall_mem_cons.mpr ⟨wq_10_13, List.forall_mem_cons.mpr ⟨wq_10_14, List.forall_mem_cons.mpr ⟨wq_10_15, List.forall_mem_cons.mpr ⟨wq_10_16, List.forall_mem_cons.mpr ⟨wq_10_17, List.forall_mem_cons.mpr ⟨wq_10_18, List.forall_mem_cons.mpr ⟨wq_10_19, List.forall_mem_cons.mpr ⟨wq_10_20, List.forall_mem_cons.mpr ⟨wq_10_21, List.forall_mem_cons.mpr ⟨wq_10_22, List.forall_mem_cons.mpr ⟨wq_10_23, fun _ h => absurd h List.not_mem_nil⟩⟩⟩⟩⟩⟩⟩⟩⟩⟩⟩⟩⟩⟩⟩⟩⟩⟩⟩⟩⟩⟩⟩⟩
theorem wg_r10 : ∀ w ∈ wsL_law_r10, goodWord w = true := List.all_eq_true.mp (by decide +kernel)
theorem wq_11_0 : Cond.methodLink RX2 75 yX2_add ∈ lw_tbl := tb2_in _ (List.mem_of_getElem? (i := 88) (by decide +kernel))
theorem wq_11_1 : Cond.instanceMethod yX2_add ∈ lw_tbl := tb2_in _ (List.mem_of_getElem? (i := 89) (by decide +kernel))
theorem wq_11_2 : Cond.selects RX2 yX2_add yX2_add ∈ lw_tbl := tb2_in _ (List.mem_of_getElem? (i := 90) (by decide +kernel))
theorem wq_11_3 : Cond.code yX2_add cX2_add 5 (some .int) ∈ lw_tbl := tb2_in _ (List.mem_of_getElem? (i := 91) (by decide +kernel))
theorem wq_11_4 : Cond.methodLink RL 22 yX10_mirror ∈ lw_tbl := tb4_in _ (List.mem_of_getElem? (i := 63) (by decide +kernel))
theorem wq_11_5 : Cond.instanceMethod yX10_mirror ∈ lw_tbl := tb4_in _ (List.mem_of_getElem? (i := 64) (by decide +kernel))
theorem wq_11_6 : Cond.selects RX10 yX10_mirror yX10_mirror ∈ lw_tbl := tb4_in _ (List.mem_of_getElem? (i := 65) (by decide +kernel))
theorem wq_11_7 : Cond.code yX10_mirror cX10_mirror 4 (some .int) ∈ lw_tbl := tb4_in _ (List.mem_of_getElem? (i := 66) (by decide +kernel))
theorem wq_11_8 : Cond.methodLink RX10 128 yX10_doMirror ∈ lw_tbl := tb4_in _ (List.mem_of_getElem? (i := 67) (by decide +kernel))
theorem wq_11_9 : Cond.instanceMethod yX10_doMirror ∈ lw_tbl := tb4_in _ (List.mem_of_getElem? (i := 69) (by decide +kernel))
theorem wq_11_10 : Cond.selects RX10 yX10_doMirror yX10_doMirror ∈ lw_tbl := tb0_in _ (List.mem_of_getElem? (i := 19) (by decide +kernel))
theorem wq_11_11 : Cond.code yX10_doMirror cX10_doMirror 4 (some .int) ∈ lw_tbl := tb4_in _ (List.mem_of_getElem? (i := 70) (by decide +kernel))
theorem wq_11_12 : Cond.constantLong RX10 103 (3) ∈ lw_tbl := tb4_in _ (List.mem_of_getElem? (i := 75) (by decide +kernel))
theorem wq_11_13 : Cond.methodLink RX10 99 yX10_isPlace ∈ lw_tbl := tb4_in _ (List.mem_of_getElem? (i := 71) (by decide +kernel))
theorem wq_11_14 : Cond.static yX10_isPlace ∈ lw_tbl := tb4_in _ (List.mem_of_getElem? (i := 72) (by decide +kernel))
theorem wq_11_15 : Cond.code yX10_isPlace cX10_isPlace 2 (some .boolean) ∈ lw_tbl := tb4_in _ (List.mem_of_getElem? (i := 73) (by decide +kernel))
theorem wq_11_16 : Cond.constantLong RX10 55 (19) ∈ lw_tbl := tb4_in _ (List.mem_of_getElem? (i := 74) (by decide +kernel))
theorem wq_11_17 : Cond.methodLink RX10 64 yX10_mirrorAt ∈ lw_tbl := tb4_in _ (List.mem_of_getElem? (i := 76) (by decide +kernel))
theorem wq_11_18 : Cond.instanceMethod yX10_mirrorAt ∈ lw_tbl := tb4_in _ (List.mem_of_getElem? (i := 78) (by decide +kernel))
theorem wq_11_19 : Cond.selects RX10 yX10_mirrorAt yX10_mirrorAt ∈ lw_tbl := tb0_in _ (List.mem_of_getElem? (i := 20) (by decide +kernel))
theorem wq_11_20 : Cond.code yX10_mirrorAt cX10_mirrorAt 4 (some .int) ∈ lw_tbl := tb4_in _ (List.mem_of_getElem? (i := 79) (by decide +kernel))
theorem wq_11_21 : Cond.methodLink RX10 57 yX10_its ∈ lw_tbl := tb4_in _ (List.mem_of_getElem? (i := 80) (by decide +kernel))
theorem wq_11_22 : Cond.instanceMethod yX10_its ∈ lw_tbl := tb4_in _ (List.mem_of_getElem? (i := 82) (by decide +kernel))
theorem wq_11_23 : Cond.selects RX10 yX10_its yX10_its ∈ lw_tbl := tb0_in _ (List.mem_of_getElem? (i := 21) (by decide +kernel))
theorem wl_r11 : ∀ w ∈ wsL_law_r11, w ∈ lw_tbl := List.forall_mem_cons.mpr ⟨wq_11_0, List.forall_mem_cons.mpr ⟨wq_11_1, List.forall_mem_cons.mpr ⟨wq_11_2, List.forall_mem_cons.mpr ⟨wq_11_3, List.forall_mem_cons.mpr ⟨wq_11_4, List.forall_mem_cons.mpr ⟨wq_11_5, List.forall_mem_cons.mpr ⟨wq_11_6, List.forall_mem_cons.mpr ⟨wq_11_7, List.forall_mem_cons.mpr ⟨wq_11_8, List.forall_mem_cons.mpr ⟨wq_11_9, List.forall_mem_cons.mpr ⟨wq_11_10, List.forall_mem_cons.mpr ⟨wq_11_11, List.forall_mem_cons.mpr ⟨wq_11_12, List.forall_mem_cons.mpr ⟨wq_11_13, List.forall_mem_cons.mpr ⟨wq_11_14, List.forall_mem_cons.mpr ⟨wq_11_15, List.forall_mem_cons.mpr ⟨wq_11_16, List.forall_mem_cons.mpr ⟨wq_11_17, List.forall_mem_cons.mpr ⟨wq_11_18, List.forall_mem_cons.mpr ⟨wq_11_19, List.forall_mem_cons.mpr ⟨wq_11_20, List.forall_mem_cons.mpr ⟨wq_11_21, List.forall_mem_cons.mpr ⟨wq_11_22, List.forall_mem_cons.mpr ⟨wq_11_23, fun _ h => absurd h List.not_mem_nil⟩⟩⟩⟩⟩⟩⟩⟩⟩⟩⟩⟩⟩⟩⟩⟩⟩⟩⟩⟩⟩⟩⟩⟩
theorem wg_r11 : ∀ w ∈ wsL_law_r11, goodWord w = true := List.all_eq_true.mp (by decide +kernel)
theorem wq_12_0 : Cond.code yX10_its cX10_its 3 (some .int) ∈ lw_tbl := tb4_in _ (List.mem_of_getElem? (i := 83) (by decide +kernel))
theorem wq_12_1 : Cond.methodLink RX10 105 yX10_puts ∈ lw_tbl := tb4_in _ (List.mem_of_getElem? (i := 84) (by decide +kernel))
theorem wq_12_2 : Cond.instanceMethod yX10_puts ∈ lw_tbl := tb4_in _ (List.mem_of_getElem? (i := 86) (by decide +kernel))
theorem wq_12_3 : Cond.selects RX10 yX10_puts yX10_puts ∈ lw_tbl := tb0_in _ (List.mem_of_getElem? (i := 22) (by decide +kernel))
theorem wq_12_4 : Cond.code yX10_puts cX10_puts 5 none ∈ lw_tbl := tb4_in _ (List.mem_of_getElem? (i := 87) (by decide +kernel))
theorem wq_12_5 : Cond.methodLink RX10 89 yX10_sets ∈ lw_tbl := tb4_in _ (List.mem_of_getElem? (i := 88) (by decide +kernel))
theorem wq_12_6 : Cond.instanceMethod yX10_sets ∈ lw_tbl := tb4_in _ (List.mem_of_getElem? (i := 90) (by decide +kernel))
theorem wq_12_7 : Cond.selects RX10 yX10_sets yX10_sets ∈ lw_tbl := tb0_in _ (List.mem_of_getElem? (i := 23) (by decide +kernel))
theorem wq_12_8 : Cond.code yX10_sets cX10_sets 4 none ∈ lw_tbl := tb4_in _ (List.mem_of_getElem? (i := 91) (by decide +kernel))
theorem wq_12_9 : Cond.methodLink RX10 132 yX10_ends ∈ lw_tbl := tb4_in _ (List.mem_of_getElem? (i := 92) (by decide +kernel))
theorem wq_12_10 : Cond.instanceMethod yX10_ends ∈ lw_tbl := tb4_in _ (List.mem_of_getElem? (i := 94) (by decide +kernel))
theorem wq_12_11 : Cond.selects RX10 yX10_ends yX10_ends ∈ lw_tbl := tb0_in _ (List.mem_of_getElem? (i := 24) (by decide +kernel))
theorem wq_12_12 : Cond.code yX10_ends cX10_ends 2 (some .int) ∈ lw_tbl := tb4_in _ (List.mem_of_getElem? (i := 95) (by decide +kernel))
theorem wq_12_13 : Cond.methodLink RL 23 yX9_take ∈ lw_tbl := tb2_in _ (List.mem_of_getElem? (i := 92) (by decide +kernel))
theorem wq_12_14 : Cond.instanceMethod yX9_take ∈ lw_tbl := tb2_in _ (List.mem_of_getElem? (i := 93) (by decide +kernel))
theorem wq_12_15 : Cond.selects RX9 yX9_take yX9_take ∈ lw_tbl := tb2_in _ (List.mem_of_getElem? (i := 94) (by decide +kernel))
theorem wq_12_16 : Cond.code yX9_take cX9_take 2 (some .int) ∈ lw_tbl := tb2_in _ (List.mem_of_getElem? (i := 95) (by decide +kernel))
theorem wq_12_17 : Cond.methodLink RX9 83 yX2_remove ∈ lw_tbl := tb2_in _ (List.mem_of_getElem? (i := 96) (by decide +kernel))
theorem wq_12_18 : Cond.instanceMethod yX2_remove ∈ lw_tbl := tb2_in _ (List.mem_of_getElem? (i := 97) (by decide +kernel))
theorem wq_12_19 : Cond.selects RX2 yX2_remove yX2_remove ∈ lw_tbl := tb2_in _ (List.mem_of_getElem? (i := 98) (by decide +kernel))
theorem wq_12_20 : Cond.code yX2_remove cX2_remove 2 (some .int) ∈ lw_tbl := tb2_in _ (List.mem_of_getElem? (i := 99) (by decide +kernel))
theorem wq_12_21 : Cond.methodLink RX2 79 yX2_isMirror ∈ lw_tbl := tb2_in _ (List.mem_of_getElem? (i := 100) (by decide +kernel))
theorem wq_12_22 : Cond.instanceMethod yX2_isMirror ∈ lw_tbl := tb2_in _ (List.mem_of_getElem? (i := 101) (by decide +kernel))
theorem wq_12_23 : Cond.selects RX2 yX2_isMirror yX2_isMirror ∈ lw_tbl := tb2_in _ (List.mem_of_getElem? (i := 102) (by decide +kernel))
theorem wl_r12 : ∀ w ∈ wsL_law_r12, w ∈ lw_tbl := List.forall_mem_cons.mpr ⟨wq_12_0, List.forall_mem_cons.mpr ⟨wq_12_1, List.forall_mem_cons.mpr ⟨wq_12_2, List.forall_mem_cons.mpr ⟨wq_12_3, List.forall_mem_cons.mpr ⟨wq_12_4, List.forall_mem_cons.mpr ⟨wq_12_5, List.forall_mem_cons.mpr ⟨wq_12_6, List.forall_mem_cons.mpr ⟨wq_12_7, List.forall_mem_cons.mpr ⟨wq_12_8, List.forall_mem_cons.mpr ⟨wq_12_9, List.forall_mem_cons.mpr ⟨wq_12_10, List.forall_mem_cons.mpr ⟨wq_12_11, List.forall_mem_cons.mpr ⟨wq_12_12, List.forall_mem_cons.mpr ⟨wq_12_13, List.forall_mem_cons.mpr ⟨wq_12_14, List.forall_mem_cons.mpr ⟨wq_12_15, List.forall_mem_cons.mpr ⟨wq_12_16, List.forall_mem_cons.mpr ⟨wq_12_17, List.forall_mem_cons.mpr ⟨wq_12_18, List.forall_mem_cons.mpr ⟨wq_12_19, List.forall_mem_cons.mpr ⟨wq_12_20, List.forall_mem_cons.mpr ⟨wq_12_21, List.forall_mem_cons.mpr ⟨wq_12_22, List.forall_mem_cons.mpr ⟨wq_12_23, fun _ h => absurd h List.not_mem_nil⟩⟩⟩⟩⟩⟩⟩⟩⟩⟩⟩⟩⟩⟩⟩⟩⟩⟩⟩⟩⟩⟩⟩⟩
theorem wg_r12 : ∀ w ∈ wsL_law_r12, goodWord w = true := List.all_eq_true.mp (by decide +kernel)
theorem wq_13_0 : Cond.code yX2_isMirror cX2_isMirror 2 (some .boolean) ∈ lw_tbl := tb2_in _ (List.mem_of_getElem? (i := 103) (by decide +kernel))
theorem wq_13_1 : Cond.methodLink RX2 82 yX1_leaveOut ∈ lw_tbl := tb2_in _ (List.mem_of_getElem? (i := 104) (by decide +kernel))
theorem wq_13_2 : Cond.instanceMethod yX1_leaveOut ∈ lw_tbl := tb2_in _ (List.mem_of_getElem? (i := 105) (by decide +kernel))
theorem wq_13_3 : Cond.selects RX1 yX1_leaveOut yX1_leaveOut ∈ lw_tbl := tb2_in _ (List.mem_of_getElem? (i := 106) (by decide +kernel))
theorem wq_13_4 : Cond.code yX1_leaveOut cX1_leaveOut 2 none ∈ lw_tbl := tb2_in _ (List.mem_of_getElem? (i := 107) (by decide +kernel))
theorem wq_13_5 : Cond.methodLink RL 27 yX10_take ∈ lw_tbl := tb4_in _ (List.mem_of_getElem? (i := 96) (by decide +kernel))
theorem wq_13_6 : Cond.instanceMethod yX10_take ∈ lw_tbl := tb4_in _ (List.mem_of_getElem? (i := 97) (by decide +kernel))
theorem wq_13_7 : Cond.selects RX10 yX10_take yX10_take ∈ lw_tbl := tb4_in _ (List.mem_of_getElem? (i := 98) (by decide +kernel))
theorem wq_13_8 : Cond.code yX10_take cX10_take 2 (some .int) ∈ lw_tbl := tb4_in _ (List.mem_of_getElem? (i := 99) (by decide +kernel))
theorem wq_13_9 : Cond.methodLink RX10 135 yX10_doTake ∈ lw_tbl := tb4_in _ (List.mem_of_getElem? (i := 100) (by decide +kernel))
theorem wq_13_10 : Cond.instanceMethod yX10_doTake ∈ lw_tbl := tb4_in _ (List.mem_of_getElem? (i := 102) (by decide +kernel))
theorem wq_13_11 : Cond.selects RX10 yX10_doTake yX10_doTake ∈ lw_tbl := tb0_in _ (List.mem_of_getElem? (i := 25) (by decide +kernel))
theorem wq_13_12 : Cond.code yX10_doTake cX10_doTake 2 (some .int) ∈ lw_tbl := tb4_in _ (List.mem_of_getElem? (i := 103) (by decide +kernel))
theorem wq_13_13 : Cond.methodLink RX10 108 yX10_isMirror ∈ lw_tbl := tb4_in _ (List.mem_of_getElem? (i := 104) (by decide +kernel))
theorem wq_13_14 : Cond.instanceMethod yX10_isMirror ∈ lw_tbl := tb4_in _ (List.mem_of_getElem? (i := 106) (by decide +kernel))
theorem wq_13_15 : Cond.selects RX10 yX10_isMirror yX10_isMirror ∈ lw_tbl := tb0_in _ (List.mem_of_getElem? (i := 26) (by decide +kernel))
theorem wq_13_16 : Cond.code yX10_isMirror cX10_isMirror 2 (some .boolean) ∈ lw_tbl := tb4_in _ (List.mem_of_getElem? (i := 107) (by decide +kernel))
theorem wq_13_17 : Cond.methodLink RX10 111 yX10_takesOut ∈ lw_tbl := tb4_in _ (List.mem_of_getElem? (i := 108) (by decide +kernel))
theorem wq_13_18 : Cond.instanceMethod yX10_takesOut ∈ lw_tbl := tb4_in _ (List.mem_of_getElem? (i := 110) (by decide +kernel))
theorem wq_13_19 : Cond.selects RX10 yX10_takesOut yX10_takesOut ∈ lw_tbl := tb0_in _ (List.mem_of_getElem? (i := 27) (by decide +kernel))
theorem wq_13_20 : Cond.code yX10_takesOut cX10_takesOut 3 none ∈ lw_tbl := tb4_in _ (List.mem_of_getElem? (i := 111) (by decide +kernel))
theorem wq_13_21 : Cond.methodLink RL 28 yX9_aim ∈ lw_tbl := tb2_in _ (List.mem_of_getElem? (i := 108) (by decide +kernel))
theorem wq_13_22 : Cond.instanceMethod yX9_aim ∈ lw_tbl := tb2_in _ (List.mem_of_getElem? (i := 109) (by decide +kernel))
theorem wq_13_23 : Cond.selects RX9 yX9_aim yX9_aim ∈ lw_tbl := tb2_in _ (List.mem_of_getElem? (i := 110) (by decide +kernel))
theorem wl_r13 : ∀ w ∈ wsL_law_r13, w ∈ lw_tbl := List.forall_mem_cons.mpr ⟨wq_13_0, List.forall_mem_cons.mpr ⟨wq_13_1, List.forall_mem_cons.mpr ⟨wq_13_2, List.forall_mem_cons.mpr ⟨wq_13_3, List.forall_mem_cons.mpr ⟨wq_13_4, List.forall_mem_cons.mpr ⟨wq_13_5, List.forall_mem_cons.mpr ⟨wq_13_6, List.forall_mem_cons.mpr ⟨wq_13_7, List.forall_mem_cons.mpr ⟨wq_13_8, List.forall_mem_cons.mpr ⟨wq_13_9, List.forall_mem_cons.mpr ⟨wq_13_10, List.forall_mem_cons.mpr ⟨wq_13_11, List.forall_mem_cons.mpr ⟨wq_13_12, List.forall_mem_cons.mpr ⟨wq_13_13, List.forall_mem_cons.mpr ⟨wq_13_14, List.forall_mem_cons.mpr ⟨wq_13_15, List.forall_mem_cons.mpr ⟨wq_13_16, List.forall_mem_cons.mpr ⟨wq_13_17, List.forall_mem_cons.mpr ⟨wq_13_18, List.forall_mem_cons.mpr ⟨wq_13_19, List.forall_mem_cons.mpr ⟨wq_13_20, List.forall_mem_cons.mpr ⟨wq_13_21, List.forall_mem_cons.mpr ⟨wq_13_22, List.forall_mem_cons.mpr ⟨wq_13_23, fun _ h => absurd h List.not_mem_nil⟩⟩⟩⟩⟩⟩⟩⟩⟩⟩⟩⟩⟩⟩⟩⟩⟩⟩⟩⟩⟩⟩⟩⟩
theorem wg_r13 : ∀ w ∈ wsL_law_r13, goodWord w = true := List.all_eq_true.mp (by decide +kernel)
theorem wq_14_0 : Cond.code yX9_aim cX9_aim 3 (some .int) ∈ lw_tbl := tb2_in _ (List.mem_of_getElem? (i := 111) (by decide +kernel))
theorem wq_14_1 : Cond.methodLink RX9 86 yX2_turn ∈ lw_tbl := tb2_in _ (List.mem_of_getElem? (i := 112) (by decide +kernel))
theorem wq_14_2 : Cond.instanceMethod yX2_turn ∈ lw_tbl := tb2_in _ (List.mem_of_getElem? (i := 113) (by decide +kernel))
theorem wq_14_3 : Cond.selects RX2 yX2_turn yX2_turn ∈ lw_tbl := tb2_in _ (List.mem_of_getElem? (i := 114) (by decide +kernel))
theorem wq_14_4 : Cond.code yX2_turn cX2_turn 4 (some .int) ∈ lw_tbl := tb2_in _ (List.mem_of_getElem? (i := 115) (by decide +kernel))
theorem wq_14_5 : Cond.methodLink RL 31 yX10_aim ∈ lw_tbl := tb4_in _ (List.mem_of_getElem? (i := 112) (by decide +kernel))
theorem wq_14_6 : Cond.instanceMethod yX10_aim ∈ lw_tbl := tb4_in _ (List.mem_of_getElem? (i := 113) (by decide +kernel))
theorem wq_14_7 : Cond.selects RX10 yX10_aim yX10_aim ∈ lw_tbl := tb4_in _ (List.mem_of_getElem? (i := 114) (by decide +kernel))
theorem wq_14_8 : Cond.code yX10_aim cX10_aim 3 (some .int) ∈ lw_tbl := tb4_in _ (List.mem_of_getElem? (i := 115) (by decide +kernel))
theorem wq_14_9 : Cond.methodLink RX10 138 yX10_doAim ∈ lw_tbl := tb4_in _ (List.mem_of_getElem? (i := 116) (by decide +kernel))
theorem wq_14_10 : Cond.instanceMethod yX10_doAim ∈ lw_tbl := tb4_in _ (List.mem_of_getElem? (i := 118) (by decide +kernel))
theorem wq_14_11 : Cond.selects RX10 yX10_doAim yX10_doAim ∈ lw_tbl := tb0_in _ (List.mem_of_getElem? (i := 28) (by decide +kernel))
theorem wq_14_12 : Cond.code yX10_doAim cX10_doAim 4 (some .int) ∈ lw_tbl := tb4_in _ (List.mem_of_getElem? (i := 119) (by decide +kernel))
theorem wq_14_13 : Cond.methodLink RL 32 yX9_wash ∈ lw_tbl := tb2_in _ (List.mem_of_getElem? (i := 116) (by decide +kernel))
theorem wq_14_14 : Cond.instanceMethod yX9_wash ∈ lw_tbl := tb2_in _ (List.mem_of_getElem? (i := 117) (by decide +kernel))
theorem wq_14_15 : Cond.selects RX9 yX9_wash yX9_wash ∈ lw_tbl := tb2_in _ (List.mem_of_getElem? (i := 118) (by decide +kernel))
theorem wq_14_16 : Cond.code yX9_wash cX9_wash 2 (some .int) ∈ lw_tbl := tb2_in _ (List.mem_of_getElem? (i := 119) (by decide +kernel))
theorem wq_14_17 : Cond.methodLink RX9 89 yX2_clean ∈ lw_tbl := tb2_in _ (List.mem_of_getElem? (i := 120) (by decide +kernel))
theorem wq_14_18 : Cond.instanceMethod yX2_clean ∈ lw_tbl := tb2_in _ (List.mem_of_getElem? (i := 121) (by decide +kernel))
theorem wq_14_19 : Cond.selects RX2 yX2_clean yX2_clean ∈ lw_tbl := tb2_in _ (List.mem_of_getElem? (i := 122) (by decide +kernel))
theorem wq_14_20 : Cond.code yX2_clean cX2_clean 3 (some .int) ∈ lw_tbl := tb2_in _ (List.mem_of_getElem? (i := 123) (by decide +kernel))
theorem wq_14_21 : Cond.methodLink RL 35 yX10_wash ∈ lw_tbl := tb4_in _ (List.mem_of_getElem? (i := 120) (by decide +kernel))
theorem wq_14_22 : Cond.instanceMethod yX10_wash ∈ lw_tbl := tb4_in _ (List.mem_of_getElem? (i := 121) (by decide +kernel))
theorem wq_14_23 : Cond.selects RX10 yX10_wash yX10_wash ∈ lw_tbl := tb4_in _ (List.mem_of_getElem? (i := 122) (by decide +kernel))
theorem wl_r14 : ∀ w ∈ wsL_law_r14, w ∈ lw_tbl := List.forall_mem_cons.mpr ⟨wq_14_0, List.forall_mem_cons.mpr ⟨wq_14_1, List.forall_mem_cons.mpr ⟨wq_14_2, List.forall_mem_cons.mpr ⟨wq_14_3, List.forall_mem_cons.mpr ⟨wq_14_4, List.forall_mem_cons.mpr ⟨wq_14_5, List.forall_mem_cons.mpr ⟨wq_14_6, List.forall_mem_cons.mpr ⟨wq_14_7, List.forall_mem_cons.mpr ⟨wq_14_8, List.forall_mem_cons.mpr ⟨wq_14_9, List.forall_mem_cons.mpr ⟨wq_14_10, List.forall_mem_cons.mpr ⟨wq_14_11, List.forall_mem_cons.mpr ⟨wq_14_12, List.forall_mem_cons.mpr ⟨wq_14_13, List.forall_mem_cons.mpr ⟨wq_14_14, List.forall_mem_cons.mpr ⟨wq_14_15, List.forall_mem_cons.mpr ⟨wq_14_16, List.forall_mem_cons.mpr ⟨wq_14_17, List.forall_mem_cons.mpr ⟨wq_14_18, List.forall_mem_cons.mpr ⟨wq_14_19, List.forall_mem_cons.mpr ⟨wq_14_20, List.forall_mem_cons.mpr ⟨wq_14_21, List.forall_mem_cons.mpr ⟨wq_14_22, List.forall_mem_cons.mpr ⟨wq_14_23, fun _ h => absurd h List.not_mem_nil⟩⟩⟩⟩⟩⟩⟩⟩⟩⟩⟩⟩⟩⟩⟩⟩⟩⟩⟩⟩⟩⟩⟩⟩
theorem wg_r14 : ∀ w ∈ wsL_law_r14, goodWord w = true := List.all_eq_true.mp (by decide +kernel)
theorem wq_15_0 : Cond.code yX10_wash cX10_wash 2 (some .int) ∈ lw_tbl := tb4_in _ (List.mem_of_getElem? (i := 123) (by decide +kernel))
theorem wq_15_1 : Cond.methodLink RX10 141 yX10_doWash ∈ lw_tbl := tb4_in _ (List.mem_of_getElem? (i := 124) (by decide +kernel))
theorem wq_15_2 : Cond.instanceMethod yX10_doWash ∈ lw_tbl := tb4_in _ (List.mem_of_getElem? (i := 126) (by decide +kernel))
theorem wq_15_3 : Cond.selects RX10 yX10_doWash yX10_doWash ∈ lw_tbl := tb0_in _ (List.mem_of_getElem? (i := 29) (by decide +kernel))
theorem wq_15_4 : Cond.code yX10_doWash cX10_doWash 3 (some .int) ∈ lw_tbl := tb4_in _ (List.mem_of_getElem? (i := 127) (by decide +kernel))
theorem wq_15_5 : Cond.methodLink RL 36 yX9_wind ∈ lw_tbl := tb2_in _ (List.mem_of_getElem? (i := 124) (by decide +kernel))
theorem wq_15_6 : Cond.instanceMethod yX9_wind ∈ lw_tbl := tb2_in _ (List.mem_of_getElem? (i := 125) (by decide +kernel))
theorem wq_15_7 : Cond.selects RX9 yX9_wind yX9_wind ∈ lw_tbl := tb2_in _ (List.mem_of_getElem? (i := 126) (by decide +kernel))
theorem wq_15_8 : Cond.code yX9_wind cX9_wind 2 (some .int) ∈ lw_tbl := tb2_in _ (List.mem_of_getElem? (i := 127) (by decide +kernel))
theorem wq_15_9 : Cond.methodLink RX9 92 yX2_blow ∈ lw_tbl := tb2_in _ (List.mem_of_getElem? (i := 128) (by decide +kernel))
theorem wq_15_10 : Cond.instanceMethod yX2_blow ∈ lw_tbl := tb2_in _ (List.mem_of_getElem? (i := 129) (by decide +kernel))
theorem wq_15_11 : Cond.selects RX2 yX2_blow yX2_blow ∈ lw_tbl := tb2_in _ (List.mem_of_getElem? (i := 130) (by decide +kernel))
theorem wq_15_12 : Cond.code yX2_blow cX2_blow 2 (some .int) ∈ lw_tbl := tb2_in _ (List.mem_of_getElem? (i := 131) (by decide +kernel))
theorem wq_15_13 : Cond.methodLink RX2 85 yX2_liesFlat ∈ lw_tbl := tb2_in _ (List.mem_of_getElem? (i := 132) (by decide +kernel))
theorem wq_15_14 : Cond.instanceMethod yX2_liesFlat ∈ lw_tbl := tb2_in _ (List.mem_of_getElem? (i := 133) (by decide +kernel))
theorem wq_15_15 : Cond.selects RX2 yX2_liesFlat yX2_liesFlat ∈ lw_tbl := tb2_in _ (List.mem_of_getElem? (i := 134) (by decide +kernel))
theorem wq_15_16 : Cond.code yX2_liesFlat cX2_liesFlat 1 (some .boolean) ∈ lw_tbl := tb2_in _ (List.mem_of_getElem? (i := 135) (by decide +kernel))
theorem wq_15_17 : Cond.methodLink RL 39 yX10_wind ∈ lw_tbl := tb4_in _ (List.mem_of_getElem? (i := 128) (by decide +kernel))
theorem wq_15_18 : Cond.instanceMethod yX10_wind ∈ lw_tbl := tb4_in _ (List.mem_of_getElem? (i := 129) (by decide +kernel))
theorem wq_15_19 : Cond.selects RX10 yX10_wind yX10_wind ∈ lw_tbl := tb4_in _ (List.mem_of_getElem? (i := 130) (by decide +kernel))
theorem wq_15_20 : Cond.code yX10_wind cX10_wind 2 (some .int) ∈ lw_tbl := tb4_in _ (List.mem_of_getElem? (i := 131) (by decide +kernel))
theorem wq_15_21 : Cond.methodLink RX10 144 yX10_doWind ∈ lw_tbl := tb4_in _ (List.mem_of_getElem? (i := 132) (by decide +kernel))
theorem wq_15_22 : Cond.instanceMethod yX10_doWind ∈ lw_tbl := tb4_in _ (List.mem_of_getElem? (i := 134) (by decide +kernel))
theorem wq_15_23 : Cond.selects RX10 yX10_doWind yX10_doWind ∈ lw_tbl := tb0_in _ (List.mem_of_getElem? (i := 30) (by decide +kernel))
theorem wl_r15 : ∀ w ∈ wsL_law_r15, w ∈ lw_tbl := List.forall_mem_cons.mpr ⟨wq_15_0, List.forall_mem_cons.mpr ⟨wq_15_1, List.forall_mem_cons.mpr ⟨wq_15_2, List.forall_mem_cons.mpr ⟨wq_15_3, List.forall_mem_cons.mpr ⟨wq_15_4, List.forall_mem_cons.mpr ⟨wq_15_5, List.forall_mem_cons.mpr ⟨wq_15_6, List.forall_mem_cons.mpr ⟨wq_15_7, List.forall_mem_cons.mpr ⟨wq_15_8, List.forall_mem_cons.mpr ⟨wq_15_9, List.forall_mem_cons.mpr ⟨wq_15_10, List.forall_mem_cons.mpr ⟨wq_15_11, List.forall_mem_cons.mpr ⟨wq_15_12, List.forall_mem_cons.mpr ⟨wq_15_13, List.forall_mem_cons.mpr ⟨wq_15_14, List.forall_mem_cons.mpr ⟨wq_15_15, List.forall_mem_cons.mpr ⟨wq_15_16, List.forall_mem_cons.mpr ⟨wq_15_17, List.forall_mem_cons.mpr ⟨wq_15_18, List.forall_mem_cons.mpr ⟨wq_15_19, List.forall_mem_cons.mpr ⟨wq_15_20, List.forall_mem_cons.mpr ⟨wq_15_21, List.forall_mem_cons.mpr ⟨wq_15_22, List.forall_mem_cons.mpr ⟨wq_15_23, fun _ h => absurd h List.not_mem_nil⟩⟩⟩⟩⟩⟩⟩⟩⟩⟩⟩⟩⟩⟩⟩⟩⟩⟩⟩⟩⟩⟩⟩⟩
theorem wg_r15 : ∀ w ∈ wsL_law_r15, goodWord w = true := List.all_eq_true.mp (by decide +kernel)
theorem wq_16_0 : Cond.code yX10_doWind cX10_doWind 2 (some .int) ∈ lw_tbl := tb4_in _ (List.mem_of_getElem? (i := 135) (by decide +kernel))
theorem wq_16_1 : Cond.methodLink RX10 69 yX10_areFlat ∈ lw_tbl := tb4_in _ (List.mem_of_getElem? (i := 136) (by decide +kernel))
theorem wq_16_2 : Cond.instanceMethod yX10_areFlat ∈ lw_tbl := tb4_in _ (List.mem_of_getElem? (i := 138) (by decide +kernel))
theorem wq_16_3 : Cond.selects RX10 yX10_areFlat yX10_areFlat ∈ lw_tbl := tb0_in _ (List.mem_of_getElem? (i := 31) (by decide +kernel))
theorem wq_16_4 : Cond.code yX10_areFlat cX10_areFlat 1 (some .boolean) ∈ lw_tbl := tb4_in _ (List.mem_of_getElem? (i := 139) (by decide +kernel))
theorem wq_16_5 : Cond.methodLink RL 40 yX9_pass ∈ lw_tbl := tb2_in _ (List.mem_of_getElem? (i := 136) (by decide +kernel))
theorem wq_16_6 : Cond.instanceMethod yX9_pass ∈ lw_tbl := tb2_in _ (List.mem_of_getElem? (i := 137) (by decide +kernel))
theorem wq_16_7 : Cond.selects RX9 yX9_pass yX9_pass ∈ lw_tbl := tb2_in _ (List.mem_of_getElem? (i := 138) (by decide +kernel))
theorem wq_16_8 : Cond.code yX9_pass cX9_pass 2 (some .int) ∈ lw_tbl := tb2_in _ (List.mem_of_getElem? (i := 139) (by decide +kernel))
theorem wq_16_9 : Cond.methodLink RX9 95 yX4_spend ∈ lw_tbl := tb2_in _ (List.mem_of_getElem? (i := 140) (by decide +kernel))
theorem wq_16_10 : Cond.instanceMethod yX4_spend ∈ lw_tbl := tb2_in _ (List.mem_of_getElem? (i := 141) (by decide +kernel))
theorem wq_16_11 : Cond.selects RX4 yX4_spend yX4_spend ∈ lw_tbl := tb2_in _ (List.mem_of_getElem? (i := 142) (by decide +kernel))
theorem wq_16_12 : Cond.code yX4_spend cX4_spend 6 (some .int) ∈ lw_tbl := tb2_in _ (List.mem_of_getElem? (i := 143) (by decide +kernel))
theorem wq_16_13 : Cond.fieldLink RX4 118 "SunMirrors$Field" "days" "I" ∈ lw_tbl := tb1_in _ (List.mem_of_getElem? (i := 71) (by decide +kernel))
theorem wq_16_14 : Cond.methodLink RX4 121 yX4_look ∈ lw_tbl := tb2_in _ (List.mem_of_getElem? (i := 144) (by decide +kernel))
theorem wq_16_15 : Cond.instanceMethod yX4_look ∈ lw_tbl := tb2_in _ (List.mem_of_getElem? (i := 145) (by decide +kernel))
theorem wq_16_16 : Cond.selects RX4 yX4_look yX4_look ∈ lw_tbl := tb2_in _ (List.mem_of_getElem? (i := 146) (by decide +kernel))
theorem wq_16_17 : Cond.code yX4_look cX4_look 3 none ∈ lw_tbl := tb2_in _ (List.mem_of_getElem? (i := 147) (by decide +kernel))
theorem wq_16_18 : Cond.fieldLink RX4 46 "SunMirrors$Field" "mirrors" "I" ∈ lw_tbl := tb1_in _ (List.mem_of_getElem? (i := 66) (by decide +kernel))
theorem wq_16_19 : Cond.fieldLink RX4 51 "SunMirrors$Field" "rows" "LSunMirrors$Cells;" ∈ lw_tbl := tb1_in _ (List.mem_of_getElem? (i := 51) (by decide +kernel))
theorem wq_16_20 : Cond.fieldLink RX4 58 "SunMirrors$Field" "columns" "LSunMirrors$Cells;" ∈ lw_tbl := tb1_in _ (List.mem_of_getElem? (i := 54) (by decide +kernel))
theorem wq_16_21 : Cond.methodLink RX4 43 yX1_fill ∈ lw_tbl := tb2_in _ (List.mem_of_getElem? (i := 148) (by decide +kernel))
theorem wq_16_22 : Cond.instanceMethod yX1_fill ∈ lw_tbl := tb2_in _ (List.mem_of_getElem? (i := 149) (by decide +kernel))
theorem wq_16_23 : Cond.selects RX1 yX1_fill yX1_fill ∈ lw_tbl := tb2_in _ (List.mem_of_getElem? (i := 150) (by decide +kernel))
theorem wl_r16 : ∀ w ∈ wsL_law_r16, w ∈ lw_tbl := List.forall_mem_cons.mpr ⟨wq_16_0, List.forall_mem_cons.mpr ⟨wq_16_1, List.forall_mem_cons.mpr ⟨wq_16_2, List.forall_mem_cons.mpr ⟨wq_16_3, List.forall_mem_cons.mpr ⟨wq_16_4, List.forall_mem_cons.mpr ⟨wq_16_5, List.forall_mem_cons.mpr ⟨wq_16_6, List.forall_mem_cons.mpr ⟨wq_16_7, List.forall_mem_cons.mpr ⟨wq_16_8, List.forall_mem_cons.mpr ⟨wq_16_9, List.forall_mem_cons.mpr ⟨wq_16_10, List.forall_mem_cons.mpr ⟨wq_16_11, List.forall_mem_cons.mpr ⟨wq_16_12, List.forall_mem_cons.mpr ⟨wq_16_13, List.forall_mem_cons.mpr ⟨wq_16_14, List.forall_mem_cons.mpr ⟨wq_16_15, List.forall_mem_cons.mpr ⟨wq_16_16, List.forall_mem_cons.mpr ⟨wq_16_17, List.forall_mem_cons.mpr ⟨wq_16_18, List.forall_mem_cons.mpr ⟨wq_16_19, List.forall_mem_cons.mpr ⟨wq_16_20, List.forall_mem_cons.mpr ⟨wq_16_21, List.forall_mem_cons.mpr ⟨wq_16_22, List.forall_mem_cons.mpr ⟨wq_16_23, fun _ h => absurd h List.not_mem_nil⟩⟩⟩⟩⟩⟩⟩⟩⟩⟩⟩⟩⟩⟩⟩⟩⟩⟩⟩⟩⟩⟩⟩⟩
theorem wg_r16 : ∀ w ∈ wsL_law_r16, goodWord w = true := List.all_eq_true.mp (by decide +kernel)
theorem wq_17_0 : Cond.code yX1_fill cX1_fill 2 none ∈ lw_tbl := tb2_in _ (List.mem_of_getElem? (i := 151) (by decide +kernel))
theorem wq_17_1 : Cond.methodLink RX1 19 yJ7_fill_53178 ∈ lw_tbl := tb2_in _ (List.mem_of_getElem? (i := 152) (by decide +kernel))
theorem wq_17_2 : Cond.static yJ7_fill_53178 ∈ lw_tbl := tb2_in _ (List.mem_of_getElem? (i := 153) (by decide +kernel))
theorem wq_17_3 : Cond.initialized RJ7 ∈ lw_tbl := tb1_in _ (List.mem_of_getElem? (i := 13) (by decide +kernel))
theorem wq_17_4 : Cond.code yJ7_fill_53178 cJ7_fill_53178 4 none ∈ lw_tbl := tb2_in _ (List.mem_of_getElem? (i := 154) (by decide +kernel))
theorem wq_17_5 : Cond.methodLink RX4 54 yX1_read ∈ lw_tbl := tb2_in _ (List.mem_of_getElem? (i := 155) (by decide +kernel))
theorem wq_17_6 : Cond.methodLink RX4 61 yX1_write ∈ lw_tbl := tb2_in _ (List.mem_of_getElem? (i := 156) (by decide +kernel))
theorem wq_17_7 : Cond.methodLink RX4 65 yX4_hasBlocker ∈ lw_tbl := tb2_in _ (List.mem_of_getElem? (i := 157) (by decide +kernel))
theorem wq_17_8 : Cond.instanceMethod yX4_hasBlocker ∈ lw_tbl := tb2_in _ (List.mem_of_getElem? (i := 159) (by decide +kernel))
theorem wq_17_9 : Cond.selects RX4 yX4_hasBlocker yX4_hasBlocker ∈ lw_tbl := tb0_in _ (List.mem_of_getElem? (i := 2) (by decide +kernel))
theorem wq_17_10 : Cond.code yX4_hasBlocker cX4_hasBlocker 7 (some .boolean) ∈ lw_tbl := tb2_in _ (List.mem_of_getElem? (i := 160) (by decide +kernel))
theorem wq_17_11 : Cond.methodLink RX4 73 yX4_inPlace ∈ lw_tbl := tb2_in _ (List.mem_of_getElem? (i := 161) (by decide +kernel))
theorem wq_17_12 : Cond.instanceMethod yX4_inPlace ∈ lw_tbl := tb2_in _ (List.mem_of_getElem? (i := 163) (by decide +kernel))
theorem wq_17_13 : Cond.selects RX4 yX4_inPlace yX4_inPlace ∈ lw_tbl := tb0_in _ (List.mem_of_getElem? (i := 3) (by decide +kernel))
theorem wq_17_14 : Cond.code yX4_inPlace cX4_inPlace 3 (some .int) ∈ lw_tbl := tb2_in _ (List.mem_of_getElem? (i := 164) (by decide +kernel))
theorem wq_17_15 : Cond.methodLink RX4 69 yX4_nearestShader ∈ lw_tbl := tb2_in _ (List.mem_of_getElem? (i := 166) (by decide +kernel))
theorem wq_17_16 : Cond.instanceMethod yX4_nearestShader ∈ lw_tbl := tb2_in _ (List.mem_of_getElem? (i := 168) (by decide +kernel))
theorem wq_17_17 : Cond.selects RX4 yX4_nearestShader yX4_nearestShader ∈ lw_tbl := tb0_in _ (List.mem_of_getElem? (i := 4) (by decide +kernel))
theorem wq_17_18 : Cond.code yX4_nearestShader cX4_nearestShader 8 (some .int) ∈ lw_tbl := tb2_in _ (List.mem_of_getElem? (i := 169) (by decide +kernel))
theorem wq_17_19 : Cond.methodLink RX4 76 yX8_height ∈ lw_tbl := tb2_in _ (List.mem_of_getElem? (i := 170) (by decide +kernel))
theorem wq_17_20 : Cond.static yX8_height ∈ lw_tbl := tb2_in _ (List.mem_of_getElem? (i := 171) (by decide +kernel))
theorem wq_17_21 : Cond.initialized RX8 ∈ lw_tbl := tb1_in _ (List.mem_of_getElem? (i := 14) (by decide +kernel))
theorem wq_17_22 : Cond.code yX8_height cX8_height 1 (some .int) ∈ lw_tbl := tb2_in _ (List.mem_of_getElem? (i := 172) (by decide +kernel))
theorem wq_17_23 : Cond.methodLink RX8 9 Lib.Math.abs.name ∈ lw_tbl := tb2_in _ (List.mem_of_getElem? (i := 173) (by decide +kernel))
theorem wl_r17 : ∀ w ∈ wsL_law_r17, w ∈ lw_tbl := List.forall_mem_cons.mpr ⟨wq_17_0, List.forall_mem_cons.mpr ⟨wq_17_1, List.forall_mem_cons.mpr ⟨wq_17_2, List.forall_mem_cons.mpr ⟨wq_17_3, List.forall_mem_cons.mpr ⟨wq_17_4, List.forall_mem_cons.mpr ⟨wq_17_5, List.forall_mem_cons.mpr ⟨wq_17_6, List.forall_mem_cons.mpr ⟨wq_17_7, List.forall_mem_cons.mpr ⟨wq_17_8, List.forall_mem_cons.mpr ⟨wq_17_9, List.forall_mem_cons.mpr ⟨wq_17_10, List.forall_mem_cons.mpr ⟨wq_17_11, List.forall_mem_cons.mpr ⟨wq_17_12, List.forall_mem_cons.mpr ⟨wq_17_13, List.forall_mem_cons.mpr ⟨wq_17_14, List.forall_mem_cons.mpr ⟨wq_17_15, List.forall_mem_cons.mpr ⟨wq_17_16, List.forall_mem_cons.mpr ⟨wq_17_17, List.forall_mem_cons.mpr ⟨wq_17_18, List.forall_mem_cons.mpr ⟨wq_17_19, List.forall_mem_cons.mpr ⟨wq_17_20, List.forall_mem_cons.mpr ⟨wq_17_21, List.forall_mem_cons.mpr ⟨wq_17_22, List.forall_mem_cons.mpr ⟨wq_17_23, fun _ h => absurd h List.not_mem_nil⟩⟩⟩⟩⟩⟩⟩⟩⟩⟩⟩⟩⟩⟩⟩⟩⟩⟩⟩⟩⟩⟩⟩⟩
theorem wg_r17 : ∀ w ∈ wsL_law_r17, goodWord w = true := List.all_eq_true.mp (by decide +kernel)
theorem wq_18_0 : Cond.static Lib.Math.abs.name ∈ lw_tbl := tb2_in _ (List.mem_of_getElem? (i := 174) (by decide +kernel))
theorem wq_18_1 : Cond.code Lib.Math.abs.name Lib.Math.abs.code 1 (some .int) ∈ lw_tbl := tb2_in _ (List.mem_of_getElem? (i := 175) (by decide +kernel))
theorem wq_18_2 : Cond.methodLink RX4 81 yX8_columns ∈ lw_tbl := tb2_in _ (List.mem_of_getElem? (i := 176) (by decide +kernel))
theorem wq_18_3 : Cond.static yX8_columns ∈ lw_tbl := tb2_in _ (List.mem_of_getElem? (i := 177) (by decide +kernel))
theorem wq_18_4 : Cond.code yX8_columns cX8_columns 1 (some .int) ∈ lw_tbl := tb2_in _ (List.mem_of_getElem? (i := 178) (by decide +kernel))
theorem wq_18_5 : Cond.methodLink RX4 115 yX4_work ∈ lw_tbl := tb2_in _ (List.mem_of_getElem? (i := 179) (by decide +kernel))
theorem wq_18_6 : Cond.instanceMethod yX4_work ∈ lw_tbl := tb2_in _ (List.mem_of_getElem? (i := 180) (by decide +kernel))
theorem wq_18_7 : Cond.selects RX4 yX4_work yX4_work ∈ lw_tbl := tb2_in _ (List.mem_of_getElem? (i := 181) (by decide +kernel))
theorem wq_18_8 : Cond.code yX4_work cX4_work 6 (some .int) ∈ lw_tbl := tb2_in _ (List.mem_of_getElem? (i := 182) (by decide +kernel))
theorem wq_18_9 : Cond.methodLink RX4 87 yX2_liesFlat ∈ lw_tbl := tb2_in _ (List.mem_of_getElem? (i := 183) (by decide +kernel))
theorem wq_18_10 : Cond.methodLink RX4 91 yX4_gift ∈ lw_tbl := tb2_in _ (List.mem_of_getElem? (i := 184) (by decide +kernel))
theorem wq_18_11 : Cond.instanceMethod yX4_gift ∈ lw_tbl := tb2_in _ (List.mem_of_getElem? (i := 186) (by decide +kernel))
theorem wq_18_12 : Cond.selects RX4 yX4_gift yX4_gift ∈ lw_tbl := tb0_in _ (List.mem_of_getElem? (i := 5) (by decide +kernel))
theorem wq_18_13 : Cond.code yX4_gift cX4_gift 4 (some .int) ∈ lw_tbl := tb2_in _ (List.mem_of_getElem? (i := 187) (by decide +kernel))
theorem wq_18_14 : Cond.fieldLink RX4 106 "SunMirrors$Field" "dusts" "LSunMirrors$Cells;" ∈ lw_tbl := tb1_in _ (List.mem_of_getElem? (i := 60) (by decide +kernel))
theorem wq_18_15 : Cond.methodLink RX4 100 yX4_isBlocked ∈ lw_tbl := tb2_in _ (List.mem_of_getElem? (i := 188) (by decide +kernel))
theorem wq_18_16 : Cond.instanceMethod yX4_isBlocked ∈ lw_tbl := tb2_in _ (List.mem_of_getElem? (i := 189) (by decide +kernel))
theorem wq_18_17 : Cond.selects RX4 yX4_isBlocked yX4_isBlocked ∈ lw_tbl := tb2_in _ (List.mem_of_getElem? (i := 190) (by decide +kernel))
theorem wq_18_18 : Cond.code yX4_isBlocked cX4_isBlocked 2 (some .boolean) ∈ lw_tbl := tb2_in _ (List.mem_of_getElem? (i := 191) (by decide +kernel))
theorem wq_18_19 : Cond.methodLink RX4 103 yX4_shader ∈ lw_tbl := tb2_in _ (List.mem_of_getElem? (i := 192) (by decide +kernel))
theorem wq_18_20 : Cond.instanceMethod yX4_shader ∈ lw_tbl := tb2_in _ (List.mem_of_getElem? (i := 193) (by decide +kernel))
theorem wq_18_21 : Cond.selects RX4 yX4_shader yX4_shader ∈ lw_tbl := tb2_in _ (List.mem_of_getElem? (i := 194) (by decide +kernel))
theorem wq_18_22 : Cond.code yX4_shader cX4_shader 3 (some .int) ∈ lw_tbl := tb2_in _ (List.mem_of_getElem? (i := 195) (by decide +kernel))
theorem wq_18_23 : Cond.methodLink RX4 94 yX4_putInOrder ∈ lw_tbl := tb2_in _ (List.mem_of_getElem? (i := 196) (by decide +kernel))
theorem wl_r18 : ∀ w ∈ wsL_law_r18, w ∈ lw_tbl := List.forall_mem_cons.mpr ⟨wq_18_0, List.forall_mem_cons.mpr ⟨wq_18_1, List.forall_mem_cons.mpr ⟨wq_18_2, List.forall_mem_cons.mpr ⟨wq_18_3, List.forall_mem_cons.mpr ⟨wq_18_4, List.forall_mem_cons.mpr ⟨wq_18_5, List.forall_mem_cons.mpr ⟨wq_18_6, List.forall_mem_cons.mpr ⟨wq_18_7, List.forall_mem_cons.mpr ⟨wq_18_8, List.forall_mem_cons.mpr ⟨wq_18_9, List.forall_mem_cons.mpr ⟨wq_18_10, List.forall_mem_cons.mpr ⟨wq_18_11, List.forall_mem_cons.mpr ⟨wq_18_12, List.forall_mem_cons.mpr ⟨wq_18_13, List.forall_mem_cons.mpr ⟨wq_18_14, List.forall_mem_cons.mpr ⟨wq_18_15, List.forall_mem_cons.mpr ⟨wq_18_16, List.forall_mem_cons.mpr ⟨wq_18_17, List.forall_mem_cons.mpr ⟨wq_18_18, List.forall_mem_cons.mpr ⟨wq_18_19, List.forall_mem_cons.mpr ⟨wq_18_20, List.forall_mem_cons.mpr ⟨wq_18_21, List.forall_mem_cons.mpr ⟨wq_18_22, List.forall_mem_cons.mpr ⟨wq_18_23, fun _ h => absurd h List.not_mem_nil⟩⟩⟩⟩⟩⟩⟩⟩⟩⟩⟩⟩⟩⟩⟩⟩⟩⟩⟩⟩⟩⟩⟩⟩
theorem wg_r18 : ∀ w ∈ wsL_law_r18, goodWord w = true := List.all_eq_true.mp (by decide +kernel)
theorem wq_19_0 : Cond.instanceMethod yX4_putInOrder ∈ lw_tbl := tb2_in _ (List.mem_of_getElem? (i := 198) (by decide +kernel))
theorem wq_19_1 : Cond.selects RX4 yX4_putInOrder yX4_putInOrder ∈ lw_tbl := tb0_in _ (List.mem_of_getElem? (i := 6) (by decide +kernel))
theorem wq_19_2 : Cond.code yX4_putInOrder cX4_putInOrder 3 none ∈ lw_tbl := tb2_in _ (List.mem_of_getElem? (i := 199) (by decide +kernel))
theorem wq_19_3 : Cond.methodLink RX4 97 yX4_useIfBearable ∈ lw_tbl := tb2_in _ (List.mem_of_getElem? (i := 200) (by decide +kernel))
theorem wq_19_4 : Cond.instanceMethod yX4_useIfBearable ∈ lw_tbl := tb2_in _ (List.mem_of_getElem? (i := 202) (by decide +kernel))
theorem wq_19_5 : Cond.selects RX4 yX4_useIfBearable yX4_useIfBearable ∈ lw_tbl := tb0_in _ (List.mem_of_getElem? (i := 7) (by decide +kernel))
theorem wq_19_6 : Cond.code yX4_useIfBearable cX4_useIfBearable 4 (some .int) ∈ lw_tbl := tb2_in _ (List.mem_of_getElem? (i := 203) (by decide +kernel))
theorem wq_19_7 : Cond.fieldLink RX4 109 "SunMirrors$Field" "aims" "LSunMirrors$Cells;" ∈ lw_tbl := tb1_in _ (List.mem_of_getElem? (i := 57) (by decide +kernel))
theorem wq_19_8 : Cond.fieldLink RX4 112 "SunMirrors$Field" "settings" "LSunMirrors$Cells;" ∈ lw_tbl := tb1_in _ (List.mem_of_getElem? (i := 48) (by decide +kernel))
theorem wq_19_9 : Cond.methodLink RX4 124 yX4_creditUsed ∈ lw_tbl := tb2_in _ (List.mem_of_getElem? (i := 204) (by decide +kernel))
theorem wq_19_10 : Cond.instanceMethod yX4_creditUsed ∈ lw_tbl := tb2_in _ (List.mem_of_getElem? (i := 206) (by decide +kernel))
theorem wq_19_11 : Cond.selects RX4 yX4_creditUsed yX4_creditUsed ∈ lw_tbl := tb0_in _ (List.mem_of_getElem? (i := 8) (by decide +kernel))
theorem wq_19_12 : Cond.code yX4_creditUsed cX4_creditUsed 2 none ∈ lw_tbl := tb2_in _ (List.mem_of_getElem? (i := 207) (by decide +kernel))
theorem wq_19_13 : Cond.methodLink RX4 130 yX4_isUsed ∈ lw_tbl := tb2_in _ (List.mem_of_getElem? (i := 208) (by decide +kernel))
theorem wq_19_14 : Cond.instanceMethod yX4_isUsed ∈ lw_tbl := tb2_in _ (List.mem_of_getElem? (i := 209) (by decide +kernel))
theorem wq_19_15 : Cond.selects RX4 yX4_isUsed yX4_isUsed ∈ lw_tbl := tb2_in _ (List.mem_of_getElem? (i := 210) (by decide +kernel))
theorem wq_19_16 : Cond.code yX4_isUsed cX4_isUsed 2 (some .boolean) ∈ lw_tbl := tb2_in _ (List.mem_of_getElem? (i := 211) (by decide +kernel))
theorem wq_19_17 : Cond.methodLink RX4 133 yX2_credit ∈ lw_tbl := tb2_in _ (List.mem_of_getElem? (i := 212) (by decide +kernel))
theorem wq_19_18 : Cond.instanceMethod yX2_credit ∈ lw_tbl := tb2_in _ (List.mem_of_getElem? (i := 213) (by decide +kernel))
theorem wq_19_19 : Cond.selects RX2 yX2_credit yX2_credit ∈ lw_tbl := tb2_in _ (List.mem_of_getElem? (i := 214) (by decide +kernel))
theorem wq_19_20 : Cond.code yX2_credit cX2_credit 3 none ∈ lw_tbl := tb2_in _ (List.mem_of_getElem? (i := 215) (by decide +kernel))
theorem wq_19_21 : Cond.methodLink RX4 127 yX2_endDay ∈ lw_tbl := tb2_in _ (List.mem_of_getElem? (i := 216) (by decide +kernel))
theorem wq_19_22 : Cond.instanceMethod yX2_endDay ∈ lw_tbl := tb2_in _ (List.mem_of_getElem? (i := 217) (by decide +kernel))
theorem wq_19_23 : Cond.selects RX2 yX2_endDay yX2_endDay ∈ lw_tbl := tb2_in _ (List.mem_of_getElem? (i := 218) (by decide +kernel))
theorem wl_r19 : ∀ w ∈ wsL_law_r19, w ∈ lw_tbl := List.forall_mem_cons.mpr ⟨wq_19_0, List.forall_mem_cons.mpr ⟨wq_19_1, List.forall_mem_cons.mpr ⟨wq_19_2, List.forall_mem_cons.mpr ⟨wq_19_3, List.forall_mem_cons.mpr ⟨wq_19_4, List.forall_mem_cons.mpr ⟨wq_19_5, List.forall_mem_cons.mpr ⟨wq_19_6, List.forall_mem_cons.mpr ⟨wq_19_7, List.forall_mem_cons.mpr ⟨wq_19_8, List.forall_mem_cons.mpr ⟨wq_19_9, List.forall_mem_cons.mpr ⟨wq_19_10, List.forall_mem_cons.mpr ⟨wq_19_11, List.forall_mem_cons.mpr ⟨wq_19_12, List.forall_mem_cons.mpr ⟨wq_19_13, List.forall_mem_cons.mpr ⟨wq_19_14, List.forall_mem_cons.mpr ⟨wq_19_15, List.forall_mem_cons.mpr ⟨wq_19_16, List.forall_mem_cons.mpr ⟨wq_19_17, List.forall_mem_cons.mpr ⟨wq_19_18, List.forall_mem_cons.mpr ⟨wq_19_19, List.forall_mem_cons.mpr ⟨wq_19_20, List.forall_mem_cons.mpr ⟨wq_19_21, List.forall_mem_cons.mpr ⟨wq_19_22, List.forall_mem_cons.mpr ⟨wq_19_23, fun _ h => absurd h List.not_mem_nil⟩⟩⟩⟩⟩⟩⟩⟩⟩⟩⟩⟩⟩⟩⟩⟩⟩⟩⟩⟩⟩⟩⟩⟩
theorem wg_r19 : ∀ w ∈ wsL_law_r19, goodWord w = true := List.all_eq_true.mp (by decide +kernel)
theorem wq_20_0 : Cond.code yX2_endDay cX2_endDay 3 none ∈ lw_tbl := tb2_in _ (List.mem_of_getElem? (i := 219) (by decide +kernel))
theorem wq_20_1 : Cond.methodLink RX2 89 Lib.Math.min.name ∈ lw_tbl := tb2_in _ (List.mem_of_getElem? (i := 220) (by decide +kernel))
theorem wq_20_2 : Cond.methodLink RL 43 yX10_pass ∈ lw_tbl := tb4_in _ (List.mem_of_getElem? (i := 140) (by decide +kernel))
theorem wq_20_3 : Cond.instanceMethod yX10_pass ∈ lw_tbl := tb4_in _ (List.mem_of_getElem? (i := 141) (by decide +kernel))
theorem wq_20_4 : Cond.selects RX10 yX10_pass yX10_pass ∈ lw_tbl := tb4_in _ (List.mem_of_getElem? (i := 142) (by decide +kernel))
theorem wq_20_5 : Cond.code yX10_pass cX10_pass 2 (some .int) ∈ lw_tbl := tb4_in _ (List.mem_of_getElem? (i := 143) (by decide +kernel))
theorem wq_20_6 : Cond.methodLink RX10 147 yX10_doPass ∈ lw_tbl := tb4_in _ (List.mem_of_getElem? (i := 144) (by decide +kernel))
theorem wq_20_7 : Cond.instanceMethod yX10_doPass ∈ lw_tbl := tb4_in _ (List.mem_of_getElem? (i := 146) (by decide +kernel))
theorem wq_20_8 : Cond.selects RX10 yX10_doPass yX10_doPass ∈ lw_tbl := tb0_in _ (List.mem_of_getElem? (i := 32) (by decide +kernel))
theorem wq_20_9 : Cond.code yX10_doPass cX10_doPass 4 (some .int) ∈ lw_tbl := tb4_in _ (List.mem_of_getElem? (i := 147) (by decide +kernel))
theorem wq_20_10 : Cond.methodLink RX10 115 yX10_day ∈ lw_tbl := tb4_in _ (List.mem_of_getElem? (i := 148) (by decide +kernel))
theorem wq_20_11 : Cond.instanceMethod yX10_day ∈ lw_tbl := tb4_in _ (List.mem_of_getElem? (i := 150) (by decide +kernel))
theorem wq_20_12 : Cond.selects RX10 yX10_day yX10_day ∈ lw_tbl := tb0_in _ (List.mem_of_getElem? (i := 33) (by decide +kernel))
theorem wq_20_13 : Cond.code yX10_day cX10_day 3 none ∈ lw_tbl := tb4_in _ (List.mem_of_getElem? (i := 151) (by decide +kernel))
theorem wq_20_14 : Cond.methodLink RX10 86 yX10_looks ∈ lw_tbl := tb4_in _ (List.mem_of_getElem? (i := 152) (by decide +kernel))
theorem wq_20_15 : Cond.instanceMethod yX10_looks ∈ lw_tbl := tb4_in _ (List.mem_of_getElem? (i := 154) (by decide +kernel))
theorem wq_20_16 : Cond.selects RX10 yX10_looks yX10_looks ∈ lw_tbl := tb0_in _ (List.mem_of_getElem? (i := 34) (by decide +kernel))
theorem wq_20_17 : Cond.code yX10_looks cX10_looks 6 (some .int) ∈ lw_tbl := tb4_in _ (List.mem_of_getElem? (i := 155) (by decide +kernel))
theorem wq_20_18 : Cond.methodLink RX10 80 yX10_gives ∈ lw_tbl := tb4_in _ (List.mem_of_getElem? (i := 156) (by decide +kernel))
theorem wq_20_19 : Cond.instanceMethod yX10_gives ∈ lw_tbl := tb4_in _ (List.mem_of_getElem? (i := 158) (by decide +kernel))
theorem wq_20_20 : Cond.selects RX10 yX10_gives yX10_gives ∈ lw_tbl := tb0_in _ (List.mem_of_getElem? (i := 35) (by decide +kernel))
theorem wq_20_21 : Cond.code yX10_gives cX10_gives 3 (some .int) ∈ lw_tbl := tb4_in _ (List.mem_of_getElem? (i := 159) (by decide +kernel))
theorem wq_20_22 : Cond.methodLink RX10 73 yX10_shadeOf ∈ lw_tbl := tb4_in _ (List.mem_of_getElem? (i := 160) (by decide +kernel))
theorem wq_20_23 : Cond.instanceMethod yX10_shadeOf ∈ lw_tbl := tb4_in _ (List.mem_of_getElem? (i := 162) (by decide +kernel))
theorem wl_r20 : ∀ w ∈ wsL_law_r20, w ∈ lw_tbl := List.forall_mem_cons.mpr ⟨wq_20_0, List.forall_mem_cons.mpr ⟨wq_20_1, List.forall_mem_cons.mpr ⟨wq_20_2, List.forall_mem_cons.mpr ⟨wq_20_3, List.forall_mem_cons.mpr ⟨wq_20_4, List.forall_mem_cons.mpr ⟨wq_20_5, List.forall_mem_cons.mpr ⟨wq_20_6, List.forall_mem_cons.mpr ⟨wq_20_7, List.forall_mem_cons.mpr ⟨wq_20_8, List.forall_mem_cons.mpr ⟨wq_20_9, List.forall_mem_cons.mpr ⟨wq_20_10, List.forall_mem_cons.mpr ⟨wq_20_11, List.forall_mem_cons.mpr ⟨wq_20_12, List.forall_mem_cons.mpr ⟨wq_20_13, List.forall_mem_cons.mpr ⟨wq_20_14, List.forall_mem_cons.mpr ⟨wq_20_15, List.forall_mem_cons.mpr ⟨wq_20_16, List.forall_mem_cons.mpr ⟨wq_20_17, List.forall_mem_cons.mpr ⟨wq_20_18, List.forall_mem_cons.mpr ⟨wq_20_19, List.forall_mem_cons.mpr ⟨wq_20_20, List.forall_mem_cons.mpr ⟨wq_20_21, List.forall_mem_cons.mpr ⟨wq_20_22, List.forall_mem_cons.mpr ⟨wq_20_23, fun _ h => absurd h List.not_mem_nil⟩⟩⟩⟩⟩⟩⟩⟩⟩⟩⟩⟩⟩⟩⟩⟩⟩⟩⟩⟩⟩⟩⟩⟩
theorem wg_r20 : ∀ w ∈ wsL_law_r20, goodWord w = true := List.all_eq_true.mp (by decide +kernel)
theorem wq_21_0 : Cond.selects RX10 yX10_shadeOf yX10_shadeOf ∈ lw_tbl := tb0_in _ (List.mem_of_getElem? (i := 36) (by decide +kernel))
theorem wq_21_1 : Cond.code yX10_shadeOf cX10_shadeOf 5 (some .int) ∈ lw_tbl := tb4_in _ (List.mem_of_getElem? (i := 163) (by decide +kernel))
theorem wq_21_2 : Cond.methodLink RX10 61 yX10_high ∈ lw_tbl := tb4_in _ (List.mem_of_getElem? (i := 164) (by decide +kernel))
theorem wq_21_3 : Cond.static yX10_high ∈ lw_tbl := tb4_in _ (List.mem_of_getElem? (i := 165) (by decide +kernel))
theorem wq_21_4 : Cond.code yX10_high cX10_high 1 (some .int) ∈ lw_tbl := tb4_in _ (List.mem_of_getElem? (i := 166) (by decide +kernel))
theorem wq_21_5 : Cond.methodLink RX10 47 yX10_size ∈ lw_tbl := tb4_in _ (List.mem_of_getElem? (i := 167) (by decide +kernel))
theorem wq_21_6 : Cond.static yX10_size ∈ lw_tbl := tb4_in _ (List.mem_of_getElem? (i := 168) (by decide +kernel))
theorem wq_21_7 : Cond.code yX10_size cX10_size 1 (some .int) ∈ lw_tbl := tb4_in _ (List.mem_of_getElem? (i := 169) (by decide +kernel))
theorem wq_21_8 : Cond.methodLink RX10 76 yX10_isBlocked ∈ lw_tbl := tb4_in _ (List.mem_of_getElem? (i := 170) (by decide +kernel))
theorem wq_21_9 : Cond.instanceMethod yX10_isBlocked ∈ lw_tbl := tb4_in _ (List.mem_of_getElem? (i := 172) (by decide +kernel))
theorem wq_21_10 : Cond.selects RX10 yX10_isBlocked yX10_isBlocked ∈ lw_tbl := tb0_in _ (List.mem_of_getElem? (i := 37) (by decide +kernel))
theorem wq_21_11 : Cond.code yX10_isBlocked cX10_isBlocked 7 (some .boolean) ∈ lw_tbl := tb4_in _ (List.mem_of_getElem? (i := 173) (by decide +kernel))
theorem wq_21_12 : Cond.constantLong RX10 67 (4) ∈ lw_tbl := tb4_in _ (List.mem_of_getElem? (i := 174) (by decide +kernel))
theorem wq_21_13 : Cond.methodLink RX10 83 yX10_sorts ∈ lw_tbl := tb4_in _ (List.mem_of_getElem? (i := 175) (by decide +kernel))
theorem wq_21_14 : Cond.instanceMethod yX10_sorts ∈ lw_tbl := tb4_in _ (List.mem_of_getElem? (i := 177) (by decide +kernel))
theorem wq_21_15 : Cond.selects RX10 yX10_sorts yX10_sorts ∈ lw_tbl := tb0_in _ (List.mem_of_getElem? (i := 38) (by decide +kernel))
theorem wq_21_16 : Cond.code yX10_sorts cX10_sorts 3 none ∈ lw_tbl := tb4_in _ (List.mem_of_getElem? (i := 178) (by decide +kernel))
theorem wq_21_17 : Cond.methodLink RL 44 yX9_of ∈ lw_tbl := tb2_in _ (List.mem_of_getElem? (i := 221) (by decide +kernel))
theorem wq_21_18 : Cond.instanceMethod yX9_of ∈ lw_tbl := tb2_in _ (List.mem_of_getElem? (i := 222) (by decide +kernel))
theorem wq_21_19 : Cond.selects RX9 yX9_of yX9_of ∈ lw_tbl := tb2_in _ (List.mem_of_getElem? (i := 223) (by decide +kernel))
theorem wq_21_20 : Cond.code yX9_of cX9_of 3 (some .int) ∈ lw_tbl := tb2_in _ (List.mem_of_getElem? (i := 224) (by decide +kernel))
theorem wq_21_21 : Cond.fieldLink RX9 102 "SunMirrors$Field" "rows" "LSunMirrors$Cells;" ∈ lw_tbl := tb1_in _ (List.mem_of_getElem? (i := 52) (by decide +kernel))
theorem wq_21_22 : Cond.fieldLink RX9 111 "SunMirrors$Field" "columns" "LSunMirrors$Cells;" ∈ lw_tbl := tb1_in _ (List.mem_of_getElem? (i := 55) (by decide +kernel))
theorem wq_21_23 : Cond.fieldLink RX9 114 "SunMirrors$Field" "aims" "LSunMirrors$Cells;" ∈ lw_tbl := tb1_in _ (List.mem_of_getElem? (i := 58) (by decide +kernel))
theorem wl_r21 : ∀ w ∈ wsL_law_r21, w ∈ lw_tbl := List.forall_mem_cons.mpr ⟨wq_21_0, List.forall_mem_cons.mpr ⟨wq_21_1, List.forall_mem_cons.mpr ⟨wq_21_2, List.forall_mem_cons.mpr ⟨wq_21_3, List.forall_mem_cons.mpr ⟨wq_21_4, List.forall_mem_cons.mpr ⟨wq_21_5, List.forall_mem_cons.mpr ⟨wq_21_6, List.forall_mem_cons.mpr ⟨wq_21_7, List.forall_mem_cons.mpr ⟨wq_21_8, List.forall_mem_cons.mpr ⟨wq_21_9, List.forall_mem_cons.mpr ⟨wq_21_10, List.forall_mem_cons.mpr ⟨wq_21_11, List.forall_mem_cons.mpr ⟨wq_21_12, List.forall_mem_cons.mpr ⟨wq_21_13, List.forall_mem_cons.mpr ⟨wq_21_14, List.forall_mem_cons.mpr ⟨wq_21_15, List.forall_mem_cons.mpr ⟨wq_21_16, List.forall_mem_cons.mpr ⟨wq_21_17, List.forall_mem_cons.mpr ⟨wq_21_18, List.forall_mem_cons.mpr ⟨wq_21_19, List.forall_mem_cons.mpr ⟨wq_21_20, List.forall_mem_cons.mpr ⟨wq_21_21, List.forall_mem_cons.mpr ⟨wq_21_22, List.forall_mem_cons.mpr ⟨wq_21_23, fun _ h => absurd h List.not_mem_nil⟩⟩⟩⟩⟩⟩⟩⟩⟩⟩⟩⟩⟩⟩⟩⟩⟩⟩⟩⟩⟩⟩⟩⟩
theorem wg_r21 : ∀ w ∈ wsL_law_r21, goodWord w = true := List.all_eq_true.mp (by decide +kernel)
theorem wq_22_0 : Cond.fieldLink RX9 117 "SunMirrors$Field" "dusts" "LSunMirrors$Cells;" ∈ lw_tbl := tb1_in _ (List.mem_of_getElem? (i := 61) (by decide +kernel))
theorem wq_22_1 : Cond.fieldLink RX9 126 "SunMirrors$Field" "brought" "LSunMirrors$Cells;" ∈ lw_tbl := tb1_in _ (List.mem_of_getElem? (i := 63) (by decide +kernel))
theorem wq_22_2 : Cond.methodLink RX9 98 yX2_isMirror ∈ lw_tbl := tb2_in _ (List.mem_of_getElem? (i := 225) (by decide +kernel))
theorem wq_22_3 : Cond.methodLink RX9 106 yX1_read ∈ lw_tbl := tb2_in _ (List.mem_of_getElem? (i := 226) (by decide +kernel))
theorem wq_22_4 : Cond.methodLink RX9 120 yX4_look ∈ lw_tbl := tb2_in _ (List.mem_of_getElem? (i := 227) (by decide +kernel))
theorem wq_22_5 : Cond.methodLink RX9 123 yX4_isBlocked ∈ lw_tbl := tb2_in _ (List.mem_of_getElem? (i := 228) (by decide +kernel))
theorem wq_22_6 : Cond.methodLink RL 47 yX10_of ∈ lw_tbl := tb4_in _ (List.mem_of_getElem? (i := 179) (by decide +kernel))
theorem wq_22_7 : Cond.instanceMethod yX10_of ∈ lw_tbl := tb4_in _ (List.mem_of_getElem? (i := 180) (by decide +kernel))
theorem wq_22_8 : Cond.selects RX10 yX10_of yX10_of ∈ lw_tbl := tb4_in _ (List.mem_of_getElem? (i := 181) (by decide +kernel))
theorem wq_22_9 : Cond.code yX10_of cX10_of 3 (some .int) ∈ lw_tbl := tb4_in _ (List.mem_of_getElem? (i := 182) (by decide +kernel))
theorem wq_22_10 : Cond.methodLink RL 48 yX9_at ∈ lw_tbl := tb2_in _ (List.mem_of_getElem? (i := 229) (by decide +kernel))
theorem wq_22_11 : Cond.instanceMethod yX9_at ∈ lw_tbl := tb2_in _ (List.mem_of_getElem? (i := 230) (by decide +kernel))
theorem wq_22_12 : Cond.selects RX9 yX9_at yX9_at ∈ lw_tbl := tb2_in _ (List.mem_of_getElem? (i := 231) (by decide +kernel))
theorem wq_22_13 : Cond.code yX9_at cX9_at 4 (some .int) ∈ lw_tbl := tb2_in _ (List.mem_of_getElem? (i := 232) (by decide +kernel))
theorem wq_22_14 : Cond.methodLink RX9 129 yX8_isHour ∈ lw_tbl := tb2_in _ (List.mem_of_getElem? (i := 233) (by decide +kernel))
theorem wq_22_15 : Cond.static yX8_isHour ∈ lw_tbl := tb2_in _ (List.mem_of_getElem? (i := 234) (by decide +kernel))
theorem wq_22_16 : Cond.code yX8_isHour cX8_isHour 1 (some .boolean) ∈ lw_tbl := tb2_in _ (List.mem_of_getElem? (i := 235) (by decide +kernel))
theorem wq_22_17 : Cond.methodLink RX9 134 yX4_work ∈ lw_tbl := tb2_in _ (List.mem_of_getElem? (i := 236) (by decide +kernel))
theorem wq_22_18 : Cond.methodLink RX9 137 yX4_shader ∈ lw_tbl := tb2_in _ (List.mem_of_getElem? (i := 237) (by decide +kernel))
theorem wq_22_19 : Cond.methodLink RX9 140 yX4_given ∈ lw_tbl := tb2_in _ (List.mem_of_getElem? (i := 238) (by decide +kernel))
theorem wq_22_20 : Cond.instanceMethod yX4_given ∈ lw_tbl := tb2_in _ (List.mem_of_getElem? (i := 239) (by decide +kernel))
theorem wq_22_21 : Cond.selects RX4 yX4_given yX4_given ∈ lw_tbl := tb3_in _ (List.mem_of_getElem? (i := 0) (by decide +kernel))
theorem wq_22_22 : Cond.code yX4_given cX4_given 2 (some .int) ∈ lw_tbl := tb3_in _ (List.mem_of_getElem? (i := 1) (by decide +kernel))
theorem wq_22_23 : Cond.methodLink RX9 143 yX4_isUsed ∈ lw_tbl := tb3_in _ (List.mem_of_getElem? (i := 2) (by decide +kernel))
theorem wl_r22 : ∀ w ∈ wsL_law_r22, w ∈ lw_tbl := List.forall_mem_cons.mpr ⟨wq_22_0, List.forall_mem_cons.mpr ⟨wq_22_1, List.forall_mem_cons.mpr ⟨wq_22_2, List.forall_mem_cons.mpr ⟨wq_22_3, List.forall_mem_cons.mpr ⟨wq_22_4, List.forall_mem_cons.mpr ⟨wq_22_5, List.forall_mem_cons.mpr ⟨wq_22_6, List.forall_mem_cons.mpr ⟨wq_22_7, List.forall_mem_cons.mpr ⟨wq_22_8, List.forall_mem_cons.mpr ⟨wq_22_9, List.forall_mem_cons.mpr ⟨wq_22_10, List.forall_mem_cons.mpr ⟨wq_22_11, List.forall_mem_cons.mpr ⟨wq_22_12, List.forall_mem_cons.mpr ⟨wq_22_13, List.forall_mem_cons.mpr ⟨wq_22_14, List.forall_mem_cons.mpr ⟨wq_22_15, List.forall_mem_cons.mpr ⟨wq_22_16, List.forall_mem_cons.mpr ⟨wq_22_17, List.forall_mem_cons.mpr ⟨wq_22_18, List.forall_mem_cons.mpr ⟨wq_22_19, List.forall_mem_cons.mpr ⟨wq_22_20, List.forall_mem_cons.mpr ⟨wq_22_21, List.forall_mem_cons.mpr ⟨wq_22_22, List.forall_mem_cons.mpr ⟨wq_22_23, fun _ h => absurd h List.not_mem_nil⟩⟩⟩⟩⟩⟩⟩⟩⟩⟩⟩⟩⟩⟩⟩⟩⟩⟩⟩⟩⟩⟩⟩⟩
theorem wg_r22 : ∀ w ∈ wsL_law_r22, goodWord w = true := List.all_eq_true.mp (by decide +kernel)
theorem wq_23_0 : Cond.methodLink RL 51 yX10_at ∈ lw_tbl := tb4_in _ (List.mem_of_getElem? (i := 183) (by decide +kernel))
theorem wq_23_1 : Cond.instanceMethod yX10_at ∈ lw_tbl := tb4_in _ (List.mem_of_getElem? (i := 184) (by decide +kernel))
theorem wq_23_2 : Cond.selects RX10 yX10_at yX10_at ∈ lw_tbl := tb4_in _ (List.mem_of_getElem? (i := 185) (by decide +kernel))
theorem wq_23_3 : Cond.code yX10_at cX10_at 6 (some .int) ∈ lw_tbl := tb4_in _ (List.mem_of_getElem? (i := 186) (by decide +kernel))
theorem wq_23_4 : Cond.methodLink RX10 152 yX10_isHour ∈ lw_tbl := tb4_in _ (List.mem_of_getElem? (i := 187) (by decide +kernel))
theorem wq_23_5 : Cond.static yX10_isHour ∈ lw_tbl := tb4_in _ (List.mem_of_getElem? (i := 188) (by decide +kernel))
theorem wq_23_6 : Cond.code yX10_isHour cX10_isHour 1 (some .boolean) ∈ lw_tbl := tb4_in _ (List.mem_of_getElem? (i := 189) (by decide +kernel))
theorem wq_23_7 : Cond.constantLong RX10 150 (10) ∈ lw_tbl := tb4_in _ (List.mem_of_getElem? (i := 190) (by decide +kernel))
theorem wq_23_8 : Cond.methodLink RL 52 yX9_point ∈ lw_tbl := tb3_in _ (List.mem_of_getElem? (i := 3) (by decide +kernel))
theorem wq_23_9 : Cond.instanceMethod yX9_point ∈ lw_tbl := tb3_in _ (List.mem_of_getElem? (i := 4) (by decide +kernel))
theorem wq_23_10 : Cond.selects RX9 yX9_point yX9_point ∈ lw_tbl := tb3_in _ (List.mem_of_getElem? (i := 5) (by decide +kernel))
theorem wq_23_11 : Cond.code yX9_point cX9_point 4 (some .int) ∈ lw_tbl := tb3_in _ (List.mem_of_getElem? (i := 6) (by decide +kernel))
theorem wq_23_12 : Cond.methodLink RX9 146 yX9_isAimPoint ∈ lw_tbl := tb3_in _ (List.mem_of_getElem? (i := 7) (by decide +kernel))
theorem wq_23_13 : Cond.methodLink RX9 149 yX4_held ∈ lw_tbl := tb3_in _ (List.mem_of_getElem? (i := 8) (by decide +kernel))
theorem wq_23_14 : Cond.instanceMethod yX4_held ∈ lw_tbl := tb3_in _ (List.mem_of_getElem? (i := 9) (by decide +kernel))
theorem wq_23_15 : Cond.selects RX4 yX4_held yX4_held ∈ lw_tbl := tb3_in _ (List.mem_of_getElem? (i := 10) (by decide +kernel))
theorem wq_23_16 : Cond.code yX4_held cX4_held 2 (some .int) ∈ lw_tbl := tb3_in _ (List.mem_of_getElem? (i := 11) (by decide +kernel))
theorem wq_23_17 : Cond.methodLink RX9 152 yX2_mirrorsOf ∈ lw_tbl := tb3_in _ (List.mem_of_getElem? (i := 12) (by decide +kernel))
theorem wq_23_18 : Cond.instanceMethod yX2_mirrorsOf ∈ lw_tbl := tb3_in _ (List.mem_of_getElem? (i := 13) (by decide +kernel))
theorem wq_23_19 : Cond.selects RX2 yX2_mirrorsOf yX2_mirrorsOf ∈ lw_tbl := tb3_in _ (List.mem_of_getElem? (i := 14) (by decide +kernel))
theorem wq_23_20 : Cond.code yX2_mirrorsOf cX2_mirrorsOf 4 (some .int) ∈ lw_tbl := tb3_in _ (List.mem_of_getElem? (i := 15) (by decide +kernel))
theorem wq_23_21 : Cond.methodLink RX9 155 yX4_used ∈ lw_tbl := tb3_in _ (List.mem_of_getElem? (i := 16) (by decide +kernel))
theorem wq_23_22 : Cond.instanceMethod yX4_used ∈ lw_tbl := tb3_in _ (List.mem_of_getElem? (i := 17) (by decide +kernel))
theorem wq_23_23 : Cond.selects RX4 yX4_used yX4_used ∈ lw_tbl := tb3_in _ (List.mem_of_getElem? (i := 18) (by decide +kernel))
theorem wl_r23 : ∀ w ∈ wsL_law_r23, w ∈ lw_tbl := List.forall_mem_cons.mpr ⟨wq_23_0, List.forall_mem_cons.mpr ⟨wq_23_1, List.forall_mem_cons.mpr ⟨wq_23_2, List.forall_mem_cons.mpr ⟨wq_23_3, List.forall_mem_cons.mpr ⟨wq_23_4, List.forall_mem_cons.mpr ⟨wq_23_5, List.forall_mem_cons.mpr ⟨wq_23_6, List.forall_mem_cons.mpr ⟨wq_23_7, List.forall_mem_cons.mpr ⟨wq_23_8, List.forall_mem_cons.mpr ⟨wq_23_9, List.forall_mem_cons.mpr ⟨wq_23_10, List.forall_mem_cons.mpr ⟨wq_23_11, List.forall_mem_cons.mpr ⟨wq_23_12, List.forall_mem_cons.mpr ⟨wq_23_13, List.forall_mem_cons.mpr ⟨wq_23_14, List.forall_mem_cons.mpr ⟨wq_23_15, List.forall_mem_cons.mpr ⟨wq_23_16, List.forall_mem_cons.mpr ⟨wq_23_17, List.forall_mem_cons.mpr ⟨wq_23_18, List.forall_mem_cons.mpr ⟨wq_23_19, List.forall_mem_cons.mpr ⟨wq_23_20, List.forall_mem_cons.mpr ⟨wq_23_21, List.forall_mem_cons.mpr ⟨wq_23_22, List.forall_mem_cons.mpr ⟨wq_23_23, fun _ h => absurd h List.not_mem_nil⟩⟩⟩⟩⟩⟩⟩⟩⟩⟩⟩⟩⟩⟩⟩⟩⟩⟩⟩⟩⟩⟩⟩⟩
theorem wg_r23 : ∀ w ∈ wsL_law_r23, goodWord w = true := List.all_eq_true.mp (by decide +kernel)
theorem wq_24_0 : Cond.code yX4_used cX4_used 1 (some .int) ∈ lw_tbl := tb3_in _ (List.mem_of_getElem? (i := 19) (by decide +kernel))
theorem wq_24_1 : Cond.methodLink RL 55 yX10_point ∈ lw_tbl := tb4_in _ (List.mem_of_getElem? (i := 191) (by decide +kernel))
theorem wq_24_2 : Cond.instanceMethod yX10_point ∈ lw_tbl := tb4_in _ (List.mem_of_getElem? (i := 192) (by decide +kernel))
theorem wq_24_3 : Cond.selects RX10 yX10_point yX10_point ∈ lw_tbl := tb4_in _ (List.mem_of_getElem? (i := 193) (by decide +kernel))
theorem wq_24_4 : Cond.code yX10_point cX10_point 5 (some .int) ∈ lw_tbl := tb4_in _ (List.mem_of_getElem? (i := 194) (by decide +kernel))
theorem wq_24_5 : Cond.methodLink RX10 155 yX10_mirrorsOf ∈ lw_tbl := tb4_in _ (List.mem_of_getElem? (i := 195) (by decide +kernel))
theorem wq_24_6 : Cond.instanceMethod yX10_mirrorsOf ∈ lw_tbl := tb4_in _ (List.mem_of_getElem? (i := 197) (by decide +kernel))
theorem wq_24_7 : Cond.selects RX10 yX10_mirrorsOf yX10_mirrorsOf ∈ lw_tbl := tb0_in _ (List.mem_of_getElem? (i := 39) (by decide +kernel))
theorem wq_24_8 : Cond.code yX10_mirrorsOf cX10_mirrorsOf 5 (some .int) ∈ lw_tbl := tb4_in _ (List.mem_of_getElem? (i := 198) (by decide +kernel))
theorem wq_24_9 : Cond.methodLink RL 56 yX9_count ∈ lw_tbl := tb3_in _ (List.mem_of_getElem? (i := 20) (by decide +kernel))
theorem wq_24_10 : Cond.instanceMethod yX9_count ∈ lw_tbl := tb3_in _ (List.mem_of_getElem? (i := 21) (by decide +kernel))
theorem wq_24_11 : Cond.selects RX9 yX9_count yX9_count ∈ lw_tbl := tb3_in _ (List.mem_of_getElem? (i := 22) (by decide +kernel))
theorem wq_24_12 : Cond.code yX9_count cX9_count 2 (some .int) ∈ lw_tbl := tb3_in _ (List.mem_of_getElem? (i := 23) (by decide +kernel))
theorem wq_24_13 : Cond.fieldLink RX9 159 "SunMirrors$Field" "days" "I" ∈ lw_tbl := tb1_in _ (List.mem_of_getElem? (i := 72) (by decide +kernel))
theorem wq_24_14 : Cond.fieldLink RX9 162 "SunMirrors$Field" "mirrors" "I" ∈ lw_tbl := tb1_in _ (List.mem_of_getElem? (i := 67) (by decide +kernel))
theorem wq_24_15 : Cond.fieldLink RX9 165 "SunMirrors$Field" "wind" "I" ∈ lw_tbl := tb1_in _ (List.mem_of_getElem? (i := 69) (by decide +kernel))
theorem wq_24_16 : Cond.fieldLink RX9 172 "SunMirrors$Field" "broughtByAll" "I" ∈ lw_tbl := tb1_in _ (List.mem_of_getElem? (i := 74) (by decide +kernel))
theorem wq_24_17 : Cond.fieldLink RX9 184 "SunMirrors$Field" "settings" "LSunMirrors$Cells;" ∈ lw_tbl := tb1_in _ (List.mem_of_getElem? (i := 49) (by decide +kernel))
theorem wq_24_18 : Cond.methodLink RX9 168 yX2_liesFlat ∈ lw_tbl := tb3_in _ (List.mem_of_getElem? (i := 24) (by decide +kernel))
theorem wq_24_19 : Cond.methodLink RX9 175 yX4_day ∈ lw_tbl := tb3_in _ (List.mem_of_getElem? (i := 25) (by decide +kernel))
theorem wq_24_20 : Cond.instanceMethod yX4_day ∈ lw_tbl := tb3_in _ (List.mem_of_getElem? (i := 26) (by decide +kernel))
theorem wq_24_21 : Cond.selects RX4 yX4_day yX4_day ∈ lw_tbl := tb3_in _ (List.mem_of_getElem? (i := 27) (by decide +kernel))
theorem wq_24_22 : Cond.code yX4_day cX4_day 3 (some .int) ∈ lw_tbl := tb3_in _ (List.mem_of_getElem? (i := 28) (by decide +kernel))
theorem wq_24_23 : Cond.methodLink RX9 178 yX4_blocked ∈ lw_tbl := tb3_in _ (List.mem_of_getElem? (i := 29) (by decide +kernel))
theorem wl_r24 : ∀ w ∈ wsL_law_r24, w ∈ lw_tbl := List.forall_mem_cons.mpr ⟨wq_24_0, List.forall_mem_cons.mpr ⟨wq_24_1, List.forall_mem_cons.mpr ⟨wq_24_2, List.forall_mem_cons.mpr ⟨wq_24_3, List.forall_mem_cons.mpr ⟨wq_24_4, List.forall_mem_cons.mpr ⟨wq_24_5, List.forall_mem_cons.mpr ⟨wq_24_6, List.forall_mem_cons.mpr ⟨wq_24_7, List.forall_mem_cons.mpr ⟨wq_24_8, List.forall_mem_cons.mpr ⟨wq_24_9, List.forall_mem_cons.mpr ⟨wq_24_10, List.forall_mem_cons.mpr ⟨wq_24_11, List.forall_mem_cons.mpr ⟨wq_24_12, List.forall_mem_cons.mpr ⟨wq_24_13, List.forall_mem_cons.mpr ⟨wq_24_14, List.forall_mem_cons.mpr ⟨wq_24_15, List.forall_mem_cons.mpr ⟨wq_24_16, List.forall_mem_cons.mpr ⟨wq_24_17, List.forall_mem_cons.mpr ⟨wq_24_18, List.forall_mem_cons.mpr ⟨wq_24_19, List.forall_mem_cons.mpr ⟨wq_24_20, List.forall_mem_cons.mpr ⟨wq_24_21, List.forall_mem_cons.mpr ⟨wq_24_22, List.forall_mem_cons.mpr ⟨wq_24_23, fun _ h => absurd h List.not_mem_nil⟩⟩⟩⟩⟩⟩⟩⟩⟩⟩⟩⟩⟩⟩⟩⟩⟩⟩⟩⟩⟩⟩⟩⟩
theorem wg_r24 : ∀ w ∈ wsL_law_r24, goodWord w = true := List.all_eq_true.mp (by decide +kernel)
theorem wq_25_0 : Cond.instanceMethod yX4_blocked ∈ lw_tbl := tb3_in _ (List.mem_of_getElem? (i := 30) (by decide +kernel))
theorem wq_25_1 : Cond.selects RX4 yX4_blocked yX4_blocked ∈ lw_tbl := tb3_in _ (List.mem_of_getElem? (i := 31) (by decide +kernel))
theorem wq_25_2 : Cond.code yX4_blocked cX4_blocked 1 (some .int) ∈ lw_tbl := tb3_in _ (List.mem_of_getElem? (i := 32) (by decide +kernel))
theorem wq_25_3 : Cond.methodLink RX9 181 yX2_allDust ∈ lw_tbl := tb3_in _ (List.mem_of_getElem? (i := 33) (by decide +kernel))
theorem wq_25_4 : Cond.instanceMethod yX2_allDust ∈ lw_tbl := tb3_in _ (List.mem_of_getElem? (i := 34) (by decide +kernel))
theorem wq_25_5 : Cond.selects RX2 yX2_allDust yX2_allDust ∈ lw_tbl := tb3_in _ (List.mem_of_getElem? (i := 35) (by decide +kernel))
theorem wq_25_6 : Cond.code yX2_allDust cX2_allDust 3 (some .int) ∈ lw_tbl := tb3_in _ (List.mem_of_getElem? (i := 36) (by decide +kernel))
theorem wq_25_7 : Cond.methodLink RX9 187 yX5_length ∈ lw_tbl := tb3_in _ (List.mem_of_getElem? (i := 37) (by decide +kernel))
theorem wq_25_8 : Cond.instanceMethod yX5_length ∈ lw_tbl := tb3_in _ (List.mem_of_getElem? (i := 38) (by decide +kernel))
theorem wq_25_9 : Cond.selects RX5 yX5_length yX5_length ∈ lw_tbl := tb3_in _ (List.mem_of_getElem? (i := 39) (by decide +kernel))
theorem wq_25_10 : Cond.code yX5_length cX5_length 1 (some .int) ∈ lw_tbl := tb3_in _ (List.mem_of_getElem? (i := 40) (by decide +kernel))
theorem wq_25_11 : Cond.methodLink RX9 190 yX3_size ∈ lw_tbl := tb3_in _ (List.mem_of_getElem? (i := 41) (by decide +kernel))
theorem wq_25_12 : Cond.instanceMethod yX3_size ∈ lw_tbl := tb3_in _ (List.mem_of_getElem? (i := 42) (by decide +kernel))
theorem wq_25_13 : Cond.selects RX3 yX3_size yX3_size ∈ lw_tbl := tb3_in _ (List.mem_of_getElem? (i := 43) (by decide +kernel))
theorem wq_25_14 : Cond.code yX3_size cX3_size 1 (some .int) ∈ lw_tbl := tb3_in _ (List.mem_of_getElem? (i := 44) (by decide +kernel))
theorem wq_25_15 : Cond.methodLink RL 59 yX10_count ∈ lw_tbl := tb4_in _ (List.mem_of_getElem? (i := 199) (by decide +kernel))
theorem wq_25_16 : Cond.instanceMethod yX10_count ∈ lw_tbl := tb4_in _ (List.mem_of_getElem? (i := 200) (by decide +kernel))
theorem wq_25_17 : Cond.selects RX10 yX10_count yX10_count ∈ lw_tbl := tb4_in _ (List.mem_of_getElem? (i := 201) (by decide +kernel))
theorem wq_25_18 : Cond.code yX10_count cX10_count 2 (some .int) ∈ lw_tbl := tb4_in _ (List.mem_of_getElem? (i := 202) (by decide +kernel))
theorem wq_25_19 : Cond.fieldLink RX10 169 "SunMirrorsModel" "padLong" "I" ∈ lw_tbl := tb4_in _ (List.mem_of_getElem? (i := 3) (by decide +kernel))
theorem wq_25_20 : Cond.methodLink RX10 159 yX10_brings ∈ lw_tbl := tb4_in _ (List.mem_of_getElem? (i := 203) (by decide +kernel))
theorem wq_25_21 : Cond.instanceMethod yX10_brings ∈ lw_tbl := tb4_in _ (List.mem_of_getElem? (i := 205) (by decide +kernel))
theorem wq_25_22 : Cond.selects RX10 yX10_brings yX10_brings ∈ lw_tbl := tb0_in _ (List.mem_of_getElem? (i := 40) (by decide +kernel))
theorem wq_25_23 : Cond.code yX10_brings cX10_brings 3 (some .int) ∈ lw_tbl := tb4_in _ (List.mem_of_getElem? (i := 206) (by decide +kernel))
theorem wl_r25 : ∀ w ∈ wsL_law_r25, w ∈ lw_tbl := List.forall_mem_cons.mpr ⟨wq_25_0, List.forall_mem_cons.mpr ⟨wq_25_1, List.forall_mem_cons.mpr ⟨wq_25_2, List.forall_mem_cons.mpr ⟨wq_25_3, List.forall_mem_cons.mpr ⟨wq_25_4, List.forall_mem_cons.mpr ⟨wq_25_5, List.forall_mem_cons.mpr ⟨wq_25_6, List.forall_mem_cons.mpr ⟨wq_25_7, List.forall_mem_cons.mpr ⟨wq_25_8, List.forall_mem_cons.mpr ⟨wq_25_9, List.forall_mem_cons.mpr ⟨wq_25_10, List.forall_mem_cons.mpr ⟨wq_25_11, List.forall_mem_cons.mpr ⟨wq_25_12, List.forall_mem_cons.mpr ⟨wq_25_13, List.forall_mem_cons.mpr ⟨wq_25_14, List.forall_mem_cons.mpr ⟨wq_25_15, List.forall_mem_cons.mpr ⟨wq_25_16, List.forall_mem_cons.mpr ⟨wq_25_17, List.forall_mem_cons.mpr ⟨wq_25_18, List.forall_mem_cons.mpr ⟨wq_25_19, List.forall_mem_cons.mpr ⟨wq_25_20, List.forall_mem_cons.mpr ⟨wq_25_21, List.forall_mem_cons.mpr ⟨wq_25_22, List.forall_mem_cons.mpr ⟨wq_25_23, fun _ h => absurd h List.not_mem_nil⟩⟩⟩⟩⟩⟩⟩⟩⟩⟩⟩⟩⟩⟩⟩⟩⟩⟩⟩⟩⟩⟩⟩⟩
theorem wg_r25 : ∀ w ∈ wsL_law_r25, goodWord w = true := List.all_eq_true.mp (by decide +kernel)
theorem wq_26_0 : Cond.methodLink RX10 163 yX10_blockedOnes ∈ lw_tbl := tb4_in _ (List.mem_of_getElem? (i := 207) (by decide +kernel))
theorem wq_26_1 : Cond.instanceMethod yX10_blockedOnes ∈ lw_tbl := tb4_in _ (List.mem_of_getElem? (i := 209) (by decide +kernel))
theorem wq_26_2 : Cond.selects RX10 yX10_blockedOnes yX10_blockedOnes ∈ lw_tbl := tb0_in _ (List.mem_of_getElem? (i := 41) (by decide +kernel))
theorem wq_26_3 : Cond.code yX10_blockedOnes cX10_blockedOnes 3 (some .int) ∈ lw_tbl := tb4_in _ (List.mem_of_getElem? (i := 210) (by decide +kernel))
theorem wq_26_4 : Cond.methodLink RX10 166 yX10_allDirt ∈ lw_tbl := tb4_in _ (List.mem_of_getElem? (i := 211) (by decide +kernel))
theorem wq_26_5 : Cond.instanceMethod yX10_allDirt ∈ lw_tbl := tb4_in _ (List.mem_of_getElem? (i := 213) (by decide +kernel))
theorem wq_26_6 : Cond.selects RX10 yX10_allDirt yX10_allDirt ∈ lw_tbl := tb0_in _ (List.mem_of_getElem? (i := 42) (by decide +kernel))
theorem wq_26_7 : Cond.code yX10_allDirt cX10_allDirt 3 (some .int) ∈ lw_tbl := tb4_in _ (List.mem_of_getElem? (i := 214) (by decide +kernel))
theorem wq_26_8 : Cond.methodLink RL 60 yX9_in ∈ lw_tbl := tb3_in _ (List.mem_of_getElem? (i := 45) (by decide +kernel))
theorem wq_26_9 : Cond.instanceMethod yX9_in ∈ lw_tbl := tb3_in _ (List.mem_of_getElem? (i := 46) (by decide +kernel))
theorem wq_26_10 : Cond.selects RX9 yX9_in yX9_in ∈ lw_tbl := tb3_in _ (List.mem_of_getElem? (i := 47) (by decide +kernel))
theorem wq_26_11 : Cond.code yX9_in cX9_in 3 (some .int) ∈ lw_tbl := tb3_in _ (List.mem_of_getElem? (i := 48) (by decide +kernel))
theorem wq_26_12 : Cond.methodLink RX9 193 yX9_isPlace ∈ lw_tbl := tb3_in _ (List.mem_of_getElem? (i := 49) (by decide +kernel))
theorem wq_26_13 : Cond.methodLink RX9 197 yX2_mirrorIn ∈ lw_tbl := tb3_in _ (List.mem_of_getElem? (i := 50) (by decide +kernel))
theorem wq_26_14 : Cond.methodLink RL 63 yX10_in ∈ lw_tbl := tb4_in _ (List.mem_of_getElem? (i := 215) (by decide +kernel))
theorem wq_26_15 : Cond.instanceMethod yX10_in ∈ lw_tbl := tb4_in _ (List.mem_of_getElem? (i := 216) (by decide +kernel))
theorem wq_26_16 : Cond.selects RX10 yX10_in yX10_in ∈ lw_tbl := tb4_in _ (List.mem_of_getElem? (i := 217) (by decide +kernel))
theorem wq_26_17 : Cond.code yX10_in cX10_in 3 (some .int) ∈ lw_tbl := tb4_in _ (List.mem_of_getElem? (i := 218) (by decide +kernel))
theorem wq_26_18 : Cond.methodLink RL 64 yX9_worthLeast ∈ lw_tbl := tb3_in _ (List.mem_of_getElem? (i := 51) (by decide +kernel))
theorem wq_26_19 : Cond.instanceMethod yX9_worthLeast ∈ lw_tbl := tb3_in _ (List.mem_of_getElem? (i := 52) (by decide +kernel))
theorem wq_26_20 : Cond.selects RX9 yX9_worthLeast yX9_worthLeast ∈ lw_tbl := tb3_in _ (List.mem_of_getElem? (i := 53) (by decide +kernel))
theorem wq_26_21 : Cond.code yX9_worthLeast cX9_worthLeast 2 (some .int) ∈ lw_tbl := tb3_in _ (List.mem_of_getElem? (i := 54) (by decide +kernel))
theorem wq_26_22 : Cond.methodLink RX9 200 yX9_isChoice ∈ lw_tbl := tb3_in _ (List.mem_of_getElem? (i := 55) (by decide +kernel))
theorem wq_26_23 : Cond.static yX9_isChoice ∈ lw_tbl := tb3_in _ (List.mem_of_getElem? (i := 56) (by decide +kernel))
theorem wl_r26 : ∀ w ∈ wsL_law_r26, w ∈ lw_tbl := List.forall_mem_cons.mpr ⟨wq_26_0, List.forall_mem_cons.mpr ⟨wq_26_1, List.forall_mem_cons.mpr ⟨wq_26_2, List.forall_mem_cons.mpr ⟨wq_26_3, List.forall_mem_cons.mpr ⟨wq_26_4, List.forall_mem_cons.mpr ⟨wq_26_5, List.forall_mem_cons.mpr ⟨wq_26_6, List.forall_mem_cons.mpr ⟨wq_26_7, List.forall_mem_cons.mpr ⟨wq_26_8, List.forall_mem_cons.mpr ⟨wq_26_9, List.forall_mem_cons.mpr ⟨wq_26_10, List.forall_mem_cons.mpr ⟨wq_26_11, List.forall_mem_cons.mpr ⟨wq_26_12, List.forall_mem_cons.mpr ⟨wq_26_13, List.forall_mem_cons.mpr ⟨wq_26_14, List.forall_mem_cons.mpr ⟨wq_26_15, List.forall_mem_cons.mpr ⟨wq_26_16, List.forall_mem_cons.mpr ⟨wq_26_17, List.forall_mem_cons.mpr ⟨wq_26_18, List.forall_mem_cons.mpr ⟨wq_26_19, List.forall_mem_cons.mpr ⟨wq_26_20, List.forall_mem_cons.mpr ⟨wq_26_21, List.forall_mem_cons.mpr ⟨wq_26_22, List.forall_mem_cons.mpr ⟨wq_26_23, fun _ h => absurd h List.not_mem_nil⟩⟩⟩⟩⟩⟩⟩⟩⟩⟩⟩⟩⟩⟩⟩⟩⟩⟩⟩⟩⟩⟩⟩⟩
theorem wg_r26 : ∀ w ∈ wsL_law_r26, goodWord w = true := List.all_eq_true.mp (by decide +kernel)
theorem wq_27_0 : Cond.code yX9_isChoice cX9_isChoice 1 (some .boolean) ∈ lw_tbl := tb3_in _ (List.mem_of_getElem? (i := 57) (by decide +kernel))
theorem wq_27_1 : Cond.methodLink RX9 203 yX0_leastWorth ∈ lw_tbl := tb3_in _ (List.mem_of_getElem? (i := 58) (by decide +kernel))
theorem wq_27_2 : Cond.instanceMethod yX0_leastWorth ∈ lw_tbl := tb3_in _ (List.mem_of_getElem? (i := 59) (by decide +kernel))
theorem wq_27_3 : Cond.selects RX0 yX0_leastWorth yX0_leastWorth ∈ lw_tbl := tb3_in _ (List.mem_of_getElem? (i := 60) (by decide +kernel))
theorem wq_27_4 : Cond.code yX0_leastWorth cX0_leastWorth 3 (some .int) ∈ lw_tbl := tb3_in _ (List.mem_of_getElem? (i := 61) (by decide +kernel))
theorem wq_27_5 : Cond.fieldLink RX0 40 "SunMirrors$Field" "mirrors" "I" ∈ lw_tbl := tb1_in _ (List.mem_of_getElem? (i := 65) (by decide +kernel))
theorem wq_27_6 : Cond.methodLink RX0 37 yX0_forgetBest ∈ lw_tbl := tb3_in _ (List.mem_of_getElem? (i := 62) (by decide +kernel))
theorem wq_27_7 : Cond.instanceMethod yX0_forgetBest ∈ lw_tbl := tb3_in _ (List.mem_of_getElem? (i := 64) (by decide +kernel))
theorem wq_27_8 : Cond.selects RX0 yX0_forgetBest yX0_forgetBest ∈ lw_tbl := tb0_in _ (List.mem_of_getElem? (i := 9) (by decide +kernel))
theorem wq_27_9 : Cond.code yX0_forgetBest cX0_forgetBest 1 none ∈ lw_tbl := tb3_in _ (List.mem_of_getElem? (i := 65) (by decide +kernel))
theorem wq_27_10 : Cond.methodLink RX0 43 yX2_copy ∈ lw_tbl := tb3_in _ (List.mem_of_getElem? (i := 66) (by decide +kernel))
theorem wq_27_11 : Cond.methodLink RX0 46 yX2_remove ∈ lw_tbl := tb3_in _ (List.mem_of_getElem? (i := 67) (by decide +kernel))
theorem wq_27_12 : Cond.methodLink RX0 50 yX0_weigh ∈ lw_tbl := tb3_in _ (List.mem_of_getElem? (i := 68) (by decide +kernel))
theorem wq_27_13 : Cond.instanceMethod yX0_weigh ∈ lw_tbl := tb3_in _ (List.mem_of_getElem? (i := 70) (by decide +kernel))
theorem wq_27_14 : Cond.selects RX0 yX0_weigh yX0_weigh ∈ lw_tbl := tb0_in _ (List.mem_of_getElem? (i := 10) (by decide +kernel))
theorem wq_27_15 : Cond.code yX0_weigh cX0_weigh 3 none ∈ lw_tbl := tb3_in _ (List.mem_of_getElem? (i := 71) (by decide +kernel))
theorem wq_27_16 : Cond.methodLink RX0 71 yX4_look ∈ lw_tbl := tb3_in _ (List.mem_of_getElem? (i := 72) (by decide +kernel))
theorem wq_27_17 : Cond.methodLink RX0 89 yX4_day ∈ lw_tbl := tb3_in _ (List.mem_of_getElem? (i := 73) (by decide +kernel))
theorem wq_27_18 : Cond.methodLink RX0 54 yX0_answer ∈ lw_tbl := tb3_in _ (List.mem_of_getElem? (i := 74) (by decide +kernel))
theorem wq_27_19 : Cond.instanceMethod yX0_answer ∈ lw_tbl := tb3_in _ (List.mem_of_getElem? (i := 76) (by decide +kernel))
theorem wq_27_20 : Cond.selects RX0 yX0_answer yX0_answer ∈ lw_tbl := tb0_in _ (List.mem_of_getElem? (i := 11) (by decide +kernel))
theorem wq_27_21 : Cond.code yX0_answer cX0_answer 2 (some .int) ∈ lw_tbl := tb3_in _ (List.mem_of_getElem? (i := 77) (by decide +kernel))
theorem wq_27_22 : Cond.methodLink RL 67 yX10_worthLeast ∈ lw_tbl := tb4_in _ (List.mem_of_getElem? (i := 219) (by decide +kernel))
theorem wq_27_23 : Cond.instanceMethod yX10_worthLeast ∈ lw_tbl := tb4_in _ (List.mem_of_getElem? (i := 220) (by decide +kernel))
theorem wl_r27 : ∀ w ∈ wsL_law_r27, w ∈ lw_tbl := List.forall_mem_cons.mpr ⟨wq_27_0, List.forall_mem_cons.mpr ⟨wq_27_1, List.forall_mem_cons.mpr ⟨wq_27_2, List.forall_mem_cons.mpr ⟨wq_27_3, List.forall_mem_cons.mpr ⟨wq_27_4, List.forall_mem_cons.mpr ⟨wq_27_5, List.forall_mem_cons.mpr ⟨wq_27_6, List.forall_mem_cons.mpr ⟨wq_27_7, List.forall_mem_cons.mpr ⟨wq_27_8, List.forall_mem_cons.mpr ⟨wq_27_9, List.forall_mem_cons.mpr ⟨wq_27_10, List.forall_mem_cons.mpr ⟨wq_27_11, List.forall_mem_cons.mpr ⟨wq_27_12, List.forall_mem_cons.mpr ⟨wq_27_13, List.forall_mem_cons.mpr ⟨wq_27_14, List.forall_mem_cons.mpr ⟨wq_27_15, List.forall_mem_cons.mpr ⟨wq_27_16, List.forall_mem_cons.mpr ⟨wq_27_17, List.forall_mem_cons.mpr ⟨wq_27_18, List.forall_mem_cons.mpr ⟨wq_27_19, List.forall_mem_cons.mpr ⟨wq_27_20, List.forall_mem_cons.mpr ⟨wq_27_21, List.forall_mem_cons.mpr ⟨wq_27_22, List.forall_mem_cons.mpr ⟨wq_27_23, fun _ h => absurd h List.not_mem_nil⟩⟩⟩⟩⟩⟩⟩⟩⟩⟩⟩⟩⟩⟩⟩⟩⟩⟩⟩⟩⟩⟩⟩⟩
theorem wg_r27 : ∀ w ∈ wsL_law_r27, goodWord w = true := List.all_eq_true.mp (by decide +kernel)
theorem wq_28_0 : Cond.selects RX10 yX10_worthLeast yX10_worthLeast ∈ lw_tbl := tb4_in _ (List.mem_of_getElem? (i := 221) (by decide +kernel))
theorem wq_28_1 : Cond.code yX10_worthLeast cX10_worthLeast 6 (some .int) ∈ lw_tbl := tb4_in _ (List.mem_of_getElem? (i := 222) (by decide +kernel))
theorem wq_28_2 : Cond.methodLink RL 68 yX9_bestColumn ∈ lw_tbl := tb3_in _ (List.mem_of_getElem? (i := 78) (by decide +kernel))
theorem wq_28_3 : Cond.instanceMethod yX9_bestColumn ∈ lw_tbl := tb3_in _ (List.mem_of_getElem? (i := 79) (by decide +kernel))
theorem wq_28_4 : Cond.selects RX9 yX9_bestColumn yX9_bestColumn ∈ lw_tbl := tb3_in _ (List.mem_of_getElem? (i := 80) (by decide +kernel))
theorem wq_28_5 : Cond.code yX9_bestColumn cX9_bestColumn 4 (some .int) ∈ lw_tbl := tb3_in _ (List.mem_of_getElem? (i := 81) (by decide +kernel))
theorem wq_28_6 : Cond.methodLink RX9 206 yX0_columnForOneMore ∈ lw_tbl := tb3_in _ (List.mem_of_getElem? (i := 82) (by decide +kernel))
theorem wq_28_7 : Cond.instanceMethod yX0_columnForOneMore ∈ lw_tbl := tb3_in _ (List.mem_of_getElem? (i := 83) (by decide +kernel))
theorem wq_28_8 : Cond.selects RX0 yX0_columnForOneMore yX0_columnForOneMore ∈ lw_tbl := tb3_in _ (List.mem_of_getElem? (i := 84) (by decide +kernel))
theorem wq_28_9 : Cond.code yX0_columnForOneMore cX0_columnForOneMore 5 (some .int) ∈ lw_tbl := tb3_in _ (List.mem_of_getElem? (i := 85) (by decide +kernel))
theorem wq_28_10 : Cond.methodLink RX0 57 yX2_mirrorIn ∈ lw_tbl := tb3_in _ (List.mem_of_getElem? (i := 86) (by decide +kernel))
theorem wq_28_11 : Cond.methodLink RX0 61 yX2_add ∈ lw_tbl := tb3_in _ (List.mem_of_getElem? (i := 87) (by decide +kernel))
theorem wq_28_12 : Cond.methodLink RL 71 yX10_bestColumn ∈ lw_tbl := tb4_in _ (List.mem_of_getElem? (i := 223) (by decide +kernel))
theorem wq_28_13 : Cond.instanceMethod yX10_bestColumn ∈ lw_tbl := tb4_in _ (List.mem_of_getElem? (i := 224) (by decide +kernel))
theorem wq_28_14 : Cond.selects RX10 yX10_bestColumn yX10_bestColumn ∈ lw_tbl := tb4_in _ (List.mem_of_getElem? (i := 225) (by decide +kernel))
theorem wq_28_15 : Cond.code yX10_bestColumn cX10_bestColumn 8 (some .int) ∈ lw_tbl := tb4_in _ (List.mem_of_getElem? (i := 226) (by decide +kernel))
theorem wq_28_16 : Cond.methodLink RL 72 yX9_toWash ∈ lw_tbl := tb3_in _ (List.mem_of_getElem? (i := 88) (by decide +kernel))
theorem wq_28_17 : Cond.instanceMethod yX9_toWash ∈ lw_tbl := tb3_in _ (List.mem_of_getElem? (i := 89) (by decide +kernel))
theorem wq_28_18 : Cond.selects RX9 yX9_toWash yX9_toWash ∈ lw_tbl := tb3_in _ (List.mem_of_getElem? (i := 90) (by decide +kernel))
theorem wq_28_19 : Cond.code yX9_toWash cX9_toWash 1 (some .int) ∈ lw_tbl := tb3_in _ (List.mem_of_getElem? (i := 91) (by decide +kernel))
theorem wq_28_20 : Cond.methodLink RX9 209 yX0_mirrorToWash ∈ lw_tbl := tb3_in _ (List.mem_of_getElem? (i := 92) (by decide +kernel))
theorem wq_28_21 : Cond.instanceMethod yX0_mirrorToWash ∈ lw_tbl := tb3_in _ (List.mem_of_getElem? (i := 93) (by decide +kernel))
theorem wq_28_22 : Cond.selects RX0 yX0_mirrorToWash yX0_mirrorToWash ∈ lw_tbl := tb3_in _ (List.mem_of_getElem? (i := 94) (by decide +kernel))
theorem wq_28_23 : Cond.code yX0_mirrorToWash cX0_mirrorToWash 2 (some .int) ∈ lw_tbl := tb3_in _ (List.mem_of_getElem? (i := 95) (by decide +kernel))
theorem wl_r28 : ∀ w ∈ wsL_law_r28, w ∈ lw_tbl := List.forall_mem_cons.mpr ⟨wq_28_0, List.forall_mem_cons.mpr ⟨wq_28_1, List.forall_mem_cons.mpr ⟨wq_28_2, List.forall_mem_cons.mpr ⟨wq_28_3, List.forall_mem_cons.mpr ⟨wq_28_4, List.forall_mem_cons.mpr ⟨wq_28_5, List.forall_mem_cons.mpr ⟨wq_28_6, List.forall_mem_cons.mpr ⟨wq_28_7, List.forall_mem_cons.mpr ⟨wq_28_8, List.forall_mem_cons.mpr ⟨wq_28_9, List.forall_mem_cons.mpr ⟨wq_28_10, List.forall_mem_cons.mpr ⟨wq_28_11, List.forall_mem_cons.mpr ⟨wq_28_12, List.forall_mem_cons.mpr ⟨wq_28_13, List.forall_mem_cons.mpr ⟨wq_28_14, List.forall_mem_cons.mpr ⟨wq_28_15, List.forall_mem_cons.mpr ⟨wq_28_16, List.forall_mem_cons.mpr ⟨wq_28_17, List.forall_mem_cons.mpr ⟨wq_28_18, List.forall_mem_cons.mpr ⟨wq_28_19, List.forall_mem_cons.mpr ⟨wq_28_20, List.forall_mem_cons.mpr ⟨wq_28_21, List.forall_mem_cons.mpr ⟨wq_28_22, List.forall_mem_cons.mpr ⟨wq_28_23, fun _ h => absurd h List.not_mem_nil⟩⟩⟩⟩⟩⟩⟩⟩⟩⟩⟩⟩⟩⟩⟩⟩⟩⟩⟩⟩⟩⟩⟩⟩
theorem wg_r28 : ∀ w ∈ wsL_law_r28, goodWord w = true := List.all_eq_true.mp (by decide +kernel)
theorem wq_29_0 : Cond.methodLink RX0 65 yX2_clean ∈ lw_tbl := tb3_in _ (List.mem_of_getElem? (i := 96) (by decide +kernel))
theorem wq_29_1 : Cond.methodLink RL 76 yX10_toWash ∈ lw_tbl := tb4_in _ (List.mem_of_getElem? (i := 227) (by decide +kernel))
theorem wq_29_2 : Cond.instanceMethod yX10_toWash ∈ lw_tbl := tb4_in _ (List.mem_of_getElem? (i := 228) (by decide +kernel))
theorem wq_29_3 : Cond.selects RX10 yX10_toWash yX10_toWash ∈ lw_tbl := tb4_in _ (List.mem_of_getElem? (i := 229) (by decide +kernel))
theorem wq_29_4 : Cond.code yX10_toWash cX10_toWash 6 (some .int) ∈ lw_tbl := tb4_in _ (List.mem_of_getElem? (i := 230) (by decide +kernel))
theorem wq_29_5 : Cond.methodLink RL 77 yX9_leastLimit ∈ lw_tbl := tb3_in _ (List.mem_of_getElem? (i := 97) (by decide +kernel))
theorem wq_29_6 : Cond.instanceMethod yX9_leastLimit ∈ lw_tbl := tb3_in _ (List.mem_of_getElem? (i := 98) (by decide +kernel))
theorem wq_29_7 : Cond.selects RX9 yX9_leastLimit yX9_leastLimit ∈ lw_tbl := tb3_in _ (List.mem_of_getElem? (i := 99) (by decide +kernel))
theorem wq_29_8 : Cond.code yX9_leastLimit cX9_leastLimit 1 (some .int) ∈ lw_tbl := tb3_in _ (List.mem_of_getElem? (i := 100) (by decide +kernel))
theorem wq_29_9 : Cond.methodLink RX9 212 yX0_limitForAll ∈ lw_tbl := tb3_in _ (List.mem_of_getElem? (i := 101) (by decide +kernel))
theorem wq_29_10 : Cond.instanceMethod yX0_limitForAll ∈ lw_tbl := tb3_in _ (List.mem_of_getElem? (i := 102) (by decide +kernel))
theorem wq_29_11 : Cond.selects RX0 yX0_limitForAll yX0_limitForAll ∈ lw_tbl := tb3_in _ (List.mem_of_getElem? (i := 103) (by decide +kernel))
theorem wq_29_12 : Cond.code yX0_limitForAll cX0_limitForAll 5 (some .int) ∈ lw_tbl := tb3_in _ (List.mem_of_getElem? (i := 104) (by decide +kernel))
theorem wq_29_13 : Cond.methodLink RX0 84 Lib.Math.max.name ∈ lw_tbl := tb3_in _ (List.mem_of_getElem? (i := 109) (by decide +kernel))
theorem wq_29_14 : Cond.methodLink RX0 68 yX2_changeSetting ∈ lw_tbl := tb3_in _ (List.mem_of_getElem? (i := 105) (by decide +kernel))
theorem wq_29_15 : Cond.methodLink RX0 74 yX4_work ∈ lw_tbl := tb3_in _ (List.mem_of_getElem? (i := 106) (by decide +kernel))
theorem wq_29_16 : Cond.methodLink RX0 77 yX4_used ∈ lw_tbl := tb3_in _ (List.mem_of_getElem? (i := 107) (by decide +kernel))
theorem wq_29_17 : Cond.methodLink RX0 81 yX4_held ∈ lw_tbl := tb3_in _ (List.mem_of_getElem? (i := 108) (by decide +kernel))
theorem wq_29_18 : Cond.methodLink RL 80 yX10_leastLimit ∈ lw_tbl := tb4_in _ (List.mem_of_getElem? (i := 231) (by decide +kernel))
theorem wq_29_19 : Cond.instanceMethod yX10_leastLimit ∈ lw_tbl := tb4_in _ (List.mem_of_getElem? (i := 232) (by decide +kernel))
theorem wq_29_20 : Cond.selects RX10 yX10_leastLimit yX10_leastLimit ∈ lw_tbl := tb4_in _ (List.mem_of_getElem? (i := 233) (by decide +kernel))
theorem wq_29_21 : Cond.code yX10_leastLimit cX10_leastLimit 6 (some .int) ∈ lw_tbl := tb4_in _ (List.mem_of_getElem? (i := 234) (by decide +kernel))
theorem wq_29_22 : Cond.methodLink RL 83 yX9_put ∈ lw_tbl := tb3_in _ (List.mem_of_getElem? (i := 110) (by decide +kernel))
theorem wq_29_23 : Cond.instanceMethod yX9_put ∈ lw_tbl := tb3_in _ (List.mem_of_getElem? (i := 111) (by decide +kernel))
theorem wl_r29 : ∀ w ∈ wsL_law_r29, w ∈ lw_tbl := List.forall_mem_cons.mpr ⟨wq_29_0, List.forall_mem_cons.mpr ⟨wq_29_1, List.forall_mem_cons.mpr ⟨wq_29_2, List.forall_mem_cons.mpr ⟨wq_29_3, List.forall_mem_cons.mpr ⟨wq_29_4, List.forall_mem_cons.mpr ⟨wq_29_5, List.forall_mem_cons.mpr ⟨wq_29_6, List.forall_mem_cons.mpr ⟨wq_29_7, List.forall_mem_cons.mpr ⟨wq_29_8, List.forall_mem_cons.mpr ⟨wq_29_9, List.forall_mem_cons.mpr ⟨wq_29_10, List.forall_mem_cons.mpr ⟨wq_29_11, List.forall_mem_cons.mpr ⟨wq_29_12, List.forall_mem_cons.mpr ⟨wq_29_13, List.forall_mem_cons.mpr ⟨wq_29_14, List.forall_mem_cons.mpr ⟨wq_29_15, List.forall_mem_cons.mpr ⟨wq_29_16, List.forall_mem_cons.mpr ⟨wq_29_17, List.forall_mem_cons.mpr ⟨wq_29_18, List.forall_mem_cons.mpr ⟨wq_29_19, List.forall_mem_cons.mpr ⟨wq_29_20, List.forall_mem_cons.mpr ⟨wq_29_21, List.forall_mem_cons.mpr ⟨wq_29_22, List.forall_mem_cons.mpr ⟨wq_29_23, fun _ h => absurd h List.not_mem_nil⟩⟩⟩⟩⟩⟩⟩⟩⟩⟩⟩⟩⟩⟩⟩⟩⟩⟩⟩⟩⟩⟩⟩⟩
theorem wg_r29 : ∀ w ∈ wsL_law_r29, goodWord w = true := List.all_eq_true.mp (by decide +kernel)
theorem wq_30_0 : Cond.selects RX9 yX9_put yX9_put ∈ lw_tbl := tb3_in _ (List.mem_of_getElem? (i := 112) (by decide +kernel))
theorem wq_30_1 : Cond.code yX9_put cX9_put 3 (some .int) ∈ lw_tbl := tb3_in _ (List.mem_of_getElem? (i := 113) (by decide +kernel))
theorem wq_30_2 : Cond.methodLink RX9 215 yX5_append ∈ lw_tbl := tb3_in _ (List.mem_of_getElem? (i := 114) (by decide +kernel))
theorem wq_30_3 : Cond.instanceMethod yX5_append ∈ lw_tbl := tb3_in _ (List.mem_of_getElem? (i := 115) (by decide +kernel))
theorem wq_30_4 : Cond.selects RX5 yX5_append yX5_append ∈ lw_tbl := tb3_in _ (List.mem_of_getElem? (i := 116) (by decide +kernel))
theorem wq_30_5 : Cond.code yX5_append cX5_append 5 (some .int) ∈ lw_tbl := tb3_in _ (List.mem_of_getElem? (i := 117) (by decide +kernel))
theorem wq_30_6 : Cond.methodLink RX5 24 yX5_countSigns ∈ lw_tbl := tb3_in _ (List.mem_of_getElem? (i := 118) (by decide +kernel))
theorem wq_30_7 : Cond.static yX5_countSigns ∈ lw_tbl := tb3_in _ (List.mem_of_getElem? (i := 119) (by decide +kernel))
theorem wq_30_8 : Cond.code yX5_countSigns cX5_countSigns 4 (some .int) ∈ lw_tbl := tb3_in _ (List.mem_of_getElem? (i := 120) (by decide +kernel))
theorem wq_30_9 : Cond.methodLink RX5 28 yX5_signFromEnd ∈ lw_tbl := tb3_in _ (List.mem_of_getElem? (i := 121) (by decide +kernel))
theorem wq_30_10 : Cond.static yX5_signFromEnd ∈ lw_tbl := tb3_in _ (List.mem_of_getElem? (i := 122) (by decide +kernel))
theorem wq_30_11 : Cond.code yX5_signFromEnd cX5_signFromEnd 3 (some .int) ∈ lw_tbl := tb3_in _ (List.mem_of_getElem? (i := 123) (by decide +kernel))
theorem wq_30_12 : Cond.methodLink RX5 32 yX1_write ∈ lw_tbl := tb3_in _ (List.mem_of_getElem? (i := 124) (by decide +kernel))
theorem wq_30_13 : Cond.methodLink RL 87 yX10_put ∈ lw_tbl := tb4_in _ (List.mem_of_getElem? (i := 235) (by decide +kernel))
theorem wq_30_14 : Cond.instanceMethod yX10_put ∈ lw_tbl := tb4_in _ (List.mem_of_getElem? (i := 236) (by decide +kernel))
theorem wq_30_15 : Cond.selects RX10 yX10_put yX10_put ∈ lw_tbl := tb4_in _ (List.mem_of_getElem? (i := 237) (by decide +kernel))
theorem wq_30_16 : Cond.code yX10_put cX10_put 8 (some .int) ∈ lw_tbl := tb4_in _ (List.mem_of_getElem? (i := 238) (by decide +kernel))
theorem wq_30_17 : Cond.constantLong RX10 172 (255) ∈ lw_tbl := tb4_in _ (List.mem_of_getElem? (i := 239) (by decide +kernel))
theorem wq_30_18 : Cond.constantLong RX10 174 (33) ∈ lw_tbl := tb5_in _ (List.mem_of_getElem? (i := 0) (by decide +kernel))
theorem wq_30_19 : Cond.constantLong RX10 176 (126) ∈ lw_tbl := tb5_in _ (List.mem_of_getElem? (i := 1) (by decide +kernel))
theorem wq_30_20 : Cond.methodLink RL 88 yX9_wipe ∈ lw_tbl := tb3_in _ (List.mem_of_getElem? (i := 125) (by decide +kernel))
theorem wq_30_21 : Cond.instanceMethod yX9_wipe ∈ lw_tbl := tb3_in _ (List.mem_of_getElem? (i := 126) (by decide +kernel))
theorem wq_30_22 : Cond.selects RX9 yX9_wipe yX9_wipe ∈ lw_tbl := tb3_in _ (List.mem_of_getElem? (i := 127) (by decide +kernel))
theorem wq_30_23 : Cond.code yX9_wipe cX9_wipe 1 (some .int) ∈ lw_tbl := tb3_in _ (List.mem_of_getElem? (i := 128) (by decide +kernel))
theorem wl_r30 : ∀ w ∈ wsL_law_r30, w ∈ lw_tbl := List.forall_mem_cons.mpr ⟨wq_30_0, List.forall_mem_cons.mpr ⟨wq_30_1, List.forall_mem_cons.mpr ⟨wq_30_2, List.forall_mem_cons.mpr ⟨wq_30_3, List.forall_mem_cons.mpr ⟨wq_30_4, List.forall_mem_cons.mpr ⟨wq_30_5, List.forall_mem_cons.mpr ⟨wq_30_6, List.forall_mem_cons.mpr ⟨wq_30_7, List.forall_mem_cons.mpr ⟨wq_30_8, List.forall_mem_cons.mpr ⟨wq_30_9, List.forall_mem_cons.mpr ⟨wq_30_10, List.forall_mem_cons.mpr ⟨wq_30_11, List.forall_mem_cons.mpr ⟨wq_30_12, List.forall_mem_cons.mpr ⟨wq_30_13, List.forall_mem_cons.mpr ⟨wq_30_14, List.forall_mem_cons.mpr ⟨wq_30_15, List.forall_mem_cons.mpr ⟨wq_30_16, List.forall_mem_cons.mpr ⟨wq_30_17, List.forall_mem_cons.mpr ⟨wq_30_18, List.forall_mem_cons.mpr ⟨wq_30_19, List.forall_mem_cons.mpr ⟨wq_30_20, List.forall_mem_cons.mpr ⟨wq_30_21, List.forall_mem_cons.mpr ⟨wq_30_22, List.forall_mem_cons.mpr ⟨wq_30_23, fun _ h => absurd h List.not_mem_nil⟩⟩⟩⟩⟩⟩⟩⟩⟩⟩⟩⟩⟩⟩⟩⟩⟩⟩⟩⟩⟩⟩⟩⟩
theorem wg_r30 : ∀ w ∈ wsL_law_r30, goodWord w = true := List.all_eq_true.mp (by decide +kernel)
theorem wq_31_0 : Cond.methodLink RX9 219 yX5_empty ∈ lw_tbl := tb3_in _ (List.mem_of_getElem? (i := 129) (by decide +kernel))
theorem wq_31_1 : Cond.instanceMethod yX5_empty ∈ lw_tbl := tb3_in _ (List.mem_of_getElem? (i := 130) (by decide +kernel))
theorem wq_31_2 : Cond.selects RX5 yX5_empty yX5_empty ∈ lw_tbl := tb3_in _ (List.mem_of_getElem? (i := 131) (by decide +kernel))
theorem wq_31_3 : Cond.code yX5_empty cX5_empty 2 (some .int) ∈ lw_tbl := tb3_in _ (List.mem_of_getElem? (i := 132) (by decide +kernel))
theorem wq_31_4 : Cond.methodLink RL 91 yX10_wipe ∈ lw_tbl := tb5_in _ (List.mem_of_getElem? (i := 2) (by decide +kernel))
theorem wq_31_5 : Cond.instanceMethod yX10_wipe ∈ lw_tbl := tb5_in _ (List.mem_of_getElem? (i := 3) (by decide +kernel))
theorem wq_31_6 : Cond.selects RX10 yX10_wipe yX10_wipe ∈ lw_tbl := tb5_in _ (List.mem_of_getElem? (i := 4) (by decide +kernel))
theorem wq_31_7 : Cond.code yX10_wipe cX10_wipe 2 (some .int) ∈ lw_tbl := tb5_in _ (List.mem_of_getElem? (i := 5) (by decide +kernel))
theorem wq_31_8 : Cond.methodLink RL 92 yX9_fault ∈ lw_tbl := tb3_in _ (List.mem_of_getElem? (i := 133) (by decide +kernel))
theorem wq_31_9 : Cond.instanceMethod yX9_fault ∈ lw_tbl := tb3_in _ (List.mem_of_getElem? (i := 134) (by decide +kernel))
theorem wq_31_10 : Cond.selects RX9 yX9_fault yX9_fault ∈ lw_tbl := tb3_in _ (List.mem_of_getElem? (i := 135) (by decide +kernel))
theorem wq_31_11 : Cond.code yX9_fault cX9_fault 1 (some .int) ∈ lw_tbl := tb3_in _ (List.mem_of_getElem? (i := 136) (by decide +kernel))
theorem wq_31_12 : Cond.methodLink RX9 222 yX6_read ∈ lw_tbl := tb3_in _ (List.mem_of_getElem? (i := 137) (by decide +kernel))
theorem wq_31_13 : Cond.instanceMethod yX6_read ∈ lw_tbl := tb3_in _ (List.mem_of_getElem? (i := 138) (by decide +kernel))
theorem wq_31_14 : Cond.selects RX6 yX6_read yX6_read ∈ lw_tbl := tb3_in _ (List.mem_of_getElem? (i := 139) (by decide +kernel))
theorem wq_31_15 : Cond.code yX6_read cX6_read 1 (some .int) ∈ lw_tbl := tb3_in _ (List.mem_of_getElem? (i := 140) (by decide +kernel))
theorem wq_31_16 : Cond.methodLink RX6 44 yX6_readOrder ∈ lw_tbl := tb3_in _ (List.mem_of_getElem? (i := 141) (by decide +kernel))
theorem wq_31_17 : Cond.instanceMethod yX6_readOrder ∈ lw_tbl := tb3_in _ (List.mem_of_getElem? (i := 143) (by decide +kernel))
theorem wq_31_18 : Cond.selects RX6 yX6_readOrder yX6_readOrder ∈ lw_tbl := tb0_in _ (List.mem_of_getElem? (i := 12) (by decide +kernel))
theorem wq_31_19 : Cond.code yX6_readOrder cX6_readOrder 6 none ∈ lw_tbl := tb3_in _ (List.mem_of_getElem? (i := 144) (by decide +kernel))
theorem wq_31_20 : Cond.methodLink RX6 57 yX5_sign ∈ lw_tbl := tb3_in _ (List.mem_of_getElem? (i := 145) (by decide +kernel))
theorem wq_31_21 : Cond.instanceMethod yX5_sign ∈ lw_tbl := tb3_in _ (List.mem_of_getElem? (i := 146) (by decide +kernel))
theorem wq_31_22 : Cond.selects RX5 yX5_sign yX5_sign ∈ lw_tbl := tb3_in _ (List.mem_of_getElem? (i := 147) (by decide +kernel))
theorem wq_31_23 : Cond.code yX5_sign cX5_sign 2 (some .int) ∈ lw_tbl := tb3_in _ (List.mem_of_getElem? (i := 148) (by decide +kernel))
theorem wl_r31 : ∀ w ∈ wsL_law_r31, w ∈ lw_tbl := List.forall_mem_cons.mpr ⟨wq_31_0, List.forall_mem_cons.mpr ⟨wq_31_1, List.forall_mem_cons.mpr ⟨wq_31_2, List.forall_mem_cons.mpr ⟨wq_31_3, List.forall_mem_cons.mpr ⟨wq_31_4, List.forall_mem_cons.mpr ⟨wq_31_5, List.forall_mem_cons.mpr ⟨wq_31_6, List.forall_mem_cons.mpr ⟨wq_31_7, List.forall_mem_cons.mpr ⟨wq_31_8, List.forall_mem_cons.mpr ⟨wq_31_9, List.forall_mem_cons.mpr ⟨wq_31_10, List.forall_mem_cons.mpr ⟨wq_31_11, List.forall_mem_cons.mpr ⟨wq_31_12, List.forall_mem_cons.mpr ⟨wq_31_13, List.forall_mem_cons.mpr ⟨wq_31_14, List.forall_mem_cons.mpr ⟨wq_31_15, List.forall_mem_cons.mpr ⟨wq_31_16, List.forall_mem_cons.mpr ⟨wq_31_17, List.forall_mem_cons.mpr ⟨wq_31_18, List.forall_mem_cons.mpr ⟨wq_31_19, List.forall_mem_cons.mpr ⟨wq_31_20, List.forall_mem_cons.mpr ⟨wq_31_21, List.forall_mem_cons.mpr ⟨wq_31_22, List.forall_mem_cons.mpr ⟨wq_31_23, fun _ h => absurd h List.not_mem_nil⟩⟩⟩⟩⟩⟩⟩⟩⟩⟩⟩⟩⟩⟩⟩⟩⟩⟩⟩⟩⟩⟩⟩⟩
theorem wg_r31 : ∀ w ∈ wsL_law_r31, goodWord w = true := List.all_eq_true.mp (by decide +kernel)
theorem wq_32_0 : Cond.methodLink RX5 36 yX1_read ∈ lw_tbl := tb3_in _ (List.mem_of_getElem? (i := 149) (by decide +kernel))
theorem wq_32_1 : Cond.methodLink RX6 61 yX6_isKind ∈ lw_tbl := tb3_in _ (List.mem_of_getElem? (i := 150) (by decide +kernel))
theorem wq_32_2 : Cond.static yX6_isKind ∈ lw_tbl := tb3_in _ (List.mem_of_getElem? (i := 151) (by decide +kernel))
theorem wq_32_3 : Cond.code yX6_isKind cX6_isKind 1 (some .boolean) ∈ lw_tbl := tb3_in _ (List.mem_of_getElem? (i := 152) (by decide +kernel))
theorem wq_32_4 : Cond.methodLink RX6 65 yX6_readNumber ∈ lw_tbl := tb3_in _ (List.mem_of_getElem? (i := 153) (by decide +kernel))
theorem wq_32_5 : Cond.instanceMethod yX6_readNumber ∈ lw_tbl := tb3_in _ (List.mem_of_getElem? (i := 155) (by decide +kernel))
theorem wq_32_6 : Cond.selects RX6 yX6_readNumber yX6_readNumber ∈ lw_tbl := tb0_in _ (List.mem_of_getElem? (i := 13) (by decide +kernel))
theorem wq_32_7 : Cond.code yX6_readNumber cX6_readNumber 4 (some .int) ∈ lw_tbl := tb3_in _ (List.mem_of_getElem? (i := 156) (by decide +kernel))
theorem wq_32_8 : Cond.methodLink RX6 72 yX6_readDigit ∈ lw_tbl := tb3_in _ (List.mem_of_getElem? (i := 157) (by decide +kernel))
theorem wq_32_9 : Cond.instanceMethod yX6_readDigit ∈ lw_tbl := tb3_in _ (List.mem_of_getElem? (i := 159) (by decide +kernel))
theorem wq_32_10 : Cond.selects RX6 yX6_readDigit yX6_readDigit ∈ lw_tbl := tb0_in _ (List.mem_of_getElem? (i := 14) (by decide +kernel))
theorem wq_32_11 : Cond.code yX6_readDigit cX6_readDigit 3 (some .int) ∈ lw_tbl := tb3_in _ (List.mem_of_getElem? (i := 160) (by decide +kernel))
theorem wq_32_12 : Cond.methodLink RX6 53 yX6_expect ∈ lw_tbl := tb3_in _ (List.mem_of_getElem? (i := 161) (by decide +kernel))
theorem wq_32_13 : Cond.instanceMethod yX6_expect ∈ lw_tbl := tb3_in _ (List.mem_of_getElem? (i := 163) (by decide +kernel))
theorem wq_32_14 : Cond.selects RX6 yX6_expect yX6_expect ∈ lw_tbl := tb0_in _ (List.mem_of_getElem? (i := 15) (by decide +kernel))
theorem wq_32_15 : Cond.code yX6_expect cX6_expect 2 none ∈ lw_tbl := tb3_in _ (List.mem_of_getElem? (i := 164) (by decide +kernel))
theorem wq_32_16 : Cond.methodLink RX6 68 yX6_accept ∈ lw_tbl := tb3_in _ (List.mem_of_getElem? (i := 165) (by decide +kernel))
theorem wq_32_17 : Cond.instanceMethod yX6_accept ∈ lw_tbl := tb3_in _ (List.mem_of_getElem? (i := 167) (by decide +kernel))
theorem wq_32_18 : Cond.selects RX6 yX6_accept yX6_accept ∈ lw_tbl := tb0_in _ (List.mem_of_getElem? (i := 16) (by decide +kernel))
theorem wq_32_19 : Cond.code yX6_accept cX6_accept 3 (some .boolean) ∈ lw_tbl := tb3_in _ (List.mem_of_getElem? (i := 168) (by decide +kernel))
theorem wq_32_20 : Cond.methodLink RX6 75 yX1_write ∈ lw_tbl := tb3_in _ (List.mem_of_getElem? (i := 169) (by decide +kernel))
theorem wq_32_21 : Cond.methodLink RX6 47 yX5_length ∈ lw_tbl := tb3_in _ (List.mem_of_getElem? (i := 170) (by decide +kernel))
theorem wq_32_22 : Cond.methodLink RL 95 yX10_fault ∈ lw_tbl := tb5_in _ (List.mem_of_getElem? (i := 6) (by decide +kernel))
theorem wq_32_23 : Cond.instanceMethod yX10_fault ∈ lw_tbl := tb5_in _ (List.mem_of_getElem? (i := 7) (by decide +kernel))
theorem wl_r32 : ∀ w ∈ wsL_law_r32, w ∈ lw_tbl := List.forall_mem_cons.mpr ⟨wq_32_0, List.forall_mem_cons.mpr ⟨wq_32_1, List.forall_mem_cons.mpr ⟨wq_32_2, List.forall_mem_cons.mpr ⟨wq_32_3, List.forall_mem_cons.mpr ⟨wq_32_4, List.forall_mem_cons.mpr ⟨wq_32_5, List.forall_mem_cons.mpr ⟨wq_32_6, List.forall_mem_cons.mpr ⟨wq_32_7, List.forall_mem_cons.mpr ⟨wq_32_8, List.forall_mem_cons.mpr ⟨wq_32_9, List.forall_mem_cons.mpr ⟨wq_32_10, List.forall_mem_cons.mpr ⟨wq_32_11, List.forall_mem_cons.mpr ⟨wq_32_12, List.forall_mem_cons.mpr ⟨wq_32_13, List.forall_mem_cons.mpr ⟨wq_32_14, List.forall_mem_cons.mpr ⟨wq_32_15, List.forall_mem_cons.mpr ⟨wq_32_16, List.forall_mem_cons.mpr ⟨wq_32_17, List.forall_mem_cons.mpr ⟨wq_32_18, List.forall_mem_cons.mpr ⟨wq_32_19, List.forall_mem_cons.mpr ⟨wq_32_20, List.forall_mem_cons.mpr ⟨wq_32_21, List.forall_mem_cons.mpr ⟨wq_32_22, List.forall_mem_cons.mpr ⟨wq_32_23, fun _ h => absurd h List.not_mem_nil⟩⟩⟩⟩⟩⟩⟩⟩⟩⟩⟩⟩⟩⟩⟩⟩⟩⟩⟩⟩⟩⟩⟩⟩
theorem wg_r32 : ∀ w ∈ wsL_law_r32, goodWord w = true := List.all_eq_true.mp (by decide +kernel)
theorem wq_33_0 : Cond.selects RX10 yX10_fault yX10_fault ∈ lw_tbl := tb5_in _ (List.mem_of_getElem? (i := 8) (by decide +kernel))
theorem wq_33_1 : Cond.code yX10_fault cX10_fault 2 (some .int) ∈ lw_tbl := tb5_in _ (List.mem_of_getElem? (i := 9) (by decide +kernel))
theorem wq_33_2 : Cond.fieldLink RX10 178 "SunMirrorsModel" "spot" "I" ∈ lw_tbl := tb4_in _ (List.mem_of_getElem? (i := 4) (by decide +kernel))
theorem wq_33_3 : Cond.fieldLink RX10 196 "SunMirrorsModel" "isDone" "Z" ∈ lw_tbl := tb4_in _ (List.mem_of_getElem? (i := 6) (by decide +kernel))
theorem wq_33_4 : Cond.methodLink RX10 209 yX10_readsOrder ∈ lw_tbl := tb5_in _ (List.mem_of_getElem? (i := 10) (by decide +kernel))
theorem wq_33_5 : Cond.instanceMethod yX10_readsOrder ∈ lw_tbl := tb5_in _ (List.mem_of_getElem? (i := 12) (by decide +kernel))
theorem wq_33_6 : Cond.selects RX10 yX10_readsOrder yX10_readsOrder ∈ lw_tbl := tb0_in _ (List.mem_of_getElem? (i := 43) (by decide +kernel))
theorem wq_33_7 : Cond.code yX10_readsOrder cX10_readsOrder 2 (some .boolean) ∈ lw_tbl := tb5_in _ (List.mem_of_getElem? (i := 13) (by decide +kernel))
theorem wq_33_8 : Cond.fieldLink RX10 184 "SunMirrorsModel" "number" "I" ∈ lw_tbl := tb4_in _ (List.mem_of_getElem? (i := 5) (by decide +kernel))
theorem wq_33_9 : Cond.methodLink RX10 193 yX10_takes ∈ lw_tbl := tb5_in _ (List.mem_of_getElem? (i := 14) (by decide +kernel))
theorem wq_33_10 : Cond.instanceMethod yX10_takes ∈ lw_tbl := tb5_in _ (List.mem_of_getElem? (i := 16) (by decide +kernel))
theorem wq_33_11 : Cond.selects RX10 yX10_takes yX10_takes ∈ lw_tbl := tb0_in _ (List.mem_of_getElem? (i := 44) (by decide +kernel))
theorem wq_33_12 : Cond.code yX10_takes cX10_takes 3 (some .boolean) ∈ lw_tbl := tb5_in _ (List.mem_of_getElem? (i := 17) (by decide +kernel))
theorem wq_33_13 : Cond.methodLink RX10 181 yX10_isHere ∈ lw_tbl := tb5_in _ (List.mem_of_getElem? (i := 18) (by decide +kernel))
theorem wq_33_14 : Cond.instanceMethod yX10_isHere ∈ lw_tbl := tb5_in _ (List.mem_of_getElem? (i := 20) (by decide +kernel))
theorem wq_33_15 : Cond.selects RX10 yX10_isHere yX10_isHere ∈ lw_tbl := tb0_in _ (List.mem_of_getElem? (i := 45) (by decide +kernel))
theorem wq_33_16 : Cond.code yX10_isHere cX10_isHere 3 (some .boolean) ∈ lw_tbl := tb5_in _ (List.mem_of_getElem? (i := 21) (by decide +kernel))
theorem wq_33_17 : Cond.methodLink RX10 203 yX10_readsMirror ∈ lw_tbl := tb5_in _ (List.mem_of_getElem? (i := 22) (by decide +kernel))
theorem wq_33_18 : Cond.instanceMethod yX10_readsMirror ∈ lw_tbl := tb5_in _ (List.mem_of_getElem? (i := 24) (by decide +kernel))
theorem wq_33_19 : Cond.selects RX10 yX10_readsMirror yX10_readsMirror ∈ lw_tbl := tb0_in _ (List.mem_of_getElem? (i := 46) (by decide +kernel))
theorem wq_33_20 : Cond.code yX10_readsMirror cX10_readsMirror 3 (some .boolean) ∈ lw_tbl := tb5_in _ (List.mem_of_getElem? (i := 25) (by decide +kernel))
theorem wq_33_21 : Cond.methodLink RX10 190 yX10_readsNumber ∈ lw_tbl := tb5_in _ (List.mem_of_getElem? (i := 26) (by decide +kernel))
theorem wq_33_22 : Cond.instanceMethod yX10_readsNumber ∈ lw_tbl := tb5_in _ (List.mem_of_getElem? (i := 28) (by decide +kernel))
theorem wq_33_23 : Cond.selects RX10 yX10_readsNumber yX10_readsNumber ∈ lw_tbl := tb0_in _ (List.mem_of_getElem? (i := 47) (by decide +kernel))
theorem wl_r33 : ∀ w ∈ wsL_law_r33, w ∈ lw_tbl := List.forall_mem_cons.mpr ⟨wq_33_0, List.forall_mem_cons.mpr ⟨wq_33_1, List.forall_mem_cons.mpr ⟨wq_33_2, List.forall_mem_cons.mpr ⟨wq_33_3, List.forall_mem_cons.mpr ⟨wq_33_4, List.forall_mem_cons.mpr ⟨wq_33_5, List.forall_mem_cons.mpr ⟨wq_33_6, List.forall_mem_cons.mpr ⟨wq_33_7, List.forall_mem_cons.mpr ⟨wq_33_8, List.forall_mem_cons.mpr ⟨wq_33_9, List.forall_mem_cons.mpr ⟨wq_33_10, List.forall_mem_cons.mpr ⟨wq_33_11, List.forall_mem_cons.mpr ⟨wq_33_12, List.forall_mem_cons.mpr ⟨wq_33_13, List.forall_mem_cons.mpr ⟨wq_33_14, List.forall_mem_cons.mpr ⟨wq_33_15, List.forall_mem_cons.mpr ⟨wq_33_16, List.forall_mem_cons.mpr ⟨wq_33_17, List.forall_mem_cons.mpr ⟨wq_33_18, List.forall_mem_cons.mpr ⟨wq_33_19, List.forall_mem_cons.mpr ⟨wq_33_20, List.forall_mem_cons.mpr ⟨wq_33_21, List.forall_mem_cons.mpr ⟨wq_33_22, List.forall_mem_cons.mpr ⟨wq_33_23, fun _ h => absurd h List.not_mem_nil⟩⟩⟩⟩⟩⟩⟩⟩⟩⟩⟩⟩⟩⟩⟩⟩⟩⟩⟩⟩⟩⟩⟩⟩
theorem wg_r33 : ∀ w ∈ wsL_law_r33, goodWord w = true := List.all_eq_true.mp (by decide +kernel)
theorem wq_34_0 : Cond.code yX10_readsNumber cX10_readsNumber 2 (some .boolean) ∈ lw_tbl := tb5_in _ (List.mem_of_getElem? (i := 29) (by decide +kernel))
theorem wq_34_1 : Cond.methodLink RX10 200 yX10_does ∈ lw_tbl := tb5_in _ (List.mem_of_getElem? (i := 30) (by decide +kernel))
theorem wq_34_2 : Cond.instanceMethod yX10_does ∈ lw_tbl := tb5_in _ (List.mem_of_getElem? (i := 32) (by decide +kernel))
theorem wq_34_3 : Cond.selects RX10 yX10_does yX10_does ∈ lw_tbl := tb0_in _ (List.mem_of_getElem? (i := 48) (by decide +kernel))
theorem wq_34_4 : Cond.code yX10_does cX10_does 2 none ∈ lw_tbl := tb5_in _ (List.mem_of_getElem? (i := 33) (by decide +kernel))
theorem wq_34_5 : Cond.fieldLink RX10 187 "SunMirrorsModel" "error" "I" ∈ lw_tbl := tb4_in _ (List.mem_of_getElem? (i := 7) (by decide +kernel))
theorem wq_34_6 : Cond.methodLink RX10 206 yX10_readsAim ∈ lw_tbl := tb5_in _ (List.mem_of_getElem? (i := 34) (by decide +kernel))
theorem wq_34_7 : Cond.instanceMethod yX10_readsAim ∈ lw_tbl := tb5_in _ (List.mem_of_getElem? (i := 36) (by decide +kernel))
theorem wq_34_8 : Cond.selects RX10 yX10_readsAim yX10_readsAim ∈ lw_tbl := tb0_in _ (List.mem_of_getElem? (i := 49) (by decide +kernel))
theorem wq_34_9 : Cond.code yX10_readsAim cX10_readsAim 2 (some .boolean) ∈ lw_tbl := tb5_in _ (List.mem_of_getElem? (i := 37) (by decide +kernel))
theorem wq_34_10 : Cond.methodLink RL 96 yX9_carryOut ∈ lw_tbl := tb3_in _ (List.mem_of_getElem? (i := 171) (by decide +kernel))
theorem wq_34_11 : Cond.instanceMethod yX9_carryOut ∈ lw_tbl := tb3_in _ (List.mem_of_getElem? (i := 172) (by decide +kernel))
theorem wq_34_12 : Cond.selects RX9 yX9_carryOut yX9_carryOut ∈ lw_tbl := tb3_in _ (List.mem_of_getElem? (i := 173) (by decide +kernel))
theorem wq_34_13 : Cond.code yX9_carryOut cX9_carryOut 3 (some .int) ∈ lw_tbl := tb3_in _ (List.mem_of_getElem? (i := 174) (by decide +kernel))
theorem wq_34_14 : Cond.methodLink RX9 224 yX6_orders ∈ lw_tbl := tb3_in _ (List.mem_of_getElem? (i := 175) (by decide +kernel))
theorem wq_34_15 : Cond.instanceMethod yX6_orders ∈ lw_tbl := tb3_in _ (List.mem_of_getElem? (i := 176) (by decide +kernel))
theorem wq_34_16 : Cond.selects RX6 yX6_orders yX6_orders ∈ lw_tbl := tb3_in _ (List.mem_of_getElem? (i := 177) (by decide +kernel))
theorem wq_34_17 : Cond.code yX6_orders cX6_orders 1 (some .int) ∈ lw_tbl := tb3_in _ (List.mem_of_getElem? (i := 178) (by decide +kernel))
theorem wq_34_18 : Cond.methodLink RX9 227 yX9_carry ∈ lw_tbl := tb3_in _ (List.mem_of_getElem? (i := 179) (by decide +kernel))
theorem wq_34_19 : Cond.instanceMethod yX9_carry ∈ lw_tbl := tb3_in _ (List.mem_of_getElem? (i := 181) (by decide +kernel))
theorem wq_34_20 : Cond.selects RX9 yX9_carry yX9_carry ∈ lw_tbl := tb0_in _ (List.mem_of_getElem? (i := 17) (by decide +kernel))
theorem wq_34_21 : Cond.code yX9_carry cX9_carry 4 (some .int) ∈ lw_tbl := tb3_in _ (List.mem_of_getElem? (i := 182) (by decide +kernel))
theorem wq_34_22 : Cond.methodLink RX9 247 yX6_first ∈ lw_tbl := tb3_in _ (List.mem_of_getElem? (i := 183) (by decide +kernel))
theorem wq_34_23 : Cond.instanceMethod yX6_first ∈ lw_tbl := tb3_in _ (List.mem_of_getElem? (i := 184) (by decide +kernel))
theorem wl_r34 : ∀ w ∈ wsL_law_r34, w ∈ lw_tbl := List.forall_mem_cons.mpr ⟨wq_34_0, List.forall_mem_cons.mpr ⟨wq_34_1, List.forall_mem_cons.mpr ⟨wq_34_2, List.forall_mem_cons.mpr ⟨wq_34_3, List.forall_mem_cons.mpr ⟨wq_34_4, List.forall_mem_cons.mpr ⟨wq_34_5, List.forall_mem_cons.mpr ⟨wq_34_6, List.forall_mem_cons.mpr ⟨wq_34_7, List.forall_mem_cons.mpr ⟨wq_34_8, List.forall_mem_cons.mpr ⟨wq_34_9, List.forall_mem_cons.mpr ⟨wq_34_10, List.forall_mem_cons.mpr ⟨wq_34_11, List.forall_mem_cons.mpr ⟨wq_34_12, List.forall_mem_cons.mpr ⟨wq_34_13, List.forall_mem_cons.mpr ⟨wq_34_14, List.forall_mem_cons.mpr ⟨wq_34_15, List.forall_mem_cons.mpr ⟨wq_34_16, List.forall_mem_cons.mpr ⟨wq_34_17, List.forall_mem_cons.mpr ⟨wq_34_18, List.forall_mem_cons.mpr ⟨wq_34_19, List.forall_mem_cons.mpr ⟨wq_34_20, List.forall_mem_cons.mpr ⟨wq_34_21, List.forall_mem_cons.mpr ⟨wq_34_22, List.forall_mem_cons.mpr ⟨wq_34_23, fun _ h => absurd h List.not_mem_nil⟩⟩⟩⟩⟩⟩⟩⟩⟩⟩⟩⟩⟩⟩⟩⟩⟩⟩⟩⟩⟩⟩⟩⟩
theorem wg_r34 : ∀ w ∈ wsL_law_r34, goodWord w = true := List.all_eq_true.mp (by decide +kernel)
theorem wq_35_0 : Cond.selects RX6 yX6_first yX6_first ∈ lw_tbl := tb3_in _ (List.mem_of_getElem? (i := 185) (by decide +kernel))
theorem wq_35_1 : Cond.code yX6_first cX6_first 2 (some .int) ∈ lw_tbl := tb3_in _ (List.mem_of_getElem? (i := 186) (by decide +kernel))
theorem wq_35_2 : Cond.methodLink RX6 79 yX1_read ∈ lw_tbl := tb3_in _ (List.mem_of_getElem? (i := 187) (by decide +kernel))
theorem wq_35_3 : Cond.methodLink RX9 250 yX6_second ∈ lw_tbl := tb3_in _ (List.mem_of_getElem? (i := 188) (by decide +kernel))
theorem wq_35_4 : Cond.instanceMethod yX6_second ∈ lw_tbl := tb3_in _ (List.mem_of_getElem? (i := 189) (by decide +kernel))
theorem wq_35_5 : Cond.selects RX6 yX6_second yX6_second ∈ lw_tbl := tb3_in _ (List.mem_of_getElem? (i := 190) (by decide +kernel))
theorem wq_35_6 : Cond.code yX6_second cX6_second 2 (some .int) ∈ lw_tbl := tb3_in _ (List.mem_of_getElem? (i := 191) (by decide +kernel))
theorem wq_35_7 : Cond.methodLink RX9 253 yX6_kind ∈ lw_tbl := tb3_in _ (List.mem_of_getElem? (i := 192) (by decide +kernel))
theorem wq_35_8 : Cond.instanceMethod yX6_kind ∈ lw_tbl := tb3_in _ (List.mem_of_getElem? (i := 193) (by decide +kernel))
theorem wq_35_9 : Cond.selects RX6 yX6_kind yX6_kind ∈ lw_tbl := tb3_in _ (List.mem_of_getElem? (i := 194) (by decide +kernel))
theorem wq_35_10 : Cond.code yX6_kind cX6_kind 2 (some .int) ∈ lw_tbl := tb3_in _ (List.mem_of_getElem? (i := 195) (by decide +kernel))
theorem wq_35_11 : Cond.methodLink RX9 256 yX6_third ∈ lw_tbl := tb3_in _ (List.mem_of_getElem? (i := 196) (by decide +kernel))
theorem wq_35_12 : Cond.instanceMethod yX6_third ∈ lw_tbl := tb3_in _ (List.mem_of_getElem? (i := 197) (by decide +kernel))
theorem wq_35_13 : Cond.selects RX6 yX6_third yX6_third ∈ lw_tbl := tb3_in _ (List.mem_of_getElem? (i := 198) (by decide +kernel))
theorem wq_35_14 : Cond.code yX6_third cX6_third 2 (some .int) ∈ lw_tbl := tb3_in _ (List.mem_of_getElem? (i := 199) (by decide +kernel))
theorem wq_35_15 : Cond.methodLink RL 99 yX10_carryOut ∈ lw_tbl := tb5_in _ (List.mem_of_getElem? (i := 38) (by decide +kernel))
theorem wq_35_16 : Cond.instanceMethod yX10_carryOut ∈ lw_tbl := tb5_in _ (List.mem_of_getElem? (i := 39) (by decide +kernel))
theorem wq_35_17 : Cond.selects RX10 yX10_carryOut yX10_carryOut ∈ lw_tbl := tb5_in _ (List.mem_of_getElem? (i := 40) (by decide +kernel))
theorem wq_35_18 : Cond.code yX10_carryOut cX10_carryOut 4 (some .int) ∈ lw_tbl := tb5_in _ (List.mem_of_getElem? (i := 41) (by decide +kernel))
theorem wq_35_19 : Cond.methodLink RX10 212 yX10_fault ∈ lw_tbl := tb5_in _ (List.mem_of_getElem? (i := 42) (by decide +kernel))
theorem wq_35_20 : Cond.methodLink RL 100 yX9_undo ∈ lw_tbl := tb3_in _ (List.mem_of_getElem? (i := 200) (by decide +kernel))
theorem wq_35_21 : Cond.instanceMethod yX9_undo ∈ lw_tbl := tb3_in _ (List.mem_of_getElem? (i := 201) (by decide +kernel))
theorem wq_35_22 : Cond.selects RX9 yX9_undo yX9_undo ∈ lw_tbl := tb3_in _ (List.mem_of_getElem? (i := 202) (by decide +kernel))
theorem wq_35_23 : Cond.code yX9_undo cX9_undo 1 (some .int) ∈ lw_tbl := tb3_in _ (List.mem_of_getElem? (i := 203) (by decide +kernel))
theorem wl_r35 : ∀ w ∈ wsL_law_r35, w ∈ lw_tbl := List.forall_mem_cons.mpr ⟨wq_35_0, List.forall_mem_cons.mpr ⟨wq_35_1, List.forall_mem_cons.mpr ⟨wq_35_2, List.forall_mem_cons.mpr ⟨wq_35_3, List.forall_mem_cons.mpr ⟨wq_35_4, List.forall_mem_cons.mpr ⟨wq_35_5, List.forall_mem_cons.mpr ⟨wq_35_6, List.forall_mem_cons.mpr ⟨wq_35_7, List.forall_mem_cons.mpr ⟨wq_35_8, List.forall_mem_cons.mpr ⟨wq_35_9, List.forall_mem_cons.mpr ⟨wq_35_10, List.forall_mem_cons.mpr ⟨wq_35_11, List.forall_mem_cons.mpr ⟨wq_35_12, List.forall_mem_cons.mpr ⟨wq_35_13, List.forall_mem_cons.mpr ⟨wq_35_14, List.forall_mem_cons.mpr ⟨wq_35_15, List.forall_mem_cons.mpr ⟨wq_35_16, List.forall_mem_cons.mpr ⟨wq_35_17, List.forall_mem_cons.mpr ⟨wq_35_18, List.forall_mem_cons.mpr ⟨wq_35_19, List.forall_mem_cons.mpr ⟨wq_35_20, List.forall_mem_cons.mpr ⟨wq_35_21, List.forall_mem_cons.mpr ⟨wq_35_22, List.forall_mem_cons.mpr ⟨wq_35_23, fun _ h => absurd h List.not_mem_nil⟩⟩⟩⟩⟩⟩⟩⟩⟩⟩⟩⟩⟩⟩⟩⟩⟩⟩⟩⟩⟩⟩⟩⟩
theorem wg_r35 : ∀ w ∈ wsL_law_r35, goodWord w = true := List.all_eq_true.mp (by decide +kernel)
theorem wq_36_0 : Cond.methodLink RX9 230 yX3_stepBack ∈ lw_tbl := tb3_in _ (List.mem_of_getElem? (i := 204) (by decide +kernel))
theorem wq_36_1 : Cond.instanceMethod yX3_stepBack ∈ lw_tbl := tb3_in _ (List.mem_of_getElem? (i := 205) (by decide +kernel))
theorem wq_36_2 : Cond.selects RX3 yX3_stepBack yX3_stepBack ∈ lw_tbl := tb3_in _ (List.mem_of_getElem? (i := 206) (by decide +kernel))
theorem wq_36_3 : Cond.code yX3_stepBack cX3_stepBack 2 (some .boolean) ∈ lw_tbl := tb3_in _ (List.mem_of_getElem? (i := 207) (by decide +kernel))
theorem wq_36_4 : Cond.methodLink RX3 37 yX7_bringBack ∈ lw_tbl := tb3_in _ (List.mem_of_getElem? (i := 208) (by decide +kernel))
theorem wq_36_5 : Cond.instanceMethod yX7_bringBack ∈ lw_tbl := tb3_in _ (List.mem_of_getElem? (i := 209) (by decide +kernel))
theorem wq_36_6 : Cond.selects RX7 yX7_bringBack yX7_bringBack ∈ lw_tbl := tb3_in _ (List.mem_of_getElem? (i := 210) (by decide +kernel))
theorem wq_36_7 : Cond.code yX7_bringBack cX7_bringBack 4 none ∈ lw_tbl := tb3_in _ (List.mem_of_getElem? (i := 211) (by decide +kernel))
theorem wq_36_8 : Cond.methodLink RL 103 yX10_undo ∈ lw_tbl := tb5_in _ (List.mem_of_getElem? (i := 43) (by decide +kernel))
theorem wq_36_9 : Cond.instanceMethod yX10_undo ∈ lw_tbl := tb5_in _ (List.mem_of_getElem? (i := 44) (by decide +kernel))
theorem wq_36_10 : Cond.selects RX10 yX10_undo yX10_undo ∈ lw_tbl := tb5_in _ (List.mem_of_getElem? (i := 45) (by decide +kernel))
theorem wq_36_11 : Cond.code yX10_undo cX10_undo 2 (some .int) ∈ lw_tbl := tb5_in _ (List.mem_of_getElem? (i := 46) (by decide +kernel))
theorem wq_36_12 : Cond.methodLink RL 104 yX9_save ∈ lw_tbl := tb3_in _ (List.mem_of_getElem? (i := 212) (by decide +kernel))
theorem wq_36_13 : Cond.instanceMethod yX9_save ∈ lw_tbl := tb3_in _ (List.mem_of_getElem? (i := 213) (by decide +kernel))
theorem wq_36_14 : Cond.selects RX9 yX9_save yX9_save ∈ lw_tbl := tb3_in _ (List.mem_of_getElem? (i := 214) (by decide +kernel))
theorem wq_36_15 : Cond.code yX9_save cX9_save 2 (some .int) ∈ lw_tbl := tb3_in _ (List.mem_of_getElem? (i := 215) (by decide +kernel))
theorem wq_36_16 : Cond.methodLink RX9 234 yX9_isSlot ∈ lw_tbl := tb3_in _ (List.mem_of_getElem? (i := 216) (by decide +kernel))
theorem wq_36_17 : Cond.static yX9_isSlot ∈ lw_tbl := tb3_in _ (List.mem_of_getElem? (i := 217) (by decide +kernel))
theorem wq_36_18 : Cond.code yX9_isSlot cX9_isSlot 1 (some .boolean) ∈ lw_tbl := tb3_in _ (List.mem_of_getElem? (i := 218) (by decide +kernel))
theorem wq_36_19 : Cond.methodLink RX9 237 yX7_keep ∈ lw_tbl := tb3_in _ (List.mem_of_getElem? (i := 219) (by decide +kernel))
theorem wq_36_20 : Cond.methodLink RL 107 yX10_save ∈ lw_tbl := tb5_in _ (List.mem_of_getElem? (i := 47) (by decide +kernel))
theorem wq_36_21 : Cond.instanceMethod yX10_save ∈ lw_tbl := tb5_in _ (List.mem_of_getElem? (i := 48) (by decide +kernel))
theorem wq_36_22 : Cond.selects RX10 yX10_save yX10_save ∈ lw_tbl := tb5_in _ (List.mem_of_getElem? (i := 49) (by decide +kernel))
theorem wq_36_23 : Cond.code yX10_save cX10_save 3 (some .int) ∈ lw_tbl := tb5_in _ (List.mem_of_getElem? (i := 50) (by decide +kernel))
theorem wl_r36 : ∀ w ∈ wsL_law_r36, w ∈ lw_tbl := List.forall_mem_cons.mpr ⟨wq_36_0, List.forall_mem_cons.mpr ⟨wq_36_1, List.forall_mem_cons.mpr ⟨wq_36_2, List.forall_mem_cons.mpr ⟨wq_36_3, List.forall_mem_cons.mpr ⟨wq_36_4, List.forall_mem_cons.mpr ⟨wq_36_5, List.forall_mem_cons.mpr ⟨wq_36_6, List.forall_mem_cons.mpr ⟨wq_36_7, List.forall_mem_cons.mpr ⟨wq_36_8, List.forall_mem_cons.mpr ⟨wq_36_9, List.forall_mem_cons.mpr ⟨wq_36_10, List.forall_mem_cons.mpr ⟨wq_36_11, List.forall_mem_cons.mpr ⟨wq_36_12, List.forall_mem_cons.mpr ⟨wq_36_13, List.forall_mem_cons.mpr ⟨wq_36_14, List.forall_mem_cons.mpr ⟨wq_36_15, List.forall_mem_cons.mpr ⟨wq_36_16, List.forall_mem_cons.mpr ⟨wq_36_17, List.forall_mem_cons.mpr ⟨wq_36_18, List.forall_mem_cons.mpr ⟨wq_36_19, List.forall_mem_cons.mpr ⟨wq_36_20, List.forall_mem_cons.mpr ⟨wq_36_21, List.forall_mem_cons.mpr ⟨wq_36_22, List.forall_mem_cons.mpr ⟨wq_36_23, fun _ h => absurd h List.not_mem_nil⟩⟩⟩⟩⟩⟩⟩⟩⟩⟩⟩⟩⟩⟩⟩⟩⟩⟩⟩⟩⟩⟩⟩⟩
theorem wg_r36 : ∀ w ∈ wsL_law_r36, goodWord w = true := List.all_eq_true.mp (by decide +kernel)
theorem wq_37_0 : Cond.methodLink RL 108 yX9_restore ∈ lw_tbl := tb3_in _ (List.mem_of_getElem? (i := 220) (by decide +kernel))
theorem wq_37_1 : Cond.instanceMethod yX9_restore ∈ lw_tbl := tb3_in _ (List.mem_of_getElem? (i := 221) (by decide +kernel))
theorem wq_37_2 : Cond.selects RX9 yX9_restore yX9_restore ∈ lw_tbl := tb3_in _ (List.mem_of_getElem? (i := 222) (by decide +kernel))
theorem wq_37_3 : Cond.code yX9_restore cX9_restore 2 (some .int) ∈ lw_tbl := tb3_in _ (List.mem_of_getElem? (i := 223) (by decide +kernel))
theorem wq_37_4 : Cond.methodLink RX9 241 yX7_bringBack ∈ lw_tbl := tb3_in _ (List.mem_of_getElem? (i := 224) (by decide +kernel))
theorem wq_37_5 : Cond.methodLink RL 111 yX10_restore ∈ lw_tbl := tb5_in _ (List.mem_of_getElem? (i := 51) (by decide +kernel))
theorem wq_37_6 : Cond.instanceMethod yX10_restore ∈ lw_tbl := tb5_in _ (List.mem_of_getElem? (i := 52) (by decide +kernel))
theorem wq_37_7 : Cond.selects RX10 yX10_restore yX10_restore ∈ lw_tbl := tb5_in _ (List.mem_of_getElem? (i := 53) (by decide +kernel))
theorem wq_37_8 : Cond.code yX10_restore cX10_restore 3 (some .int) ∈ lw_tbl := tb5_in _ (List.mem_of_getElem? (i := 54) (by decide +kernel))
theorem wl_r37 : ∀ w ∈ wsL_law_r37, w ∈ lw_tbl := List.forall_mem_cons.mpr ⟨wq_37_0, List.forall_mem_cons.mpr ⟨wq_37_1, List.forall_mem_cons.mpr ⟨wq_37_2, List.forall_mem_cons.mpr ⟨wq_37_3, List.forall_mem_cons.mpr ⟨wq_37_4, List.forall_mem_cons.mpr ⟨wq_37_5, List.forall_mem_cons.mpr ⟨wq_37_6, List.forall_mem_cons.mpr ⟨wq_37_7, List.forall_mem_cons.mpr ⟨wq_37_8, fun _ h => absurd h List.not_mem_nil⟩⟩⟩⟩⟩⟩⟩⟩⟩
theorem wg_r37 : ∀ w ∈ wsL_law_r37, goodWord w = true := List.all_eq_true.mp (by decide +kernel)
theorem wl_X0 : ∀ w ∈ wsX00, w ∈ lw_tbl := by
  intro w h
  obtain ⟨k, hk, rfl⟩ := List.mem_map.mp h
  have hk := List.mem_range.mp hk
  match k, hk with
  | 0, _ => exact tb1_in _ (List.mem_of_getElem? (i := 144) (by decide +kernel))
  | 1, _ => exact tb1_in _ (List.mem_of_getElem? (i := 146) (by decide +kernel))
  | 2, _ => exact tb1_in _ (List.mem_of_getElem? (i := 148) (by decide +kernel))
  | 3, _ => exact tb1_in _ (List.mem_of_getElem? (i := 150) (by decide +kernel))
  | 4, _ => exact tb1_in _ (List.mem_of_getElem? (i := 152) (by decide +kernel))
  | k + 5, hk => exact absurd hk (by omega)
theorem wg_X0 : ∀ w ∈ wsX00, goodWord w = true := List.all_eq_true.mp (by decide +kernel)
theorem wl_X1 : ∀ w ∈ wsX10, w ∈ lw_tbl := by
  intro w h
  obtain ⟨k, hk, rfl⟩ := List.mem_map.mp h
  have hk := List.mem_range.mp hk
  match k, hk with
  | 0, _ => exact tb1_in _ (List.mem_of_getElem? (i := 39) (by decide +kernel))
  | k + 1, hk => exact absurd hk (by omega)
theorem wg_X1 : ∀ w ∈ wsX10, goodWord w = true := List.all_eq_true.mp (by decide +kernel)
theorem wl_X2 : ∀ w ∈ wsX20, w ∈ lw_tbl := by
  intro w h
  obtain ⟨k, hk, rfl⟩ := List.mem_map.mp h
  have hk := List.mem_range.mp hk
  match k, hk with
  | 0, _ => exact tb1_in _ (List.mem_of_getElem? (i := 75) (by decide +kernel))
  | 1, _ => exact tb1_in _ (List.mem_of_getElem? (i := 77) (by decide +kernel))
  | 2, _ => exact tb1_in _ (List.mem_of_getElem? (i := 79) (by decide +kernel))
  | 3, _ => exact tb1_in _ (List.mem_of_getElem? (i := 81) (by decide +kernel))
  | 4, _ => exact tb1_in _ (List.mem_of_getElem? (i := 83) (by decide +kernel))
  | 5, _ => exact tb1_in _ (List.mem_of_getElem? (i := 85) (by decide +kernel))
  | 6, _ => exact tb1_in _ (List.mem_of_getElem? (i := 87) (by decide +kernel))
  | 7, _ => exact tb1_in _ (List.mem_of_getElem? (i := 89) (by decide +kernel))
  | 8, _ => exact tb1_in _ (List.mem_of_getElem? (i := 91) (by decide +kernel))
  | 9, _ => exact tb1_in _ (List.mem_of_getElem? (i := 93) (by decide +kernel))
  | k + 10, hk => exact absurd hk (by omega)
theorem wg_X2 : ∀ w ∈ wsX20, goodWord w = true := List.all_eq_true.mp (by decide +kernel)
theorem wl_X3 : ∀ w ∈ wsX30, w ∈ lw_tbl := by
  intro w h
  obtain ⟨k, hk, rfl⟩ := List.mem_map.mp h
  have hk := List.mem_range.mp hk
  match k, hk with
  | 0, _ => exact tb1_in _ (List.mem_of_getElem? (i := 226) (by decide +kernel))
  | 1, _ => exact tb1_in _ (List.mem_of_getElem? (i := 228) (by decide +kernel))
  | 2, _ => exact tb1_in _ (List.mem_of_getElem? (i := 230) (by decide +kernel))
  | k + 3, hk => exact absurd hk (by omega)
theorem wg_X3 : ∀ w ∈ wsX30, goodWord w = true := List.all_eq_true.mp (by decide +kernel)
theorem wl_X4 : ∀ w ∈ wsX40, w ∈ lw_tbl := by
  intro w h
  obtain ⟨k, hk, rfl⟩ := List.mem_map.mp h
  have hk := List.mem_range.mp hk
  match k, hk with
  | 0, _ => exact tb1_in _ (List.mem_of_getElem? (i := 112) (by decide +kernel))
  | 1, _ => exact tb1_in _ (List.mem_of_getElem? (i := 114) (by decide +kernel))
  | 2, _ => exact tb1_in _ (List.mem_of_getElem? (i := 116) (by decide +kernel))
  | 3, _ => exact tb1_in _ (List.mem_of_getElem? (i := 118) (by decide +kernel))
  | 4, _ => exact tb1_in _ (List.mem_of_getElem? (i := 120) (by decide +kernel))
  | 5, _ => exact tb1_in _ (List.mem_of_getElem? (i := 122) (by decide +kernel))
  | 6, _ => exact tb1_in _ (List.mem_of_getElem? (i := 124) (by decide +kernel))
  | 7, _ => exact tb1_in _ (List.mem_of_getElem? (i := 126) (by decide +kernel))
  | k + 8, hk => exact absurd hk (by omega)
theorem wg_X4 : ∀ w ∈ wsX40, goodWord w = true := List.all_eq_true.mp (by decide +kernel)
theorem wl_X5 : ∀ w ∈ wsX50, w ∈ lw_tbl := by
  intro w h
  obtain ⟨k, hk, rfl⟩ := List.mem_map.mp h
  have hk := List.mem_range.mp hk
  match k, hk with
  | 0, _ => exact tb1_in _ (List.mem_of_getElem? (i := 165) (by decide +kernel))
  | 1, _ => exact tb1_in _ (List.mem_of_getElem? (i := 167) (by decide +kernel))
  | k + 2, hk => exact absurd hk (by omega)
theorem wg_X5 : ∀ w ∈ wsX50, goodWord w = true := List.all_eq_true.mp (by decide +kernel)
theorem wl_X6 : ∀ w ∈ wsX60, w ∈ lw_tbl := by
  intro w h
  obtain ⟨k, hk, rfl⟩ := List.mem_map.mp h
  have hk := List.mem_range.mp hk
  match k, hk with
  | 0, _ => exact tb1_in _ (List.mem_of_getElem? (i := 186) (by decide +kernel))
  | 1, _ => exact tb1_in _ (List.mem_of_getElem? (i := 188) (by decide +kernel))
  | 2, _ => exact tb1_in _ (List.mem_of_getElem? (i := 190) (by decide +kernel))
  | 3, _ => exact tb1_in _ (List.mem_of_getElem? (i := 192) (by decide +kernel))
  | 4, _ => exact tb1_in _ (List.mem_of_getElem? (i := 194) (by decide +kernel))
  | 5, _ => exact tb1_in _ (List.mem_of_getElem? (i := 196) (by decide +kernel))
  | 6, _ => exact tb1_in _ (List.mem_of_getElem? (i := 198) (by decide +kernel))
  | 7, _ => exact tb1_in _ (List.mem_of_getElem? (i := 200) (by decide +kernel))
  | k + 8, hk => exact absurd hk (by omega)
theorem wg_X6 : ∀ w ∈ wsX60, goodWord w = true := List.all_eq_true.mp (by decide +kernel)
theorem wl_X7 : ∀ w ∈ wsX70, w ∈ lw_tbl := by
  intro w h
  obtain ⟨k, hk, rfl⟩ := List.mem_map.mp h
  have hk := List.mem_range.mp hk
  match k, hk with
  | 0, _ => exact tb1_in _ (List.mem_of_getElem? (i := 220) (by decide +kernel))
  | k + 1, hk => exact absurd hk (by omega)
theorem wg_X7 : ∀ w ∈ wsX70, goodWord w = true := List.all_eq_true.mp (by decide +kernel)
theorem wl_X8 : ∀ w ∈ wsX80, w ∈ lw_tbl := by
  intro w h
  obtain ⟨k, hk, rfl⟩ := List.mem_map.mp h
  have hk := List.mem_range.mp hk
  match k, hk with

  | k + 0, hk => exact absurd hk (by omega)
theorem wg_X8 : ∀ w ∈ wsX80, goodWord w = true := List.all_eq_true.mp (by decide +kernel)
theorem wl_X9 : ∀ w ∈ wsX90, w ∈ lw_tbl := by
  intro w h
  obtain ⟨k, hk, rfl⟩ := List.mem_map.mp h
  have hk := List.mem_range.mp hk
  match k, hk with
  | 0, _ => exact tb2_in _ (List.mem_of_getElem? (i := 3) (by decide +kernel))
  | 1, _ => exact tb2_in _ (List.mem_of_getElem? (i := 5) (by decide +kernel))
  | 2, _ => exact tb2_in _ (List.mem_of_getElem? (i := 7) (by decide +kernel))
  | 3, _ => exact tb2_in _ (List.mem_of_getElem? (i := 9) (by decide +kernel))
  | 4, _ => exact tb2_in _ (List.mem_of_getElem? (i := 11) (by decide +kernel))
  | 5, _ => exact tb2_in _ (List.mem_of_getElem? (i := 13) (by decide +kernel))
  | 6, _ => exact tb2_in _ (List.mem_of_getElem? (i := 15) (by decide +kernel))
  | 7, _ => exact tb2_in _ (List.mem_of_getElem? (i := 17) (by decide +kernel))
  | k + 8, hk => exact absurd hk (by omega)
theorem wg_X9 : ∀ w ∈ wsX90, goodWord w = true := List.all_eq_true.mp (by decide +kernel)
theorem wl_X10 : ∀ w ∈ wsX100, w ∈ lw_tbl := by
  intro w h
  obtain ⟨k, hk, rfl⟩ := List.mem_map.mp h
  have hk := List.mem_range.mp hk
  match k, hk with
  | 0, _ => exact tb4_in _ (List.mem_of_getElem? (i := 8) (by decide +kernel))
  | 1, _ => exact tb4_in _ (List.mem_of_getElem? (i := 10) (by decide +kernel))
  | 2, _ => exact tb4_in _ (List.mem_of_getElem? (i := 12) (by decide +kernel))
  | 3, _ => exact tb4_in _ (List.mem_of_getElem? (i := 14) (by decide +kernel))
  | 4, _ => exact tb4_in _ (List.mem_of_getElem? (i := 16) (by decide +kernel))
  | 5, _ => exact tb4_in _ (List.mem_of_getElem? (i := 18) (by decide +kernel))
  | 6, _ => exact tb4_in _ (List.mem_of_getElem? (i := 20) (by decide +kernel))
  | 7, _ => exact tb4_in _ (List.mem_of_getElem? (i := 22) (by decide +kernel))
  | 8, _ => exact tb4_in _ (List.mem_of_getElem? (i := 24) (by decide +kernel))
  | 9, _ => exact tb4_in _ (List.mem_of_getElem? (i := 26) (by decide +kernel))
  | 10, _ => exact tb4_in _ (List.mem_of_getElem? (i := 28) (by decide +kernel))
  | 11, _ => exact tb4_in _ (List.mem_of_getElem? (i := 30) (by decide +kernel))
  | 12, _ => exact tb4_in _ (List.mem_of_getElem? (i := 32) (by decide +kernel))
  | 13, _ => exact tb4_in _ (List.mem_of_getElem? (i := 34) (by decide +kernel))
  | 14, _ => exact tb4_in _ (List.mem_of_getElem? (i := 36) (by decide +kernel))
  | 15, _ => exact tb4_in _ (List.mem_of_getElem? (i := 38) (by decide +kernel))
  | 16, _ => exact tb4_in _ (List.mem_of_getElem? (i := 40) (by decide +kernel))
  | k + 17, hk => exact absurd hk (by omega)
theorem wg_X10 : ∀ w ∈ wsX100, goodWord w = true := List.all_eq_true.mp (by decide +kernel)
theorem wsL_law_in : ∀ w ∈ wsL_law, w ∈ lw_tbl := fun w h => by
  have h1 := h
  unfold wsL_law at h1
  rcases tb_app h1 with h1 | h1
  case inr => exact absurd h1 List.not_mem_nil
  rcases tb_app h1 with h1 | h1
  case inr => exact wl_X1 w h1
  rcases tb_app h1 with h1 | h1
  case inr => exact wl_X7 w h1
  rcases tb_app h1 with h1 | h1
  case inr => exact wl_X3 w h1
  rcases tb_app h1 with h1 | h1
  case inr => exact wl_X6 w h1
  rcases tb_app h1 with h1 | h1
  case inr => exact wl_X5 w h1
  rcases tb_app h1 with h1 | h1
  case inr => exact wl_X0 w h1
  rcases tb_app h1 with h1 | h1
  case inr => exact wl_X4 w h1
  rcases tb_app h1 with h1 | h1
  case inr => exact wl_X2 w h1
  rcases tb_app h1 with h1 | h1
  case inr => exact wl_X10 w h1
  rcases tb_app h1 with h1 | h1
  case inr => exact wl_X9 w h1
  rcases tb_app h1 with h1 | h1
  case inl => exact wl_r1 w h1
  rcases tb_app h1 with h1 | h1
  case inl => exact wl_r2 w h1
  rcases tb_app h1 with h1 | h1
  case inl => exact wl_r3 w h1
  rcases tb_app h1 with h1 | h1
  case inl => exact wl_r4 w h1
  rcases tb_app h1 with h1 | h1
  case inl => exact wl_r5 w h1
  rcases tb_app h1 with h1 | h1
  case inl => exact wl_r6 w h1
  rcases tb_app h1 with h1 | h1
  case inl => exact wl_r7 w h1
  rcases tb_app h1 with h1 | h1
  case inl => exact wl_r8 w h1
  rcases tb_app h1 with h1 | h1
  case inl => exact wl_r9 w h1
  rcases tb_app h1 with h1 | h1
  case inl => exact wl_r10 w h1
  rcases tb_app h1 with h1 | h1
  case inl => exact wl_r11 w h1
  rcases tb_app h1 with h1 | h1
  case inl => exact wl_r12 w h1
  rcases tb_app h1 with h1 | h1
  case inl => exact wl_r13 w h1
  rcases tb_app h1 with h1 | h1
  case inl => exact wl_r14 w h1
  rcases tb_app h1 with h1 | h1
  case inl => exact wl_r15 w h1
  rcases tb_app h1 with h1 | h1
  case inl => exact wl_r16 w h1
  rcases tb_app h1 with h1 | h1
  case inl => exact wl_r17 w h1
  rcases tb_app h1 with h1 | h1
  case inl => exact wl_r18 w h1
  rcases tb_app h1 with h1 | h1
  case inl => exact wl_r19 w h1
  rcases tb_app h1 with h1 | h1
  case inl => exact wl_r20 w h1
  rcases tb_app h1 with h1 | h1
  case inl => exact wl_r21 w h1
  rcases tb_app h1 with h1 | h1
  case inl => exact wl_r22 w h1
  rcases tb_app h1 with h1 | h1
  case inl => exact wl_r23 w h1
  rcases tb_app h1 with h1 | h1
  case inl => exact wl_r24 w h1
  rcases tb_app h1 with h1 | h1
  case inl => exact wl_r25 w h1
  rcases tb_app h1 with h1 | h1
  case inl => exact wl_r26 w h1
  rcases tb_app h1 with h1 | h1
  case inl => exact wl_r27 w h1
  rcases tb_app h1 with h1 | h1
  case inl => exact wl_r28 w h1
  rcases tb_app h1 with h1 | h1
  case inl => exact wl_r29 w h1
  rcases tb_app h1 with h1 | h1
  case inl => exact wl_r30 w h1
  rcases tb_app h1 with h1 | h1
  case inl => exact wl_r31 w h1
  rcases tb_app h1 with h1 | h1
  case inl => exact wl_r32 w h1
  rcases tb_app h1 with h1 | h1
  case inl => exact wl_r33 w h1
  rcases tb_app h1 with h1 | h1
  case inl => exact wl_r34 w h1
  rcases tb_app h1 with h1 | h1
  case inl => exact wl_r35 w h1
  rcases tb_app h1 with h1 | h1
  case inl => exact wl_r36 w h1
  exact wl_r37 w h1
theorem wsL_law_good : ∀ w ∈ wsL_law, goodWord w = true := fun w h => by
  have h1 := h
  unfold wsL_law at h1
  rcases tb_app h1 with h1 | h1
  case inr => exact absurd h1 List.not_mem_nil
  rcases tb_app h1 with h1 | h1
  case inr => exact wg_X1 w h1
  rcases tb_app h1 with h1 | h1
  case inr => exact wg_X7 w h1
  rcases tb_app h1 with h1 | h1
  case inr => exact wg_X3 w h1
  rcases tb_app h1 with h1 | h1
  case inr => exact wg_X6 w h1
  rcases tb_app h1 with h1 | h1
  case inr => exact wg_X5 w h1
  rcases tb_app h1 with h1 | h1
  case inr => exact wg_X0 w h1
  rcases tb_app h1 with h1 | h1
  case inr => exact wg_X4 w h1
  rcases tb_app h1 with h1 | h1
  case inr => exact wg_X2 w h1
  rcases tb_app h1 with h1 | h1
  case inr => exact wg_X10 w h1
  rcases tb_app h1 with h1 | h1
  case inr => exact wg_X9 w h1
  rcases tb_app h1 with h1 | h1
  case inl => exact wg_r1 w h1
  rcases tb_app h1 with h1 | h1
  case inl => exact wg_r2 w h1
  rcases tb_app h1 with h1 | h1
  case inl => exact wg_r3 w h1
  rcases tb_app h1 with h1 | h1
  case inl => exact wg_r4 w h1
  rcases tb_app h1 with h1 | h1
  case inl => exact wg_r5 w h1
  rcases tb_app h1 with h1 | h1
  case inl => exact wg_r6 w h1
  rcases tb_app h1 with h1 | h1
  case inl => exact wg_r7 w h1
  rcases tb_app h1 with h1 | h1
  case inl => exact wg_r8 w h1
  rcases tb_app h1 with h1 | h1
  case inl => exact wg_r9 w h1
  rcases tb_app h1 with h1 | h1
  case inl => exact wg_r10 w h1
  rcases tb_app h1 with h1 | h1
  case inl => exact wg_r11 w h1
  rcases tb_app h1 with h1 | h1
  case inl => exact wg_r12 w h1
  rcases tb_app h1 with h1 | h1
  case inl => exact wg_r13 w h1
  rcases tb_app h1 with h1 | h1
  case inl => exact wg_r14 w h1
  rcases tb_app h1 with h1 | h1
  case inl => exact wg_r15 w h1
  rcases tb_app h1 with h1 | h1
  case inl => exact wg_r16 w h1
  rcases tb_app h1 with h1 | h1
  case inl => exact wg_r17 w h1
  rcases tb_app h1 with h1 | h1
  case inl => exact wg_r18 w h1
  rcases tb_app h1 with h1 | h1
  case inl => exact wg_r19 w h1
  rcases tb_app h1 with h1 | h1
  case inl => exact wg_r20 w h1
  rcases tb_app h1 with h1 | h1
  case inl => exact wg_r21 w h1
  rcases tb_app h1 with h1 | h1
  case inl => exact wg_r22 w h1
  rcases tb_app h1 with h1 | h1
  case inl => exact wg_r23 w h1
  rcases tb_app h1 with h1 | h1
  case inl => exact wg_r24 w h1
  rcases tb_app h1 with h1 | h1
  case inl => exact wg_r25 w h1
  rcases tb_app h1 with h1 | h1
  case inl => exact wg_r26 w h1
  rcases tb_app h1 with h1 | h1
  case inl => exact wg_r27 w h1
  rcases tb_app h1 with h1 | h1
  case inl => exact wg_r28 w h1
  rcases tb_app h1 with h1 | h1
  case inl => exact wg_r29 w h1
  rcases tb_app h1 with h1 | h1
  case inl => exact wg_r30 w h1
  rcases tb_app h1 with h1 | h1
  case inl => exact wg_r31 w h1
  rcases tb_app h1 with h1 | h1
  case inl => exact wg_r32 w h1
  rcases tb_app h1 with h1 | h1
  case inl => exact wg_r33 w h1
  rcases tb_app h1 with h1 | h1
  case inl => exact wg_r34 w h1
  rcases tb_app h1 with h1 | h1
  case inl => exact wg_r35 w h1
  rcases tb_app h1 with h1 | h1
  case inl => exact wg_r36 w h1
  exact wg_r37 w h1
theorem m_r1 {w : Cond} (p : Nat) (hp : wsL_law_r1[p]? = some w) : w ∈ wsL_law := by
  have h := List.mem_of_getElem? hp
  exact List.mem_append_left _ (List.mem_append_left _ (List.mem_append_left _ (List.mem_append_left _ (List.mem_append_left _ (List.mem_append_left _ (List.mem_append_left _ (List.mem_append_left _ (List.mem_append_left _ (List.mem_append_left _ (List.mem_append_left _ (List.mem_append_left _ h)))))))))))
theorem m_r2 {w : Cond} (p : Nat) (hp : wsL_law_r2[p]? = some w) : w ∈ wsL_law := by
  have h := List.mem_of_getElem? hp
  exact List.mem_append_left _ (List.mem_append_left _ (List.mem_append_left _ (List.mem_append_left _ (List.mem_append_left _ (List.mem_append_left _ (List.mem_append_left _ (List.mem_append_left _ (List.mem_append_left _ (List.mem_append_left _ (List.mem_append_left _ (List.mem_append_right _ (List.mem_append_left _ h))))))))))))
theorem m_r3 {w : Cond} (p : Nat) (hp : wsL_law_r3[p]? = some w) : w ∈ wsL_law := by
  have h := List.mem_of_getElem? hp
  exact List.mem_append_left _ (List.mem_append_left _ (List.mem_append_left _ (List.mem_append_left _ (List.mem_append_left _ (List.mem_append_left _ (List.mem_append_left _ (List.mem_append_left _ (List.mem_append_left _ (List.mem_append_left _ (List.mem_append_left _ (List.mem_append_right _ (List.mem_append_right _ (List.mem_append_left _ h)))))))))))))
theorem m_r4 {w : Cond} (p : Nat) (hp : wsL_law_r4[p]? = some w) : w ∈ wsL_law := by
  have h := List.mem_of_getElem? hp
  exact List.mem_append_left _ (List.mem_append_left _ (List.mem_append_left _ (List.mem_append_left _ (List.mem_append_left _ (List.mem_append_left _ (List.mem_append_left _ (List.mem_append_left _ (List.mem_append_left _ (List.mem_append_left _ (List.mem_append_left _ (List.mem_append_right _ (List.mem_append_right _ (List.mem_append_right _ (List.mem_append_left _ h))))))))))))))
theorem m_r5 {w : Cond} (p : Nat) (hp : wsL_law_r5[p]? = some w) : w ∈ wsL_law := by
  have h := List.mem_of_getElem? hp
  exact List.mem_append_left _ (List.mem_append_left _ (List.mem_append_left _ (List.mem_append_left _ (List.mem_append_left _ (List.mem_append_left _ (List.mem_append_left _ (List.mem_append_left _ (List.mem_append_left _ (List.mem_append_left _ (List.mem_append_left _ (List.mem_append_right _ (List.mem_append_right _ (List.mem_append_right _ (List.mem_append_right _ (List.mem_append_left _ h)))))))))))))))
theorem m_r6 {w : Cond} (p : Nat) (hp : wsL_law_r6[p]? = some w) : w ∈ wsL_law := by
  have h := List.mem_of_getElem? hp
  exact List.mem_append_left _ (List.mem_append_left _ (List.mem_append_left _ (List.mem_append_left _ (List.mem_append_left _ (List.mem_append_left _ (List.mem_append_left _ (List.mem_append_left _ (List.mem_append_left _ (List.mem_append_left _ (List.mem_append_left _ (List.mem_append_right _ (List.mem_append_right _ (List.mem_append_right _ (List.mem_append_right _ (List.mem_append_right _ (List.mem_append_left _ h))))))))))))))))
theorem m_r7 {w : Cond} (p : Nat) (hp : wsL_law_r7[p]? = some w) : w ∈ wsL_law := by
  have h := List.mem_of_getElem? hp
  exact List.mem_append_left _ (List.mem_append_left _ (List.mem_append_left _ (List.mem_append_left _ (List.mem_append_left _ (List.mem_append_left _ (List.mem_append_left _ (List.mem_append_left _ (List.mem_append_left _ (List.mem_append_left _ (List.mem_append_left _ (List.mem_append_right _ (List.mem_append_right _ (List.mem_append_right _ (List.mem_append_right _ (List.mem_append_right _ (List.mem_append_right _ (List.mem_append_left _ h)))))))))))))))))
theorem m_r8 {w : Cond} (p : Nat) (hp : wsL_law_r8[p]? = some w) : w ∈ wsL_law := by
  have h := List.mem_of_getElem? hp
  exact List.mem_append_left _ (List.mem_append_left _ (List.mem_append_left _ (List.mem_append_left _ (List.mem_append_left _ (List.mem_append_left _ (List.mem_append_left _ (List.mem_append_left _ (List.mem_append_left _ (List.mem_append_left _ (List.mem_append_left _ (List.mem_append_right _ (List.mem_append_right _ (List.mem_append_right _ (List.mem_append_right _ (List.mem_append_right _ (List.mem_append_right _ (List.mem_append_right _ (List.mem_append_left _ h))))))))))))))))))
theorem m_r9 {w : Cond} (p : Nat) (hp : wsL_law_r9[p]? = some w) : w ∈ wsL_law := by
  have h := List.mem_of_getElem? hp
  exact List.mem_append_left _ (List.mem_append_left _ (List.mem_append_left _ (List.mem_append_left _ (List.mem_append_left _ (List.mem_append_left _ (List.mem_append_left _ (List.mem_append_left _ (List.mem_append_left _ (List.mem_append_left _ (List.mem_append_left _ (List.mem_append_right _ (List.mem_append_right _ (List.mem_append_right _ (List.mem_append_right _ (List.mem_append_right _ (List.mem_append_right _ (List.mem_append_right _ (List.mem_append_right _ (List.mem_append_left _ h)))))))))))))))))))
theorem m_r10 {w : Cond} (p : Nat) (hp : wsL_law_r10[p]? = some w) : w ∈ wsL_law := by
  have h := List.mem_of_getElem? hp
  exact List.mem_append_left _ (List.mem_append_left _ (List.mem_append_left _ (List.mem_append_left _ (List.mem_append_left _ (List.mem_append_left _ (List.mem_append_left _ (List.mem_append_left _ (List.mem_append_left _ (List.mem_append_left _ (List.mem_append_left _ (List.mem_append_right _ (List.mem_append_right _ (List.mem_append_right _ (List.mem_append_right _ (List.mem_append_right _ (List.mem_append_right _ (List.mem_append_right _ (List.mem_append_right _ (List.mem_append_right _ (List.mem_append_left _ h))))))))))))))))))))
theorem m_r11 {w : Cond} (p : Nat) (hp : wsL_law_r11[p]? = some w) : w ∈ wsL_law := by
  have h := List.mem_of_getElem? hp
  exact List.mem_append_left _ (List.mem_append_left _ (List.mem_append_left _ (List.mem_append_left _ (List.mem_append_left _ (List.mem_append_left _ (List.mem_append_left _ (List.mem_append_left _ (List.mem_append_left _ (List.mem_append_left _ (List.mem_append_left _ (List.mem_append_right _ (List.mem_append_right _ (List.mem_append_right _ (List.mem_append_right _ (List.mem_append_right _ (List.mem_append_right _ (List.mem_append_right _ (List.mem_append_right _ (List.mem_append_right _ (List.mem_append_right _ (List.mem_append_left _ h)))))))))))))))))))))
theorem m_r12 {w : Cond} (p : Nat) (hp : wsL_law_r12[p]? = some w) : w ∈ wsL_law := by
  have h := List.mem_of_getElem? hp
  exact List.mem_append_left _ (List.mem_append_left _ (List.mem_append_left _ (List.mem_append_left _ (List.mem_append_left _ (List.mem_append_left _ (List.mem_append_left _ (List.mem_append_left _ (List.mem_append_left _ (List.mem_append_left _ (List.mem_append_left _ (List.mem_append_right _ (List.mem_append_right _ (List.mem_append_right _ (List.mem_append_right _ (List.mem_append_right _ (List.mem_append_right _ (List.mem_append_right _ (List.mem_append_right _ (List.mem_append_right _ (List.mem_append_right _ (List.mem_append_right _ (List.mem_append_left _ h))))))))))))))))))))))
theorem m_r13 {w : Cond} (p : Nat) (hp : wsL_law_r13[p]? = some w) : w ∈ wsL_law := by
  have h := List.mem_of_getElem? hp
  exact List.mem_append_left _ (List.mem_append_left _ (List.mem_append_left _ (List.mem_append_left _ (List.mem_append_left _ (List.mem_append_left _ (List.mem_append_left _ (List.mem_append_left _ (List.mem_append_left _ (List.mem_append_left _ (List.mem_append_left _ (List.mem_append_right _ (List.mem_append_right _ (List.mem_append_right _ (List.mem_append_right _ (List.mem_append_right _ (List.mem_append_right _ (List.mem_append_right _ (List.mem_append_right _ (List.mem_append_right _ (List.mem_append_right _ (List.mem_append_right _ (List.mem_append_right _ (List.mem_append_left _ h)))))))))))))))))))))))
theorem m_r14 {w : Cond} (p : Nat) (hp : wsL_law_r14[p]? = some w) : w ∈ wsL_law := by
  have h := List.mem_of_getElem? hp
  exact List.mem_append_left _ (List.mem_append_left _ (List.mem_append_left _ (List.mem_append_left _ (List.mem_append_left _ (List.mem_append_left _ (List.mem_append_left _ (List.mem_append_left _ (List.mem_append_left _ (List.mem_append_left _ (List.mem_append_left _ (List.mem_append_right _ (List.mem_append_right _ (List.mem_append_right _ (List.mem_append_right _ (List.mem_append_right _ (List.mem_append_right _ (List.mem_append_right _ (List.mem_append_right _ (List.mem_append_right _ (List.mem_append_right _ (List.mem_append_right _ (List.mem_append_right _ (List.mem_append_right _ (List.mem_append_left _ h))))))))))))))))))))))))
theorem m_r15 {w : Cond} (p : Nat) (hp : wsL_law_r15[p]? = some w) : w ∈ wsL_law := by
  have h := List.mem_of_getElem? hp
  exact List.mem_append_left _ (List.mem_append_left _ (List.mem_append_left _ (List.mem_append_left _ (List.mem_append_left _ (List.mem_append_left _ (List.mem_append_left _ (List.mem_append_left _ (List.mem_append_left _ (List.mem_append_left _ (List.mem_append_left _ (List.mem_append_right _ (List.mem_append_right _ (List.mem_append_right _ (List.mem_append_right _ (List.mem_append_right _ (List.mem_append_right _ (List.mem_append_right _ (List.mem_append_right _ (List.mem_append_right _ (List.mem_append_right _ (List.mem_append_right _ (List.mem_append_right _ (List.mem_append_right _ (List.mem_append_right _ (List.mem_append_left _ h)))))))))))))))))))))))))
theorem m_r16 {w : Cond} (p : Nat) (hp : wsL_law_r16[p]? = some w) : w ∈ wsL_law := by
  have h := List.mem_of_getElem? hp
  exact List.mem_append_left _ (List.mem_append_left _ (List.mem_append_left _ (List.mem_append_left _ (List.mem_append_left _ (List.mem_append_left _ (List.mem_append_left _ (List.mem_append_left _ (List.mem_append_left _ (List.mem_append_left _ (List.mem_append_left _ (List.mem_append_right _ (List.mem_append_right _ (List.mem_append_right _ (List.mem_append_right _ (List.mem_append_right _ (List.mem_append_right _ (List.mem_append_right _ (List.mem_append_right _ (List.mem_append_right _ (List.mem_append_right _ (List.mem_append_right _ (List.mem_append_right _ (List.mem_append_right _ (List.mem_append_right _ (List.mem_append_right _ (List.mem_append_left _ h))))))))))))))))))))))))))
theorem m_r17 {w : Cond} (p : Nat) (hp : wsL_law_r17[p]? = some w) : w ∈ wsL_law := by
  have h := List.mem_of_getElem? hp
  exact List.mem_append_left _ (List.mem_append_left _ (List.mem_append_left _ (List.mem_append_left _ (List.mem_append_left _ (List.mem_append_left _ (List.mem_append_left _ (List.mem_append_left _ (List.mem_append_left _ (List.mem_append_left _ (List.mem_append_left _ (List.mem_append_right _ (List.mem_append_right _ (List.mem_append_right _ (List.mem_append_right _ (List.mem_append_right _ (List.mem_append_right _ (List.mem_append_right _ (List.mem_append_right _ (List.mem_append_right _ (List.mem_append_right _ (List.mem_append_right _ (List.mem_append_right _ (List.mem_append_right _ (List.mem_append_right _ (List.mem_append_right _ (List.mem_append_right _ (List.mem_append_left _ h)))))))))))))))))))))))))))
theorem m_r18 {w : Cond} (p : Nat) (hp : wsL_law_r18[p]? = some w) : w ∈ wsL_law := by
  have h := List.mem_of_getElem? hp
  exact List.mem_append_left _ (List.mem_append_left _ (List.mem_append_left _ (List.mem_append_left _ (List.mem_append_left _ (List.mem_append_left _ (List.mem_append_left _ (List.mem_append_left _ (List.mem_append_left _ (List.mem_append_left _ (List.mem_append_left _ (List.mem_append_right _ (List.mem_append_right _ (List.mem_append_right _ (List.mem_append_right _ (List.mem_append_right _ (List.mem_append_right _ (List.mem_append_right _ (List.mem_append_right _ (List.mem_append_right _ (List.mem_append_right _ (List.mem_append_right _ (List.mem_append_right _ (List.mem_append_right _ (List.mem_append_right _ (List.mem_append_right _ (List.mem_append_right _ (List.mem_append_right _ (List.mem_append_left _ h))))))))))))))))))))))))))))
theorem m_r19 {w : Cond} (p : Nat) (hp : wsL_law_r19[p]? = some w) : w ∈ wsL_law := by
  have h := List.mem_of_getElem? hp
  exact List.mem_append_left _ (List.mem_append_left _ (List.mem_append_left _ (List.mem_append_left _ (List.mem_append_left _ (List.mem_append_left _ (List.mem_append_left _ (List.mem_append_left _ (List.mem_append_left _ (List.mem_append_left _ (List.mem_append_left _ (List.mem_append_right _ (List.mem_append_right _ (List.mem_append_right _ (List.mem_append_right _ (List.mem_append_right _ (List.mem_append_right _ (List.mem_append_right _ (List.mem_append_right _ (List.mem_append_right _ (List.mem_append_right _ (List.mem_append_right _ (List.mem_append_right _ (List.mem_append_right _ (List.mem_append_right _ (List.mem_append_right _ (List.mem_append_right _ (List.mem_append_right _ (List.mem_append_right _ (List.mem_append_left _ h)))))))))))))))))))))))))))))
theorem m_r20 {w : Cond} (p : Nat) (hp : wsL_law_r20[p]? = some w) : w ∈ wsL_law := by
  have h := List.mem_of_getElem? hp
  exact List.mem_append_left _ (List.mem_append_left _ (List.mem_append_left _ (List.mem_append_left _ (List.mem_append_left _ (List.mem_append_left _ (List.mem_append_left _ (List.mem_append_left _ (List.mem_append_left _ (List.mem_append_left _ (List.mem_append_left _ (List.mem_append_right _ (List.mem_append_right _ (List.mem_append_right _ (List.mem_append_right _ (List.mem_append_right _ (List.mem_append_right _ (List.mem_append_right _ (List.mem_append_right _ (List.mem_append_right _ (List.mem_append_right _ (List.mem_append_right _ (List.mem_append_right _ (List.mem_append_right _ (List.mem_append_right _ (List.mem_append_right _ (List.mem_append_right _ (List.mem_append_right _ (List.mem_append_right _ (List.mem_append_right _ (List.mem_append_left _ h))))))))))))))))))))))))))))))
theorem m_r21 {w : Cond} (p : Nat) (hp : wsL_law_r21[p]? = some w) : w ∈ wsL_law := by
  have h := List.mem_of_getElem? hp
  exact List.mem_append_left _ (List.mem_append_left _ (List.mem_append_left _ (List.mem_append_left _ (List.mem_append_left _ (List.mem_append_left _ (List.mem_append_left _ (List.mem_append_left _ (List.mem_append_left _ (List.mem_append_left _ (List.mem_append_left _ (List.mem_append_right _ (List.mem_append_right _ (List.mem_append_right _ (List.mem_append_right _ (List.mem_append_right _ (List.mem_append_right _ (List.mem_append_right _ (List.mem_append_right _ (List.mem_append_right _ (List.mem_append_right _ (List.mem_append_right _ (List.mem_append_right _ (List.mem_append_right _ (List.mem_append_right _ (List.mem_append_right _ (List.mem_append_right _ (List.mem_append_right _ (List.mem_append_right _ (List.mem_append_right _ (List.mem_append_right _ (List.mem_append_left _ h)))))))))))))))))))))))))))))))
theorem m_r22 {w : Cond} (p : Nat) (hp : wsL_law_r22[p]? = some w) : w ∈ wsL_law := by
  have h := List.mem_of_getElem? hp
  exact List.mem_append_left _ (List.mem_append_left _ (List.mem_append_left _ (List.mem_append_left _ (List.mem_append_left _ (List.mem_append_left _ (List.mem_append_left _ (List.mem_append_left _ (List.mem_append_left _ (List.mem_append_left _ (List.mem_append_left _ (List.mem_append_right _ (List.mem_append_right _ (List.mem_append_right _ (List.mem_append_right _ (List.mem_append_right _ (List.mem_append_right _ (List.mem_append_right _ (List.mem_append_right _ (List.mem_append_right _ (List.mem_append_right _ (List.mem_append_right _ (List.mem_append_right _ (List.mem_append_right _ (List.mem_append_right _ (List.mem_append_right _ (List.mem_append_right _ (List.mem_append_right _ (List.mem_append_right _ (List.mem_append_right _ (List.mem_append_right _ (List.mem_append_right _ (List.mem_append_left _ h))))))))))))))))))))))))))))))))
theorem m_r23 {w : Cond} (p : Nat) (hp : wsL_law_r23[p]? = some w) : w ∈ wsL_law := by
  have h := List.mem_of_getElem? hp
  exact List.mem_append_left _ (List.mem_append_left _ (List.mem_append_left _ (List.mem_append_left _ (List.mem_append_left _ (List.mem_append_left _ (List.mem_append_left _ (List.mem_append_left _ (List.mem_append_left _ (List.mem_append_left _ (List.mem_append_left _ (List.mem_append_right _ (List.mem_append_right _ (List.mem_append_right _ (List.mem_append_right _ (List.mem_append_right _ (List.mem_append_right _ (List.mem_append_right _ (List.mem_append_right _ (List.mem_append_right _ (List.mem_append_right _ (List.mem_append_right _ (List.mem_append_right _ (List.mem_append_right _ (List.mem_append_right _ (List.mem_append_right _ (List.mem_append_right _ (List.mem_append_right _ (List.mem_append_right _ (List.mem_append_right _ (List.mem_append_right _ (List.mem_append_right _ (List.mem_append_right _ (List.mem_append_left _ h)))))))))))))))))))))))))))))))))
theorem m_r24 {w : Cond} (p : Nat) (hp : wsL_law_r24[p]? = some w) : w ∈ wsL_law := by
  have h := List.mem_of_getElem? hp
  exact List.mem_append_left _ (List.mem_append_left _ (List.mem_append_left _ (List.mem_append_left _ (List.mem_append_left _ (List.mem_append_left _ (List.mem_append_left _ (List.mem_append_left _ (List.mem_append_left _ (List.mem_append_left _ (List.mem_append_left _ (List.mem_append_right _ (List.mem_append_right _ (List.mem_append_right _ (List.mem_append_right _ (List.mem_append_right _ (List.mem_append_right _ (List.mem_append_right _ (List.mem_append_right _ (List.mem_append_right _ (List.mem_append_right _ (List.mem_append_right _ (List.mem_append_right _ (List.mem_append_right _ (List.mem_append_right _ (List.mem_append_right _ (List.mem_append_right _ (List.mem_append_right _ (List.mem_append_right _ (List.mem_append_right _ (List.mem_append_right _ (List.mem_append_right _ (List.mem_append_right _ (List.mem_append_right _ (List.mem_append_left _ h))))))))))))))))))))))))))))))))))
theorem m_r25 {w : Cond} (p : Nat) (hp : wsL_law_r25[p]? = some w) : w ∈ wsL_law := by
  have h := List.mem_of_getElem? hp
  exact List.mem_append_left _ (List.mem_append_left _ (List.mem_append_left _ (List.mem_append_left _ (List.mem_append_left _ (List.mem_append_left _ (List.mem_append_left _ (List.mem_append_left _ (List.mem_append_left _ (List.mem_append_left _ (List.mem_append_left _ (List.mem_append_right _ (List.mem_append_right _ (List.mem_append_right _ (List.mem_append_right _ (List.mem_append_right _ (List.mem_append_right _ (List.mem_append_right _ (List.mem_append_right _ (List.mem_append_right _ (List.mem_append_right _ (List.mem_append_right _ (List.mem_append_right _ (List.mem_append_right _ (List.mem_append_right _ (List.mem_append_right _ (List.mem_append_right _ (List.mem_append_right _ (List.mem_append_right _ (List.mem_append_right _ (List.mem_append_right _ (List.mem_append_right _ (List.mem_append_right _ (List.mem_append_right _ (List.mem_append_right _ (List.mem_append_left _ h)))))))))))))))))))))))))))))))))))
theorem m_r26 {w : Cond} (p : Nat) (hp : wsL_law_r26[p]? = some w) : w ∈ wsL_law := by
  have h := List.mem_of_getElem? hp
  exact List.mem_append_left _ (List.mem_append_left _ (List.mem_append_left _ (List.mem_append_left _ (List.mem_append_left _ (List.mem_append_left _ (List.mem_append_left _ (List.mem_append_left _ (List.mem_append_left _ (List.mem_append_left _ (List.mem_append_left _ (List.mem_append_right _ (List.mem_append_right _ (List.mem_append_right _ (List.mem_append_right _ (List.mem_append_right _ (List.mem_append_right _ (List.mem_append_right _ (List.mem_append_right _ (List.mem_append_right _ (List.mem_append_right _ (List.mem_append_right _ (List.mem_append_right _ (List.mem_append_right _ (List.mem_append_right _ (List.mem_append_right _ (List.mem_append_right _ (List.mem_append_right _ (List.mem_append_right _ (List.mem_append_right _ (List.mem_append_right _ (List.mem_append_right _ (List.mem_append_right _ (List.mem_append_right _ (List.mem_append_right _ (List.mem_append_right _ (List.mem_append_left _ h))))))))))))))))))))))))))))))))))))
theorem m_r27 {w : Cond} (p : Nat) (hp : wsL_law_r27[p]? = some w) : w ∈ wsL_law := by
  have h := List.mem_of_getElem? hp
  exact List.mem_append_left _ (List.mem_append_left _ (List.mem_append_left _ (List.mem_append_left _ (List.mem_append_left _ (List.mem_append_left _ (List.mem_append_left _ (List.mem_append_left _ (List.mem_append_left _ (List.mem_append_left _ (List.mem_append_left _ (List.mem_append_right _ (List.mem_append_right _ (List.mem_append_right _ (List.mem_append_right _ (List.mem_append_right _ (List.mem_append_right _ (List.mem_append_right _ (List.mem_append_right _ (List.mem_append_right _ (List.mem_append_right _ (List.mem_append_right _ (List.mem_append_right _ (List.mem_append_right _ (List.mem_append_right _ (List.mem_append_right _ (List.mem_append_right _ (List.mem_append_right _ (List.mem_append_right _ (List.mem_append_right _ (List.mem_append_right _ (List.mem_append_right _ (List.mem_append_right _ (List.mem_append_right _ (List.mem_append_right _ (List.mem_append_right _ (List.mem_append_right _ (List.mem_append_left _ h)))))))))))))))))))))))))))))))))))))
theorem m_r28 {w : Cond} (p : Nat) (hp : wsL_law_r28[p]? = some w) : w ∈ wsL_law := by
  have h := List.mem_of_getElem? hp
  exact List.mem_append_left _ (List.mem_append_left _ (List.mem_append_left _ (List.mem_append_left _ (List.mem_append_left _ (List.mem_append_left _ (List.mem_append_left _ (List.mem_append_left _ (List.mem_append_left _ (List.mem_append_left _ (List.mem_append_left _ (List.mem_append_right _ (List.mem_append_right _ (List.mem_append_right _ (List.mem_append_right _ (List.mem_append_right _ (List.mem_append_right _ (List.mem_append_right _ (List.mem_append_right _ (List.mem_append_right _ (List.mem_append_right _ (List.mem_append_right _ (List.mem_append_right _ (List.mem_append_right _ (List.mem_append_right _ (List.mem_append_right _ (List.mem_append_right _ (List.mem_append_right _ (List.mem_append_right _ (List.mem_append_right _ (List.mem_append_right _ (List.mem_append_right _ (List.mem_append_right _ (List.mem_append_right _ (List.mem_append_right _ (List.mem_append_right _ (List.mem_append_right _ (List.mem_append_right _ (List.mem_append_left _ h))))))))))))))))))))))))))))))))))))))
theorem m_r29 {w : Cond} (p : Nat) (hp : wsL_law_r29[p]? = some w) : w ∈ wsL_law := by
  have h := List.mem_of_getElem? hp
  exact List.mem_append_left _ (List.mem_append_left _ (List.mem_append_left _ (List.mem_append_left _ (List.mem_append_left _ (List.mem_append_left _ (List.mem_append_left _ (List.mem_append_left _ (List.mem_append_left _ (List.mem_append_left _ (List.mem_append_left _ (List.mem_append_right _ (List.mem_append_right _ (List.mem_append_right _ (List.mem_append_right _ (List.mem_append_right _ (List.mem_append_right _ (List.mem_append_right _ (List.mem_append_right _ (List.mem_append_right _ (List.mem_append_right _ (List.mem_append_right _ (List.mem_append_right _ (List.mem_append_right _ (List.mem_append_right _ (List.mem_append_right _ (List.mem_append_right _ (List.mem_append_right _ (List.mem_append_right _ (List.mem_append_right _ (List.mem_append_right _ (List.mem_append_right _ (List.mem_append_right _ (List.mem_append_right _ (List.mem_append_right _ (List.mem_append_right _ (List.mem_append_right _ (List.mem_append_right _ (List.mem_append_right _ (List.mem_append_left _ h)))))))))))))))))))))))))))))))))))))))
theorem m_r30 {w : Cond} (p : Nat) (hp : wsL_law_r30[p]? = some w) : w ∈ wsL_law := by
  have h := List.mem_of_getElem? hp
  exact List.mem_append_left _ (List.mem_append_left _ (List.mem_append_left _ (List.mem_append_left _ (List.mem_append_left _ (List.mem_append_left _ (List.mem_append_left _ (List.mem_append_left _ (List.mem_append_left _ (List.mem_append_left _ (List.mem_append_left _ (List.mem_append_right _ (List.mem_append_right _ (List.mem_append_right _ (List.mem_append_right _ (List.mem_append_right _ (List.mem_append_right _ (List.mem_append_right _ (List.mem_append_right _ (List.mem_append_right _ (List.mem_append_right _ (List.mem_append_right _ (List.mem_append_right _ (List.mem_append_right _ (List.mem_append_right _ (List.mem_append_right _ (List.mem_append_right _ (List.mem_append_right _ (List.mem_append_right _ (List.mem_append_right _ (List.mem_append_right _ (List.mem_append_right _ (List.mem_append_right _ (List.mem_append_right _ (List.mem_append_right _ (List.mem_append_right _ (List.mem_append_right _ (List.mem_append_right _ (List.mem_append_right _ (List.mem_append_right _ (List.mem_append_left _ h))))))))))))))))))))))))))))))))))))))))
theorem m_r31 {w : Cond} (p : Nat) (hp : wsL_law_r31[p]? = some w) : w ∈ wsL_law := by
  have h := List.mem_of_getElem? hp
  exact List.mem_append_left _ (List.mem_append_left _ (List.mem_append_left _ (List.mem_append_left _ (List.mem_append_left _ (List.mem_append_left _ (List.mem_append_left _ (List.mem_append_left _ (List.mem_append_left _ (List.mem_append_left _ (List.mem_append_left _ (List.mem_append_right _ (List.mem_append_right _ (List.mem_append_right _ (List.mem_append_right _ (List.mem_append_right _ (List.mem_append_right _ (List.mem_append_right _ (List.mem_append_right _ (List.mem_append_right _ (List.mem_append_right _ (List.mem_append_right _ (List.mem_append_right _ (List.mem_append_right _ (List.mem_append_right _ (List.mem_append_right _ (List.mem_append_right _ (List.mem_append_right _ (List.mem_append_right _ (List.mem_append_right _ (List.mem_append_right _ (List.mem_append_right _ (List.mem_append_right _ (List.mem_append_right _ (List.mem_append_right _ (List.mem_append_right _ (List.mem_append_right _ (List.mem_append_right _ (List.mem_append_right _ (List.mem_append_right _ (List.mem_append_right _ (List.mem_append_left _ h)))))))))))))))))))))))))))))))))))))))))
theorem m_r32 {w : Cond} (p : Nat) (hp : wsL_law_r32[p]? = some w) : w ∈ wsL_law := by
  have h := List.mem_of_getElem? hp
  exact List.mem_append_left _ (List.mem_append_left _ (List.mem_append_left _ (List.mem_append_left _ (List.mem_append_left _ (List.mem_append_left _ (List.mem_append_left _ (List.mem_append_left _ (List.mem_append_left _ (List.mem_append_left _ (List.mem_append_left _ (List.mem_append_right _ (List.mem_append_right _ (List.mem_append_right _ (List.mem_append_right _ (List.mem_append_right _ (List.mem_append_right _ (List.mem_append_right _ (List.mem_append_right _ (List.mem_append_right _ (List.mem_append_right _ (List.mem_append_right _ (List.mem_append_right _ (List.mem_append_right _ (List.mem_append_right _ (List.mem_append_right _ (List.mem_append_right _ (List.mem_append_right _ (List.mem_append_right _ (List.mem_append_right _ (List.mem_append_right _ (List.mem_append_right _ (List.mem_append_right _ (List.mem_append_right _ (List.mem_append_right _ (List.mem_append_right _ (List.mem_append_right _ (List.mem_append_right _ (List.mem_append_right _ (List.mem_append_right _ (List.mem_append_right _ (List.mem_append_right _ (List.mem_append_left _ h))))))))))))))))))))))))))))))))))))))))))
theorem m_r33 {w : Cond} (p : Nat) (hp : wsL_law_r33[p]? = some w) : w ∈ wsL_law := by
  have h := List.mem_of_getElem? hp
  exact List.mem_append_left _ (List.mem_append_left _ (List.mem_append_left _ (List.mem_append_left _ (List.mem_append_left _ (List.mem_append_left _ (List.mem_append_left _ (List.mem_append_left _ (List.mem_append_left _ (List.mem_append_left _ (List.mem_append_left _ (List.mem_append_right _ (List.mem_append_right _ (List.mem_append_right _ (List.mem_append_right _ (List.mem_append_right _ (List.mem_append_right _ (List.mem_append_right _ (List.mem_append_right _ (List.mem_append_right _ (List.mem_append_right _ (List.mem_append_right _ (List.mem_append_right _ (List.mem_append_right _ (List.mem_append_right _ (List.mem_append_right _ (List.mem_append_right _ (List.mem_append_right _ (List.mem_append_right _ (List.mem_append_right _ (List.mem_append_right _ (List.mem_append_right _ (List.mem_append_right _ (List.mem_append_right _ (List.mem_append_right _ (List.mem_append_right _ (List.mem_append_right _ (List.mem_append_right _ (List.mem_append_right _ (List.mem_append_right _ (List.mem_append_right _ (List.mem_append_right _ (List.mem_append_right _ (List.mem_append_left _ h)))))))))))))))))))))))))))))))))))))))))))
theorem m_r34 {w : Cond} (p : Nat) (hp : wsL_law_r34[p]? = some w) : w ∈ wsL_law := by
  have h := List.mem_of_getElem? hp
  exact List.mem_append_left _ (List.mem_append_left _ (List.mem_append_left _ (List.mem_append_left _ (List.mem_append_left _ (List.mem_append_left _ (List.mem_append_left _ (List.mem_append_left _ (List.mem_append_left _ (List.mem_append_left _ (List.mem_append_left _ (List.mem_append_right _ (List.mem_append_right _ (List.mem_append_right _ (List.mem_append_right _ (List.mem_append_right _ (List.mem_append_right _ (List.mem_append_right _ (List.mem_append_right _ (List.mem_append_right _ (List.mem_append_right _ (List.mem_append_right _ (List.mem_append_right _ (List.mem_append_right _ (List.mem_append_right _ (List.mem_append_right _ (List.mem_append_right _ (List.mem_append_right _ (List.mem_append_right _ (List.mem_append_right _ (List.mem_append_right _ (List.mem_append_right _ (List.mem_append_right _ (List.mem_append_right _ (List.mem_append_right _ (List.mem_append_right _ (List.mem_append_right _ (List.mem_append_right _ (List.mem_append_right _ (List.mem_append_right _ (List.mem_append_right _ (List.mem_append_right _ (List.mem_append_right _ (List.mem_append_right _ (List.mem_append_left _ h))))))))))))))))))))))))))))))))))))))))))))
theorem m_r35 {w : Cond} (p : Nat) (hp : wsL_law_r35[p]? = some w) : w ∈ wsL_law := by
  have h := List.mem_of_getElem? hp
  exact List.mem_append_left _ (List.mem_append_left _ (List.mem_append_left _ (List.mem_append_left _ (List.mem_append_left _ (List.mem_append_left _ (List.mem_append_left _ (List.mem_append_left _ (List.mem_append_left _ (List.mem_append_left _ (List.mem_append_left _ (List.mem_append_right _ (List.mem_append_right _ (List.mem_append_right _ (List.mem_append_right _ (List.mem_append_right _ (List.mem_append_right _ (List.mem_append_right _ (List.mem_append_right _ (List.mem_append_right _ (List.mem_append_right _ (List.mem_append_right _ (List.mem_append_right _ (List.mem_append_right _ (List.mem_append_right _ (List.mem_append_right _ (List.mem_append_right _ (List.mem_append_right _ (List.mem_append_right _ (List.mem_append_right _ (List.mem_append_right _ (List.mem_append_right _ (List.mem_append_right _ (List.mem_append_right _ (List.mem_append_right _ (List.mem_append_right _ (List.mem_append_right _ (List.mem_append_right _ (List.mem_append_right _ (List.mem_append_right _ (List.mem_append_right _ (List.mem_append_right _ (List.mem_append_right _ (List.mem_append_right _ (List.mem_append_right _ (List.mem_append_left _ h)))))))))))))))))))))))))))))))))))))))))))))
theorem m_r36 {w : Cond} (p : Nat) (hp : wsL_law_r36[p]? = some w) : w ∈ wsL_law := by
  have h := List.mem_of_getElem? hp
  exact List.mem_append_left _ (List.mem_append_left _ (List.mem_append_left _ (List.mem_append_left _ (List.mem_append_left _ (List.mem_append_left _ (List.mem_append_left _ (List.mem_append_left _ (List.mem_append_left _ (List.mem_append_left _ (List.mem_append_left _ (List.mem_append_right _ (List.mem_append_right _ (List.mem_append_right _ (List.mem_append_right _ (List.mem_append_right _ (List.mem_append_right _ (List.mem_append_right _ (List.mem_append_right _ (List.mem_append_right _ (List.mem_append_right _ (List.mem_append_right _ (List.mem_append_right _ (List.mem_append_right _ (List.mem_append_right _ (List.mem_append_right _ (List.mem_append_right _ (List.mem_append_right _ (List.mem_append_right _ (List.mem_append_right _ (List.mem_append_right _ (List.mem_append_right _ (List.mem_append_right _ (List.mem_append_right _ (List.mem_append_right _ (List.mem_append_right _ (List.mem_append_right _ (List.mem_append_right _ (List.mem_append_right _ (List.mem_append_right _ (List.mem_append_right _ (List.mem_append_right _ (List.mem_append_right _ (List.mem_append_right _ (List.mem_append_right _ (List.mem_append_right _ (List.mem_append_left _ h))))))))))))))))))))))))))))))))))))))))))))))
theorem m_r37 {w : Cond} (p : Nat) (hp : wsL_law_r37[p]? = some w) : w ∈ wsL_law := by
  have h := List.mem_of_getElem? hp
  exact List.mem_append_left _ (List.mem_append_left _ (List.mem_append_left _ (List.mem_append_left _ (List.mem_append_left _ (List.mem_append_left _ (List.mem_append_left _ (List.mem_append_left _ (List.mem_append_left _ (List.mem_append_left _ (List.mem_append_left _ (List.mem_append_right _ (List.mem_append_right _ (List.mem_append_right _ (List.mem_append_right _ (List.mem_append_right _ (List.mem_append_right _ (List.mem_append_right _ (List.mem_append_right _ (List.mem_append_right _ (List.mem_append_right _ (List.mem_append_right _ (List.mem_append_right _ (List.mem_append_right _ (List.mem_append_right _ (List.mem_append_right _ (List.mem_append_right _ (List.mem_append_right _ (List.mem_append_right _ (List.mem_append_right _ (List.mem_append_right _ (List.mem_append_right _ (List.mem_append_right _ (List.mem_append_right _ (List.mem_append_right _ (List.mem_append_right _ (List.mem_append_right _ (List.mem_append_right _ (List.mem_append_right _ (List.mem_append_right _ (List.mem_append_right _ (List.mem_append_right _ (List.mem_append_right _ (List.mem_append_right _ (List.mem_append_right _ (List.mem_append_right _ (List.mem_append_right _ (h)))))))))))))))))))))))))))))))))))))))))))))))
theorem inlX0 : ∀ w ∈ wsX00, w ∈ wsL_law := fun _ h => List.mem_append_left _ (List.mem_append_left _ (List.mem_append_left _ (List.mem_append_left _ (List.mem_append_left _ (List.mem_append_left _ (List.mem_append_right _ h))))))
theorem inlX1 : ∀ w ∈ wsX10, w ∈ wsL_law := fun _ h => List.mem_append_left _ (List.mem_append_right _ h)
theorem inlX2 : ∀ w ∈ wsX20, w ∈ wsL_law := fun _ h => List.mem_append_left _ (List.mem_append_left _ (List.mem_append_left _ (List.mem_append_left _ (List.mem_append_left _ (List.mem_append_left _ (List.mem_append_left _ (List.mem_append_left _ (List.mem_append_right _ h))))))))
theorem inlX3 : ∀ w ∈ wsX30, w ∈ wsL_law := fun _ h => List.mem_append_left _ (List.mem_append_left _ (List.mem_append_left _ (List.mem_append_right _ h)))
theorem inlX4 : ∀ w ∈ wsX40, w ∈ wsL_law := fun _ h => List.mem_append_left _ (List.mem_append_left _ (List.mem_append_left _ (List.mem_append_left _ (List.mem_append_left _ (List.mem_append_left _ (List.mem_append_left _ (List.mem_append_right _ h)))))))
theorem inlX5 : ∀ w ∈ wsX50, w ∈ wsL_law := fun _ h => List.mem_append_left _ (List.mem_append_left _ (List.mem_append_left _ (List.mem_append_left _ (List.mem_append_left _ (List.mem_append_right _ h)))))
theorem inlX6 : ∀ w ∈ wsX60, w ∈ wsL_law := fun _ h => List.mem_append_left _ (List.mem_append_left _ (List.mem_append_left _ (List.mem_append_left _ (List.mem_append_right _ h))))
theorem inlX7 : ∀ w ∈ wsX70, w ∈ wsL_law := fun _ h => List.mem_append_left _ (List.mem_append_left _ (List.mem_append_right _ h))
theorem inlX9 : ∀ w ∈ wsX90, w ∈ wsL_law := fun _ h => List.mem_append_left _ (List.mem_append_left _ (List.mem_append_left _ (List.mem_append_left _ (List.mem_append_left _ (List.mem_append_left _ (List.mem_append_left _ (List.mem_append_left _ (List.mem_append_left _ (List.mem_append_left _ (List.mem_append_right _ h))))))))))
theorem inlX10 : ∀ w ∈ wsX100, w ∈ wsL_law := fun _ h => List.mem_append_left _ (List.mem_append_left _ (List.mem_append_left _ (List.mem_append_left _ (List.mem_append_left _ (List.mem_append_left _ (List.mem_append_left _ (List.mem_append_left _ (List.mem_append_left _ (List.mem_append_right _ h)))))))))
end
section
theorem dX0_init_0 : decode cX0_init 0 = .ok (.aload_n 0, 1) := by decide +kernel
theorem dX0_init_1 : decode cX0_init 1 = .ok (.invokespecial 3, 3) := by decide +kernel
theorem dX0_init_4 : decode cX0_init 4 = .ok (.aload_n 0, 1) := by decide +kernel
theorem dX0_init_5 : decode cX0_init 5 = .ok (.new 9, 3) := by decide +kernel
theorem dX0_init_8 : decode cX0_init 8 = .ok (.dup, 1) := by decide +kernel
theorem dX0_init_9 : decode cX0_init 9 = .ok (.invokespecial 11, 3) := by decide +kernel
theorem dX0_init_12 : decode cX0_init 12 = .ok (.putfield 12, 3) := by decide +kernel
theorem dX0_init_15 : decode cX0_init 15 = .ok (.aload_n 0, 1) := by decide +kernel
theorem dX0_init_16 : decode cX0_init 16 = .ok (.new 18, 3) := by decide +kernel
theorem dX0_init_19 : decode cX0_init 19 = .ok (.dup, 1) := by decide +kernel
theorem dX0_init_20 : decode cX0_init 20 = .ok (.aload_n 0, 1) := by decide +kernel
theorem dX0_init_21 : decode cX0_init 21 = .ok (.getfield 12, 3) := by decide +kernel
theorem dX0_init_24 : decode cX0_init 24 = .ok (.invokespecial 20, 3) := by decide +kernel
theorem dX0_init_27 : decode cX0_init 27 = .ok (.putfield 23, 3) := by decide +kernel
theorem dX0_init_30 : decode cX0_init 30 = .ok (.aload_n 0, 1) := by decide +kernel
theorem dX0_init_31 : decode cX0_init 31 = .ok (.bipush (-6), 2) := by decide +kernel
theorem dX0_init_33 : decode cX0_init 33 = .ok (.putfield 27, 3) := by decide +kernel
theorem dX0_init_36 : decode cX0_init 36 = .ok (.aload_n 0, 1) := by decide +kernel
theorem dX0_init_37 : decode cX0_init 37 = .ok (.bipush (-6), 2) := by decide +kernel
theorem dX0_init_39 : decode cX0_init 39 = .ok (.putfield 31, 3) := by decide +kernel
theorem dX0_init_42 : decode cX0_init 42 = .ok (.aload_n 0, 1) := by decide +kernel
theorem dX0_init_43 : decode cX0_init 43 = .ok (.aload_n 1, 1) := by decide +kernel
theorem dX0_init_44 : decode cX0_init 44 = .ok (.putfield 34, 3) := by decide +kernel
theorem dX0_init_47 : decode cX0_init 47 = .ok (.return_, 1) := by decide +kernel
theorem dX0_leastWorth_0 : decode cX0_leastWorth 0 = .ok (.aload_n 0, 1) := by decide +kernel
theorem dX0_leastWorth_1 : decode cX0_leastWorth 1 = .ok (.invokevirtual 37, 3) := by decide +kernel
theorem dX0_leastWorth_4 : decode cX0_leastWorth 4 = .ok (.iconst 0, 1) := by decide +kernel
theorem dX0_leastWorth_5 : decode cX0_leastWorth 5 = .ok (.istore_n 2, 1) := by decide +kernel
theorem dX0_leastWorth_6 : decode cX0_leastWorth 6 = .ok (.iload_n 2, 1) := by decide +kernel
theorem dX0_leastWorth_7 : decode cX0_leastWorth 7 = .ok (.aload_n 0, 1) := by decide +kernel
theorem dX0_leastWorth_8 : decode cX0_leastWorth 8 = .ok (.getfield 34, 3) := by decide +kernel
theorem dX0_leastWorth_11 : decode cX0_leastWorth 11 = .ok (.getfield 40, 3) := by decide +kernel
theorem dX0_leastWorth_14 : decode cX0_leastWorth 14 = .ok (.if_icmp .ge 34, 3) := by decide +kernel
theorem dX0_leastWorth_17 : decode cX0_leastWorth 17 = .ok (.aload_n 0, 1) := by decide +kernel
theorem dX0_leastWorth_18 : decode cX0_leastWorth 18 = .ok (.getfield 12, 3) := by decide +kernel
theorem dX0_leastWorth_21 : decode cX0_leastWorth 21 = .ok (.aload_n 0, 1) := by decide +kernel
theorem dX0_leastWorth_22 : decode cX0_leastWorth 22 = .ok (.getfield 34, 3) := by decide +kernel
theorem dX0_leastWorth_25 : decode cX0_leastWorth 25 = .ok (.invokevirtual 43, 3) := by decide +kernel
theorem dX0_leastWorth_28 : decode cX0_leastWorth 28 = .ok (.aload_n 0, 1) := by decide +kernel
theorem dX0_leastWorth_29 : decode cX0_leastWorth 29 = .ok (.getfield 12, 3) := by decide +kernel
theorem dX0_leastWorth_32 : decode cX0_leastWorth 32 = .ok (.iload_n 2, 1) := by decide +kernel
theorem dX0_leastWorth_33 : decode cX0_leastWorth 33 = .ok (.invokevirtual 46, 3) := by decide +kernel
theorem dX0_leastWorth_36 : decode cX0_leastWorth 36 = .ok (.pop, 1) := by decide +kernel
theorem dX0_leastWorth_37 : decode cX0_leastWorth 37 = .ok (.aload_n 0, 1) := by decide +kernel
theorem dX0_leastWorth_38 : decode cX0_leastWorth 38 = .ok (.iload_n 2, 1) := by decide +kernel
theorem dX0_leastWorth_39 : decode cX0_leastWorth 39 = .ok (.invokevirtual 50, 3) := by decide +kernel
theorem dX0_leastWorth_42 : decode cX0_leastWorth 42 = .ok (.iinc 2 1, 3) := by decide +kernel
theorem dX0_leastWorth_45 : decode cX0_leastWorth 45 = .ok (.goto (-39), 3) := by decide +kernel
theorem dX0_leastWorth_48 : decode cX0_leastWorth 48 = .ok (.aload_n 0, 1) := by decide +kernel
theorem dX0_leastWorth_49 : decode cX0_leastWorth 49 = .ok (.iload_n 1, 1) := by decide +kernel
theorem dX0_leastWorth_50 : decode cX0_leastWorth 50 = .ok (.invokevirtual 54, 3) := by decide +kernel
theorem dX0_leastWorth_53 : decode cX0_leastWorth 53 = .ok (.ireturn, 1) := by decide +kernel
theorem dX0_columnForOneMore_0 : decode cX0_columnForOneMore 0 = .ok (.aload_n 0, 1) := by decide +kernel
theorem dX0_columnForOneMore_1 : decode cX0_columnForOneMore 1 = .ok (.invokevirtual 37, 3) := by decide +kernel
theorem dX0_columnForOneMore_4 : decode cX0_columnForOneMore 4 = .ok (.iconst 0, 1) := by decide +kernel
theorem dX0_columnForOneMore_5 : decode cX0_columnForOneMore 5 = .ok (.istore 4, 2) := by decide +kernel
theorem dX0_columnForOneMore_7 : decode cX0_columnForOneMore 7 = .ok (.iload 4, 2) := by decide +kernel
theorem dX0_columnForOneMore_9 : decode cX0_columnForOneMore 9 = .ok (.bipush 20, 2) := by decide +kernel
theorem dX0_columnForOneMore_11 : decode cX0_columnForOneMore 11 = .ok (.if_icmp .ge 53, 3) := by decide +kernel
theorem dX0_columnForOneMore_14 : decode cX0_columnForOneMore 14 = .ok (.aload_n 0, 1) := by decide +kernel
theorem dX0_columnForOneMore_15 : decode cX0_columnForOneMore 15 = .ok (.getfield 34, 3) := by decide +kernel
theorem dX0_columnForOneMore_18 : decode cX0_columnForOneMore 18 = .ok (.iload_n 1, 1) := by decide +kernel
theorem dX0_columnForOneMore_19 : decode cX0_columnForOneMore 19 = .ok (.iload 4, 2) := by decide +kernel
theorem dX0_columnForOneMore_21 : decode cX0_columnForOneMore 21 = .ok (.invokevirtual 57, 3) := by decide +kernel
theorem dX0_columnForOneMore_24 : decode cX0_columnForOneMore 24 = .ok (.bipush (-6), 2) := by decide +kernel
theorem dX0_columnForOneMore_26 : decode cX0_columnForOneMore 26 = .ok (.if_icmp .ne 32, 3) := by decide +kernel
theorem dX0_columnForOneMore_29 : decode cX0_columnForOneMore 29 = .ok (.aload_n 0, 1) := by decide +kernel
theorem dX0_columnForOneMore_30 : decode cX0_columnForOneMore 30 = .ok (.getfield 12, 3) := by decide +kernel
theorem dX0_columnForOneMore_33 : decode cX0_columnForOneMore 33 = .ok (.aload_n 0, 1) := by decide +kernel
theorem dX0_columnForOneMore_34 : decode cX0_columnForOneMore 34 = .ok (.getfield 34, 3) := by decide +kernel
theorem dX0_columnForOneMore_37 : decode cX0_columnForOneMore 37 = .ok (.invokevirtual 43, 3) := by decide +kernel
theorem dX0_columnForOneMore_40 : decode cX0_columnForOneMore 40 = .ok (.aload_n 0, 1) := by decide +kernel
theorem dX0_columnForOneMore_41 : decode cX0_columnForOneMore 41 = .ok (.getfield 12, 3) := by decide +kernel
theorem dX0_columnForOneMore_44 : decode cX0_columnForOneMore 44 = .ok (.iload_n 1, 1) := by decide +kernel
theorem dX0_columnForOneMore_45 : decode cX0_columnForOneMore 45 = .ok (.iload 4, 2) := by decide +kernel
theorem dX0_columnForOneMore_47 : decode cX0_columnForOneMore 47 = .ok (.iload_n 2, 1) := by decide +kernel
theorem dX0_columnForOneMore_48 : decode cX0_columnForOneMore 48 = .ok (.invokevirtual 61, 3) := by decide +kernel
theorem dX0_columnForOneMore_51 : decode cX0_columnForOneMore 51 = .ok (.pop, 1) := by decide +kernel
theorem dX0_columnForOneMore_52 : decode cX0_columnForOneMore 52 = .ok (.aload_n 0, 1) := by decide +kernel
theorem dX0_columnForOneMore_53 : decode cX0_columnForOneMore 53 = .ok (.iload 4, 2) := by decide +kernel
theorem dX0_columnForOneMore_55 : decode cX0_columnForOneMore 55 = .ok (.invokevirtual 50, 3) := by decide +kernel
theorem dX0_columnForOneMore_58 : decode cX0_columnForOneMore 58 = .ok (.iinc 4 1, 3) := by decide +kernel
theorem dX0_columnForOneMore_61 : decode cX0_columnForOneMore 61 = .ok (.goto (-54), 3) := by decide +kernel
theorem dX0_columnForOneMore_64 : decode cX0_columnForOneMore 64 = .ok (.aload_n 0, 1) := by decide +kernel
theorem dX0_columnForOneMore_65 : decode cX0_columnForOneMore 65 = .ok (.iload_n 3, 1) := by decide +kernel
theorem dX0_columnForOneMore_66 : decode cX0_columnForOneMore 66 = .ok (.invokevirtual 54, 3) := by decide +kernel
theorem dX0_columnForOneMore_69 : decode cX0_columnForOneMore 69 = .ok (.ireturn, 1) := by decide +kernel
theorem dX0_mirrorToWash_0 : decode cX0_mirrorToWash 0 = .ok (.aload_n 0, 1) := by decide +kernel
theorem dX0_mirrorToWash_1 : decode cX0_mirrorToWash 1 = .ok (.invokevirtual 37, 3) := by decide +kernel
theorem dX0_mirrorToWash_4 : decode cX0_mirrorToWash 4 = .ok (.iconst 0, 1) := by decide +kernel
theorem dX0_mirrorToWash_5 : decode cX0_mirrorToWash 5 = .ok (.istore_n 1, 1) := by decide +kernel
theorem dX0_mirrorToWash_6 : decode cX0_mirrorToWash 6 = .ok (.iload_n 1, 1) := by decide +kernel
theorem dX0_mirrorToWash_7 : decode cX0_mirrorToWash 7 = .ok (.aload_n 0, 1) := by decide +kernel
theorem dX0_mirrorToWash_8 : decode cX0_mirrorToWash 8 = .ok (.getfield 34, 3) := by decide +kernel
theorem dX0_mirrorToWash_11 : decode cX0_mirrorToWash 11 = .ok (.getfield 40, 3) := by decide +kernel
theorem dX0_mirrorToWash_14 : decode cX0_mirrorToWash 14 = .ok (.if_icmp .ge 34, 3) := by decide +kernel
theorem dX0_mirrorToWash_17 : decode cX0_mirrorToWash 17 = .ok (.aload_n 0, 1) := by decide +kernel
theorem dX0_mirrorToWash_18 : decode cX0_mirrorToWash 18 = .ok (.getfield 12, 3) := by decide +kernel
theorem dX0_mirrorToWash_21 : decode cX0_mirrorToWash 21 = .ok (.aload_n 0, 1) := by decide +kernel
theorem dX0_mirrorToWash_22 : decode cX0_mirrorToWash 22 = .ok (.getfield 34, 3) := by decide +kernel
theorem dX0_mirrorToWash_25 : decode cX0_mirrorToWash 25 = .ok (.invokevirtual 43, 3) := by decide +kernel
theorem dX0_mirrorToWash_28 : decode cX0_mirrorToWash 28 = .ok (.aload_n 0, 1) := by decide +kernel
theorem dX0_mirrorToWash_29 : decode cX0_mirrorToWash 29 = .ok (.getfield 12, 3) := by decide +kernel
theorem dX0_mirrorToWash_32 : decode cX0_mirrorToWash 32 = .ok (.iload_n 1, 1) := by decide +kernel
theorem dX0_mirrorToWash_33 : decode cX0_mirrorToWash 33 = .ok (.invokevirtual 65, 3) := by decide +kernel
theorem dX0_mirrorToWash_36 : decode cX0_mirrorToWash 36 = .ok (.pop, 1) := by decide +kernel
theorem dX0_mirrorToWash_37 : decode cX0_mirrorToWash 37 = .ok (.aload_n 0, 1) := by decide +kernel
theorem dX0_mirrorToWash_38 : decode cX0_mirrorToWash 38 = .ok (.iload_n 1, 1) := by decide +kernel
theorem dX0_mirrorToWash_39 : decode cX0_mirrorToWash 39 = .ok (.invokevirtual 50, 3) := by decide +kernel
theorem dX0_mirrorToWash_42 : decode cX0_mirrorToWash 42 = .ok (.iinc 1 1, 3) := by decide +kernel
theorem dX0_mirrorToWash_45 : decode cX0_mirrorToWash 45 = .ok (.goto (-39), 3) := by decide +kernel
theorem dX0_mirrorToWash_48 : decode cX0_mirrorToWash 48 = .ok (.aload_n 0, 1) := by decide +kernel
theorem dX0_mirrorToWash_49 : decode cX0_mirrorToWash 49 = .ok (.iconst 0, 1) := by decide +kernel
theorem dX0_mirrorToWash_50 : decode cX0_mirrorToWash 50 = .ok (.invokevirtual 54, 3) := by decide +kernel
theorem dX0_mirrorToWash_53 : decode cX0_mirrorToWash 53 = .ok (.ireturn, 1) := by decide +kernel
theorem dX0_limitForAll_0 : decode cX0_limitForAll 0 = .ok (.aload_n 0, 1) := by decide +kernel
theorem dX0_limitForAll_1 : decode cX0_limitForAll 1 = .ok (.getfield 12, 3) := by decide +kernel
theorem dX0_limitForAll_4 : decode cX0_limitForAll 4 = .ok (.aload_n 0, 1) := by decide +kernel
theorem dX0_limitForAll_5 : decode cX0_limitForAll 5 = .ok (.getfield 34, 3) := by decide +kernel
theorem dX0_limitForAll_8 : decode cX0_limitForAll 8 = .ok (.invokevirtual 43, 3) := by decide +kernel
theorem dX0_limitForAll_11 : decode cX0_limitForAll 11 = .ok (.aload_n 0, 1) := by decide +kernel
theorem dX0_limitForAll_12 : decode cX0_limitForAll 12 = .ok (.getfield 12, 3) := by decide +kernel
theorem dX0_limitForAll_15 : decode cX0_limitForAll 15 = .ok (.iconst 0, 1) := by decide +kernel
theorem dX0_limitForAll_16 : decode cX0_limitForAll 16 = .ok (.sipush 9999, 3) := by decide +kernel
theorem dX0_limitForAll_19 : decode cX0_limitForAll 19 = .ok (.invokevirtual 68, 3) := by decide +kernel
theorem dX0_limitForAll_22 : decode cX0_limitForAll 22 = .ok (.pop, 1) := by decide +kernel
theorem dX0_limitForAll_23 : decode cX0_limitForAll 23 = .ok (.aload_n 0, 1) := by decide +kernel
theorem dX0_limitForAll_24 : decode cX0_limitForAll 24 = .ok (.getfield 23, 3) := by decide +kernel
theorem dX0_limitForAll_27 : decode cX0_limitForAll 27 = .ok (.invokevirtual 71, 3) := by decide +kernel
theorem dX0_limitForAll_30 : decode cX0_limitForAll 30 = .ok (.iconst 1, 1) := by decide +kernel
theorem dX0_limitForAll_31 : decode cX0_limitForAll 31 = .ok (.aload_n 0, 1) := by decide +kernel
theorem dX0_limitForAll_32 : decode cX0_limitForAll 32 = .ok (.getfield 12, 3) := by decide +kernel
theorem dX0_limitForAll_35 : decode cX0_limitForAll 35 = .ok (.getfield 40, 3) := by decide +kernel
theorem dX0_limitForAll_38 : decode cX0_limitForAll 38 = .ok (.ishl, 1) := by decide +kernel
theorem dX0_limitForAll_39 : decode cX0_limitForAll 39 = .ok (.iconst 1, 1) := by decide +kernel
theorem dX0_limitForAll_40 : decode cX0_limitForAll 40 = .ok (.isub, 1) := by decide +kernel
theorem dX0_limitForAll_41 : decode cX0_limitForAll 41 = .ok (.istore_n 1, 1) := by decide +kernel
theorem dX0_limitForAll_42 : decode cX0_limitForAll 42 = .ok (.iconst 1, 1) := by decide +kernel
theorem dX0_limitForAll_43 : decode cX0_limitForAll 43 = .ok (.istore_n 2, 1) := by decide +kernel
theorem dX0_limitForAll_44 : decode cX0_limitForAll 44 = .ok (.iconst 0, 1) := by decide +kernel
theorem dX0_limitForAll_45 : decode cX0_limitForAll 45 = .ok (.istore_n 3, 1) := by decide +kernel
theorem dX0_limitForAll_46 : decode cX0_limitForAll 46 = .ok (.iload_n 3, 1) := by decide +kernel
theorem dX0_limitForAll_47 : decode cX0_limitForAll 47 = .ok (.bipush 11, 2) := by decide +kernel
theorem dX0_limitForAll_49 : decode cX0_limitForAll 49 = .ok (.if_icmp .ge 61, 3) := by decide +kernel
theorem dX0_limitForAll_52 : decode cX0_limitForAll 52 = .ok (.aload_n 0, 1) := by decide +kernel
theorem dX0_limitForAll_53 : decode cX0_limitForAll 53 = .ok (.getfield 23, 3) := by decide +kernel
theorem dX0_limitForAll_56 : decode cX0_limitForAll 56 = .ok (.iload_n 3, 1) := by decide +kernel
theorem dX0_limitForAll_57 : decode cX0_limitForAll 57 = .ok (.invokevirtual 74, 3) := by decide +kernel
theorem dX0_limitForAll_60 : decode cX0_limitForAll 60 = .ok (.pop, 1) := by decide +kernel
theorem dX0_limitForAll_61 : decode cX0_limitForAll 61 = .ok (.aload_n 0, 1) := by decide +kernel
theorem dX0_limitForAll_62 : decode cX0_limitForAll 62 = .ok (.getfield 23, 3) := by decide +kernel
theorem dX0_limitForAll_65 : decode cX0_limitForAll 65 = .ok (.invokevirtual 77, 3) := by decide +kernel
theorem dX0_limitForAll_68 : decode cX0_limitForAll 68 = .ok (.iload_n 1, 1) := by decide +kernel
theorem dX0_limitForAll_69 : decode cX0_limitForAll 69 = .ok (.if_icmp .eq 6, 3) := by decide +kernel
theorem dX0_limitForAll_72 : decode cX0_limitForAll 72 = .ok (.bipush (-6), 2) := by decide +kernel
theorem dX0_limitForAll_74 : decode cX0_limitForAll 74 = .ok (.ireturn, 1) := by decide +kernel
theorem dX0_limitForAll_75 : decode cX0_limitForAll 75 = .ok (.iconst 0, 1) := by decide +kernel
theorem dX0_limitForAll_76 : decode cX0_limitForAll 76 = .ok (.istore 4, 2) := by decide +kernel
theorem dX0_limitForAll_78 : decode cX0_limitForAll 78 = .ok (.iload 4, 2) := by decide +kernel
theorem dX0_limitForAll_80 : decode cX0_limitForAll 80 = .ok (.iconst 4, 1) := by decide +kernel
theorem dX0_limitForAll_81 : decode cX0_limitForAll 81 = .ok (.if_icmp .ge 23, 3) := by decide +kernel
theorem dX0_limitForAll_84 : decode cX0_limitForAll 84 = .ok (.iload_n 2, 1) := by decide +kernel
theorem dX0_limitForAll_85 : decode cX0_limitForAll 85 = .ok (.aload_n 0, 1) := by decide +kernel
theorem dX0_limitForAll_86 : decode cX0_limitForAll 86 = .ok (.getfield 23, 3) := by decide +kernel
theorem dX0_limitForAll_89 : decode cX0_limitForAll 89 = .ok (.iload 4, 2) := by decide +kernel
theorem dX0_limitForAll_91 : decode cX0_limitForAll 91 = .ok (.invokevirtual 81, 3) := by decide +kernel
theorem dX0_limitForAll_94 : decode cX0_limitForAll 94 = .ok (.invokestatic 84, 3) := by decide +kernel
theorem dX0_limitForAll_97 : decode cX0_limitForAll 97 = .ok (.istore_n 2, 1) := by decide +kernel
theorem dX0_limitForAll_98 : decode cX0_limitForAll 98 = .ok (.iinc 4 1, 3) := by decide +kernel
theorem dX0_limitForAll_101 : decode cX0_limitForAll 101 = .ok (.goto (-23), 3) := by decide +kernel
theorem dX0_limitForAll_104 : decode cX0_limitForAll 104 = .ok (.iinc 3 1, 3) := by decide +kernel
theorem dX0_limitForAll_107 : decode cX0_limitForAll 107 = .ok (.goto (-61), 3) := by decide +kernel
theorem dX0_limitForAll_110 : decode cX0_limitForAll 110 = .ok (.iload_n 2, 1) := by decide +kernel
theorem dX0_limitForAll_111 : decode cX0_limitForAll 111 = .ok (.ireturn, 1) := by decide +kernel
theorem dX0_forgetBest_0 : decode cX0_forgetBest 0 = .ok (.aload_n 0, 1) := by decide +kernel
theorem dX0_forgetBest_1 : decode cX0_forgetBest 1 = .ok (.bipush (-6), 2) := by decide +kernel
theorem dX0_forgetBest_3 : decode cX0_forgetBest 3 = .ok (.putfield 27, 3) := by decide +kernel
theorem dX0_forgetBest_6 : decode cX0_forgetBest 6 = .ok (.aload_n 0, 1) := by decide +kernel
theorem dX0_forgetBest_7 : decode cX0_forgetBest 7 = .ok (.bipush (-6), 2) := by decide +kernel
theorem dX0_forgetBest_9 : decode cX0_forgetBest 9 = .ok (.putfield 31, 3) := by decide +kernel
theorem dX0_forgetBest_12 : decode cX0_forgetBest 12 = .ok (.return_, 1) := by decide +kernel
theorem dX0_weigh_0 : decode cX0_weigh 0 = .ok (.aload_n 0, 1) := by decide +kernel
theorem dX0_weigh_1 : decode cX0_weigh 1 = .ok (.getfield 23, 3) := by decide +kernel
theorem dX0_weigh_4 : decode cX0_weigh 4 = .ok (.invokevirtual 71, 3) := by decide +kernel
theorem dX0_weigh_7 : decode cX0_weigh 7 = .ok (.aload_n 0, 1) := by decide +kernel
theorem dX0_weigh_8 : decode cX0_weigh 8 = .ok (.getfield 23, 3) := by decide +kernel
theorem dX0_weigh_11 : decode cX0_weigh 11 = .ok (.invokevirtual 89, 3) := by decide +kernel
theorem dX0_weigh_14 : decode cX0_weigh 14 = .ok (.istore_n 2, 1) := by decide +kernel
theorem dX0_weigh_15 : decode cX0_weigh 15 = .ok (.aload_n 0, 1) := by decide +kernel
theorem dX0_weigh_16 : decode cX0_weigh 16 = .ok (.getfield 27, 3) := by decide +kernel
theorem dX0_weigh_19 : decode cX0_weigh 19 = .ok (.bipush (-6), 2) := by decide +kernel
theorem dX0_weigh_21 : decode cX0_weigh 21 = .ok (.if_icmp .eq 11, 3) := by decide +kernel
theorem dX0_weigh_24 : decode cX0_weigh 24 = .ok (.iload_n 2, 1) := by decide +kernel
theorem dX0_weigh_25 : decode cX0_weigh 25 = .ok (.aload_n 0, 1) := by decide +kernel
theorem dX0_weigh_26 : decode cX0_weigh 26 = .ok (.getfield 31, 3) := by decide +kernel
theorem dX0_weigh_29 : decode cX0_weigh 29 = .ok (.if_icmp .le 13, 3) := by decide +kernel
theorem dX0_weigh_32 : decode cX0_weigh 32 = .ok (.aload_n 0, 1) := by decide +kernel
theorem dX0_weigh_33 : decode cX0_weigh 33 = .ok (.iload_n 1, 1) := by decide +kernel
theorem dX0_weigh_34 : decode cX0_weigh 34 = .ok (.putfield 27, 3) := by decide +kernel
theorem dX0_weigh_37 : decode cX0_weigh 37 = .ok (.aload_n 0, 1) := by decide +kernel
theorem dX0_weigh_38 : decode cX0_weigh 38 = .ok (.iload_n 2, 1) := by decide +kernel
theorem dX0_weigh_39 : decode cX0_weigh 39 = .ok (.putfield 31, 3) := by decide +kernel
theorem dX0_weigh_42 : decode cX0_weigh 42 = .ok (.return_, 1) := by decide +kernel
theorem dX0_answer_0 : decode cX0_answer 0 = .ok (.iload_n 1, 1) := by decide +kernel
theorem dX0_answer_1 : decode cX0_answer 1 = .ok (.ifCond .ne 10, 3) := by decide +kernel
theorem dX0_answer_4 : decode cX0_answer 4 = .ok (.aload_n 0, 1) := by decide +kernel
theorem dX0_answer_5 : decode cX0_answer 5 = .ok (.getfield 27, 3) := by decide +kernel
theorem dX0_answer_8 : decode cX0_answer 8 = .ok (.goto 7, 3) := by decide +kernel
theorem dX0_answer_11 : decode cX0_answer 11 = .ok (.aload_n 0, 1) := by decide +kernel
theorem dX0_answer_12 : decode cX0_answer 12 = .ok (.getfield 31, 3) := by decide +kernel
theorem dX0_answer_15 : decode cX0_answer 15 = .ok (.ireturn, 1) := by decide +kernel
theorem dX1_init_0 : decode cX1_init 0 = .ok (.aload_n 0, 1) := by decide +kernel
theorem dX1_init_1 : decode cX1_init 1 = .ok (.invokespecial 1, 3) := by decide +kernel
theorem dX1_init_4 : decode cX1_init 4 = .ok (.aload_n 0, 1) := by decide +kernel
theorem dX1_init_5 : decode cX1_init 5 = .ok (.iload_n 1, 1) := by decide +kernel
theorem dX1_init_6 : decode cX1_init 6 = .ok (.iconst 0, 1) := by decide +kernel
theorem dX1_init_7 : decode cX1_init 7 = .ok (.invokestatic 7, 3) := by decide +kernel
theorem dX1_init_10 : decode cX1_init 10 = .ok (.newarray .int, 2) := by decide +kernel
theorem dX1_init_12 : decode cX1_init 12 = .ok (.putfield 13, 3) := by decide +kernel
theorem dX1_init_15 : decode cX1_init 15 = .ok (.return_, 1) := by decide +kernel
theorem dX1_read_0 : decode cX1_read 0 = .ok (.iload_n 1, 1) := by decide +kernel
theorem dX1_read_1 : decode cX1_read 1 = .ok (.ifCond .lt 21, 3) := by decide +kernel
theorem dX1_read_4 : decode cX1_read 4 = .ok (.iload_n 1, 1) := by decide +kernel
theorem dX1_read_5 : decode cX1_read 5 = .ok (.aload_n 0, 1) := by decide +kernel
theorem dX1_read_6 : decode cX1_read 6 = .ok (.getfield 13, 3) := by decide +kernel
theorem dX1_read_9 : decode cX1_read 9 = .ok (.arraylength, 1) := by decide +kernel
theorem dX1_read_10 : decode cX1_read 10 = .ok (.if_icmp .ge 12, 3) := by decide +kernel
theorem dX1_read_13 : decode cX1_read 13 = .ok (.aload_n 0, 1) := by decide +kernel
theorem dX1_read_14 : decode cX1_read 14 = .ok (.getfield 13, 3) := by decide +kernel
theorem dX1_read_17 : decode cX1_read 17 = .ok (.iload_n 1, 1) := by decide +kernel
theorem dX1_read_18 : decode cX1_read 18 = .ok (.iaload, 1) := by decide +kernel
theorem dX1_read_19 : decode cX1_read 19 = .ok (.goto 4, 3) := by decide +kernel
theorem dX1_read_22 : decode cX1_read 22 = .ok (.iconst 0, 1) := by decide +kernel
theorem dX1_read_23 : decode cX1_read 23 = .ok (.ireturn, 1) := by decide +kernel
theorem dX1_write_0 : decode cX1_write 0 = .ok (.iload_n 1, 1) := by decide +kernel
theorem dX1_write_1 : decode cX1_write 1 = .ok (.ifCond .lt 19, 3) := by decide +kernel
theorem dX1_write_4 : decode cX1_write 4 = .ok (.iload_n 1, 1) := by decide +kernel
theorem dX1_write_5 : decode cX1_write 5 = .ok (.aload_n 0, 1) := by decide +kernel
theorem dX1_write_6 : decode cX1_write 6 = .ok (.getfield 13, 3) := by decide +kernel
theorem dX1_write_9 : decode cX1_write 9 = .ok (.arraylength, 1) := by decide +kernel
theorem dX1_write_10 : decode cX1_write 10 = .ok (.if_icmp .ge 10, 3) := by decide +kernel
theorem dX1_write_13 : decode cX1_write 13 = .ok (.aload_n 0, 1) := by decide +kernel
theorem dX1_write_14 : decode cX1_write 14 = .ok (.getfield 13, 3) := by decide +kernel
theorem dX1_write_17 : decode cX1_write 17 = .ok (.iload_n 1, 1) := by decide +kernel
theorem dX1_write_18 : decode cX1_write 18 = .ok (.iload_n 2, 1) := by decide +kernel
theorem dX1_write_19 : decode cX1_write 19 = .ok (.iastore, 1) := by decide +kernel
theorem dX1_write_20 : decode cX1_write 20 = .ok (.return_, 1) := by decide +kernel
theorem dX1_fill_0 : decode cX1_fill 0 = .ok (.aload_n 0, 1) := by decide +kernel
theorem dX1_fill_1 : decode cX1_fill 1 = .ok (.getfield 13, 3) := by decide +kernel
theorem dX1_fill_4 : decode cX1_fill 4 = .ok (.iload_n 1, 1) := by decide +kernel
theorem dX1_fill_5 : decode cX1_fill 5 = .ok (.invokestatic 19, 3) := by decide +kernel
theorem dX1_fill_8 : decode cX1_fill 8 = .ok (.return_, 1) := by decide +kernel
theorem dX1_copy_0 : decode cX1_copy 0 = .ok (.aload_n 1, 1) := by decide +kernel
theorem dX1_copy_1 : decode cX1_copy 1 = .ok (.getfield 13, 3) := by decide +kernel
theorem dX1_copy_4 : decode cX1_copy 4 = .ok (.iconst 0, 1) := by decide +kernel
theorem dX1_copy_5 : decode cX1_copy 5 = .ok (.aload_n 0, 1) := by decide +kernel
theorem dX1_copy_6 : decode cX1_copy 6 = .ok (.getfield 13, 3) := by decide +kernel
theorem dX1_copy_9 : decode cX1_copy 9 = .ok (.iconst 0, 1) := by decide +kernel
theorem dX1_copy_10 : decode cX1_copy 10 = .ok (.aload_n 1, 1) := by decide +kernel
theorem dX1_copy_11 : decode cX1_copy 11 = .ok (.getfield 13, 3) := by decide +kernel
theorem dX1_copy_14 : decode cX1_copy 14 = .ok (.arraylength, 1) := by decide +kernel
theorem dX1_copy_15 : decode cX1_copy 15 = .ok (.aload_n 0, 1) := by decide +kernel
theorem dX1_copy_16 : decode cX1_copy 16 = .ok (.getfield 13, 3) := by decide +kernel
theorem dX1_copy_19 : decode cX1_copy 19 = .ok (.arraylength, 1) := by decide +kernel
theorem dX1_copy_20 : decode cX1_copy 20 = .ok (.invokestatic 25, 3) := by decide +kernel
theorem dX1_copy_23 : decode cX1_copy 23 = .ok (.invokestatic 28, 3) := by decide +kernel
theorem dX1_copy_26 : decode cX1_copy 26 = .ok (.return_, 1) := by decide +kernel
theorem dX1_leaveOut_0 : decode cX1_leaveOut 0 = .ok (.iload_n 1, 1) := by decide +kernel
theorem dX1_leaveOut_1 : decode cX1_leaveOut 1 = .ok (.ifCond .lt 36, 3) := by decide +kernel
theorem dX1_leaveOut_4 : decode cX1_leaveOut 4 = .ok (.iload_n 1, 1) := by decide +kernel
theorem dX1_leaveOut_5 : decode cX1_leaveOut 5 = .ok (.aload_n 0, 1) := by decide +kernel
theorem dX1_leaveOut_6 : decode cX1_leaveOut 6 = .ok (.getfield 13, 3) := by decide +kernel
theorem dX1_leaveOut_9 : decode cX1_leaveOut 9 = .ok (.arraylength, 1) := by decide +kernel
theorem dX1_leaveOut_10 : decode cX1_leaveOut 10 = .ok (.if_icmp .ge 27, 3) := by decide +kernel
theorem dX1_leaveOut_13 : decode cX1_leaveOut 13 = .ok (.aload_n 0, 1) := by decide +kernel
theorem dX1_leaveOut_14 : decode cX1_leaveOut 14 = .ok (.getfield 13, 3) := by decide +kernel
theorem dX1_leaveOut_17 : decode cX1_leaveOut 17 = .ok (.iload_n 1, 1) := by decide +kernel
theorem dX1_leaveOut_18 : decode cX1_leaveOut 18 = .ok (.iconst 1, 1) := by decide +kernel
theorem dX1_leaveOut_19 : decode cX1_leaveOut 19 = .ok (.iadd, 1) := by decide +kernel
theorem dX1_leaveOut_20 : decode cX1_leaveOut 20 = .ok (.aload_n 0, 1) := by decide +kernel
theorem dX1_leaveOut_21 : decode cX1_leaveOut 21 = .ok (.getfield 13, 3) := by decide +kernel
theorem dX1_leaveOut_24 : decode cX1_leaveOut 24 = .ok (.iload_n 1, 1) := by decide +kernel
theorem dX1_leaveOut_25 : decode cX1_leaveOut 25 = .ok (.aload_n 0, 1) := by decide +kernel
theorem dX1_leaveOut_26 : decode cX1_leaveOut 26 = .ok (.getfield 13, 3) := by decide +kernel
theorem dX1_leaveOut_29 : decode cX1_leaveOut 29 = .ok (.arraylength, 1) := by decide +kernel
theorem dX1_leaveOut_30 : decode cX1_leaveOut 30 = .ok (.iconst 1, 1) := by decide +kernel
theorem dX1_leaveOut_31 : decode cX1_leaveOut 31 = .ok (.isub, 1) := by decide +kernel
theorem dX1_leaveOut_32 : decode cX1_leaveOut 32 = .ok (.iload_n 1, 1) := by decide +kernel
theorem dX1_leaveOut_33 : decode cX1_leaveOut 33 = .ok (.isub, 1) := by decide +kernel
theorem dX1_leaveOut_34 : decode cX1_leaveOut 34 = .ok (.invokestatic 28, 3) := by decide +kernel
theorem dX1_leaveOut_37 : decode cX1_leaveOut 37 = .ok (.return_, 1) := by decide +kernel
theorem dX2_init_0 : decode cX2_init 0 = .ok (.aload_n 0, 1) := by decide +kernel
theorem dX2_init_1 : decode cX2_init 1 = .ok (.invokespecial 3, 3) := by decide +kernel
theorem dX2_init_4 : decode cX2_init 4 = .ok (.aload_n 0, 1) := by decide +kernel
theorem dX2_init_5 : decode cX2_init 5 = .ok (.new 9, 3) := by decide +kernel
theorem dX2_init_8 : decode cX2_init 8 = .ok (.dup, 1) := by decide +kernel
theorem dX2_init_9 : decode cX2_init 9 = .ok (.iconst 3, 1) := by decide +kernel
theorem dX2_init_10 : decode cX2_init 10 = .ok (.invokespecial 11, 3) := by decide +kernel
theorem dX2_init_13 : decode cX2_init 13 = .ok (.putfield 14, 3) := by decide +kernel
theorem dX2_init_16 : decode cX2_init 16 = .ok (.aload_n 0, 1) := by decide +kernel
theorem dX2_init_17 : decode cX2_init 17 = .ok (.new 9, 3) := by decide +kernel
theorem dX2_init_20 : decode cX2_init 20 = .ok (.dup, 1) := by decide +kernel
theorem dX2_init_21 : decode cX2_init 21 = .ok (.bipush 25, 2) := by decide +kernel
theorem dX2_init_23 : decode cX2_init 23 = .ok (.invokespecial 11, 3) := by decide +kernel
theorem dX2_init_26 : decode cX2_init 26 = .ok (.putfield 20, 3) := by decide +kernel
theorem dX2_init_29 : decode cX2_init 29 = .ok (.aload_n 0, 1) := by decide +kernel
theorem dX2_init_30 : decode cX2_init 30 = .ok (.new 9, 3) := by decide +kernel
theorem dX2_init_33 : decode cX2_init 33 = .ok (.dup, 1) := by decide +kernel
theorem dX2_init_34 : decode cX2_init 34 = .ok (.bipush 25, 2) := by decide +kernel
theorem dX2_init_36 : decode cX2_init 36 = .ok (.invokespecial 11, 3) := by decide +kernel
theorem dX2_init_39 : decode cX2_init 39 = .ok (.putfield 23, 3) := by decide +kernel
theorem dX2_init_42 : decode cX2_init 42 = .ok (.aload_n 0, 1) := by decide +kernel
theorem dX2_init_43 : decode cX2_init 43 = .ok (.new 9, 3) := by decide +kernel
theorem dX2_init_46 : decode cX2_init 46 = .ok (.dup, 1) := by decide +kernel
theorem dX2_init_47 : decode cX2_init 47 = .ok (.bipush 25, 2) := by decide +kernel
theorem dX2_init_49 : decode cX2_init 49 = .ok (.invokespecial 11, 3) := by decide +kernel
theorem dX2_init_52 : decode cX2_init 52 = .ok (.putfield 26, 3) := by decide +kernel
theorem dX2_init_55 : decode cX2_init 55 = .ok (.aload_n 0, 1) := by decide +kernel
theorem dX2_init_56 : decode cX2_init 56 = .ok (.new 9, 3) := by decide +kernel
theorem dX2_init_59 : decode cX2_init 59 = .ok (.dup, 1) := by decide +kernel
theorem dX2_init_60 : decode cX2_init 60 = .ok (.bipush 25, 2) := by decide +kernel
theorem dX2_init_62 : decode cX2_init 62 = .ok (.invokespecial 11, 3) := by decide +kernel
theorem dX2_init_65 : decode cX2_init 65 = .ok (.putfield 29, 3) := by decide +kernel
theorem dX2_init_68 : decode cX2_init 68 = .ok (.aload_n 0, 1) := by decide +kernel
theorem dX2_init_69 : decode cX2_init 69 = .ok (.new 9, 3) := by decide +kernel
theorem dX2_init_72 : decode cX2_init 72 = .ok (.dup, 1) := by decide +kernel
theorem dX2_init_73 : decode cX2_init 73 = .ok (.bipush 25, 2) := by decide +kernel
theorem dX2_init_75 : decode cX2_init 75 = .ok (.invokespecial 11, 3) := by decide +kernel
theorem dX2_init_78 : decode cX2_init 78 = .ok (.putfield 32, 3) := by decide +kernel
theorem dX2_init_81 : decode cX2_init 81 = .ok (.aload_n 0, 1) := by decide +kernel
theorem dX2_init_82 : decode cX2_init 82 = .ok (.iconst 0, 1) := by decide +kernel
theorem dX2_init_83 : decode cX2_init 83 = .ok (.putfield 35, 3) := by decide +kernel
theorem dX2_init_86 : decode cX2_init 86 = .ok (.aload_n 0, 1) := by decide +kernel
theorem dX2_init_87 : decode cX2_init 87 = .ok (.iconst 0, 1) := by decide +kernel
theorem dX2_init_88 : decode cX2_init 88 = .ok (.putfield 39, 3) := by decide +kernel
theorem dX2_init_91 : decode cX2_init 91 = .ok (.aload_n 0, 1) := by decide +kernel
theorem dX2_init_92 : decode cX2_init 92 = .ok (.iconst 0, 1) := by decide +kernel
theorem dX2_init_93 : decode cX2_init 93 = .ok (.putfield 42, 3) := by decide +kernel
theorem dX2_init_96 : decode cX2_init 96 = .ok (.aload_n 0, 1) := by decide +kernel
theorem dX2_init_97 : decode cX2_init 97 = .ok (.iconst 0, 1) := by decide +kernel
theorem dX2_init_98 : decode cX2_init 98 = .ok (.putfield 45, 3) := by decide +kernel
theorem dX2_init_101 : decode cX2_init 101 = .ok (.aload_n 0, 1) := by decide +kernel
theorem dX2_init_102 : decode cX2_init 102 = .ok (.getfield 14, 3) := by decide +kernel
theorem dX2_init_105 : decode cX2_init 105 = .ok (.iconst 0, 1) := by decide +kernel
theorem dX2_init_106 : decode cX2_init 106 = .ok (.sipush 400, 3) := by decide +kernel
theorem dX2_init_109 : decode cX2_init 109 = .ok (.invokevirtual 48, 3) := by decide +kernel
theorem dX2_init_112 : decode cX2_init 112 = .ok (.aload_n 0, 1) := by decide +kernel
theorem dX2_init_113 : decode cX2_init 113 = .ok (.getfield 14, 3) := by decide +kernel
theorem dX2_init_116 : decode cX2_init 116 = .ok (.iconst 1, 1) := by decide +kernel
theorem dX2_init_117 : decode cX2_init 117 = .ok (.bipush 50, 2) := by decide +kernel
theorem dX2_init_119 : decode cX2_init 119 = .ok (.invokevirtual 48, 3) := by decide +kernel
theorem dX2_init_122 : decode cX2_init 122 = .ok (.aload_n 0, 1) := by decide +kernel
theorem dX2_init_123 : decode cX2_init 123 = .ok (.getfield 14, 3) := by decide +kernel
theorem dX2_init_126 : decode cX2_init 126 = .ok (.iconst 2, 1) := by decide +kernel
theorem dX2_init_127 : decode cX2_init 127 = .ok (.iconst 2, 1) := by decide +kernel
theorem dX2_init_128 : decode cX2_init 128 = .ok (.invokevirtual 48, 3) := by decide +kernel
theorem dX2_init_131 : decode cX2_init 131 = .ok (.return_, 1) := by decide +kernel
theorem dX2_copy_0 : decode cX2_copy 0 = .ok (.aload_n 0, 1) := by decide +kernel
theorem dX2_copy_1 : decode cX2_copy 1 = .ok (.getfield 14, 3) := by decide +kernel
theorem dX2_copy_4 : decode cX2_copy 4 = .ok (.aload_n 1, 1) := by decide +kernel
theorem dX2_copy_5 : decode cX2_copy 5 = .ok (.getfield 14, 3) := by decide +kernel
theorem dX2_copy_8 : decode cX2_copy 8 = .ok (.invokevirtual 52, 3) := by decide +kernel
theorem dX2_copy_11 : decode cX2_copy 11 = .ok (.aload_n 0, 1) := by decide +kernel
theorem dX2_copy_12 : decode cX2_copy 12 = .ok (.getfield 20, 3) := by decide +kernel
theorem dX2_copy_15 : decode cX2_copy 15 = .ok (.aload_n 1, 1) := by decide +kernel
theorem dX2_copy_16 : decode cX2_copy 16 = .ok (.getfield 20, 3) := by decide +kernel
theorem dX2_copy_19 : decode cX2_copy 19 = .ok (.invokevirtual 52, 3) := by decide +kernel
theorem dX2_copy_22 : decode cX2_copy 22 = .ok (.aload_n 0, 1) := by decide +kernel
theorem dX2_copy_23 : decode cX2_copy 23 = .ok (.getfield 23, 3) := by decide +kernel
theorem dX2_copy_26 : decode cX2_copy 26 = .ok (.aload_n 1, 1) := by decide +kernel
theorem dX2_copy_27 : decode cX2_copy 27 = .ok (.getfield 23, 3) := by decide +kernel
theorem dX2_copy_30 : decode cX2_copy 30 = .ok (.invokevirtual 52, 3) := by decide +kernel
theorem dX2_copy_33 : decode cX2_copy 33 = .ok (.aload_n 0, 1) := by decide +kernel
theorem dX2_copy_34 : decode cX2_copy 34 = .ok (.getfield 26, 3) := by decide +kernel
theorem dX2_copy_37 : decode cX2_copy 37 = .ok (.aload_n 1, 1) := by decide +kernel
theorem dX2_copy_38 : decode cX2_copy 38 = .ok (.getfield 26, 3) := by decide +kernel
theorem dX2_copy_41 : decode cX2_copy 41 = .ok (.invokevirtual 52, 3) := by decide +kernel
theorem dX2_copy_44 : decode cX2_copy 44 = .ok (.aload_n 0, 1) := by decide +kernel
theorem dX2_copy_45 : decode cX2_copy 45 = .ok (.getfield 29, 3) := by decide +kernel
theorem dX2_copy_48 : decode cX2_copy 48 = .ok (.aload_n 1, 1) := by decide +kernel
theorem dX2_copy_49 : decode cX2_copy 49 = .ok (.getfield 29, 3) := by decide +kernel
theorem dX2_copy_52 : decode cX2_copy 52 = .ok (.invokevirtual 52, 3) := by decide +kernel
theorem dX2_copy_55 : decode cX2_copy 55 = .ok (.aload_n 0, 1) := by decide +kernel
theorem dX2_copy_56 : decode cX2_copy 56 = .ok (.getfield 32, 3) := by decide +kernel
theorem dX2_copy_59 : decode cX2_copy 59 = .ok (.aload_n 1, 1) := by decide +kernel
theorem dX2_copy_60 : decode cX2_copy 60 = .ok (.getfield 32, 3) := by decide +kernel
theorem dX2_copy_63 : decode cX2_copy 63 = .ok (.invokevirtual 52, 3) := by decide +kernel
theorem dX2_copy_66 : decode cX2_copy 66 = .ok (.aload_n 0, 1) := by decide +kernel
theorem dX2_copy_67 : decode cX2_copy 67 = .ok (.aload_n 1, 1) := by decide +kernel
theorem dX2_copy_68 : decode cX2_copy 68 = .ok (.getfield 35, 3) := by decide +kernel
theorem dX2_copy_71 : decode cX2_copy 71 = .ok (.putfield 35, 3) := by decide +kernel
theorem dX2_copy_74 : decode cX2_copy 74 = .ok (.aload_n 0, 1) := by decide +kernel
theorem dX2_copy_75 : decode cX2_copy 75 = .ok (.aload_n 1, 1) := by decide +kernel
theorem dX2_copy_76 : decode cX2_copy 76 = .ok (.getfield 39, 3) := by decide +kernel
theorem dX2_copy_79 : decode cX2_copy 79 = .ok (.putfield 39, 3) := by decide +kernel
theorem dX2_copy_82 : decode cX2_copy 82 = .ok (.aload_n 0, 1) := by decide +kernel
theorem dX2_copy_83 : decode cX2_copy 83 = .ok (.aload_n 1, 1) := by decide +kernel
theorem dX2_copy_84 : decode cX2_copy 84 = .ok (.getfield 42, 3) := by decide +kernel
theorem dX2_copy_87 : decode cX2_copy 87 = .ok (.putfield 42, 3) := by decide +kernel
theorem dX2_copy_90 : decode cX2_copy 90 = .ok (.aload_n 0, 1) := by decide +kernel
theorem dX2_copy_91 : decode cX2_copy 91 = .ok (.aload_n 1, 1) := by decide +kernel
theorem dX2_copy_92 : decode cX2_copy 92 = .ok (.getfield 45, 3) := by decide +kernel
theorem dX2_copy_95 : decode cX2_copy 95 = .ok (.putfield 45, 3) := by decide +kernel
theorem dX2_copy_98 : decode cX2_copy 98 = .ok (.return_, 1) := by decide +kernel
theorem dX2_changeSetting_0 : decode cX2_changeSetting 0 = .ok (.iload_n 1, 1) := by decide +kernel
theorem dX2_changeSetting_1 : decode cX2_changeSetting 1 = .ok (.iload_n 2, 1) := by decide +kernel
theorem dX2_changeSetting_2 : decode cX2_changeSetting 2 = .ok (.invokestatic 56, 3) := by decide +kernel
theorem dX2_changeSetting_5 : decode cX2_changeSetting 5 = .ok (.ifCond .ne 6, 3) := by decide +kernel
theorem dX2_changeSetting_8 : decode cX2_changeSetting 8 = .ok (.bipush (-2), 2) := by decide +kernel
theorem dX2_changeSetting_10 : decode cX2_changeSetting 10 = .ok (.ireturn, 1) := by decide +kernel
theorem dX2_changeSetting_11 : decode cX2_changeSetting 11 = .ok (.aload_n 0, 1) := by decide +kernel
theorem dX2_changeSetting_12 : decode cX2_changeSetting 12 = .ok (.getfield 14, 3) := by decide +kernel
theorem dX2_changeSetting_15 : decode cX2_changeSetting 15 = .ok (.iload_n 1, 1) := by decide +kernel
theorem dX2_changeSetting_16 : decode cX2_changeSetting 16 = .ok (.invokevirtual 60, 3) := by decide +kernel
theorem dX2_changeSetting_19 : decode cX2_changeSetting 19 = .ok (.istore_n 3, 1) := by decide +kernel
theorem dX2_changeSetting_20 : decode cX2_changeSetting 20 = .ok (.aload_n 0, 1) := by decide +kernel
theorem dX2_changeSetting_21 : decode cX2_changeSetting 21 = .ok (.getfield 14, 3) := by decide +kernel
theorem dX2_changeSetting_24 : decode cX2_changeSetting 24 = .ok (.iload_n 1, 1) := by decide +kernel
theorem dX2_changeSetting_25 : decode cX2_changeSetting 25 = .ok (.iload_n 2, 1) := by decide +kernel
theorem dX2_changeSetting_26 : decode cX2_changeSetting 26 = .ok (.invokevirtual 48, 3) := by decide +kernel
theorem dX2_changeSetting_29 : decode cX2_changeSetting 29 = .ok (.iload_n 3, 1) := by decide +kernel
theorem dX2_changeSetting_30 : decode cX2_changeSetting 30 = .ok (.ireturn, 1) := by decide +kernel
theorem dX2_isSettingValue_0 : decode cX2_isSettingValue 0 = .ok (.iload_n 0, 1) := by decide +kernel
theorem dX2_isSettingValue_1 : decode cX2_isSettingValue 1 = .ok (.tableswitch 78 0 2 #[27, 45, 62], 27) := by decide +kernel
theorem dX2_isSettingValue_28 : decode cX2_isSettingValue 28 = .ok (.iload_n 1, 1) := by decide +kernel
theorem dX2_isSettingValue_29 : decode cX2_isSettingValue 29 = .ok (.iconst 1, 1) := by decide +kernel
theorem dX2_isSettingValue_30 : decode cX2_isSettingValue 30 = .ok (.if_icmp .lt 14, 3) := by decide +kernel
theorem dX2_isSettingValue_33 : decode cX2_isSettingValue 33 = .ok (.iload_n 1, 1) := by decide +kernel
theorem dX2_isSettingValue_34 : decode cX2_isSettingValue 34 = .ok (.sipush 9999, 3) := by decide +kernel
theorem dX2_isSettingValue_37 : decode cX2_isSettingValue 37 = .ok (.if_icmp .gt 7, 3) := by decide +kernel
theorem dX2_isSettingValue_40 : decode cX2_isSettingValue 40 = .ok (.iconst 1, 1) := by decide +kernel
theorem dX2_isSettingValue_41 : decode cX2_isSettingValue 41 = .ok (.goto 4, 3) := by decide +kernel
theorem dX2_isSettingValue_44 : decode cX2_isSettingValue 44 = .ok (.iconst 0, 1) := by decide +kernel
theorem dX2_isSettingValue_45 : decode cX2_isSettingValue 45 = .ok (.ireturn, 1) := by decide +kernel
theorem dX2_isSettingValue_46 : decode cX2_isSettingValue 46 = .ok (.iload_n 1, 1) := by decide +kernel
theorem dX2_isSettingValue_47 : decode cX2_isSettingValue 47 = .ok (.iconst 1, 1) := by decide +kernel
theorem dX2_isSettingValue_48 : decode cX2_isSettingValue 48 = .ok (.if_icmp .lt 13, 3) := by decide +kernel
theorem dX2_isSettingValue_51 : decode cX2_isSettingValue 51 = .ok (.iload_n 1, 1) := by decide +kernel
theorem dX2_isSettingValue_52 : decode cX2_isSettingValue 52 = .ok (.bipush 99, 2) := by decide +kernel
theorem dX2_isSettingValue_54 : decode cX2_isSettingValue 54 = .ok (.if_icmp .gt 7, 3) := by decide +kernel
theorem dX2_isSettingValue_57 : decode cX2_isSettingValue 57 = .ok (.iconst 1, 1) := by decide +kernel
theorem dX2_isSettingValue_58 : decode cX2_isSettingValue 58 = .ok (.goto 4, 3) := by decide +kernel
theorem dX2_isSettingValue_61 : decode cX2_isSettingValue 61 = .ok (.iconst 0, 1) := by decide +kernel
theorem dX2_isSettingValue_62 : decode cX2_isSettingValue 62 = .ok (.ireturn, 1) := by decide +kernel
theorem dX2_isSettingValue_63 : decode cX2_isSettingValue 63 = .ok (.iload_n 1, 1) := by decide +kernel
theorem dX2_isSettingValue_64 : decode cX2_isSettingValue 64 = .ok (.ifCond .lt 13, 3) := by decide +kernel
theorem dX2_isSettingValue_67 : decode cX2_isSettingValue 67 = .ok (.iload_n 1, 1) := by decide +kernel
theorem dX2_isSettingValue_68 : decode cX2_isSettingValue 68 = .ok (.bipush 20, 2) := by decide +kernel
theorem dX2_isSettingValue_70 : decode cX2_isSettingValue 70 = .ok (.if_icmp .gt 7, 3) := by decide +kernel
theorem dX2_isSettingValue_73 : decode cX2_isSettingValue 73 = .ok (.iconst 1, 1) := by decide +kernel
theorem dX2_isSettingValue_74 : decode cX2_isSettingValue 74 = .ok (.goto 4, 3) := by decide +kernel
theorem dX2_isSettingValue_77 : decode cX2_isSettingValue 77 = .ok (.iconst 0, 1) := by decide +kernel
theorem dX2_isSettingValue_78 : decode cX2_isSettingValue 78 = .ok (.ireturn, 1) := by decide +kernel
theorem dX2_isSettingValue_79 : decode cX2_isSettingValue 79 = .ok (.iconst 0, 1) := by decide +kernel
theorem dX2_isSettingValue_80 : decode cX2_isSettingValue 80 = .ok (.ireturn, 1) := by decide +kernel
theorem dX2_place_0 : decode cX2_place 0 = .ok (.iload_n 1, 1) := by decide +kernel
theorem dX2_place_1 : decode cX2_place 1 = .ok (.iload_n 2, 1) := by decide +kernel
theorem dX2_place_2 : decode cX2_place 2 = .ok (.invokestatic 64, 3) := by decide +kernel
theorem dX2_place_5 : decode cX2_place 5 = .ok (.ifCond .eq 10, 3) := by decide +kernel
theorem dX2_place_8 : decode cX2_place 8 = .ok (.iload_n 3, 1) := by decide +kernel
theorem dX2_place_9 : decode cX2_place 9 = .ok (.invokestatic 67, 3) := by decide +kernel
theorem dX2_place_12 : decode cX2_place 12 = .ok (.ifCond .ne 6, 3) := by decide +kernel
theorem dX2_place_15 : decode cX2_place 15 = .ok (.bipush (-2), 2) := by decide +kernel
theorem dX2_place_17 : decode cX2_place 17 = .ok (.ireturn, 1) := by decide +kernel
theorem dX2_place_18 : decode cX2_place 18 = .ok (.aload_n 0, 1) := by decide +kernel
theorem dX2_place_19 : decode cX2_place 19 = .ok (.iload_n 1, 1) := by decide +kernel
theorem dX2_place_20 : decode cX2_place 20 = .ok (.iload_n 2, 1) := by decide +kernel
theorem dX2_place_21 : decode cX2_place 21 = .ok (.invokevirtual 71, 3) := by decide +kernel
theorem dX2_place_24 : decode cX2_place 24 = .ok (.bipush (-6), 2) := by decide +kernel
theorem dX2_place_26 : decode cX2_place 26 = .ok (.if_icmp .eq 6, 3) := by decide +kernel
theorem dX2_place_29 : decode cX2_place 29 = .ok (.bipush (-5), 2) := by decide +kernel
theorem dX2_place_31 : decode cX2_place 31 = .ok (.ireturn, 1) := by decide +kernel
theorem dX2_place_32 : decode cX2_place 32 = .ok (.aload_n 0, 1) := by decide +kernel
theorem dX2_place_33 : decode cX2_place 33 = .ok (.getfield 35, 3) := by decide +kernel
theorem dX2_place_36 : decode cX2_place 36 = .ok (.bipush 24, 2) := by decide +kernel
theorem dX2_place_38 : decode cX2_place 38 = .ok (.if_icmp .lt 6, 3) := by decide +kernel
theorem dX2_place_41 : decode cX2_place 41 = .ok (.bipush (-4), 2) := by decide +kernel
theorem dX2_place_43 : decode cX2_place 43 = .ok (.ireturn, 1) := by decide +kernel
theorem dX2_place_44 : decode cX2_place 44 = .ok (.aload_n 0, 1) := by decide +kernel
theorem dX2_place_45 : decode cX2_place 45 = .ok (.iload_n 1, 1) := by decide +kernel
theorem dX2_place_46 : decode cX2_place 46 = .ok (.iload_n 2, 1) := by decide +kernel
theorem dX2_place_47 : decode cX2_place 47 = .ok (.iload_n 3, 1) := by decide +kernel
theorem dX2_place_48 : decode cX2_place 48 = .ok (.invokevirtual 75, 3) := by decide +kernel
theorem dX2_place_51 : decode cX2_place 51 = .ok (.ireturn, 1) := by decide +kernel
theorem dX2_add_0 : decode cX2_add 0 = .ok (.aload_n 0, 1) := by decide +kernel
theorem dX2_add_1 : decode cX2_add 1 = .ok (.getfield 35, 3) := by decide +kernel
theorem dX2_add_4 : decode cX2_add 4 = .ok (.istore 4, 2) := by decide +kernel
theorem dX2_add_6 : decode cX2_add 6 = .ok (.aload_n 0, 1) := by decide +kernel
theorem dX2_add_7 : decode cX2_add 7 = .ok (.getfield 20, 3) := by decide +kernel
theorem dX2_add_10 : decode cX2_add 10 = .ok (.iload 4, 2) := by decide +kernel
theorem dX2_add_12 : decode cX2_add 12 = .ok (.iload_n 1, 1) := by decide +kernel
theorem dX2_add_13 : decode cX2_add 13 = .ok (.invokevirtual 48, 3) := by decide +kernel
theorem dX2_add_16 : decode cX2_add 16 = .ok (.aload_n 0, 1) := by decide +kernel
theorem dX2_add_17 : decode cX2_add 17 = .ok (.getfield 23, 3) := by decide +kernel
theorem dX2_add_20 : decode cX2_add 20 = .ok (.iload 4, 2) := by decide +kernel
theorem dX2_add_22 : decode cX2_add 22 = .ok (.iload_n 2, 1) := by decide +kernel
theorem dX2_add_23 : decode cX2_add 23 = .ok (.invokevirtual 48, 3) := by decide +kernel
theorem dX2_add_26 : decode cX2_add 26 = .ok (.aload_n 0, 1) := by decide +kernel
theorem dX2_add_27 : decode cX2_add 27 = .ok (.getfield 26, 3) := by decide +kernel
theorem dX2_add_30 : decode cX2_add 30 = .ok (.iload 4, 2) := by decide +kernel
theorem dX2_add_32 : decode cX2_add 32 = .ok (.iload_n 3, 1) := by decide +kernel
theorem dX2_add_33 : decode cX2_add 33 = .ok (.invokevirtual 48, 3) := by decide +kernel
theorem dX2_add_36 : decode cX2_add 36 = .ok (.aload_n 0, 1) := by decide +kernel
theorem dX2_add_37 : decode cX2_add 37 = .ok (.getfield 29, 3) := by decide +kernel
theorem dX2_add_40 : decode cX2_add 40 = .ok (.iload 4, 2) := by decide +kernel
theorem dX2_add_42 : decode cX2_add 42 = .ok (.iconst 0, 1) := by decide +kernel
theorem dX2_add_43 : decode cX2_add 43 = .ok (.invokevirtual 48, 3) := by decide +kernel
theorem dX2_add_46 : decode cX2_add 46 = .ok (.aload_n 0, 1) := by decide +kernel
theorem dX2_add_47 : decode cX2_add 47 = .ok (.getfield 32, 3) := by decide +kernel
theorem dX2_add_50 : decode cX2_add 50 = .ok (.iload 4, 2) := by decide +kernel
theorem dX2_add_52 : decode cX2_add 52 = .ok (.iconst 0, 1) := by decide +kernel
theorem dX2_add_53 : decode cX2_add 53 = .ok (.invokevirtual 48, 3) := by decide +kernel
theorem dX2_add_56 : decode cX2_add 56 = .ok (.aload_n 0, 1) := by decide +kernel
theorem dX2_add_57 : decode cX2_add 57 = .ok (.dup, 1) := by decide +kernel
theorem dX2_add_58 : decode cX2_add 58 = .ok (.getfield 35, 3) := by decide +kernel
theorem dX2_add_61 : decode cX2_add 61 = .ok (.iconst 1, 1) := by decide +kernel
theorem dX2_add_62 : decode cX2_add 62 = .ok (.iadd, 1) := by decide +kernel
theorem dX2_add_63 : decode cX2_add 63 = .ok (.putfield 35, 3) := by decide +kernel
theorem dX2_add_66 : decode cX2_add 66 = .ok (.iload 4, 2) := by decide +kernel
theorem dX2_add_68 : decode cX2_add 68 = .ok (.ireturn, 1) := by decide +kernel
theorem dX2_remove_0 : decode cX2_remove 0 = .ok (.aload_n 0, 1) := by decide +kernel
theorem dX2_remove_1 : decode cX2_remove 1 = .ok (.iload_n 1, 1) := by decide +kernel
theorem dX2_remove_2 : decode cX2_remove 2 = .ok (.invokevirtual 79, 3) := by decide +kernel
theorem dX2_remove_5 : decode cX2_remove 5 = .ok (.ifCond .ne 5, 3) := by decide +kernel
theorem dX2_remove_8 : decode cX2_remove 8 = .ok (.iconst (-1), 1) := by decide +kernel
theorem dX2_remove_9 : decode cX2_remove 9 = .ok (.ireturn, 1) := by decide +kernel
theorem dX2_remove_10 : decode cX2_remove 10 = .ok (.aload_n 0, 1) := by decide +kernel
theorem dX2_remove_11 : decode cX2_remove 11 = .ok (.getfield 20, 3) := by decide +kernel
theorem dX2_remove_14 : decode cX2_remove 14 = .ok (.iload_n 1, 1) := by decide +kernel
theorem dX2_remove_15 : decode cX2_remove 15 = .ok (.invokevirtual 82, 3) := by decide +kernel
theorem dX2_remove_18 : decode cX2_remove 18 = .ok (.aload_n 0, 1) := by decide +kernel
theorem dX2_remove_19 : decode cX2_remove 19 = .ok (.getfield 23, 3) := by decide +kernel
theorem dX2_remove_22 : decode cX2_remove 22 = .ok (.iload_n 1, 1) := by decide +kernel
theorem dX2_remove_23 : decode cX2_remove 23 = .ok (.invokevirtual 82, 3) := by decide +kernel
theorem dX2_remove_26 : decode cX2_remove 26 = .ok (.aload_n 0, 1) := by decide +kernel
theorem dX2_remove_27 : decode cX2_remove 27 = .ok (.getfield 26, 3) := by decide +kernel
theorem dX2_remove_30 : decode cX2_remove 30 = .ok (.iload_n 1, 1) := by decide +kernel
theorem dX2_remove_31 : decode cX2_remove 31 = .ok (.invokevirtual 82, 3) := by decide +kernel
theorem dX2_remove_34 : decode cX2_remove 34 = .ok (.aload_n 0, 1) := by decide +kernel
theorem dX2_remove_35 : decode cX2_remove 35 = .ok (.getfield 29, 3) := by decide +kernel
theorem dX2_remove_38 : decode cX2_remove 38 = .ok (.iload_n 1, 1) := by decide +kernel
theorem dX2_remove_39 : decode cX2_remove 39 = .ok (.invokevirtual 82, 3) := by decide +kernel
theorem dX2_remove_42 : decode cX2_remove 42 = .ok (.aload_n 0, 1) := by decide +kernel
theorem dX2_remove_43 : decode cX2_remove 43 = .ok (.getfield 32, 3) := by decide +kernel
theorem dX2_remove_46 : decode cX2_remove 46 = .ok (.iload_n 1, 1) := by decide +kernel
theorem dX2_remove_47 : decode cX2_remove 47 = .ok (.invokevirtual 82, 3) := by decide +kernel
theorem dX2_remove_50 : decode cX2_remove 50 = .ok (.aload_n 0, 1) := by decide +kernel
theorem dX2_remove_51 : decode cX2_remove 51 = .ok (.dup, 1) := by decide +kernel
theorem dX2_remove_52 : decode cX2_remove 52 = .ok (.getfield 35, 3) := by decide +kernel
theorem dX2_remove_55 : decode cX2_remove 55 = .ok (.iconst 1, 1) := by decide +kernel
theorem dX2_remove_56 : decode cX2_remove 56 = .ok (.isub, 1) := by decide +kernel
theorem dX2_remove_57 : decode cX2_remove 57 = .ok (.putfield 35, 3) := by decide +kernel
theorem dX2_remove_60 : decode cX2_remove 60 = .ok (.aload_n 0, 1) := by decide +kernel
theorem dX2_remove_61 : decode cX2_remove 61 = .ok (.getfield 35, 3) := by decide +kernel
theorem dX2_remove_64 : decode cX2_remove 64 = .ok (.ireturn, 1) := by decide +kernel
theorem dX2_turn_0 : decode cX2_turn 0 = .ok (.aload_n 0, 1) := by decide +kernel
theorem dX2_turn_1 : decode cX2_turn 1 = .ok (.iload_n 1, 1) := by decide +kernel
theorem dX2_turn_2 : decode cX2_turn 2 = .ok (.invokevirtual 79, 3) := by decide +kernel
theorem dX2_turn_5 : decode cX2_turn 5 = .ok (.ifCond .ne 5, 3) := by decide +kernel
theorem dX2_turn_8 : decode cX2_turn 8 = .ok (.iconst (-1), 1) := by decide +kernel
theorem dX2_turn_9 : decode cX2_turn 9 = .ok (.ireturn, 1) := by decide +kernel
theorem dX2_turn_10 : decode cX2_turn 10 = .ok (.iload_n 2, 1) := by decide +kernel
theorem dX2_turn_11 : decode cX2_turn 11 = .ok (.invokestatic 67, 3) := by decide +kernel
theorem dX2_turn_14 : decode cX2_turn 14 = .ok (.ifCond .ne 6, 3) := by decide +kernel
theorem dX2_turn_17 : decode cX2_turn 17 = .ok (.bipush (-2), 2) := by decide +kernel
theorem dX2_turn_19 : decode cX2_turn 19 = .ok (.ireturn, 1) := by decide +kernel
theorem dX2_turn_20 : decode cX2_turn 20 = .ok (.aload_n 0, 1) := by decide +kernel
theorem dX2_turn_21 : decode cX2_turn 21 = .ok (.getfield 26, 3) := by decide +kernel
theorem dX2_turn_24 : decode cX2_turn 24 = .ok (.iload_n 1, 1) := by decide +kernel
theorem dX2_turn_25 : decode cX2_turn 25 = .ok (.invokevirtual 60, 3) := by decide +kernel
theorem dX2_turn_28 : decode cX2_turn 28 = .ok (.istore_n 3, 1) := by decide +kernel
theorem dX2_turn_29 : decode cX2_turn 29 = .ok (.aload_n 0, 1) := by decide +kernel
theorem dX2_turn_30 : decode cX2_turn 30 = .ok (.getfield 26, 3) := by decide +kernel
theorem dX2_turn_33 : decode cX2_turn 33 = .ok (.iload_n 1, 1) := by decide +kernel
theorem dX2_turn_34 : decode cX2_turn 34 = .ok (.iload_n 2, 1) := by decide +kernel
theorem dX2_turn_35 : decode cX2_turn 35 = .ok (.invokevirtual 48, 3) := by decide +kernel
theorem dX2_turn_38 : decode cX2_turn 38 = .ok (.iload_n 3, 1) := by decide +kernel
theorem dX2_turn_39 : decode cX2_turn 39 = .ok (.ireturn, 1) := by decide +kernel
theorem dX2_clean_0 : decode cX2_clean 0 = .ok (.aload_n 0, 1) := by decide +kernel
theorem dX2_clean_1 : decode cX2_clean 1 = .ok (.iload_n 1, 1) := by decide +kernel
theorem dX2_clean_2 : decode cX2_clean 2 = .ok (.invokevirtual 79, 3) := by decide +kernel
theorem dX2_clean_5 : decode cX2_clean 5 = .ok (.ifCond .ne 5, 3) := by decide +kernel
theorem dX2_clean_8 : decode cX2_clean 8 = .ok (.iconst (-1), 1) := by decide +kernel
theorem dX2_clean_9 : decode cX2_clean 9 = .ok (.ireturn, 1) := by decide +kernel
theorem dX2_clean_10 : decode cX2_clean 10 = .ok (.aload_n 0, 1) := by decide +kernel
theorem dX2_clean_11 : decode cX2_clean 11 = .ok (.getfield 29, 3) := by decide +kernel
theorem dX2_clean_14 : decode cX2_clean 14 = .ok (.iload_n 1, 1) := by decide +kernel
theorem dX2_clean_15 : decode cX2_clean 15 = .ok (.invokevirtual 60, 3) := by decide +kernel
theorem dX2_clean_18 : decode cX2_clean 18 = .ok (.istore_n 2, 1) := by decide +kernel
theorem dX2_clean_19 : decode cX2_clean 19 = .ok (.aload_n 0, 1) := by decide +kernel
theorem dX2_clean_20 : decode cX2_clean 20 = .ok (.getfield 29, 3) := by decide +kernel
theorem dX2_clean_23 : decode cX2_clean 23 = .ok (.iload_n 1, 1) := by decide +kernel
theorem dX2_clean_24 : decode cX2_clean 24 = .ok (.iconst 0, 1) := by decide +kernel
theorem dX2_clean_25 : decode cX2_clean 25 = .ok (.invokevirtual 48, 3) := by decide +kernel
theorem dX2_clean_28 : decode cX2_clean 28 = .ok (.iload_n 2, 1) := by decide +kernel
theorem dX2_clean_29 : decode cX2_clean 29 = .ok (.ireturn, 1) := by decide +kernel
theorem dX2_blow_0 : decode cX2_blow 0 = .ok (.iload_n 1, 1) := by decide +kernel
theorem dX2_blow_1 : decode cX2_blow 1 = .ok (.ifCond .lt 9, 3) := by decide +kernel
theorem dX2_blow_4 : decode cX2_blow 4 = .ok (.iload_n 1, 1) := by decide +kernel
theorem dX2_blow_5 : decode cX2_blow 5 = .ok (.bipush 99, 2) := by decide +kernel
theorem dX2_blow_7 : decode cX2_blow 7 = .ok (.if_icmp .le 6, 3) := by decide +kernel
theorem dX2_blow_10 : decode cX2_blow 10 = .ok (.bipush (-2), 2) := by decide +kernel
theorem dX2_blow_12 : decode cX2_blow 12 = .ok (.ireturn, 1) := by decide +kernel
theorem dX2_blow_13 : decode cX2_blow 13 = .ok (.aload_n 0, 1) := by decide +kernel
theorem dX2_blow_14 : decode cX2_blow 14 = .ok (.iload_n 1, 1) := by decide +kernel
theorem dX2_blow_15 : decode cX2_blow 15 = .ok (.putfield 39, 3) := by decide +kernel
theorem dX2_blow_18 : decode cX2_blow 18 = .ok (.aload_n 0, 1) := by decide +kernel
theorem dX2_blow_19 : decode cX2_blow 19 = .ok (.invokevirtual 85, 3) := by decide +kernel
theorem dX2_blow_22 : decode cX2_blow 22 = .ok (.ifCond .eq 7, 3) := by decide +kernel
theorem dX2_blow_25 : decode cX2_blow 25 = .ok (.iconst 1, 1) := by decide +kernel
theorem dX2_blow_26 : decode cX2_blow 26 = .ok (.goto 4, 3) := by decide +kernel
theorem dX2_blow_29 : decode cX2_blow 29 = .ok (.iconst 0, 1) := by decide +kernel
theorem dX2_blow_30 : decode cX2_blow 30 = .ok (.ireturn, 1) := by decide +kernel
theorem dX2_credit_0 : decode cX2_credit 0 = .ok (.aload_n 0, 1) := by decide +kernel
theorem dX2_credit_1 : decode cX2_credit 1 = .ok (.getfield 32, 3) := by decide +kernel
theorem dX2_credit_4 : decode cX2_credit 4 = .ok (.iload_n 1, 1) := by decide +kernel
theorem dX2_credit_5 : decode cX2_credit 5 = .ok (.aload_n 0, 1) := by decide +kernel
theorem dX2_credit_6 : decode cX2_credit 6 = .ok (.getfield 32, 3) := by decide +kernel
theorem dX2_credit_9 : decode cX2_credit 9 = .ok (.iload_n 1, 1) := by decide +kernel
theorem dX2_credit_10 : decode cX2_credit 10 = .ok (.invokevirtual 60, 3) := by decide +kernel
theorem dX2_credit_13 : decode cX2_credit 13 = .ok (.iload_n 2, 1) := by decide +kernel
theorem dX2_credit_14 : decode cX2_credit 14 = .ok (.iadd, 1) := by decide +kernel
theorem dX2_credit_15 : decode cX2_credit 15 = .ok (.invokevirtual 48, 3) := by decide +kernel
theorem dX2_credit_18 : decode cX2_credit 18 = .ok (.return_, 1) := by decide +kernel
theorem dX2_endDay_0 : decode cX2_endDay 0 = .ok (.aload_n 0, 1) := by decide +kernel
theorem dX2_endDay_1 : decode cX2_endDay 1 = .ok (.dup, 1) := by decide +kernel
theorem dX2_endDay_2 : decode cX2_endDay 2 = .ok (.getfield 42, 3) := by decide +kernel
theorem dX2_endDay_5 : decode cX2_endDay 5 = .ok (.iconst 1, 1) := by decide +kernel
theorem dX2_endDay_6 : decode cX2_endDay 6 = .ok (.iadd, 1) := by decide +kernel
theorem dX2_endDay_7 : decode cX2_endDay 7 = .ok (.putfield 42, 3) := by decide +kernel
theorem dX2_endDay_10 : decode cX2_endDay 10 = .ok (.aload_n 0, 1) := by decide +kernel
theorem dX2_endDay_11 : decode cX2_endDay 11 = .ok (.dup, 1) := by decide +kernel
theorem dX2_endDay_12 : decode cX2_endDay 12 = .ok (.getfield 45, 3) := by decide +kernel
theorem dX2_endDay_15 : decode cX2_endDay 15 = .ok (.iload_n 1, 1) := by decide +kernel
theorem dX2_endDay_16 : decode cX2_endDay 16 = .ok (.iadd, 1) := by decide +kernel
theorem dX2_endDay_17 : decode cX2_endDay 17 = .ok (.putfield 45, 3) := by decide +kernel
theorem dX2_endDay_20 : decode cX2_endDay 20 = .ok (.iconst 0, 1) := by decide +kernel
theorem dX2_endDay_21 : decode cX2_endDay 21 = .ok (.istore_n 2, 1) := by decide +kernel
theorem dX2_endDay_22 : decode cX2_endDay 22 = .ok (.iload_n 2, 1) := by decide +kernel
theorem dX2_endDay_23 : decode cX2_endDay 23 = .ok (.aload_n 0, 1) := by decide +kernel
theorem dX2_endDay_24 : decode cX2_endDay 24 = .ok (.getfield 35, 3) := by decide +kernel
theorem dX2_endDay_27 : decode cX2_endDay 27 = .ok (.if_icmp .ge 39, 3) := by decide +kernel
theorem dX2_endDay_30 : decode cX2_endDay 30 = .ok (.aload_n 0, 1) := by decide +kernel
theorem dX2_endDay_31 : decode cX2_endDay 31 = .ok (.getfield 29, 3) := by decide +kernel
theorem dX2_endDay_34 : decode cX2_endDay 34 = .ok (.iload_n 2, 1) := by decide +kernel
theorem dX2_endDay_35 : decode cX2_endDay 35 = .ok (.bipush 100, 2) := by decide +kernel
theorem dX2_endDay_37 : decode cX2_endDay 37 = .ok (.aload_n 0, 1) := by decide +kernel
theorem dX2_endDay_38 : decode cX2_endDay 38 = .ok (.getfield 29, 3) := by decide +kernel
theorem dX2_endDay_41 : decode cX2_endDay 41 = .ok (.iload_n 2, 1) := by decide +kernel
theorem dX2_endDay_42 : decode cX2_endDay 42 = .ok (.invokevirtual 60, 3) := by decide +kernel
theorem dX2_endDay_45 : decode cX2_endDay 45 = .ok (.aload_n 0, 1) := by decide +kernel
theorem dX2_endDay_46 : decode cX2_endDay 46 = .ok (.getfield 14, 3) := by decide +kernel
theorem dX2_endDay_49 : decode cX2_endDay 49 = .ok (.iconst 2, 1) := by decide +kernel
theorem dX2_endDay_50 : decode cX2_endDay 50 = .ok (.invokevirtual 60, 3) := by decide +kernel
theorem dX2_endDay_53 : decode cX2_endDay 53 = .ok (.iadd, 1) := by decide +kernel
theorem dX2_endDay_54 : decode cX2_endDay 54 = .ok (.invokestatic 89, 3) := by decide +kernel
theorem dX2_endDay_57 : decode cX2_endDay 57 = .ok (.invokevirtual 48, 3) := by decide +kernel
theorem dX2_endDay_60 : decode cX2_endDay 60 = .ok (.iinc 2 1, 3) := by decide +kernel
theorem dX2_endDay_63 : decode cX2_endDay 63 = .ok (.goto (-41), 3) := by decide +kernel
theorem dX2_endDay_66 : decode cX2_endDay 66 = .ok (.return_, 1) := by decide +kernel
theorem dX2_isMirror_0 : decode cX2_isMirror 0 = .ok (.iload_n 1, 1) := by decide +kernel
theorem dX2_isMirror_1 : decode cX2_isMirror 1 = .ok (.ifCond .lt 15, 3) := by decide +kernel
theorem dX2_isMirror_4 : decode cX2_isMirror 4 = .ok (.iload_n 1, 1) := by decide +kernel
theorem dX2_isMirror_5 : decode cX2_isMirror 5 = .ok (.aload_n 0, 1) := by decide +kernel
theorem dX2_isMirror_6 : decode cX2_isMirror 6 = .ok (.getfield 35, 3) := by decide +kernel
theorem dX2_isMirror_9 : decode cX2_isMirror 9 = .ok (.if_icmp .ge 7, 3) := by decide +kernel
theorem dX2_isMirror_12 : decode cX2_isMirror 12 = .ok (.iconst 1, 1) := by decide +kernel
theorem dX2_isMirror_13 : decode cX2_isMirror 13 = .ok (.goto 4, 3) := by decide +kernel
theorem dX2_isMirror_16 : decode cX2_isMirror 16 = .ok (.iconst 0, 1) := by decide +kernel
theorem dX2_isMirror_17 : decode cX2_isMirror 17 = .ok (.ireturn, 1) := by decide +kernel
theorem dX2_mirrorIn_0 : decode cX2_mirrorIn 0 = .ok (.iconst 0, 1) := by decide +kernel
theorem dX2_mirrorIn_1 : decode cX2_mirrorIn 1 = .ok (.istore_n 3, 1) := by decide +kernel
theorem dX2_mirrorIn_2 : decode cX2_mirrorIn 2 = .ok (.iload_n 3, 1) := by decide +kernel
theorem dX2_mirrorIn_3 : decode cX2_mirrorIn 3 = .ok (.aload_n 0, 1) := by decide +kernel
theorem dX2_mirrorIn_4 : decode cX2_mirrorIn 4 = .ok (.getfield 35, 3) := by decide +kernel
theorem dX2_mirrorIn_7 : decode cX2_mirrorIn 7 = .ok (.if_icmp .ge 35, 3) := by decide +kernel
theorem dX2_mirrorIn_10 : decode cX2_mirrorIn 10 = .ok (.aload_n 0, 1) := by decide +kernel
theorem dX2_mirrorIn_11 : decode cX2_mirrorIn 11 = .ok (.getfield 20, 3) := by decide +kernel
theorem dX2_mirrorIn_14 : decode cX2_mirrorIn 14 = .ok (.iload_n 3, 1) := by decide +kernel
theorem dX2_mirrorIn_15 : decode cX2_mirrorIn 15 = .ok (.invokevirtual 60, 3) := by decide +kernel
theorem dX2_mirrorIn_18 : decode cX2_mirrorIn 18 = .ok (.iload_n 1, 1) := by decide +kernel
theorem dX2_mirrorIn_19 : decode cX2_mirrorIn 19 = .ok (.if_icmp .ne 17, 3) := by decide +kernel
theorem dX2_mirrorIn_22 : decode cX2_mirrorIn 22 = .ok (.aload_n 0, 1) := by decide +kernel
theorem dX2_mirrorIn_23 : decode cX2_mirrorIn 23 = .ok (.getfield 23, 3) := by decide +kernel
theorem dX2_mirrorIn_26 : decode cX2_mirrorIn 26 = .ok (.iload_n 3, 1) := by decide +kernel
theorem dX2_mirrorIn_27 : decode cX2_mirrorIn 27 = .ok (.invokevirtual 60, 3) := by decide +kernel
theorem dX2_mirrorIn_30 : decode cX2_mirrorIn 30 = .ok (.iload_n 2, 1) := by decide +kernel
theorem dX2_mirrorIn_31 : decode cX2_mirrorIn 31 = .ok (.if_icmp .ne 5, 3) := by decide +kernel
theorem dX2_mirrorIn_34 : decode cX2_mirrorIn 34 = .ok (.iload_n 3, 1) := by decide +kernel
theorem dX2_mirrorIn_35 : decode cX2_mirrorIn 35 = .ok (.ireturn, 1) := by decide +kernel
theorem dX2_mirrorIn_36 : decode cX2_mirrorIn 36 = .ok (.iinc 3 1, 3) := by decide +kernel
theorem dX2_mirrorIn_39 : decode cX2_mirrorIn 39 = .ok (.goto (-37), 3) := by decide +kernel
theorem dX2_mirrorIn_42 : decode cX2_mirrorIn 42 = .ok (.bipush (-6), 2) := by decide +kernel
theorem dX2_mirrorIn_44 : decode cX2_mirrorIn 44 = .ok (.ireturn, 1) := by decide +kernel
theorem dX2_mirrorsOf_0 : decode cX2_mirrorsOf 0 = .ok (.iconst 0, 1) := by decide +kernel
theorem dX2_mirrorsOf_1 : decode cX2_mirrorsOf 1 = .ok (.istore_n 2, 1) := by decide +kernel
theorem dX2_mirrorsOf_2 : decode cX2_mirrorsOf 2 = .ok (.iconst 0, 1) := by decide +kernel
theorem dX2_mirrorsOf_3 : decode cX2_mirrorsOf 3 = .ok (.istore_n 3, 1) := by decide +kernel
theorem dX2_mirrorsOf_4 : decode cX2_mirrorsOf 4 = .ok (.iload_n 3, 1) := by decide +kernel
theorem dX2_mirrorsOf_5 : decode cX2_mirrorsOf 5 = .ok (.aload_n 0, 1) := by decide +kernel
theorem dX2_mirrorsOf_6 : decode cX2_mirrorsOf 6 = .ok (.getfield 35, 3) := by decide +kernel
theorem dX2_mirrorsOf_9 : decode cX2_mirrorsOf 9 = .ok (.if_icmp .ge 27, 3) := by decide +kernel
theorem dX2_mirrorsOf_12 : decode cX2_mirrorsOf 12 = .ok (.aload_n 0, 1) := by decide +kernel
theorem dX2_mirrorsOf_13 : decode cX2_mirrorsOf 13 = .ok (.getfield 26, 3) := by decide +kernel
theorem dX2_mirrorsOf_16 : decode cX2_mirrorsOf 16 = .ok (.iload_n 3, 1) := by decide +kernel
theorem dX2_mirrorsOf_17 : decode cX2_mirrorsOf 17 = .ok (.invokevirtual 60, 3) := by decide +kernel
theorem dX2_mirrorsOf_20 : decode cX2_mirrorsOf 20 = .ok (.iload_n 1, 1) := by decide +kernel
theorem dX2_mirrorsOf_21 : decode cX2_mirrorsOf 21 = .ok (.if_icmp .ne 9, 3) := by decide +kernel
theorem dX2_mirrorsOf_24 : decode cX2_mirrorsOf 24 = .ok (.iload_n 2, 1) := by decide +kernel
theorem dX2_mirrorsOf_25 : decode cX2_mirrorsOf 25 = .ok (.iconst 1, 1) := by decide +kernel
theorem dX2_mirrorsOf_26 : decode cX2_mirrorsOf 26 = .ok (.iload_n 3, 1) := by decide +kernel
theorem dX2_mirrorsOf_27 : decode cX2_mirrorsOf 27 = .ok (.ishl, 1) := by decide +kernel
theorem dX2_mirrorsOf_28 : decode cX2_mirrorsOf 28 = .ok (.ior, 1) := by decide +kernel
theorem dX2_mirrorsOf_29 : decode cX2_mirrorsOf 29 = .ok (.istore_n 2, 1) := by decide +kernel
theorem dX2_mirrorsOf_30 : decode cX2_mirrorsOf 30 = .ok (.iinc 3 1, 3) := by decide +kernel
theorem dX2_mirrorsOf_33 : decode cX2_mirrorsOf 33 = .ok (.goto (-29), 3) := by decide +kernel
theorem dX2_mirrorsOf_36 : decode cX2_mirrorsOf 36 = .ok (.iload_n 2, 1) := by decide +kernel
theorem dX2_mirrorsOf_37 : decode cX2_mirrorsOf 37 = .ok (.ireturn, 1) := by decide +kernel
theorem dX2_allDust_0 : decode cX2_allDust 0 = .ok (.iconst 0, 1) := by decide +kernel
theorem dX2_allDust_1 : decode cX2_allDust 1 = .ok (.istore_n 1, 1) := by decide +kernel
theorem dX2_allDust_2 : decode cX2_allDust 2 = .ok (.iconst 0, 1) := by decide +kernel
theorem dX2_allDust_3 : decode cX2_allDust 3 = .ok (.istore_n 2, 1) := by decide +kernel
theorem dX2_allDust_4 : decode cX2_allDust 4 = .ok (.iload_n 2, 1) := by decide +kernel
theorem dX2_allDust_5 : decode cX2_allDust 5 = .ok (.aload_n 0, 1) := by decide +kernel
theorem dX2_allDust_6 : decode cX2_allDust 6 = .ok (.getfield 35, 3) := by decide +kernel
theorem dX2_allDust_9 : decode cX2_allDust 9 = .ok (.if_icmp .ge 20, 3) := by decide +kernel
theorem dX2_allDust_12 : decode cX2_allDust 12 = .ok (.iload_n 1, 1) := by decide +kernel
theorem dX2_allDust_13 : decode cX2_allDust 13 = .ok (.aload_n 0, 1) := by decide +kernel
theorem dX2_allDust_14 : decode cX2_allDust 14 = .ok (.getfield 29, 3) := by decide +kernel
theorem dX2_allDust_17 : decode cX2_allDust 17 = .ok (.iload_n 2, 1) := by decide +kernel
theorem dX2_allDust_18 : decode cX2_allDust 18 = .ok (.invokevirtual 60, 3) := by decide +kernel
theorem dX2_allDust_21 : decode cX2_allDust 21 = .ok (.iadd, 1) := by decide +kernel
theorem dX2_allDust_22 : decode cX2_allDust 22 = .ok (.istore_n 1, 1) := by decide +kernel
theorem dX2_allDust_23 : decode cX2_allDust 23 = .ok (.iinc 2 1, 3) := by decide +kernel
theorem dX2_allDust_26 : decode cX2_allDust 26 = .ok (.goto (-22), 3) := by decide +kernel
theorem dX2_allDust_29 : decode cX2_allDust 29 = .ok (.iload_n 1, 1) := by decide +kernel
theorem dX2_allDust_30 : decode cX2_allDust 30 = .ok (.ireturn, 1) := by decide +kernel
theorem dX2_liesFlat_0 : decode cX2_liesFlat 0 = .ok (.aload_n 0, 1) := by decide +kernel
theorem dX2_liesFlat_1 : decode cX2_liesFlat 1 = .ok (.getfield 39, 3) := by decide +kernel
theorem dX2_liesFlat_4 : decode cX2_liesFlat 4 = .ok (.aload_n 0, 1) := by decide +kernel
theorem dX2_liesFlat_5 : decode cX2_liesFlat 5 = .ok (.getfield 14, 3) := by decide +kernel
theorem dX2_liesFlat_8 : decode cX2_liesFlat 8 = .ok (.iconst 1, 1) := by decide +kernel
theorem dX2_liesFlat_9 : decode cX2_liesFlat 9 = .ok (.invokevirtual 60, 3) := by decide +kernel
theorem dX2_liesFlat_12 : decode cX2_liesFlat 12 = .ok (.if_icmp .le 7, 3) := by decide +kernel
theorem dX2_liesFlat_15 : decode cX2_liesFlat 15 = .ok (.iconst 1, 1) := by decide +kernel
theorem dX2_liesFlat_16 : decode cX2_liesFlat 16 = .ok (.goto 4, 3) := by decide +kernel
theorem dX2_liesFlat_19 : decode cX2_liesFlat 19 = .ok (.iconst 0, 1) := by decide +kernel
theorem dX2_liesFlat_20 : decode cX2_liesFlat 20 = .ok (.ireturn, 1) := by decide +kernel
theorem dX3_init_0 : decode cX3_init 0 = .ok (.aload_n 0, 1) := by decide +kernel
theorem dX3_init_1 : decode cX3_init 1 = .ok (.invokespecial 3, 3) := by decide +kernel
theorem dX3_init_4 : decode cX3_init 4 = .ok (.aload_n 0, 1) := by decide +kernel
theorem dX3_init_5 : decode cX3_init 5 = .ok (.new 9, 3) := by decide +kernel
theorem dX3_init_8 : decode cX3_init 8 = .ok (.dup, 1) := by decide +kernel
theorem dX3_init_9 : decode cX3_init 9 = .ok (.bipush 7, 2) := by decide +kernel
theorem dX3_init_11 : decode cX3_init 11 = .ok (.invokespecial 13, 3) := by decide +kernel
theorem dX3_init_14 : decode cX3_init 14 = .ok (.putfield 16, 3) := by decide +kernel
theorem dX3_init_17 : decode cX3_init 17 = .ok (.aload_n 0, 1) := by decide +kernel
theorem dX3_init_18 : decode cX3_init 18 = .ok (.iconst 0, 1) := by decide +kernel
theorem dX3_init_19 : decode cX3_init 19 = .ok (.putfield 20, 3) := by decide +kernel
theorem dX3_init_22 : decode cX3_init 22 = .ok (.aload_n 0, 1) := by decide +kernel
theorem dX3_init_23 : decode cX3_init 23 = .ok (.iconst 0, 1) := by decide +kernel
theorem dX3_init_24 : decode cX3_init 24 = .ok (.putfield 24, 3) := by decide +kernel
theorem dX3_init_27 : decode cX3_init 27 = .ok (.return_, 1) := by decide +kernel
theorem dX3_note_0 : decode cX3_note 0 = .ok (.aload_n 0, 1) := by decide +kernel
theorem dX3_note_1 : decode cX3_note 1 = .ok (.getfield 16, 3) := by decide +kernel
theorem dX3_note_4 : decode cX3_note 4 = .ok (.aload_n 0, 1) := by decide +kernel
theorem dX3_note_5 : decode cX3_note 5 = .ok (.getfield 20, 3) := by decide +kernel
theorem dX3_note_8 : decode cX3_note 8 = .ok (.aload_n 1, 1) := by decide +kernel
theorem dX3_note_9 : decode cX3_note 9 = .ok (.invokevirtual 27, 3) := by decide +kernel
theorem dX3_note_12 : decode cX3_note 12 = .ok (.return_, 1) := by decide +kernel
theorem dX3_keepNote_0 : decode cX3_keepNote 0 = .ok (.aload_n 0, 1) := by decide +kernel
theorem dX3_keepNote_1 : decode cX3_keepNote 1 = .ok (.aload_n 0, 1) := by decide +kernel
theorem dX3_keepNote_2 : decode cX3_keepNote 2 = .ok (.getfield 20, 3) := by decide +kernel
theorem dX3_keepNote_5 : decode cX3_keepNote 5 = .ok (.iconst 1, 1) := by decide +kernel
theorem dX3_keepNote_6 : decode cX3_keepNote 6 = .ok (.iadd, 1) := by decide +kernel
theorem dX3_keepNote_7 : decode cX3_keepNote 7 = .ok (.bipush 7, 2) := by decide +kernel
theorem dX3_keepNote_9 : decode cX3_keepNote 9 = .ok (.irem, 1) := by decide +kernel
theorem dX3_keepNote_10 : decode cX3_keepNote 10 = .ok (.putfield 20, 3) := by decide +kernel
theorem dX3_keepNote_13 : decode cX3_keepNote 13 = .ok (.aload_n 0, 1) := by decide +kernel
theorem dX3_keepNote_14 : decode cX3_keepNote 14 = .ok (.aload_n 0, 1) := by decide +kernel
theorem dX3_keepNote_15 : decode cX3_keepNote 15 = .ok (.getfield 24, 3) := by decide +kernel
theorem dX3_keepNote_18 : decode cX3_keepNote 18 = .ok (.iconst 1, 1) := by decide +kernel
theorem dX3_keepNote_19 : decode cX3_keepNote 19 = .ok (.iadd, 1) := by decide +kernel
theorem dX3_keepNote_20 : decode cX3_keepNote 20 = .ok (.bipush 6, 2) := by decide +kernel
theorem dX3_keepNote_22 : decode cX3_keepNote 22 = .ok (.invokestatic 31, 3) := by decide +kernel
theorem dX3_keepNote_25 : decode cX3_keepNote 25 = .ok (.putfield 24, 3) := by decide +kernel
theorem dX3_keepNote_28 : decode cX3_keepNote 28 = .ok (.return_, 1) := by decide +kernel
theorem dX3_stepBack_0 : decode cX3_stepBack 0 = .ok (.aload_n 0, 1) := by decide +kernel
theorem dX3_stepBack_1 : decode cX3_stepBack 1 = .ok (.getfield 24, 3) := by decide +kernel
theorem dX3_stepBack_4 : decode cX3_stepBack 4 = .ok (.ifCond .ne 5, 3) := by decide +kernel
theorem dX3_stepBack_7 : decode cX3_stepBack 7 = .ok (.iconst 0, 1) := by decide +kernel
theorem dX3_stepBack_8 : decode cX3_stepBack 8 = .ok (.ireturn, 1) := by decide +kernel
theorem dX3_stepBack_9 : decode cX3_stepBack 9 = .ok (.aload_n 0, 1) := by decide +kernel
theorem dX3_stepBack_10 : decode cX3_stepBack 10 = .ok (.aload_n 0, 1) := by decide +kernel
theorem dX3_stepBack_11 : decode cX3_stepBack 11 = .ok (.getfield 20, 3) := by decide +kernel
theorem dX3_stepBack_14 : decode cX3_stepBack 14 = .ok (.bipush 7, 2) := by decide +kernel
theorem dX3_stepBack_16 : decode cX3_stepBack 16 = .ok (.iadd, 1) := by decide +kernel
theorem dX3_stepBack_17 : decode cX3_stepBack 17 = .ok (.iconst 1, 1) := by decide +kernel
theorem dX3_stepBack_18 : decode cX3_stepBack 18 = .ok (.isub, 1) := by decide +kernel
theorem dX3_stepBack_19 : decode cX3_stepBack 19 = .ok (.bipush 7, 2) := by decide +kernel
theorem dX3_stepBack_21 : decode cX3_stepBack 21 = .ok (.irem, 1) := by decide +kernel
theorem dX3_stepBack_22 : decode cX3_stepBack 22 = .ok (.putfield 20, 3) := by decide +kernel
theorem dX3_stepBack_25 : decode cX3_stepBack 25 = .ok (.aload_n 0, 1) := by decide +kernel
theorem dX3_stepBack_26 : decode cX3_stepBack 26 = .ok (.dup, 1) := by decide +kernel
theorem dX3_stepBack_27 : decode cX3_stepBack 27 = .ok (.getfield 24, 3) := by decide +kernel
theorem dX3_stepBack_30 : decode cX3_stepBack 30 = .ok (.iconst 1, 1) := by decide +kernel
theorem dX3_stepBack_31 : decode cX3_stepBack 31 = .ok (.isub, 1) := by decide +kernel
theorem dX3_stepBack_32 : decode cX3_stepBack 32 = .ok (.putfield 24, 3) := by decide +kernel
theorem dX3_stepBack_35 : decode cX3_stepBack 35 = .ok (.aload_n 0, 1) := by decide +kernel
theorem dX3_stepBack_36 : decode cX3_stepBack 36 = .ok (.getfield 16, 3) := by decide +kernel
theorem dX3_stepBack_39 : decode cX3_stepBack 39 = .ok (.aload_n 0, 1) := by decide +kernel
theorem dX3_stepBack_40 : decode cX3_stepBack 40 = .ok (.getfield 20, 3) := by decide +kernel
theorem dX3_stepBack_43 : decode cX3_stepBack 43 = .ok (.aload_n 1, 1) := by decide +kernel
theorem dX3_stepBack_44 : decode cX3_stepBack 44 = .ok (.invokevirtual 37, 3) := by decide +kernel
theorem dX3_stepBack_47 : decode cX3_stepBack 47 = .ok (.iconst 1, 1) := by decide +kernel
theorem dX3_stepBack_48 : decode cX3_stepBack 48 = .ok (.ireturn, 1) := by decide +kernel
theorem dX3_size_0 : decode cX3_size 0 = .ok (.aload_n 0, 1) := by decide +kernel
theorem dX3_size_1 : decode cX3_size 1 = .ok (.getfield 24, 3) := by decide +kernel
theorem dX3_size_4 : decode cX3_size 4 = .ok (.ireturn, 1) := by decide +kernel
theorem dX4_init_0 : decode cX4_init 0 = .ok (.aload_n 0, 1) := by decide +kernel
theorem dX4_init_1 : decode cX4_init 1 = .ok (.invokespecial 3, 3) := by decide +kernel
theorem dX4_init_4 : decode cX4_init 4 = .ok (.aload_n 0, 1) := by decide +kernel
theorem dX4_init_5 : decode cX4_init 5 = .ok (.new 9, 3) := by decide +kernel
theorem dX4_init_8 : decode cX4_init 8 = .ok (.dup, 1) := by decide +kernel
theorem dX4_init_9 : decode cX4_init 9 = .ok (.sipush 400, 3) := by decide +kernel
theorem dX4_init_12 : decode cX4_init 12 = .ok (.invokespecial 11, 3) := by decide +kernel
theorem dX4_init_15 : decode cX4_init 15 = .ok (.putfield 14, 3) := by decide +kernel
theorem dX4_init_18 : decode cX4_init 18 = .ok (.aload_n 0, 1) := by decide +kernel
theorem dX4_init_19 : decode cX4_init 19 = .ok (.new 9, 3) := by decide +kernel
theorem dX4_init_22 : decode cX4_init 22 = .ok (.dup, 1) := by decide +kernel
theorem dX4_init_23 : decode cX4_init 23 = .ok (.sipush 275, 3) := by decide +kernel
theorem dX4_init_26 : decode cX4_init 26 = .ok (.invokespecial 11, 3) := by decide +kernel
theorem dX4_init_29 : decode cX4_init 29 = .ok (.putfield 20, 3) := by decide +kernel
theorem dX4_init_32 : decode cX4_init 32 = .ok (.aload_n 0, 1) := by decide +kernel
theorem dX4_init_33 : decode cX4_init 33 = .ok (.new 9, 3) := by decide +kernel
theorem dX4_init_36 : decode cX4_init 36 = .ok (.dup, 1) := by decide +kernel
theorem dX4_init_37 : decode cX4_init 37 = .ok (.bipush 25, 2) := by decide +kernel
theorem dX4_init_39 : decode cX4_init 39 = .ok (.invokespecial 11, 3) := by decide +kernel
theorem dX4_init_42 : decode cX4_init 42 = .ok (.putfield 23, 3) := by decide +kernel
theorem dX4_init_45 : decode cX4_init 45 = .ok (.aload_n 0, 1) := by decide +kernel
theorem dX4_init_46 : decode cX4_init 46 = .ok (.new 9, 3) := by decide +kernel
theorem dX4_init_49 : decode cX4_init 49 = .ok (.dup, 1) := by decide +kernel
theorem dX4_init_50 : decode cX4_init 50 = .ok (.bipush 25, 2) := by decide +kernel
theorem dX4_init_52 : decode cX4_init 52 = .ok (.invokespecial 11, 3) := by decide +kernel
theorem dX4_init_55 : decode cX4_init 55 = .ok (.putfield 26, 3) := by decide +kernel
theorem dX4_init_58 : decode cX4_init 58 = .ok (.aload_n 0, 1) := by decide +kernel
theorem dX4_init_59 : decode cX4_init 59 = .ok (.new 9, 3) := by decide +kernel
theorem dX4_init_62 : decode cX4_init 62 = .ok (.dup, 1) := by decide +kernel
theorem dX4_init_63 : decode cX4_init 63 = .ok (.iconst 4, 1) := by decide +kernel
theorem dX4_init_64 : decode cX4_init 64 = .ok (.invokespecial 11, 3) := by decide +kernel
theorem dX4_init_67 : decode cX4_init 67 = .ok (.putfield 29, 3) := by decide +kernel
theorem dX4_init_70 : decode cX4_init 70 = .ok (.aload_n 0, 1) := by decide +kernel
theorem dX4_init_71 : decode cX4_init 71 = .ok (.iconst 0, 1) := by decide +kernel
theorem dX4_init_72 : decode cX4_init 72 = .ok (.putfield 32, 3) := by decide +kernel
theorem dX4_init_75 : decode cX4_init 75 = .ok (.aload_n 0, 1) := by decide +kernel
theorem dX4_init_76 : decode cX4_init 76 = .ok (.iconst 0, 1) := by decide +kernel
theorem dX4_init_77 : decode cX4_init 77 = .ok (.putfield 36, 3) := by decide +kernel
theorem dX4_init_80 : decode cX4_init 80 = .ok (.aload_n 0, 1) := by decide +kernel
theorem dX4_init_81 : decode cX4_init 81 = .ok (.aload_n 1, 1) := by decide +kernel
theorem dX4_init_82 : decode cX4_init 82 = .ok (.putfield 39, 3) := by decide +kernel
theorem dX4_init_85 : decode cX4_init 85 = .ok (.return_, 1) := by decide +kernel
theorem dX4_look_0 : decode cX4_look 0 = .ok (.aload_n 0, 1) := by decide +kernel
theorem dX4_look_1 : decode cX4_look 1 = .ok (.getfield 14, 3) := by decide +kernel
theorem dX4_look_4 : decode cX4_look 4 = .ok (.bipush (-6), 2) := by decide +kernel
theorem dX4_look_6 : decode cX4_look 6 = .ok (.invokevirtual 43, 3) := by decide +kernel
theorem dX4_look_9 : decode cX4_look 9 = .ok (.iconst 0, 1) := by decide +kernel
theorem dX4_look_10 : decode cX4_look 10 = .ok (.istore_n 1, 1) := by decide +kernel
theorem dX4_look_11 : decode cX4_look 11 = .ok (.iload_n 1, 1) := by decide +kernel
theorem dX4_look_12 : decode cX4_look 12 = .ok (.aload_n 0, 1) := by decide +kernel
theorem dX4_look_13 : decode cX4_look 13 = .ok (.getfield 39, 3) := by decide +kernel
theorem dX4_look_16 : decode cX4_look 16 = .ok (.getfield 46, 3) := by decide +kernel
theorem dX4_look_19 : decode cX4_look 19 = .ok (.if_icmp .ge 43, 3) := by decide +kernel
theorem dX4_look_22 : decode cX4_look 22 = .ok (.aload_n 0, 1) := by decide +kernel
theorem dX4_look_23 : decode cX4_look 23 = .ok (.getfield 14, 3) := by decide +kernel
theorem dX4_look_26 : decode cX4_look 26 = .ok (.aload_n 0, 1) := by decide +kernel
theorem dX4_look_27 : decode cX4_look 27 = .ok (.getfield 39, 3) := by decide +kernel
theorem dX4_look_30 : decode cX4_look 30 = .ok (.getfield 51, 3) := by decide +kernel
theorem dX4_look_33 : decode cX4_look 33 = .ok (.iload_n 1, 1) := by decide +kernel
theorem dX4_look_34 : decode cX4_look 34 = .ok (.invokevirtual 54, 3) := by decide +kernel
theorem dX4_look_37 : decode cX4_look 37 = .ok (.bipush 20, 2) := by decide +kernel
theorem dX4_look_39 : decode cX4_look 39 = .ok (.imul, 1) := by decide +kernel
theorem dX4_look_40 : decode cX4_look 40 = .ok (.aload_n 0, 1) := by decide +kernel
theorem dX4_look_41 : decode cX4_look 41 = .ok (.getfield 39, 3) := by decide +kernel
theorem dX4_look_44 : decode cX4_look 44 = .ok (.getfield 58, 3) := by decide +kernel
theorem dX4_look_47 : decode cX4_look 47 = .ok (.iload_n 1, 1) := by decide +kernel
theorem dX4_look_48 : decode cX4_look 48 = .ok (.invokevirtual 54, 3) := by decide +kernel
theorem dX4_look_51 : decode cX4_look 51 = .ok (.iadd, 1) := by decide +kernel
theorem dX4_look_52 : decode cX4_look 52 = .ok (.iload_n 1, 1) := by decide +kernel
theorem dX4_look_53 : decode cX4_look 53 = .ok (.invokevirtual 61, 3) := by decide +kernel
theorem dX4_look_56 : decode cX4_look 56 = .ok (.iinc 1 1, 3) := by decide +kernel
theorem dX4_look_59 : decode cX4_look 59 = .ok (.goto (-48), 3) := by decide +kernel
theorem dX4_look_62 : decode cX4_look 62 = .ok (.aload_n 0, 1) := by decide +kernel
theorem dX4_look_63 : decode cX4_look 63 = .ok (.iconst 0, 1) := by decide +kernel
theorem dX4_look_64 : decode cX4_look 64 = .ok (.putfield 32, 3) := by decide +kernel
theorem dX4_look_67 : decode cX4_look 67 = .ok (.iconst 0, 1) := by decide +kernel
theorem dX4_look_68 : decode cX4_look 68 = .ok (.istore_n 1, 1) := by decide +kernel
theorem dX4_look_69 : decode cX4_look 69 = .ok (.iload_n 1, 1) := by decide +kernel
theorem dX4_look_70 : decode cX4_look 70 = .ok (.aload_n 0, 1) := by decide +kernel
theorem dX4_look_71 : decode cX4_look 71 = .ok (.getfield 39, 3) := by decide +kernel
theorem dX4_look_74 : decode cX4_look 74 = .ok (.getfield 46, 3) := by decide +kernel
theorem dX4_look_77 : decode cX4_look 77 = .ok (.if_icmp .ge 62, 3) := by decide +kernel
theorem dX4_look_80 : decode cX4_look 80 = .ok (.aload_n 0, 1) := by decide +kernel
theorem dX4_look_81 : decode cX4_look 81 = .ok (.iload_n 1, 1) := by decide +kernel
theorem dX4_look_82 : decode cX4_look 82 = .ok (.invokevirtual 65, 3) := by decide +kernel
theorem dX4_look_85 : decode cX4_look 85 = .ok (.ifCond .eq 15, 3) := by decide +kernel
theorem dX4_look_88 : decode cX4_look 88 = .ok (.aload_n 0, 1) := by decide +kernel
theorem dX4_look_89 : decode cX4_look 89 = .ok (.dup, 1) := by decide +kernel
theorem dX4_look_90 : decode cX4_look 90 = .ok (.getfield 32, 3) := by decide +kernel
theorem dX4_look_93 : decode cX4_look 93 = .ok (.iconst 1, 1) := by decide +kernel
theorem dX4_look_94 : decode cX4_look 94 = .ok (.iload_n 1, 1) := by decide +kernel
theorem dX4_look_95 : decode cX4_look 95 = .ok (.ishl, 1) := by decide +kernel
theorem dX4_look_96 : decode cX4_look 96 = .ok (.ior, 1) := by decide +kernel
theorem dX4_look_97 : decode cX4_look 97 = .ok (.putfield 32, 3) := by decide +kernel
theorem dX4_look_100 : decode cX4_look 100 = .ok (.iconst 0, 1) := by decide +kernel
theorem dX4_look_101 : decode cX4_look 101 = .ok (.istore_n 2, 1) := by decide +kernel
theorem dX4_look_102 : decode cX4_look 102 = .ok (.iload_n 2, 1) := by decide +kernel
theorem dX4_look_103 : decode cX4_look 103 = .ok (.bipush 11, 2) := by decide +kernel
theorem dX4_look_105 : decode cX4_look 105 = .ok (.if_icmp .ge 28, 3) := by decide +kernel
theorem dX4_look_108 : decode cX4_look 108 = .ok (.aload_n 0, 1) := by decide +kernel
theorem dX4_look_109 : decode cX4_look 109 = .ok (.getfield 20, 3) := by decide +kernel
theorem dX4_look_112 : decode cX4_look 112 = .ok (.iload_n 1, 1) := by decide +kernel
theorem dX4_look_113 : decode cX4_look 113 = .ok (.bipush 11, 2) := by decide +kernel
theorem dX4_look_115 : decode cX4_look 115 = .ok (.imul, 1) := by decide +kernel
theorem dX4_look_116 : decode cX4_look 116 = .ok (.iload_n 2, 1) := by decide +kernel
theorem dX4_look_117 : decode cX4_look 117 = .ok (.iadd, 1) := by decide +kernel
theorem dX4_look_118 : decode cX4_look 118 = .ok (.aload_n 0, 1) := by decide +kernel
theorem dX4_look_119 : decode cX4_look 119 = .ok (.iload_n 1, 1) := by decide +kernel
theorem dX4_look_120 : decode cX4_look 120 = .ok (.iload_n 2, 1) := by decide +kernel
theorem dX4_look_121 : decode cX4_look 121 = .ok (.invokevirtual 69, 3) := by decide +kernel
theorem dX4_look_124 : decode cX4_look 124 = .ok (.invokevirtual 61, 3) := by decide +kernel
theorem dX4_look_127 : decode cX4_look 127 = .ok (.iinc 2 1, 3) := by decide +kernel
theorem dX4_look_130 : decode cX4_look 130 = .ok (.goto (-28), 3) := by decide +kernel
theorem dX4_look_133 : decode cX4_look 133 = .ok (.iinc 1 1, 3) := by decide +kernel
theorem dX4_look_136 : decode cX4_look 136 = .ok (.goto (-67), 3) := by decide +kernel
theorem dX4_look_139 : decode cX4_look 139 = .ok (.return_, 1) := by decide +kernel
theorem dX4_hasBlocker_0 : decode cX4_hasBlocker 0 = .ok (.aload_n 0, 1) := by decide +kernel
theorem dX4_hasBlocker_1 : decode cX4_hasBlocker 1 = .ok (.getfield 39, 3) := by decide +kernel
theorem dX4_hasBlocker_4 : decode cX4_hasBlocker 4 = .ok (.getfield 51, 3) := by decide +kernel
theorem dX4_hasBlocker_7 : decode cX4_hasBlocker 7 = .ok (.iload_n 1, 1) := by decide +kernel
theorem dX4_hasBlocker_8 : decode cX4_hasBlocker 8 = .ok (.invokevirtual 54, 3) := by decide +kernel
theorem dX4_hasBlocker_11 : decode cX4_hasBlocker 11 = .ok (.istore_n 2, 1) := by decide +kernel
theorem dX4_hasBlocker_12 : decode cX4_hasBlocker 12 = .ok (.aload_n 0, 1) := by decide +kernel
theorem dX4_hasBlocker_13 : decode cX4_hasBlocker 13 = .ok (.getfield 39, 3) := by decide +kernel
theorem dX4_hasBlocker_16 : decode cX4_hasBlocker 16 = .ok (.getfield 58, 3) := by decide +kernel
theorem dX4_hasBlocker_19 : decode cX4_hasBlocker 19 = .ok (.iload_n 1, 1) := by decide +kernel
theorem dX4_hasBlocker_20 : decode cX4_hasBlocker 20 = .ok (.invokevirtual 54, 3) := by decide +kernel
theorem dX4_hasBlocker_23 : decode cX4_hasBlocker 23 = .ok (.istore_n 3, 1) := by decide +kernel
theorem dX4_hasBlocker_24 : decode cX4_hasBlocker 24 = .ok (.iload_n 2, 1) := by decide +kernel
theorem dX4_hasBlocker_25 : decode cX4_hasBlocker 25 = .ok (.bipush (-2), 2) := by decide +kernel
theorem dX4_hasBlocker_27 : decode cX4_hasBlocker 27 = .ok (.isub, 1) := by decide +kernel
theorem dX4_hasBlocker_28 : decode cX4_hasBlocker 28 = .ok (.istore 4, 2) := by decide +kernel
theorem dX4_hasBlocker_30 : decode cX4_hasBlocker 30 = .ok (.iconst 1, 1) := by decide +kernel
theorem dX4_hasBlocker_31 : decode cX4_hasBlocker 31 = .ok (.istore 5, 2) := by decide +kernel
theorem dX4_hasBlocker_33 : decode cX4_hasBlocker 33 = .ok (.iload 5, 2) := by decide +kernel
theorem dX4_hasBlocker_35 : decode cX4_hasBlocker 35 = .ok (.iconst 4, 1) := by decide +kernel
theorem dX4_hasBlocker_36 : decode cX4_hasBlocker 36 = .ok (.if_icmp .gt 55, 3) := by decide +kernel
theorem dX4_hasBlocker_39 : decode cX4_hasBlocker 39 = .ok (.iload 5, 2) := by decide +kernel
theorem dX4_hasBlocker_41 : decode cX4_hasBlocker 41 = .ok (.iload 4, 2) := by decide +kernel
theorem dX4_hasBlocker_43 : decode cX4_hasBlocker 43 = .ok (.if_icmp .ge 48, 3) := by decide +kernel
theorem dX4_hasBlocker_46 : decode cX4_hasBlocker 46 = .ok (.bipush 10, 2) := by decide +kernel
theorem dX4_hasBlocker_48 : decode cX4_hasBlocker 48 = .ok (.iload_n 3, 1) := by decide +kernel
theorem dX4_hasBlocker_49 : decode cX4_hasBlocker 49 = .ok (.isub, 1) := by decide +kernel
theorem dX4_hasBlocker_50 : decode cX4_hasBlocker 50 = .ok (.iload 5, 2) := by decide +kernel
theorem dX4_hasBlocker_52 : decode cX4_hasBlocker 52 = .ok (.imul, 1) := by decide +kernel
theorem dX4_hasBlocker_53 : decode cX4_hasBlocker 53 = .ok (.istore 6, 2) := by decide +kernel
theorem dX4_hasBlocker_55 : decode cX4_hasBlocker 55 = .ok (.iload 6, 2) := by decide +kernel
theorem dX4_hasBlocker_57 : decode cX4_hasBlocker 57 = .ok (.iload 4, 2) := by decide +kernel
theorem dX4_hasBlocker_59 : decode cX4_hasBlocker 59 = .ok (.irem, 1) := by decide +kernel
theorem dX4_hasBlocker_60 : decode cX4_hasBlocker 60 = .ok (.ifCond .ne 25, 3) := by decide +kernel
theorem dX4_hasBlocker_63 : decode cX4_hasBlocker 63 = .ok (.aload_n 0, 1) := by decide +kernel
theorem dX4_hasBlocker_64 : decode cX4_hasBlocker 64 = .ok (.iload_n 2, 1) := by decide +kernel
theorem dX4_hasBlocker_65 : decode cX4_hasBlocker 65 = .ok (.iload 5, 2) := by decide +kernel
theorem dX4_hasBlocker_67 : decode cX4_hasBlocker 67 = .ok (.isub, 1) := by decide +kernel
theorem dX4_hasBlocker_68 : decode cX4_hasBlocker 68 = .ok (.iload_n 3, 1) := by decide +kernel
theorem dX4_hasBlocker_69 : decode cX4_hasBlocker 69 = .ok (.iload 6, 2) := by decide +kernel
theorem dX4_hasBlocker_71 : decode cX4_hasBlocker 71 = .ok (.iload 4, 2) := by decide +kernel
theorem dX4_hasBlocker_73 : decode cX4_hasBlocker 73 = .ok (.idiv, 1) := by decide +kernel
theorem dX4_hasBlocker_74 : decode cX4_hasBlocker 74 = .ok (.iadd, 1) := by decide +kernel
theorem dX4_hasBlocker_75 : decode cX4_hasBlocker 75 = .ok (.invokevirtual 73, 3) := by decide +kernel
theorem dX4_hasBlocker_78 : decode cX4_hasBlocker 78 = .ok (.bipush (-6), 2) := by decide +kernel
theorem dX4_hasBlocker_80 : decode cX4_hasBlocker 80 = .ok (.if_icmp .eq 5, 3) := by decide +kernel
theorem dX4_hasBlocker_83 : decode cX4_hasBlocker 83 = .ok (.iconst 1, 1) := by decide +kernel
theorem dX4_hasBlocker_84 : decode cX4_hasBlocker 84 = .ok (.ireturn, 1) := by decide +kernel
theorem dX4_hasBlocker_85 : decode cX4_hasBlocker 85 = .ok (.iinc 5 1, 3) := by decide +kernel
theorem dX4_hasBlocker_88 : decode cX4_hasBlocker 88 = .ok (.goto (-55), 3) := by decide +kernel
theorem dX4_hasBlocker_91 : decode cX4_hasBlocker 91 = .ok (.iconst 0, 1) := by decide +kernel
theorem dX4_hasBlocker_92 : decode cX4_hasBlocker 92 = .ok (.ireturn, 1) := by decide +kernel
theorem dX4_nearestShader_0 : decode cX4_nearestShader 0 = .ok (.aload_n 0, 1) := by decide +kernel
theorem dX4_nearestShader_1 : decode cX4_nearestShader 1 = .ok (.getfield 39, 3) := by decide +kernel
theorem dX4_nearestShader_4 : decode cX4_nearestShader 4 = .ok (.getfield 51, 3) := by decide +kernel
theorem dX4_nearestShader_7 : decode cX4_nearestShader 7 = .ok (.iload_n 1, 1) := by decide +kernel
theorem dX4_nearestShader_8 : decode cX4_nearestShader 8 = .ok (.invokevirtual 54, 3) := by decide +kernel
theorem dX4_nearestShader_11 : decode cX4_nearestShader 11 = .ok (.istore_n 3, 1) := by decide +kernel
theorem dX4_nearestShader_12 : decode cX4_nearestShader 12 = .ok (.aload_n 0, 1) := by decide +kernel
theorem dX4_nearestShader_13 : decode cX4_nearestShader 13 = .ok (.getfield 39, 3) := by decide +kernel
theorem dX4_nearestShader_16 : decode cX4_nearestShader 16 = .ok (.getfield 58, 3) := by decide +kernel
theorem dX4_nearestShader_19 : decode cX4_nearestShader 19 = .ok (.iload_n 1, 1) := by decide +kernel
theorem dX4_nearestShader_20 : decode cX4_nearestShader 20 = .ok (.invokevirtual 54, 3) := by decide +kernel
theorem dX4_nearestShader_23 : decode cX4_nearestShader 23 = .ok (.istore 4, 2) := by decide +kernel
theorem dX4_nearestShader_25 : decode cX4_nearestShader 25 = .ok (.iload_n 2, 1) := by decide +kernel
theorem dX4_nearestShader_26 : decode cX4_nearestShader 26 = .ok (.invokestatic 76, 3) := by decide +kernel
theorem dX4_nearestShader_29 : decode cX4_nearestShader 29 = .ok (.istore 5, 2) := by decide +kernel
theorem dX4_nearestShader_31 : decode cX4_nearestShader 31 = .ok (.iconst 1, 1) := by decide +kernel
theorem dX4_nearestShader_32 : decode cX4_nearestShader 32 = .ok (.istore 6, 2) := by decide +kernel
theorem dX4_nearestShader_34 : decode cX4_nearestShader 34 = .ok (.iload 6, 2) := by decide +kernel
theorem dX4_nearestShader_36 : decode cX4_nearestShader 36 = .ok (.bipush 6, 2) := by decide +kernel
theorem dX4_nearestShader_38 : decode cX4_nearestShader 38 = .ok (.if_icmp .gt 49, 3) := by decide +kernel
theorem dX4_nearestShader_41 : decode cX4_nearestShader 41 = .ok (.iload 6, 2) := by decide +kernel
theorem dX4_nearestShader_43 : decode cX4_nearestShader 43 = .ok (.iload 5, 2) := by decide +kernel
theorem dX4_nearestShader_45 : decode cX4_nearestShader 45 = .ok (.imul, 1) := by decide +kernel
theorem dX4_nearestShader_46 : decode cX4_nearestShader 46 = .ok (.bipush 6, 2) := by decide +kernel
theorem dX4_nearestShader_48 : decode cX4_nearestShader 48 = .ok (.if_icmp .gt 39, 3) := by decide +kernel
theorem dX4_nearestShader_51 : decode cX4_nearestShader 51 = .ok (.aload_n 0, 1) := by decide +kernel
theorem dX4_nearestShader_52 : decode cX4_nearestShader 52 = .ok (.iload_n 3, 1) := by decide +kernel
theorem dX4_nearestShader_53 : decode cX4_nearestShader 53 = .ok (.iload 6, 2) := by decide +kernel
theorem dX4_nearestShader_55 : decode cX4_nearestShader 55 = .ok (.isub, 1) := by decide +kernel
theorem dX4_nearestShader_56 : decode cX4_nearestShader 56 = .ok (.iload 4, 2) := by decide +kernel
theorem dX4_nearestShader_58 : decode cX4_nearestShader 58 = .ok (.iload 6, 2) := by decide +kernel
theorem dX4_nearestShader_60 : decode cX4_nearestShader 60 = .ok (.iload_n 2, 1) := by decide +kernel
theorem dX4_nearestShader_61 : decode cX4_nearestShader 61 = .ok (.invokestatic 81, 3) := by decide +kernel
theorem dX4_nearestShader_64 : decode cX4_nearestShader 64 = .ok (.imul, 1) := by decide +kernel
theorem dX4_nearestShader_65 : decode cX4_nearestShader 65 = .ok (.iadd, 1) := by decide +kernel
theorem dX4_nearestShader_66 : decode cX4_nearestShader 66 = .ok (.invokevirtual 73, 3) := by decide +kernel
theorem dX4_nearestShader_69 : decode cX4_nearestShader 69 = .ok (.istore 7, 2) := by decide +kernel
theorem dX4_nearestShader_71 : decode cX4_nearestShader 71 = .ok (.iload 7, 2) := by decide +kernel
theorem dX4_nearestShader_73 : decode cX4_nearestShader 73 = .ok (.bipush (-6), 2) := by decide +kernel
theorem dX4_nearestShader_75 : decode cX4_nearestShader 75 = .ok (.if_icmp .eq 6, 3) := by decide +kernel
theorem dX4_nearestShader_78 : decode cX4_nearestShader 78 = .ok (.iload 7, 2) := by decide +kernel
theorem dX4_nearestShader_80 : decode cX4_nearestShader 80 = .ok (.ireturn, 1) := by decide +kernel
theorem dX4_nearestShader_81 : decode cX4_nearestShader 81 = .ok (.iinc 6 1, 3) := by decide +kernel
theorem dX4_nearestShader_84 : decode cX4_nearestShader 84 = .ok (.goto (-50), 3) := by decide +kernel
theorem dX4_nearestShader_87 : decode cX4_nearestShader 87 = .ok (.bipush (-6), 2) := by decide +kernel
theorem dX4_nearestShader_89 : decode cX4_nearestShader 89 = .ok (.ireturn, 1) := by decide +kernel
theorem dX4_inPlace_0 : decode cX4_inPlace 0 = .ok (.iload_n 1, 1) := by decide +kernel
theorem dX4_inPlace_1 : decode cX4_inPlace 1 = .ok (.iload_n 2, 1) := by decide +kernel
theorem dX4_inPlace_2 : decode cX4_inPlace 2 = .ok (.invokestatic 83, 3) := by decide +kernel
theorem dX4_inPlace_5 : decode cX4_inPlace 5 = .ok (.ifCond .eq 19, 3) := by decide +kernel
theorem dX4_inPlace_8 : decode cX4_inPlace 8 = .ok (.aload_n 0, 1) := by decide +kernel
theorem dX4_inPlace_9 : decode cX4_inPlace 9 = .ok (.getfield 14, 3) := by decide +kernel
theorem dX4_inPlace_12 : decode cX4_inPlace 12 = .ok (.iload_n 1, 1) := by decide +kernel
theorem dX4_inPlace_13 : decode cX4_inPlace 13 = .ok (.bipush 20, 2) := by decide +kernel
theorem dX4_inPlace_15 : decode cX4_inPlace 15 = .ok (.imul, 1) := by decide +kernel
theorem dX4_inPlace_16 : decode cX4_inPlace 16 = .ok (.iload_n 2, 1) := by decide +kernel
theorem dX4_inPlace_17 : decode cX4_inPlace 17 = .ok (.iadd, 1) := by decide +kernel
theorem dX4_inPlace_18 : decode cX4_inPlace 18 = .ok (.invokevirtual 54, 3) := by decide +kernel
theorem dX4_inPlace_21 : decode cX4_inPlace 21 = .ok (.goto 5, 3) := by decide +kernel
theorem dX4_inPlace_24 : decode cX4_inPlace 24 = .ok (.bipush (-6), 2) := by decide +kernel
theorem dX4_inPlace_26 : decode cX4_inPlace 26 = .ok (.ireturn, 1) := by decide +kernel
theorem dX4_work_0 : decode cX4_work 0 = .ok (.aload_n 0, 1) := by decide +kernel
theorem dX4_work_1 : decode cX4_work 1 = .ok (.getfield 39, 3) := by decide +kernel
theorem dX4_work_4 : decode cX4_work 4 = .ok (.getfield 46, 3) := by decide +kernel
theorem dX4_work_7 : decode cX4_work 7 = .ok (.istore_n 2, 1) := by decide +kernel
theorem dX4_work_8 : decode cX4_work 8 = .ok (.aload_n 0, 1) := by decide +kernel
theorem dX4_work_9 : decode cX4_work 9 = .ok (.getfield 39, 3) := by decide +kernel
theorem dX4_work_12 : decode cX4_work 12 = .ok (.invokevirtual 87, 3) := by decide +kernel
theorem dX4_work_15 : decode cX4_work 15 = .ok (.istore_n 3, 1) := by decide +kernel
theorem dX4_work_16 : decode cX4_work 16 = .ok (.iconst 0, 1) := by decide +kernel
theorem dX4_work_17 : decode cX4_work 17 = .ok (.istore 4, 2) := by decide +kernel
theorem dX4_work_19 : decode cX4_work 19 = .ok (.iload 4, 2) := by decide +kernel
theorem dX4_work_21 : decode cX4_work 21 = .ok (.iload_n 2, 1) := by decide +kernel
theorem dX4_work_22 : decode cX4_work 22 = .ok (.if_icmp .ge 39, 3) := by decide +kernel
theorem dX4_work_25 : decode cX4_work 25 = .ok (.aload_n 0, 1) := by decide +kernel
theorem dX4_work_26 : decode cX4_work 26 = .ok (.getfield 23, 3) := by decide +kernel
theorem dX4_work_29 : decode cX4_work 29 = .ok (.iload 4, 2) := by decide +kernel
theorem dX4_work_31 : decode cX4_work 31 = .ok (.iload_n 3, 1) := by decide +kernel
theorem dX4_work_32 : decode cX4_work 32 = .ok (.ifCond .eq 7, 3) := by decide +kernel
theorem dX4_work_35 : decode cX4_work 35 = .ok (.iconst 0, 1) := by decide +kernel
theorem dX4_work_36 : decode cX4_work 36 = .ok (.goto 10, 3) := by decide +kernel
theorem dX4_work_39 : decode cX4_work 39 = .ok (.aload_n 0, 1) := by decide +kernel
theorem dX4_work_40 : decode cX4_work 40 = .ok (.iload 4, 2) := by decide +kernel
theorem dX4_work_42 : decode cX4_work 42 = .ok (.iload_n 1, 1) := by decide +kernel
theorem dX4_work_43 : decode cX4_work 43 = .ok (.invokevirtual 91, 3) := by decide +kernel
theorem dX4_work_46 : decode cX4_work 46 = .ok (.invokevirtual 61, 3) := by decide +kernel
theorem dX4_work_49 : decode cX4_work 49 = .ok (.aload_n 0, 1) := by decide +kernel
theorem dX4_work_50 : decode cX4_work 50 = .ok (.iload 4, 2) := by decide +kernel
theorem dX4_work_52 : decode cX4_work 52 = .ok (.invokevirtual 94, 3) := by decide +kernel
theorem dX4_work_55 : decode cX4_work 55 = .ok (.iinc 4 1, 3) := by decide +kernel
theorem dX4_work_58 : decode cX4_work 58 = .ok (.goto (-39), 3) := by decide +kernel
theorem dX4_work_61 : decode cX4_work 61 = .ok (.aload_n 0, 1) := by decide +kernel
theorem dX4_work_62 : decode cX4_work 62 = .ok (.getfield 29, 3) := by decide +kernel
theorem dX4_work_65 : decode cX4_work 65 = .ok (.iconst 0, 1) := by decide +kernel
theorem dX4_work_66 : decode cX4_work 66 = .ok (.invokevirtual 43, 3) := by decide +kernel
theorem dX4_work_69 : decode cX4_work 69 = .ok (.aload_n 0, 1) := by decide +kernel
theorem dX4_work_70 : decode cX4_work 70 = .ok (.iconst 0, 1) := by decide +kernel
theorem dX4_work_71 : decode cX4_work 71 = .ok (.putfield 36, 3) := by decide +kernel
theorem dX4_work_74 : decode cX4_work 74 = .ok (.iconst 0, 1) := by decide +kernel
theorem dX4_work_75 : decode cX4_work 75 = .ok (.istore 4, 2) := by decide +kernel
theorem dX4_work_77 : decode cX4_work 77 = .ok (.iconst 0, 1) := by decide +kernel
theorem dX4_work_78 : decode cX4_work 78 = .ok (.istore 5, 2) := by decide +kernel
theorem dX4_work_80 : decode cX4_work 80 = .ok (.iload 5, 2) := by decide +kernel
theorem dX4_work_82 : decode cX4_work 82 = .ok (.iload_n 2, 1) := by decide +kernel
theorem dX4_work_83 : decode cX4_work 83 = .ok (.if_icmp .ge 27, 3) := by decide +kernel
theorem dX4_work_86 : decode cX4_work 86 = .ok (.iload 4, 2) := by decide +kernel
theorem dX4_work_88 : decode cX4_work 88 = .ok (.aload_n 0, 1) := by decide +kernel
theorem dX4_work_89 : decode cX4_work 89 = .ok (.aload_n 0, 1) := by decide +kernel
theorem dX4_work_90 : decode cX4_work 90 = .ok (.getfield 26, 3) := by decide +kernel
theorem dX4_work_93 : decode cX4_work 93 = .ok (.iload 5, 2) := by decide +kernel
theorem dX4_work_95 : decode cX4_work 95 = .ok (.invokevirtual 54, 3) := by decide +kernel
theorem dX4_work_98 : decode cX4_work 98 = .ok (.invokevirtual 97, 3) := by decide +kernel
theorem dX4_work_101 : decode cX4_work 101 = .ok (.iadd, 1) := by decide +kernel
theorem dX4_work_102 : decode cX4_work 102 = .ok (.istore 4, 2) := by decide +kernel
theorem dX4_work_104 : decode cX4_work 104 = .ok (.iinc 5 1, 3) := by decide +kernel
theorem dX4_work_107 : decode cX4_work 107 = .ok (.goto (-27), 3) := by decide +kernel
theorem dX4_work_110 : decode cX4_work 110 = .ok (.iload 4, 2) := by decide +kernel
theorem dX4_work_112 : decode cX4_work 112 = .ok (.ireturn, 1) := by decide +kernel
theorem dX4_gift_0 : decode cX4_gift 0 = .ok (.bipush 20, 2) := by decide +kernel
theorem dX4_gift_2 : decode cX4_gift 2 = .ok (.aload_n 0, 1) := by decide +kernel
theorem dX4_gift_3 : decode cX4_gift 3 = .ok (.getfield 39, 3) := by decide +kernel
theorem dX4_gift_6 : decode cX4_gift 6 = .ok (.getfield 51, 3) := by decide +kernel
theorem dX4_gift_9 : decode cX4_gift 9 = .ok (.iload_n 1, 1) := by decide +kernel
theorem dX4_gift_10 : decode cX4_gift 10 = .ok (.invokevirtual 54, 3) := by decide +kernel
theorem dX4_gift_13 : decode cX4_gift 13 = .ok (.iadd, 1) := by decide +kernel
theorem dX4_gift_14 : decode cX4_gift 14 = .ok (.istore_n 3, 1) := by decide +kernel
theorem dX4_gift_15 : decode cX4_gift 15 = .ok (.aload_n 0, 1) := by decide +kernel
theorem dX4_gift_16 : decode cX4_gift 16 = .ok (.iload_n 1, 1) := by decide +kernel
theorem dX4_gift_17 : decode cX4_gift 17 = .ok (.invokevirtual 100, 3) := by decide +kernel
theorem dX4_gift_20 : decode cX4_gift 20 = .ok (.ifCond .ne 18, 3) := by decide +kernel
theorem dX4_gift_23 : decode cX4_gift 23 = .ok (.aload_n 0, 1) := by decide +kernel
theorem dX4_gift_24 : decode cX4_gift 24 = .ok (.iload_n 1, 1) := by decide +kernel
theorem dX4_gift_25 : decode cX4_gift 25 = .ok (.iload_n 2, 1) := by decide +kernel
theorem dX4_gift_26 : decode cX4_gift 26 = .ok (.invokevirtual 103, 3) := by decide +kernel
theorem dX4_gift_29 : decode cX4_gift 29 = .ok (.bipush (-6), 2) := by decide +kernel
theorem dX4_gift_31 : decode cX4_gift 31 = .ok (.if_icmp .ne 7, 3) := by decide +kernel
theorem dX4_gift_34 : decode cX4_gift 34 = .ok (.iload_n 3, 1) := by decide +kernel
theorem dX4_gift_35 : decode cX4_gift 35 = .ok (.ifCond .gt 5, 3) := by decide +kernel
theorem dX4_gift_38 : decode cX4_gift 38 = .ok (.iconst 0, 1) := by decide +kernel
theorem dX4_gift_39 : decode cX4_gift 39 = .ok (.ireturn, 1) := by decide +kernel
theorem dX4_gift_40 : decode cX4_gift 40 = .ok (.bipush 100, 2) := by decide +kernel
theorem dX4_gift_42 : decode cX4_gift 42 = .ok (.aload_n 0, 1) := by decide +kernel
theorem dX4_gift_43 : decode cX4_gift 43 = .ok (.getfield 39, 3) := by decide +kernel
theorem dX4_gift_46 : decode cX4_gift 46 = .ok (.getfield 106, 3) := by decide +kernel
theorem dX4_gift_49 : decode cX4_gift 49 = .ok (.iload_n 1, 1) := by decide +kernel
theorem dX4_gift_50 : decode cX4_gift 50 = .ok (.invokevirtual 54, 3) := by decide +kernel
theorem dX4_gift_53 : decode cX4_gift 53 = .ok (.isub, 1) := by decide +kernel
theorem dX4_gift_54 : decode cX4_gift 54 = .ok (.iload_n 2, 1) := by decide +kernel
theorem dX4_gift_55 : decode cX4_gift 55 = .ok (.invokestatic 76, 3) := by decide +kernel
theorem dX4_gift_58 : decode cX4_gift 58 = .ok (.imul, 1) := by decide +kernel
theorem dX4_gift_59 : decode cX4_gift 59 = .ok (.bipush 20, 2) := by decide +kernel
theorem dX4_gift_61 : decode cX4_gift 61 = .ok (.imul, 1) := by decide +kernel
theorem dX4_gift_62 : decode cX4_gift 62 = .ok (.iload_n 3, 1) := by decide +kernel
theorem dX4_gift_63 : decode cX4_gift 63 = .ok (.idiv, 1) := by decide +kernel
theorem dX4_gift_64 : decode cX4_gift 64 = .ok (.bipush 10, 2) := by decide +kernel
theorem dX4_gift_66 : decode cX4_gift 66 = .ok (.idiv, 1) := by decide +kernel
theorem dX4_gift_67 : decode cX4_gift 67 = .ok (.ireturn, 1) := by decide +kernel
theorem dX4_putInOrder_0 : decode cX4_putInOrder 0 = .ok (.iload_n 1, 1) := by decide +kernel
theorem dX4_putInOrder_1 : decode cX4_putInOrder 1 = .ok (.istore_n 2, 1) := by decide +kernel
theorem dX4_putInOrder_2 : decode cX4_putInOrder 2 = .ok (.iload_n 2, 1) := by decide +kernel
theorem dX4_putInOrder_3 : decode cX4_putInOrder 3 = .ok (.ifCond .le 55, 3) := by decide +kernel
theorem dX4_putInOrder_6 : decode cX4_putInOrder 6 = .ok (.aload_n 0, 1) := by decide +kernel
theorem dX4_putInOrder_7 : decode cX4_putInOrder 7 = .ok (.getfield 23, 3) := by decide +kernel
theorem dX4_putInOrder_10 : decode cX4_putInOrder 10 = .ok (.aload_n 0, 1) := by decide +kernel
theorem dX4_putInOrder_11 : decode cX4_putInOrder 11 = .ok (.getfield 26, 3) := by decide +kernel
theorem dX4_putInOrder_14 : decode cX4_putInOrder 14 = .ok (.iload_n 2, 1) := by decide +kernel
theorem dX4_putInOrder_15 : decode cX4_putInOrder 15 = .ok (.iconst 1, 1) := by decide +kernel
theorem dX4_putInOrder_16 : decode cX4_putInOrder 16 = .ok (.isub, 1) := by decide +kernel
theorem dX4_putInOrder_17 : decode cX4_putInOrder 17 = .ok (.invokevirtual 54, 3) := by decide +kernel
theorem dX4_putInOrder_20 : decode cX4_putInOrder 20 = .ok (.invokevirtual 54, 3) := by decide +kernel
theorem dX4_putInOrder_23 : decode cX4_putInOrder 23 = .ok (.aload_n 0, 1) := by decide +kernel
theorem dX4_putInOrder_24 : decode cX4_putInOrder 24 = .ok (.getfield 23, 3) := by decide +kernel
theorem dX4_putInOrder_27 : decode cX4_putInOrder 27 = .ok (.iload_n 1, 1) := by decide +kernel
theorem dX4_putInOrder_28 : decode cX4_putInOrder 28 = .ok (.invokevirtual 54, 3) := by decide +kernel
theorem dX4_putInOrder_31 : decode cX4_putInOrder 31 = .ok (.if_icmp .ge 27, 3) := by decide +kernel
theorem dX4_putInOrder_34 : decode cX4_putInOrder 34 = .ok (.aload_n 0, 1) := by decide +kernel
theorem dX4_putInOrder_35 : decode cX4_putInOrder 35 = .ok (.getfield 26, 3) := by decide +kernel
theorem dX4_putInOrder_38 : decode cX4_putInOrder 38 = .ok (.iload_n 2, 1) := by decide +kernel
theorem dX4_putInOrder_39 : decode cX4_putInOrder 39 = .ok (.aload_n 0, 1) := by decide +kernel
theorem dX4_putInOrder_40 : decode cX4_putInOrder 40 = .ok (.getfield 26, 3) := by decide +kernel
theorem dX4_putInOrder_43 : decode cX4_putInOrder 43 = .ok (.iload_n 2, 1) := by decide +kernel
theorem dX4_putInOrder_44 : decode cX4_putInOrder 44 = .ok (.iconst 1, 1) := by decide +kernel
theorem dX4_putInOrder_45 : decode cX4_putInOrder 45 = .ok (.isub, 1) := by decide +kernel
theorem dX4_putInOrder_46 : decode cX4_putInOrder 46 = .ok (.invokevirtual 54, 3) := by decide +kernel
theorem dX4_putInOrder_49 : decode cX4_putInOrder 49 = .ok (.invokevirtual 61, 3) := by decide +kernel
theorem dX4_putInOrder_52 : decode cX4_putInOrder 52 = .ok (.iinc 2 (-1), 3) := by decide +kernel
theorem dX4_putInOrder_55 : decode cX4_putInOrder 55 = .ok (.goto (-53), 3) := by decide +kernel
theorem dX4_putInOrder_58 : decode cX4_putInOrder 58 = .ok (.aload_n 0, 1) := by decide +kernel
theorem dX4_putInOrder_59 : decode cX4_putInOrder 59 = .ok (.getfield 26, 3) := by decide +kernel
theorem dX4_putInOrder_62 : decode cX4_putInOrder 62 = .ok (.iload_n 2, 1) := by decide +kernel
theorem dX4_putInOrder_63 : decode cX4_putInOrder 63 = .ok (.iload_n 1, 1) := by decide +kernel
theorem dX4_putInOrder_64 : decode cX4_putInOrder 64 = .ok (.invokevirtual 61, 3) := by decide +kernel
theorem dX4_putInOrder_67 : decode cX4_putInOrder 67 = .ok (.return_, 1) := by decide +kernel
theorem dX4_useIfBearable_0 : decode cX4_useIfBearable 0 = .ok (.aload_n 0, 1) := by decide +kernel
theorem dX4_useIfBearable_1 : decode cX4_useIfBearable 1 = .ok (.getfield 39, 3) := by decide +kernel
theorem dX4_useIfBearable_4 : decode cX4_useIfBearable 4 = .ok (.getfield 109, 3) := by decide +kernel
theorem dX4_useIfBearable_7 : decode cX4_useIfBearable 7 = .ok (.iload_n 1, 1) := by decide +kernel
theorem dX4_useIfBearable_8 : decode cX4_useIfBearable 8 = .ok (.invokevirtual 54, 3) := by decide +kernel
theorem dX4_useIfBearable_11 : decode cX4_useIfBearable 11 = .ok (.istore_n 2, 1) := by decide +kernel
theorem dX4_useIfBearable_12 : decode cX4_useIfBearable 12 = .ok (.aload_n 0, 1) := by decide +kernel
theorem dX4_useIfBearable_13 : decode cX4_useIfBearable 13 = .ok (.getfield 29, 3) := by decide +kernel
theorem dX4_useIfBearable_16 : decode cX4_useIfBearable 16 = .ok (.iload_n 2, 1) := by decide +kernel
theorem dX4_useIfBearable_17 : decode cX4_useIfBearable 17 = .ok (.invokevirtual 54, 3) := by decide +kernel
theorem dX4_useIfBearable_20 : decode cX4_useIfBearable 20 = .ok (.aload_n 0, 1) := by decide +kernel
theorem dX4_useIfBearable_21 : decode cX4_useIfBearable 21 = .ok (.getfield 23, 3) := by decide +kernel
theorem dX4_useIfBearable_24 : decode cX4_useIfBearable 24 = .ok (.iload_n 1, 1) := by decide +kernel
theorem dX4_useIfBearable_25 : decode cX4_useIfBearable 25 = .ok (.invokevirtual 54, 3) := by decide +kernel
theorem dX4_useIfBearable_28 : decode cX4_useIfBearable 28 = .ok (.iadd, 1) := by decide +kernel
theorem dX4_useIfBearable_29 : decode cX4_useIfBearable 29 = .ok (.istore_n 3, 1) := by decide +kernel
theorem dX4_useIfBearable_30 : decode cX4_useIfBearable 30 = .ok (.iload_n 3, 1) := by decide +kernel
theorem dX4_useIfBearable_31 : decode cX4_useIfBearable 31 = .ok (.aload_n 0, 1) := by decide +kernel
theorem dX4_useIfBearable_32 : decode cX4_useIfBearable 32 = .ok (.getfield 39, 3) := by decide +kernel
theorem dX4_useIfBearable_35 : decode cX4_useIfBearable 35 = .ok (.getfield 112, 3) := by decide +kernel
theorem dX4_useIfBearable_38 : decode cX4_useIfBearable 38 = .ok (.iconst 0, 1) := by decide +kernel
theorem dX4_useIfBearable_39 : decode cX4_useIfBearable 39 = .ok (.invokevirtual 54, 3) := by decide +kernel
theorem dX4_useIfBearable_42 : decode cX4_useIfBearable 42 = .ok (.if_icmp .le 5, 3) := by decide +kernel
theorem dX4_useIfBearable_45 : decode cX4_useIfBearable 45 = .ok (.iconst 0, 1) := by decide +kernel
theorem dX4_useIfBearable_46 : decode cX4_useIfBearable 46 = .ok (.ireturn, 1) := by decide +kernel
theorem dX4_useIfBearable_47 : decode cX4_useIfBearable 47 = .ok (.aload_n 0, 1) := by decide +kernel
theorem dX4_useIfBearable_48 : decode cX4_useIfBearable 48 = .ok (.getfield 29, 3) := by decide +kernel
theorem dX4_useIfBearable_51 : decode cX4_useIfBearable 51 = .ok (.iload_n 2, 1) := by decide +kernel
theorem dX4_useIfBearable_52 : decode cX4_useIfBearable 52 = .ok (.iload_n 3, 1) := by decide +kernel
theorem dX4_useIfBearable_53 : decode cX4_useIfBearable 53 = .ok (.invokevirtual 61, 3) := by decide +kernel
theorem dX4_useIfBearable_56 : decode cX4_useIfBearable 56 = .ok (.aload_n 0, 1) := by decide +kernel
theorem dX4_useIfBearable_57 : decode cX4_useIfBearable 57 = .ok (.dup, 1) := by decide +kernel
theorem dX4_useIfBearable_58 : decode cX4_useIfBearable 58 = .ok (.getfield 36, 3) := by decide +kernel
theorem dX4_useIfBearable_61 : decode cX4_useIfBearable 61 = .ok (.iconst 1, 1) := by decide +kernel
theorem dX4_useIfBearable_62 : decode cX4_useIfBearable 62 = .ok (.iload_n 1, 1) := by decide +kernel
theorem dX4_useIfBearable_63 : decode cX4_useIfBearable 63 = .ok (.ishl, 1) := by decide +kernel
theorem dX4_useIfBearable_64 : decode cX4_useIfBearable 64 = .ok (.ior, 1) := by decide +kernel
theorem dX4_useIfBearable_65 : decode cX4_useIfBearable 65 = .ok (.putfield 36, 3) := by decide +kernel
theorem dX4_useIfBearable_68 : decode cX4_useIfBearable 68 = .ok (.aload_n 0, 1) := by decide +kernel
theorem dX4_useIfBearable_69 : decode cX4_useIfBearable 69 = .ok (.getfield 23, 3) := by decide +kernel
theorem dX4_useIfBearable_72 : decode cX4_useIfBearable 72 = .ok (.iload_n 1, 1) := by decide +kernel
theorem dX4_useIfBearable_73 : decode cX4_useIfBearable 73 = .ok (.invokevirtual 54, 3) := by decide +kernel
theorem dX4_useIfBearable_76 : decode cX4_useIfBearable 76 = .ok (.ireturn, 1) := by decide +kernel
theorem dX4_day_0 : decode cX4_day 0 = .ok (.iconst 0, 1) := by decide +kernel
theorem dX4_day_1 : decode cX4_day 1 = .ok (.istore_n 1, 1) := by decide +kernel
theorem dX4_day_2 : decode cX4_day 2 = .ok (.iconst 0, 1) := by decide +kernel
theorem dX4_day_3 : decode cX4_day 3 = .ok (.istore_n 2, 1) := by decide +kernel
theorem dX4_day_4 : decode cX4_day 4 = .ok (.iload_n 2, 1) := by decide +kernel
theorem dX4_day_5 : decode cX4_day 5 = .ok (.bipush 11, 2) := by decide +kernel
theorem dX4_day_7 : decode cX4_day 7 = .ok (.if_icmp .ge 17, 3) := by decide +kernel
theorem dX4_day_10 : decode cX4_day 10 = .ok (.iload_n 1, 1) := by decide +kernel
theorem dX4_day_11 : decode cX4_day 11 = .ok (.aload_n 0, 1) := by decide +kernel
theorem dX4_day_12 : decode cX4_day 12 = .ok (.iload_n 2, 1) := by decide +kernel
theorem dX4_day_13 : decode cX4_day 13 = .ok (.invokevirtual 115, 3) := by decide +kernel
theorem dX4_day_16 : decode cX4_day 16 = .ok (.iadd, 1) := by decide +kernel
theorem dX4_day_17 : decode cX4_day 17 = .ok (.istore_n 1, 1) := by decide +kernel
theorem dX4_day_18 : decode cX4_day 18 = .ok (.iinc 2 1, 3) := by decide +kernel
theorem dX4_day_21 : decode cX4_day 21 = .ok (.goto (-17), 3) := by decide +kernel
theorem dX4_day_24 : decode cX4_day 24 = .ok (.iload_n 1, 1) := by decide +kernel
theorem dX4_day_25 : decode cX4_day 25 = .ok (.ireturn, 1) := by decide +kernel
theorem dX4_spend_0 : decode cX4_spend 0 = .ok (.iload_n 1, 1) := by decide +kernel
theorem dX4_spend_1 : decode cX4_spend 1 = .ok (.iconst 1, 1) := by decide +kernel
theorem dX4_spend_2 : decode cX4_spend 2 = .ok (.if_icmp .lt 9, 3) := by decide +kernel
theorem dX4_spend_5 : decode cX4_spend 5 = .ok (.iload_n 1, 1) := by decide +kernel
theorem dX4_spend_6 : decode cX4_spend 6 = .ok (.bipush 99, 2) := by decide +kernel
theorem dX4_spend_8 : decode cX4_spend 8 = .ok (.if_icmp .le 6, 3) := by decide +kernel
theorem dX4_spend_11 : decode cX4_spend 11 = .ok (.bipush (-2), 2) := by decide +kernel
theorem dX4_spend_13 : decode cX4_spend 13 = .ok (.ireturn, 1) := by decide +kernel
theorem dX4_spend_14 : decode cX4_spend 14 = .ok (.aload_n 0, 1) := by decide +kernel
theorem dX4_spend_15 : decode cX4_spend 15 = .ok (.getfield 39, 3) := by decide +kernel
theorem dX4_spend_18 : decode cX4_spend 18 = .ok (.getfield 118, 3) := by decide +kernel
theorem dX4_spend_21 : decode cX4_spend 21 = .ok (.iload_n 1, 1) := by decide +kernel
theorem dX4_spend_22 : decode cX4_spend 22 = .ok (.iadd, 1) := by decide +kernel
theorem dX4_spend_23 : decode cX4_spend 23 = .ok (.sipush 999, 3) := by decide +kernel
theorem dX4_spend_26 : decode cX4_spend 26 = .ok (.if_icmp .le 6, 3) := by decide +kernel
theorem dX4_spend_29 : decode cX4_spend 29 = .ok (.bipush (-5), 2) := by decide +kernel
theorem dX4_spend_31 : decode cX4_spend 31 = .ok (.ireturn, 1) := by decide +kernel
theorem dX4_spend_32 : decode cX4_spend 32 = .ok (.aload_n 0, 1) := by decide +kernel
theorem dX4_spend_33 : decode cX4_spend 33 = .ok (.invokevirtual 121, 3) := by decide +kernel
theorem dX4_spend_36 : decode cX4_spend 36 = .ok (.iconst 0, 1) := by decide +kernel
theorem dX4_spend_37 : decode cX4_spend 37 = .ok (.istore_n 2, 1) := by decide +kernel
theorem dX4_spend_38 : decode cX4_spend 38 = .ok (.iconst 0, 1) := by decide +kernel
theorem dX4_spend_39 : decode cX4_spend 39 = .ok (.istore_n 3, 1) := by decide +kernel
theorem dX4_spend_40 : decode cX4_spend 40 = .ok (.iload_n 3, 1) := by decide +kernel
theorem dX4_spend_41 : decode cX4_spend 41 = .ok (.iload_n 1, 1) := by decide +kernel
theorem dX4_spend_42 : decode cX4_spend 42 = .ok (.if_icmp .ge 57, 3) := by decide +kernel
theorem dX4_spend_45 : decode cX4_spend 45 = .ok (.iconst 0, 1) := by decide +kernel
theorem dX4_spend_46 : decode cX4_spend 46 = .ok (.istore 4, 2) := by decide +kernel
theorem dX4_spend_48 : decode cX4_spend 48 = .ok (.iconst 0, 1) := by decide +kernel
theorem dX4_spend_49 : decode cX4_spend 49 = .ok (.istore 5, 2) := by decide +kernel
theorem dX4_spend_51 : decode cX4_spend 51 = .ok (.iload 5, 2) := by decide +kernel
theorem dX4_spend_53 : decode cX4_spend 53 = .ok (.bipush 11, 2) := by decide +kernel
theorem dX4_spend_55 : decode cX4_spend 55 = .ok (.if_icmp .ge 24, 3) := by decide +kernel
theorem dX4_spend_58 : decode cX4_spend 58 = .ok (.iload 4, 2) := by decide +kernel
theorem dX4_spend_60 : decode cX4_spend 60 = .ok (.aload_n 0, 1) := by decide +kernel
theorem dX4_spend_61 : decode cX4_spend 61 = .ok (.iload 5, 2) := by decide +kernel
theorem dX4_spend_63 : decode cX4_spend 63 = .ok (.invokevirtual 115, 3) := by decide +kernel
theorem dX4_spend_66 : decode cX4_spend 66 = .ok (.iadd, 1) := by decide +kernel
theorem dX4_spend_67 : decode cX4_spend 67 = .ok (.istore 4, 2) := by decide +kernel
theorem dX4_spend_69 : decode cX4_spend 69 = .ok (.aload_n 0, 1) := by decide +kernel
theorem dX4_spend_70 : decode cX4_spend 70 = .ok (.invokevirtual 124, 3) := by decide +kernel
theorem dX4_spend_73 : decode cX4_spend 73 = .ok (.iinc 5 1, 3) := by decide +kernel
theorem dX4_spend_76 : decode cX4_spend 76 = .ok (.goto (-25), 3) := by decide +kernel
theorem dX4_spend_79 : decode cX4_spend 79 = .ok (.aload_n 0, 1) := by decide +kernel
theorem dX4_spend_80 : decode cX4_spend 80 = .ok (.getfield 39, 3) := by decide +kernel
theorem dX4_spend_83 : decode cX4_spend 83 = .ok (.iload 4, 2) := by decide +kernel
theorem dX4_spend_85 : decode cX4_spend 85 = .ok (.invokevirtual 127, 3) := by decide +kernel
theorem dX4_spend_88 : decode cX4_spend 88 = .ok (.iload_n 2, 1) := by decide +kernel
theorem dX4_spend_89 : decode cX4_spend 89 = .ok (.iload 4, 2) := by decide +kernel
theorem dX4_spend_91 : decode cX4_spend 91 = .ok (.iadd, 1) := by decide +kernel
theorem dX4_spend_92 : decode cX4_spend 92 = .ok (.istore_n 2, 1) := by decide +kernel
theorem dX4_spend_93 : decode cX4_spend 93 = .ok (.iinc 3 1, 3) := by decide +kernel
theorem dX4_spend_96 : decode cX4_spend 96 = .ok (.goto (-56), 3) := by decide +kernel
theorem dX4_spend_99 : decode cX4_spend 99 = .ok (.iload_n 2, 1) := by decide +kernel
theorem dX4_spend_100 : decode cX4_spend 100 = .ok (.ireturn, 1) := by decide +kernel
theorem dX4_creditUsed_0 : decode cX4_creditUsed 0 = .ok (.iconst 0, 1) := by decide +kernel
theorem dX4_creditUsed_1 : decode cX4_creditUsed 1 = .ok (.istore_n 1, 1) := by decide +kernel
theorem dX4_creditUsed_2 : decode cX4_creditUsed 2 = .ok (.iload_n 1, 1) := by decide +kernel
theorem dX4_creditUsed_3 : decode cX4_creditUsed 3 = .ok (.aload_n 0, 1) := by decide +kernel
theorem dX4_creditUsed_4 : decode cX4_creditUsed 4 = .ok (.getfield 39, 3) := by decide +kernel
end
section
theorem dX4_creditUsed_7 : decode cX4_creditUsed 7 = .ok (.getfield 46, 3) := by decide +kernel
theorem dX4_creditUsed_10 : decode cX4_creditUsed 10 = .ok (.if_icmp .ge 33, 3) := by decide +kernel
theorem dX4_creditUsed_13 : decode cX4_creditUsed 13 = .ok (.aload_n 0, 1) := by decide +kernel
theorem dX4_creditUsed_14 : decode cX4_creditUsed 14 = .ok (.iload_n 1, 1) := by decide +kernel
theorem dX4_creditUsed_15 : decode cX4_creditUsed 15 = .ok (.invokevirtual 130, 3) := by decide +kernel
theorem dX4_creditUsed_18 : decode cX4_creditUsed 18 = .ok (.ifCond .eq 19, 3) := by decide +kernel
theorem dX4_creditUsed_21 : decode cX4_creditUsed 21 = .ok (.aload_n 0, 1) := by decide +kernel
theorem dX4_creditUsed_22 : decode cX4_creditUsed 22 = .ok (.getfield 39, 3) := by decide +kernel
theorem dX4_creditUsed_25 : decode cX4_creditUsed 25 = .ok (.iload_n 1, 1) := by decide +kernel
theorem dX4_creditUsed_26 : decode cX4_creditUsed 26 = .ok (.aload_n 0, 1) := by decide +kernel
theorem dX4_creditUsed_27 : decode cX4_creditUsed 27 = .ok (.getfield 23, 3) := by decide +kernel
theorem dX4_creditUsed_30 : decode cX4_creditUsed 30 = .ok (.iload_n 1, 1) := by decide +kernel
theorem dX4_creditUsed_31 : decode cX4_creditUsed 31 = .ok (.invokevirtual 54, 3) := by decide +kernel
theorem dX4_creditUsed_34 : decode cX4_creditUsed 34 = .ok (.invokevirtual 133, 3) := by decide +kernel
theorem dX4_creditUsed_37 : decode cX4_creditUsed 37 = .ok (.iinc 1 1, 3) := by decide +kernel
theorem dX4_creditUsed_40 : decode cX4_creditUsed 40 = .ok (.goto (-38), 3) := by decide +kernel
theorem dX4_creditUsed_43 : decode cX4_creditUsed 43 = .ok (.return_, 1) := by decide +kernel
theorem dX4_isBlocked_0 : decode cX4_isBlocked 0 = .ok (.aload_n 0, 1) := by decide +kernel
theorem dX4_isBlocked_1 : decode cX4_isBlocked 1 = .ok (.getfield 32, 3) := by decide +kernel
theorem dX4_isBlocked_4 : decode cX4_isBlocked 4 = .ok (.iload_n 1, 1) := by decide +kernel
theorem dX4_isBlocked_5 : decode cX4_isBlocked 5 = .ok (.ishr, 1) := by decide +kernel
theorem dX4_isBlocked_6 : decode cX4_isBlocked 6 = .ok (.iconst 1, 1) := by decide +kernel
theorem dX4_isBlocked_7 : decode cX4_isBlocked 7 = .ok (.iand, 1) := by decide +kernel
theorem dX4_isBlocked_8 : decode cX4_isBlocked 8 = .ok (.ifCond .eq 7, 3) := by decide +kernel
theorem dX4_isBlocked_11 : decode cX4_isBlocked 11 = .ok (.iconst 1, 1) := by decide +kernel
theorem dX4_isBlocked_12 : decode cX4_isBlocked 12 = .ok (.goto 4, 3) := by decide +kernel
theorem dX4_isBlocked_15 : decode cX4_isBlocked 15 = .ok (.iconst 0, 1) := by decide +kernel
theorem dX4_isBlocked_16 : decode cX4_isBlocked 16 = .ok (.ireturn, 1) := by decide +kernel
theorem dX4_blocked_0 : decode cX4_blocked 0 = .ok (.aload_n 0, 1) := by decide +kernel
theorem dX4_blocked_1 : decode cX4_blocked 1 = .ok (.getfield 32, 3) := by decide +kernel
theorem dX4_blocked_4 : decode cX4_blocked 4 = .ok (.ireturn, 1) := by decide +kernel
theorem dX4_shader_0 : decode cX4_shader 0 = .ok (.aload_n 0, 1) := by decide +kernel
theorem dX4_shader_1 : decode cX4_shader 1 = .ok (.getfield 20, 3) := by decide +kernel
theorem dX4_shader_4 : decode cX4_shader 4 = .ok (.iload_n 1, 1) := by decide +kernel
theorem dX4_shader_5 : decode cX4_shader 5 = .ok (.bipush 11, 2) := by decide +kernel
theorem dX4_shader_7 : decode cX4_shader 7 = .ok (.imul, 1) := by decide +kernel
theorem dX4_shader_8 : decode cX4_shader 8 = .ok (.iload_n 2, 1) := by decide +kernel
theorem dX4_shader_9 : decode cX4_shader 9 = .ok (.iadd, 1) := by decide +kernel
theorem dX4_shader_10 : decode cX4_shader 10 = .ok (.invokevirtual 54, 3) := by decide +kernel
theorem dX4_shader_13 : decode cX4_shader 13 = .ok (.ireturn, 1) := by decide +kernel
theorem dX4_given_0 : decode cX4_given 0 = .ok (.aload_n 0, 1) := by decide +kernel
theorem dX4_given_1 : decode cX4_given 1 = .ok (.getfield 23, 3) := by decide +kernel
theorem dX4_given_4 : decode cX4_given 4 = .ok (.iload_n 1, 1) := by decide +kernel
theorem dX4_given_5 : decode cX4_given 5 = .ok (.invokevirtual 54, 3) := by decide +kernel
theorem dX4_given_8 : decode cX4_given 8 = .ok (.ireturn, 1) := by decide +kernel
theorem dX4_isUsed_0 : decode cX4_isUsed 0 = .ok (.aload_n 0, 1) := by decide +kernel
theorem dX4_isUsed_1 : decode cX4_isUsed 1 = .ok (.getfield 36, 3) := by decide +kernel
theorem dX4_isUsed_4 : decode cX4_isUsed 4 = .ok (.iload_n 1, 1) := by decide +kernel
theorem dX4_isUsed_5 : decode cX4_isUsed 5 = .ok (.ishr, 1) := by decide +kernel
theorem dX4_isUsed_6 : decode cX4_isUsed 6 = .ok (.iconst 1, 1) := by decide +kernel
theorem dX4_isUsed_7 : decode cX4_isUsed 7 = .ok (.iand, 1) := by decide +kernel
theorem dX4_isUsed_8 : decode cX4_isUsed 8 = .ok (.ifCond .eq 7, 3) := by decide +kernel
theorem dX4_isUsed_11 : decode cX4_isUsed 11 = .ok (.iconst 1, 1) := by decide +kernel
theorem dX4_isUsed_12 : decode cX4_isUsed 12 = .ok (.goto 4, 3) := by decide +kernel
theorem dX4_isUsed_15 : decode cX4_isUsed 15 = .ok (.iconst 0, 1) := by decide +kernel
theorem dX4_isUsed_16 : decode cX4_isUsed 16 = .ok (.ireturn, 1) := by decide +kernel
theorem dX4_used_0 : decode cX4_used 0 = .ok (.aload_n 0, 1) := by decide +kernel
theorem dX4_used_1 : decode cX4_used 1 = .ok (.getfield 36, 3) := by decide +kernel
theorem dX4_used_4 : decode cX4_used 4 = .ok (.ireturn, 1) := by decide +kernel
theorem dX4_held_0 : decode cX4_held 0 = .ok (.aload_n 0, 1) := by decide +kernel
theorem dX4_held_1 : decode cX4_held 1 = .ok (.getfield 29, 3) := by decide +kernel
theorem dX4_held_4 : decode cX4_held 4 = .ok (.iload_n 1, 1) := by decide +kernel
theorem dX4_held_5 : decode cX4_held 5 = .ok (.invokevirtual 54, 3) := by decide +kernel
theorem dX4_held_8 : decode cX4_held 8 = .ok (.ireturn, 1) := by decide +kernel
theorem dX5_init_0 : decode cX5_init 0 = .ok (.aload_n 0, 1) := by decide +kernel
theorem dX5_init_1 : decode cX5_init 1 = .ok (.invokespecial 3, 3) := by decide +kernel
theorem dX5_init_4 : decode cX5_init 4 = .ok (.aload_n 0, 1) := by decide +kernel
theorem dX5_init_5 : decode cX5_init 5 = .ok (.new 9, 3) := by decide +kernel
theorem dX5_init_8 : decode cX5_init 8 = .ok (.dup, 1) := by decide +kernel
theorem dX5_init_9 : decode cX5_init 9 = .ok (.bipush 80, 2) := by decide +kernel
theorem dX5_init_11 : decode cX5_init 11 = .ok (.invokespecial 11, 3) := by decide +kernel
theorem dX5_init_14 : decode cX5_init 14 = .ok (.putfield 14, 3) := by decide +kernel
theorem dX5_init_17 : decode cX5_init 17 = .ok (.aload_n 0, 1) := by decide +kernel
theorem dX5_init_18 : decode cX5_init 18 = .ok (.iconst 0, 1) := by decide +kernel
theorem dX5_init_19 : decode cX5_init 19 = .ok (.putfield 20, 3) := by decide +kernel
theorem dX5_init_22 : decode cX5_init 22 = .ok (.return_, 1) := by decide +kernel
theorem dX5_append_0 : decode cX5_append 0 = .ok (.lload_n 1, 1) := by decide +kernel
theorem dX5_append_1 : decode cX5_append 1 = .ok (.invokestatic 24, 3) := by decide +kernel
theorem dX5_append_4 : decode cX5_append 4 = .ok (.istore_n 3, 1) := by decide +kernel
theorem dX5_append_5 : decode cX5_append 5 = .ok (.iload_n 3, 1) := by decide +kernel
theorem dX5_append_6 : decode cX5_append 6 = .ok (.ifCond .ne 6, 3) := by decide +kernel
theorem dX5_append_9 : decode cX5_append 9 = .ok (.bipush (-2), 2) := by decide +kernel
theorem dX5_append_11 : decode cX5_append 11 = .ok (.ireturn, 1) := by decide +kernel
theorem dX5_append_12 : decode cX5_append 12 = .ok (.aload_n 0, 1) := by decide +kernel
theorem dX5_append_13 : decode cX5_append 13 = .ok (.getfield 20, 3) := by decide +kernel
theorem dX5_append_16 : decode cX5_append 16 = .ok (.iload_n 3, 1) := by decide +kernel
theorem dX5_append_17 : decode cX5_append 17 = .ok (.iadd, 1) := by decide +kernel
theorem dX5_append_18 : decode cX5_append 18 = .ok (.bipush 80, 2) := by decide +kernel
theorem dX5_append_20 : decode cX5_append 20 = .ok (.if_icmp .le 6, 3) := by decide +kernel
theorem dX5_append_23 : decode cX5_append 23 = .ok (.bipush (-4), 2) := by decide +kernel
theorem dX5_append_25 : decode cX5_append 25 = .ok (.ireturn, 1) := by decide +kernel
theorem dX5_append_26 : decode cX5_append 26 = .ok (.iconst 0, 1) := by decide +kernel
theorem dX5_append_27 : decode cX5_append 27 = .ok (.istore 4, 2) := by decide +kernel
theorem dX5_append_29 : decode cX5_append 29 = .ok (.iload 4, 2) := by decide +kernel
theorem dX5_append_31 : decode cX5_append 31 = .ok (.iload_n 3, 1) := by decide +kernel
theorem dX5_append_32 : decode cX5_append 32 = .ok (.if_icmp .ge 33, 3) := by decide +kernel
theorem dX5_append_35 : decode cX5_append 35 = .ok (.aload_n 0, 1) := by decide +kernel
theorem dX5_append_36 : decode cX5_append 36 = .ok (.getfield 14, 3) := by decide +kernel
theorem dX5_append_39 : decode cX5_append 39 = .ok (.aload_n 0, 1) := by decide +kernel
theorem dX5_append_40 : decode cX5_append 40 = .ok (.getfield 20, 3) := by decide +kernel
theorem dX5_append_43 : decode cX5_append 43 = .ok (.iload 4, 2) := by decide +kernel
theorem dX5_append_45 : decode cX5_append 45 = .ok (.iadd, 1) := by decide +kernel
theorem dX5_append_46 : decode cX5_append 46 = .ok (.lload_n 1, 1) := by decide +kernel
theorem dX5_append_47 : decode cX5_append 47 = .ok (.iload_n 3, 1) := by decide +kernel
theorem dX5_append_48 : decode cX5_append 48 = .ok (.iconst 1, 1) := by decide +kernel
theorem dX5_append_49 : decode cX5_append 49 = .ok (.isub, 1) := by decide +kernel
theorem dX5_append_50 : decode cX5_append 50 = .ok (.iload 4, 2) := by decide +kernel
theorem dX5_append_52 : decode cX5_append 52 = .ok (.isub, 1) := by decide +kernel
theorem dX5_append_53 : decode cX5_append 53 = .ok (.invokestatic 28, 3) := by decide +kernel
theorem dX5_append_56 : decode cX5_append 56 = .ok (.invokevirtual 32, 3) := by decide +kernel
theorem dX5_append_59 : decode cX5_append 59 = .ok (.iinc 4 1, 3) := by decide +kernel
theorem dX5_append_62 : decode cX5_append 62 = .ok (.goto (-33), 3) := by decide +kernel
theorem dX5_append_65 : decode cX5_append 65 = .ok (.aload_n 0, 1) := by decide +kernel
theorem dX5_append_66 : decode cX5_append 66 = .ok (.dup, 1) := by decide +kernel
theorem dX5_append_67 : decode cX5_append 67 = .ok (.getfield 20, 3) := by decide +kernel
theorem dX5_append_70 : decode cX5_append 70 = .ok (.iload_n 3, 1) := by decide +kernel
theorem dX5_append_71 : decode cX5_append 71 = .ok (.iadd, 1) := by decide +kernel
theorem dX5_append_72 : decode cX5_append 72 = .ok (.putfield 20, 3) := by decide +kernel
theorem dX5_append_75 : decode cX5_append 75 = .ok (.aload_n 0, 1) := by decide +kernel
theorem dX5_append_76 : decode cX5_append 76 = .ok (.getfield 20, 3) := by decide +kernel
theorem dX5_append_79 : decode cX5_append 79 = .ok (.ireturn, 1) := by decide +kernel
theorem dX5_countSigns_0 : decode cX5_countSigns 0 = .ok (.iconst 0, 1) := by decide +kernel
theorem dX5_countSigns_1 : decode cX5_countSigns 1 = .ok (.istore_n 2, 1) := by decide +kernel
theorem dX5_countSigns_2 : decode cX5_countSigns 2 = .ok (.iload_n 2, 1) := by decide +kernel
theorem dX5_countSigns_3 : decode cX5_countSigns 3 = .ok (.bipush 8, 2) := by decide +kernel
theorem dX5_countSigns_5 : decode cX5_countSigns 5 = .ok (.if_icmp .ge 40, 3) := by decide +kernel
theorem dX5_countSigns_8 : decode cX5_countSigns 8 = .ok (.lload_n 0, 1) := by decide +kernel
theorem dX5_countSigns_9 : decode cX5_countSigns 9 = .ok (.iload_n 2, 1) := by decide +kernel
theorem dX5_countSigns_10 : decode cX5_countSigns 10 = .ok (.bipush 8, 2) := by decide +kernel
theorem dX5_countSigns_12 : decode cX5_countSigns 12 = .ok (.imul, 1) := by decide +kernel
theorem dX5_countSigns_13 : decode cX5_countSigns 13 = .ok (.lushr, 1) := by decide +kernel
theorem dX5_countSigns_14 : decode cX5_countSigns 14 = .ok (.lconst 0, 1) := by decide +kernel
theorem dX5_countSigns_15 : decode cX5_countSigns 15 = .ok (.lcmp, 1) := by decide +kernel
theorem dX5_countSigns_16 : decode cX5_countSigns 16 = .ok (.ifCond .eq 29, 3) := by decide +kernel
theorem dX5_countSigns_19 : decode cX5_countSigns 19 = .ok (.lload_n 0, 1) := by decide +kernel
theorem dX5_countSigns_20 : decode cX5_countSigns 20 = .ok (.iload_n 2, 1) := by decide +kernel
theorem dX5_countSigns_21 : decode cX5_countSigns 21 = .ok (.invokestatic 28, 3) := by decide +kernel
theorem dX5_countSigns_24 : decode cX5_countSigns 24 = .ok (.istore_n 3, 1) := by decide +kernel
theorem dX5_countSigns_25 : decode cX5_countSigns 25 = .ok (.iload_n 3, 1) := by decide +kernel
theorem dX5_countSigns_26 : decode cX5_countSigns 26 = .ok (.bipush 33, 2) := by decide +kernel
theorem dX5_countSigns_28 : decode cX5_countSigns 28 = .ok (.if_icmp .lt 9, 3) := by decide +kernel
theorem dX5_countSigns_31 : decode cX5_countSigns 31 = .ok (.iload_n 3, 1) := by decide +kernel
theorem dX5_countSigns_32 : decode cX5_countSigns 32 = .ok (.bipush 126, 2) := by decide +kernel
theorem dX5_countSigns_34 : decode cX5_countSigns 34 = .ok (.if_icmp .le 5, 3) := by decide +kernel
theorem dX5_countSigns_37 : decode cX5_countSigns 37 = .ok (.iconst 0, 1) := by decide +kernel
theorem dX5_countSigns_38 : decode cX5_countSigns 38 = .ok (.ireturn, 1) := by decide +kernel
theorem dX5_countSigns_39 : decode cX5_countSigns 39 = .ok (.iinc 2 1, 3) := by decide +kernel
theorem dX5_countSigns_42 : decode cX5_countSigns 42 = .ok (.goto (-40), 3) := by decide +kernel
theorem dX5_countSigns_45 : decode cX5_countSigns 45 = .ok (.iload_n 2, 1) := by decide +kernel
theorem dX5_countSigns_46 : decode cX5_countSigns 46 = .ok (.ireturn, 1) := by decide +kernel
theorem dX5_signFromEnd_0 : decode cX5_signFromEnd 0 = .ok (.lload_n 0, 1) := by decide +kernel
theorem dX5_signFromEnd_1 : decode cX5_signFromEnd 1 = .ok (.iload_n 2, 1) := by decide +kernel
theorem dX5_signFromEnd_2 : decode cX5_signFromEnd 2 = .ok (.bipush 8, 2) := by decide +kernel
theorem dX5_signFromEnd_4 : decode cX5_signFromEnd 4 = .ok (.imul, 1) := by decide +kernel
theorem dX5_signFromEnd_5 : decode cX5_signFromEnd 5 = .ok (.lushr, 1) := by decide +kernel
theorem dX5_signFromEnd_6 : decode cX5_signFromEnd 6 = .ok (.l2i, 1) := by decide +kernel
theorem dX5_signFromEnd_7 : decode cX5_signFromEnd 7 = .ok (.sipush 255, 3) := by decide +kernel
theorem dX5_signFromEnd_10 : decode cX5_signFromEnd 10 = .ok (.iand, 1) := by decide +kernel
theorem dX5_signFromEnd_11 : decode cX5_signFromEnd 11 = .ok (.ireturn, 1) := by decide +kernel
theorem dX5_empty_0 : decode cX5_empty 0 = .ok (.aload_n 0, 1) := by decide +kernel
theorem dX5_empty_1 : decode cX5_empty 1 = .ok (.getfield 20, 3) := by decide +kernel
theorem dX5_empty_4 : decode cX5_empty 4 = .ok (.istore_n 1, 1) := by decide +kernel
theorem dX5_empty_5 : decode cX5_empty 5 = .ok (.aload_n 0, 1) := by decide +kernel
theorem dX5_empty_6 : decode cX5_empty 6 = .ok (.iconst 0, 1) := by decide +kernel
theorem dX5_empty_7 : decode cX5_empty 7 = .ok (.putfield 20, 3) := by decide +kernel
theorem dX5_empty_10 : decode cX5_empty 10 = .ok (.iload_n 1, 1) := by decide +kernel
theorem dX5_empty_11 : decode cX5_empty 11 = .ok (.ireturn, 1) := by decide +kernel
theorem dX5_length_0 : decode cX5_length 0 = .ok (.aload_n 0, 1) := by decide +kernel
theorem dX5_length_1 : decode cX5_length 1 = .ok (.getfield 20, 3) := by decide +kernel
theorem dX5_length_4 : decode cX5_length 4 = .ok (.ireturn, 1) := by decide +kernel
theorem dX5_sign_0 : decode cX5_sign 0 = .ok (.iload_n 1, 1) := by decide +kernel
theorem dX5_sign_1 : decode cX5_sign 1 = .ok (.aload_n 0, 1) := by decide +kernel
theorem dX5_sign_2 : decode cX5_sign 2 = .ok (.getfield 20, 3) := by decide +kernel
theorem dX5_sign_5 : decode cX5_sign 5 = .ok (.if_icmp .ge 14, 3) := by decide +kernel
theorem dX5_sign_8 : decode cX5_sign 8 = .ok (.aload_n 0, 1) := by decide +kernel
theorem dX5_sign_9 : decode cX5_sign 9 = .ok (.getfield 14, 3) := by decide +kernel
theorem dX5_sign_12 : decode cX5_sign 12 = .ok (.iload_n 1, 1) := by decide +kernel
theorem dX5_sign_13 : decode cX5_sign 13 = .ok (.invokevirtual 36, 3) := by decide +kernel
theorem dX5_sign_16 : decode cX5_sign 16 = .ok (.goto 4, 3) := by decide +kernel
theorem dX5_sign_19 : decode cX5_sign 19 = .ok (.iconst 0, 1) := by decide +kernel
theorem dX5_sign_20 : decode cX5_sign 20 = .ok (.ireturn, 1) := by decide +kernel
theorem dX6_init_0 : decode cX6_init 0 = .ok (.aload_n 0, 1) := by decide +kernel
theorem dX6_init_1 : decode cX6_init 1 = .ok (.invokespecial 3, 3) := by decide +kernel
theorem dX6_init_4 : decode cX6_init 4 = .ok (.aload_n 0, 1) := by decide +kernel
theorem dX6_init_5 : decode cX6_init 5 = .ok (.new 9, 3) := by decide +kernel
theorem dX6_init_8 : decode cX6_init 8 = .ok (.dup, 1) := by decide +kernel
theorem dX6_init_9 : decode cX6_init 9 = .ok (.bipush 80, 2) := by decide +kernel
theorem dX6_init_11 : decode cX6_init 11 = .ok (.invokespecial 11, 3) := by decide +kernel
theorem dX6_init_14 : decode cX6_init 14 = .ok (.putfield 14, 3) := by decide +kernel
theorem dX6_init_17 : decode cX6_init 17 = .ok (.aload_n 0, 1) := by decide +kernel
theorem dX6_init_18 : decode cX6_init 18 = .ok (.new 9, 3) := by decide +kernel
theorem dX6_init_21 : decode cX6_init 21 = .ok (.dup, 1) := by decide +kernel
theorem dX6_init_22 : decode cX6_init 22 = .ok (.bipush 80, 2) := by decide +kernel
theorem dX6_init_24 : decode cX6_init 24 = .ok (.invokespecial 11, 3) := by decide +kernel
theorem dX6_init_27 : decode cX6_init 27 = .ok (.putfield 20, 3) := by decide +kernel
theorem dX6_init_30 : decode cX6_init 30 = .ok (.aload_n 0, 1) := by decide +kernel
theorem dX6_init_31 : decode cX6_init 31 = .ok (.new 9, 3) := by decide +kernel
theorem dX6_init_34 : decode cX6_init 34 = .ok (.dup, 1) := by decide +kernel
theorem dX6_init_35 : decode cX6_init 35 = .ok (.bipush 80, 2) := by decide +kernel
theorem dX6_init_37 : decode cX6_init 37 = .ok (.invokespecial 11, 3) := by decide +kernel
theorem dX6_init_40 : decode cX6_init 40 = .ok (.putfield 23, 3) := by decide +kernel
theorem dX6_init_43 : decode cX6_init 43 = .ok (.aload_n 0, 1) := by decide +kernel
theorem dX6_init_44 : decode cX6_init 44 = .ok (.new 9, 3) := by decide +kernel
theorem dX6_init_47 : decode cX6_init 47 = .ok (.dup, 1) := by decide +kernel
theorem dX6_init_48 : decode cX6_init 48 = .ok (.bipush 80, 2) := by decide +kernel
theorem dX6_init_50 : decode cX6_init 50 = .ok (.invokespecial 11, 3) := by decide +kernel
theorem dX6_init_53 : decode cX6_init 53 = .ok (.putfield 26, 3) := by decide +kernel
theorem dX6_init_56 : decode cX6_init 56 = .ok (.aload_n 0, 1) := by decide +kernel
theorem dX6_init_57 : decode cX6_init 57 = .ok (.iconst 0, 1) := by decide +kernel
theorem dX6_init_58 : decode cX6_init 58 = .ok (.putfield 29, 3) := by decide +kernel
theorem dX6_init_61 : decode cX6_init 61 = .ok (.aload_n 0, 1) := by decide +kernel
theorem dX6_init_62 : decode cX6_init 62 = .ok (.iconst 0, 1) := by decide +kernel
theorem dX6_init_63 : decode cX6_init 63 = .ok (.putfield 33, 3) := by decide +kernel
theorem dX6_init_66 : decode cX6_init 66 = .ok (.aload_n 0, 1) := by decide +kernel
theorem dX6_init_67 : decode cX6_init 67 = .ok (.iconst 0, 1) := by decide +kernel
theorem dX6_init_68 : decode cX6_init 68 = .ok (.putfield 36, 3) := by decide +kernel
theorem dX6_init_71 : decode cX6_init 71 = .ok (.aload_n 0, 1) := by decide +kernel
theorem dX6_init_72 : decode cX6_init 72 = .ok (.aload_n 1, 1) := by decide +kernel
theorem dX6_init_73 : decode cX6_init 73 = .ok (.putfield 40, 3) := by decide +kernel
theorem dX6_init_76 : decode cX6_init 76 = .ok (.return_, 1) := by decide +kernel
theorem dX6_read_0 : decode cX6_read 0 = .ok (.aload_n 0, 1) := by decide +kernel
theorem dX6_read_1 : decode cX6_read 1 = .ok (.iconst 0, 1) := by decide +kernel
theorem dX6_read_2 : decode cX6_read 2 = .ok (.putfield 33, 3) := by decide +kernel
theorem dX6_read_5 : decode cX6_read 5 = .ok (.aload_n 0, 1) := by decide +kernel
theorem dX6_read_6 : decode cX6_read 6 = .ok (.iconst 0, 1) := by decide +kernel
theorem dX6_read_7 : decode cX6_read 7 = .ok (.putfield 36, 3) := by decide +kernel
theorem dX6_read_10 : decode cX6_read 10 = .ok (.aload_n 0, 1) := by decide +kernel
theorem dX6_read_11 : decode cX6_read 11 = .ok (.iconst 0, 1) := by decide +kernel
theorem dX6_read_12 : decode cX6_read 12 = .ok (.invokevirtual 44, 3) := by decide +kernel
theorem dX6_read_15 : decode cX6_read 15 = .ok (.aload_n 0, 1) := by decide +kernel
theorem dX6_read_16 : decode cX6_read 16 = .ok (.iconst 1, 1) := by decide +kernel
theorem dX6_read_17 : decode cX6_read 17 = .ok (.putfield 29, 3) := by decide +kernel
theorem dX6_read_20 : decode cX6_read 20 = .ok (.aload_n 0, 1) := by decide +kernel
theorem dX6_read_21 : decode cX6_read 21 = .ok (.getfield 36, 3) := by decide +kernel
theorem dX6_read_24 : decode cX6_read 24 = .ok (.ifCond .ne 53, 3) := by decide +kernel
theorem dX6_read_27 : decode cX6_read 27 = .ok (.aload_n 0, 1) := by decide +kernel
theorem dX6_read_28 : decode cX6_read 28 = .ok (.getfield 33, 3) := by decide +kernel
theorem dX6_read_31 : decode cX6_read 31 = .ok (.aload_n 0, 1) := by decide +kernel
theorem dX6_read_32 : decode cX6_read 32 = .ok (.getfield 40, 3) := by decide +kernel
theorem dX6_read_35 : decode cX6_read 35 = .ok (.invokevirtual 47, 3) := by decide +kernel
theorem dX6_read_38 : decode cX6_read 38 = .ok (.if_icmp .ge 39, 3) := by decide +kernel
theorem dX6_read_41 : decode cX6_read 41 = .ok (.aload_n 0, 1) := by decide +kernel
theorem dX6_read_42 : decode cX6_read 42 = .ok (.getfield 29, 3) := by decide +kernel
theorem dX6_read_45 : decode cX6_read 45 = .ok (.bipush 80, 2) := by decide +kernel
theorem dX6_read_47 : decode cX6_read 47 = .ok (.if_icmp .ge 30, 3) := by decide +kernel
theorem dX6_read_50 : decode cX6_read 50 = .ok (.aload_n 0, 1) := by decide +kernel
theorem dX6_read_51 : decode cX6_read 51 = .ok (.bipush 59, 2) := by decide +kernel
theorem dX6_read_53 : decode cX6_read 53 = .ok (.invokevirtual 53, 3) := by decide +kernel
theorem dX6_read_56 : decode cX6_read 56 = .ok (.aload_n 0, 1) := by decide +kernel
theorem dX6_read_57 : decode cX6_read 57 = .ok (.aload_n 0, 1) := by decide +kernel
theorem dX6_read_58 : decode cX6_read 58 = .ok (.getfield 29, 3) := by decide +kernel
theorem dX6_read_61 : decode cX6_read 61 = .ok (.invokevirtual 44, 3) := by decide +kernel
theorem dX6_read_64 : decode cX6_read 64 = .ok (.aload_n 0, 1) := by decide +kernel
theorem dX6_read_65 : decode cX6_read 65 = .ok (.dup, 1) := by decide +kernel
theorem dX6_read_66 : decode cX6_read 66 = .ok (.getfield 29, 3) := by decide +kernel
theorem dX6_read_69 : decode cX6_read 69 = .ok (.iconst 1, 1) := by decide +kernel
theorem dX6_read_70 : decode cX6_read 70 = .ok (.iadd, 1) := by decide +kernel
theorem dX6_read_71 : decode cX6_read 71 = .ok (.putfield 29, 3) := by decide +kernel
theorem dX6_read_74 : decode cX6_read 74 = .ok (.goto (-54), 3) := by decide +kernel
theorem dX6_read_77 : decode cX6_read 77 = .ok (.aload_n 0, 1) := by decide +kernel
theorem dX6_read_78 : decode cX6_read 78 = .ok (.getfield 36, 3) := by decide +kernel
theorem dX6_read_81 : decode cX6_read 81 = .ok (.ifCond .eq 10, 3) := by decide +kernel
theorem dX6_read_84 : decode cX6_read 84 = .ok (.aload_n 0, 1) := by decide +kernel
theorem dX6_read_85 : decode cX6_read 85 = .ok (.getfield 33, 3) := by decide +kernel
theorem dX6_read_88 : decode cX6_read 88 = .ok (.goto 5, 3) := by decide +kernel
theorem dX6_read_91 : decode cX6_read 91 = .ok (.bipush (-6), 2) := by decide +kernel
theorem dX6_read_93 : decode cX6_read 93 = .ok (.ireturn, 1) := by decide +kernel
theorem dX6_readOrder_0 : decode cX6_readOrder 0 = .ok (.aload_n 0, 1) := by decide +kernel
theorem dX6_readOrder_1 : decode cX6_readOrder 1 = .ok (.getfield 36, 3) := by decide +kernel
theorem dX6_readOrder_4 : decode cX6_readOrder 4 = .ok (.ifCond .eq 7, 3) := by decide +kernel
theorem dX6_readOrder_7 : decode cX6_readOrder 7 = .ok (.iconst 0, 1) := by decide +kernel
theorem dX6_readOrder_8 : decode cX6_readOrder 8 = .ok (.goto 14, 3) := by decide +kernel
theorem dX6_readOrder_11 : decode cX6_readOrder 11 = .ok (.aload_n 0, 1) := by decide +kernel
theorem dX6_readOrder_12 : decode cX6_readOrder 12 = .ok (.getfield 40, 3) := by decide +kernel
theorem dX6_readOrder_15 : decode cX6_readOrder 15 = .ok (.aload_n 0, 1) := by decide +kernel
theorem dX6_readOrder_16 : decode cX6_readOrder 16 = .ok (.getfield 33, 3) := by decide +kernel
theorem dX6_readOrder_19 : decode cX6_readOrder 19 = .ok (.invokevirtual 57, 3) := by decide +kernel
theorem dX6_readOrder_22 : decode cX6_readOrder 22 = .ok (.istore_n 2, 1) := by decide +kernel
theorem dX6_readOrder_23 : decode cX6_readOrder 23 = .ok (.aload_n 0, 1) := by decide +kernel
theorem dX6_readOrder_24 : decode cX6_readOrder 24 = .ok (.dup, 1) := by decide +kernel
theorem dX6_readOrder_25 : decode cX6_readOrder 25 = .ok (.getfield 33, 3) := by decide +kernel
theorem dX6_readOrder_28 : decode cX6_readOrder 28 = .ok (.iload_n 2, 1) := by decide +kernel
theorem dX6_readOrder_29 : decode cX6_readOrder 29 = .ok (.invokestatic 61, 3) := by decide +kernel
theorem dX6_readOrder_32 : decode cX6_readOrder 32 = .ok (.ifCond .eq 7, 3) := by decide +kernel
theorem dX6_readOrder_35 : decode cX6_readOrder 35 = .ok (.iconst 1, 1) := by decide +kernel
theorem dX6_readOrder_36 : decode cX6_readOrder 36 = .ok (.goto 4, 3) := by decide +kernel
theorem dX6_readOrder_39 : decode cX6_readOrder 39 = .ok (.iconst 0, 1) := by decide +kernel
theorem dX6_readOrder_40 : decode cX6_readOrder 40 = .ok (.iadd, 1) := by decide +kernel
theorem dX6_readOrder_41 : decode cX6_readOrder 41 = .ok (.putfield 33, 3) := by decide +kernel
theorem dX6_readOrder_44 : decode cX6_readOrder 44 = .ok (.aload_n 0, 1) := by decide +kernel
theorem dX6_readOrder_45 : decode cX6_readOrder 45 = .ok (.iload_n 2, 1) := by decide +kernel
theorem dX6_readOrder_46 : decode cX6_readOrder 46 = .ok (.invokestatic 61, 3) := by decide +kernel
theorem dX6_readOrder_49 : decode cX6_readOrder 49 = .ok (.ifCond .ne 7, 3) := by decide +kernel
theorem dX6_readOrder_52 : decode cX6_readOrder 52 = .ok (.iconst 1, 1) := by decide +kernel
theorem dX6_readOrder_53 : decode cX6_readOrder 53 = .ok (.goto 4, 3) := by decide +kernel
theorem dX6_readOrder_56 : decode cX6_readOrder 56 = .ok (.iconst 0, 1) := by decide +kernel
theorem dX6_readOrder_57 : decode cX6_readOrder 57 = .ok (.putfield 36, 3) := by decide +kernel
theorem dX6_readOrder_60 : decode cX6_readOrder 60 = .ok (.aload_n 0, 1) := by decide +kernel
theorem dX6_readOrder_61 : decode cX6_readOrder 61 = .ok (.invokevirtual 65, 3) := by decide +kernel
theorem dX6_readOrder_64 : decode cX6_readOrder 64 = .ok (.istore_n 3, 1) := by decide +kernel
theorem dX6_readOrder_65 : decode cX6_readOrder 65 = .ok (.iconst 0, 1) := by decide +kernel
theorem dX6_readOrder_66 : decode cX6_readOrder 66 = .ok (.istore 4, 2) := by decide +kernel
theorem dX6_readOrder_68 : decode cX6_readOrder 68 = .ok (.iconst 0, 1) := by decide +kernel
theorem dX6_readOrder_69 : decode cX6_readOrder 69 = .ok (.istore 5, 2) := by decide +kernel
theorem dX6_readOrder_71 : decode cX6_readOrder 71 = .ok (.iload_n 2, 1) := by decide +kernel
theorem dX6_readOrder_72 : decode cX6_readOrder 72 = .ok (.bipush 43, 2) := by decide +kernel
theorem dX6_readOrder_74 : decode cX6_readOrder 74 = .ok (.if_icmp .ne 38, 3) := by decide +kernel
theorem dX6_readOrder_77 : decode cX6_readOrder 77 = .ok (.aload_n 0, 1) := by decide +kernel
theorem dX6_readOrder_78 : decode cX6_readOrder 78 = .ok (.bipush 46, 2) := by decide +kernel
theorem dX6_readOrder_80 : decode cX6_readOrder 80 = .ok (.invokevirtual 53, 3) := by decide +kernel
theorem dX6_readOrder_83 : decode cX6_readOrder 83 = .ok (.aload_n 0, 1) := by decide +kernel
theorem dX6_readOrder_84 : decode cX6_readOrder 84 = .ok (.invokevirtual 65, 3) := by decide +kernel
theorem dX6_readOrder_87 : decode cX6_readOrder 87 = .ok (.istore 4, 2) := by decide +kernel
theorem dX6_readOrder_89 : decode cX6_readOrder 89 = .ok (.aload_n 0, 1) := by decide +kernel
theorem dX6_readOrder_90 : decode cX6_readOrder 90 = .ok (.bipush 97, 2) := by decide +kernel
theorem dX6_readOrder_92 : decode cX6_readOrder 92 = .ok (.invokevirtual 68, 3) := by decide +kernel
theorem dX6_readOrder_95 : decode cX6_readOrder 95 = .ok (.ifCond .eq 11, 3) := by decide +kernel
theorem dX6_readOrder_98 : decode cX6_readOrder 98 = .ok (.aload_n 0, 1) := by decide +kernel
theorem dX6_readOrder_99 : decode cX6_readOrder 99 = .ok (.iconst 3, 1) := by decide +kernel
theorem dX6_readOrder_100 : decode cX6_readOrder 100 = .ok (.invokevirtual 72, 3) := by decide +kernel
theorem dX6_readOrder_103 : decode cX6_readOrder 103 = .ok (.goto 4, 3) := by decide +kernel
theorem dX6_readOrder_106 : decode cX6_readOrder 106 = .ok (.iconst 0, 1) := by decide +kernel
theorem dX6_readOrder_107 : decode cX6_readOrder 107 = .ok (.istore 5, 2) := by decide +kernel
theorem dX6_readOrder_109 : decode cX6_readOrder 109 = .ok (.goto 22, 3) := by decide +kernel
theorem dX6_readOrder_112 : decode cX6_readOrder 112 = .ok (.iload_n 2, 1) := by decide +kernel
theorem dX6_readOrder_113 : decode cX6_readOrder 113 = .ok (.bipush 97, 2) := by decide +kernel
theorem dX6_readOrder_115 : decode cX6_readOrder 115 = .ok (.if_icmp .ne 16, 3) := by decide +kernel
theorem dX6_readOrder_118 : decode cX6_readOrder 118 = .ok (.aload_n 0, 1) := by decide +kernel
theorem dX6_readOrder_119 : decode cX6_readOrder 119 = .ok (.bipush 62, 2) := by decide +kernel
theorem dX6_readOrder_121 : decode cX6_readOrder 121 = .ok (.invokevirtual 53, 3) := by decide +kernel
theorem dX6_readOrder_124 : decode cX6_readOrder 124 = .ok (.aload_n 0, 1) := by decide +kernel
theorem dX6_readOrder_125 : decode cX6_readOrder 125 = .ok (.iconst 3, 1) := by decide +kernel
theorem dX6_readOrder_126 : decode cX6_readOrder 126 = .ok (.invokevirtual 72, 3) := by decide +kernel
theorem dX6_readOrder_129 : decode cX6_readOrder 129 = .ok (.istore 4, 2) := by decide +kernel
theorem dX6_readOrder_131 : decode cX6_readOrder 131 = .ok (.aload_n 0, 1) := by decide +kernel
theorem dX6_readOrder_132 : decode cX6_readOrder 132 = .ok (.getfield 14, 3) := by decide +kernel
theorem dX6_readOrder_135 : decode cX6_readOrder 135 = .ok (.iload_n 1, 1) := by decide +kernel
theorem dX6_readOrder_136 : decode cX6_readOrder 136 = .ok (.iload_n 2, 1) := by decide +kernel
theorem dX6_readOrder_137 : decode cX6_readOrder 137 = .ok (.invokevirtual 75, 3) := by decide +kernel
theorem dX6_readOrder_140 : decode cX6_readOrder 140 = .ok (.aload_n 0, 1) := by decide +kernel
theorem dX6_readOrder_141 : decode cX6_readOrder 141 = .ok (.getfield 20, 3) := by decide +kernel
theorem dX6_readOrder_144 : decode cX6_readOrder 144 = .ok (.iload_n 1, 1) := by decide +kernel
theorem dX6_readOrder_145 : decode cX6_readOrder 145 = .ok (.iload_n 3, 1) := by decide +kernel
theorem dX6_readOrder_146 : decode cX6_readOrder 146 = .ok (.invokevirtual 75, 3) := by decide +kernel
theorem dX6_readOrder_149 : decode cX6_readOrder 149 = .ok (.aload_n 0, 1) := by decide +kernel
theorem dX6_readOrder_150 : decode cX6_readOrder 150 = .ok (.getfield 23, 3) := by decide +kernel
theorem dX6_readOrder_153 : decode cX6_readOrder 153 = .ok (.iload_n 1, 1) := by decide +kernel
theorem dX6_readOrder_154 : decode cX6_readOrder 154 = .ok (.iload 4, 2) := by decide +kernel
theorem dX6_readOrder_156 : decode cX6_readOrder 156 = .ok (.invokevirtual 75, 3) := by decide +kernel
theorem dX6_readOrder_159 : decode cX6_readOrder 159 = .ok (.aload_n 0, 1) := by decide +kernel
theorem dX6_readOrder_160 : decode cX6_readOrder 160 = .ok (.getfield 26, 3) := by decide +kernel
theorem dX6_readOrder_163 : decode cX6_readOrder 163 = .ok (.iload_n 1, 1) := by decide +kernel
theorem dX6_readOrder_164 : decode cX6_readOrder 164 = .ok (.iload 5, 2) := by decide +kernel
theorem dX6_readOrder_166 : decode cX6_readOrder 166 = .ok (.invokevirtual 75, 3) := by decide +kernel
theorem dX6_readOrder_169 : decode cX6_readOrder 169 = .ok (.return_, 1) := by decide +kernel
theorem dX6_isKind_0 : decode cX6_isKind 0 = .ok (.iload_n 0, 1) := by decide +kernel
theorem dX6_isKind_1 : decode cX6_isKind 1 = .ok (.bipush 43, 2) := by decide +kernel
theorem dX6_isKind_3 : decode cX6_isKind 3 = .ok (.if_icmp .eq 33, 3) := by decide +kernel
theorem dX6_isKind_6 : decode cX6_isKind 6 = .ok (.iload_n 0, 1) := by decide +kernel
theorem dX6_isKind_7 : decode cX6_isKind 7 = .ok (.bipush 120, 2) := by decide +kernel
theorem dX6_isKind_9 : decode cX6_isKind 9 = .ok (.if_icmp .eq 27, 3) := by decide +kernel
theorem dX6_isKind_12 : decode cX6_isKind 12 = .ok (.iload_n 0, 1) := by decide +kernel
theorem dX6_isKind_13 : decode cX6_isKind 13 = .ok (.bipush 97, 2) := by decide +kernel
theorem dX6_isKind_15 : decode cX6_isKind 15 = .ok (.if_icmp .eq 21, 3) := by decide +kernel
theorem dX6_isKind_18 : decode cX6_isKind 18 = .ok (.iload_n 0, 1) := by decide +kernel
theorem dX6_isKind_19 : decode cX6_isKind 19 = .ok (.bipush 119, 2) := by decide +kernel
theorem dX6_isKind_21 : decode cX6_isKind 21 = .ok (.if_icmp .eq 15, 3) := by decide +kernel
theorem dX6_isKind_24 : decode cX6_isKind 24 = .ok (.iload_n 0, 1) := by decide +kernel
theorem dX6_isKind_25 : decode cX6_isKind 25 = .ok (.bipush 118, 2) := by decide +kernel
theorem dX6_isKind_27 : decode cX6_isKind 27 = .ok (.if_icmp .eq 9, 3) := by decide +kernel
theorem dX6_isKind_30 : decode cX6_isKind 30 = .ok (.iload_n 0, 1) := by decide +kernel
theorem dX6_isKind_31 : decode cX6_isKind 31 = .ok (.bipush 116, 2) := by decide +kernel
theorem dX6_isKind_33 : decode cX6_isKind 33 = .ok (.if_icmp .ne 7, 3) := by decide +kernel
theorem dX6_isKind_36 : decode cX6_isKind 36 = .ok (.iconst 1, 1) := by decide +kernel
theorem dX6_isKind_37 : decode cX6_isKind 37 = .ok (.goto 4, 3) := by decide +kernel
theorem dX6_isKind_40 : decode cX6_isKind 40 = .ok (.iconst 0, 1) := by decide +kernel
theorem dX6_isKind_41 : decode cX6_isKind 41 = .ok (.ireturn, 1) := by decide +kernel
theorem dX6_readNumber_0 : decode cX6_readNumber 0 = .ok (.aload_n 0, 1) := by decide +kernel
theorem dX6_readNumber_1 : decode cX6_readNumber 1 = .ok (.bipush 9, 2) := by decide +kernel
theorem dX6_readNumber_3 : decode cX6_readNumber 3 = .ok (.invokevirtual 72, 3) := by decide +kernel
theorem dX6_readNumber_6 : decode cX6_readNumber 6 = .ok (.istore_n 1, 1) := by decide +kernel
theorem dX6_readNumber_7 : decode cX6_readNumber 7 = .ok (.aload_n 0, 1) := by decide +kernel
theorem dX6_readNumber_8 : decode cX6_readNumber 8 = .ok (.getfield 40, 3) := by decide +kernel
theorem dX6_readNumber_11 : decode cX6_readNumber 11 = .ok (.aload_n 0, 1) := by decide +kernel
theorem dX6_readNumber_12 : decode cX6_readNumber 12 = .ok (.getfield 33, 3) := by decide +kernel
theorem dX6_readNumber_15 : decode cX6_readNumber 15 = .ok (.invokevirtual 57, 3) := by decide +kernel
theorem dX6_readNumber_18 : decode cX6_readNumber 18 = .ok (.istore_n 2, 1) := by decide +kernel
theorem dX6_readNumber_19 : decode cX6_readNumber 19 = .ok (.iload_n 1, 1) := by decide +kernel
theorem dX6_readNumber_20 : decode cX6_readNumber 20 = .ok (.ifCond .eq 19, 3) := by decide +kernel
theorem dX6_readNumber_23 : decode cX6_readNumber 23 = .ok (.iload_n 2, 1) := by decide +kernel
theorem dX6_readNumber_24 : decode cX6_readNumber 24 = .ok (.bipush 48, 2) := by decide +kernel
theorem dX6_readNumber_26 : decode cX6_readNumber 26 = .ok (.if_icmp .lt 13, 3) := by decide +kernel
theorem dX6_readNumber_29 : decode cX6_readNumber 29 = .ok (.iload_n 2, 1) := by decide +kernel
theorem dX6_readNumber_30 : decode cX6_readNumber 30 = .ok (.bipush 57, 2) := by decide +kernel
theorem dX6_readNumber_32 : decode cX6_readNumber 32 = .ok (.if_icmp .gt 7, 3) := by decide +kernel
theorem dX6_readNumber_35 : decode cX6_readNumber 35 = .ok (.iconst 1, 1) := by decide +kernel
theorem dX6_readNumber_36 : decode cX6_readNumber 36 = .ok (.goto 4, 3) := by decide +kernel
theorem dX6_readNumber_39 : decode cX6_readNumber 39 = .ok (.iconst 0, 1) := by decide +kernel
theorem dX6_readNumber_40 : decode cX6_readNumber 40 = .ok (.istore_n 3, 1) := by decide +kernel
theorem dX6_readNumber_41 : decode cX6_readNumber 41 = .ok (.iload_n 3, 1) := by decide +kernel
theorem dX6_readNumber_42 : decode cX6_readNumber 42 = .ok (.ifCond .eq 17, 3) := by decide +kernel
theorem dX6_readNumber_45 : decode cX6_readNumber 45 = .ok (.iload_n 1, 1) := by decide +kernel
theorem dX6_readNumber_46 : decode cX6_readNumber 46 = .ok (.bipush 10, 2) := by decide +kernel
theorem dX6_readNumber_48 : decode cX6_readNumber 48 = .ok (.imul, 1) := by decide +kernel
theorem dX6_readNumber_49 : decode cX6_readNumber 49 = .ok (.aload_n 0, 1) := by decide +kernel
theorem dX6_readNumber_50 : decode cX6_readNumber 50 = .ok (.bipush 9, 2) := by decide +kernel
theorem dX6_readNumber_52 : decode cX6_readNumber 52 = .ok (.invokevirtual 72, 3) := by decide +kernel
theorem dX6_readNumber_55 : decode cX6_readNumber 55 = .ok (.iadd, 1) := by decide +kernel
theorem dX6_readNumber_56 : decode cX6_readNumber 56 = .ok (.goto 4, 3) := by decide +kernel
theorem dX6_readNumber_59 : decode cX6_readNumber 59 = .ok (.iload_n 1, 1) := by decide +kernel
theorem dX6_readNumber_60 : decode cX6_readNumber 60 = .ok (.ireturn, 1) := by decide +kernel
theorem dX6_readDigit_0 : decode cX6_readDigit 0 = .ok (.aload_n 0, 1) := by decide +kernel
theorem dX6_readDigit_1 : decode cX6_readDigit 1 = .ok (.getfield 40, 3) := by decide +kernel
theorem dX6_readDigit_4 : decode cX6_readDigit 4 = .ok (.aload_n 0, 1) := by decide +kernel
theorem dX6_readDigit_5 : decode cX6_readDigit 5 = .ok (.getfield 33, 3) := by decide +kernel
theorem dX6_readDigit_8 : decode cX6_readDigit 8 = .ok (.invokevirtual 57, 3) := by decide +kernel
theorem dX6_readDigit_11 : decode cX6_readDigit 11 = .ok (.bipush 48, 2) := by decide +kernel
theorem dX6_readDigit_13 : decode cX6_readDigit 13 = .ok (.isub, 1) := by decide +kernel
theorem dX6_readDigit_14 : decode cX6_readDigit 14 = .ok (.istore_n 2, 1) := by decide +kernel
theorem dX6_readDigit_15 : decode cX6_readDigit 15 = .ok (.aload_n 0, 1) := by decide +kernel
theorem dX6_readDigit_16 : decode cX6_readDigit 16 = .ok (.getfield 36, 3) := by decide +kernel
theorem dX6_readDigit_19 : decode cX6_readDigit 19 = .ok (.ifCond .ne 12, 3) := by decide +kernel
theorem dX6_readDigit_22 : decode cX6_readDigit 22 = .ok (.iload_n 2, 1) := by decide +kernel
theorem dX6_readDigit_23 : decode cX6_readDigit 23 = .ok (.ifCond .lt 8, 3) := by decide +kernel
theorem dX6_readDigit_26 : decode cX6_readDigit 26 = .ok (.iload_n 2, 1) := by decide +kernel
theorem dX6_readDigit_27 : decode cX6_readDigit 27 = .ok (.iload_n 1, 1) := by decide +kernel
theorem dX6_readDigit_28 : decode cX6_readDigit 28 = .ok (.if_icmp .le 10, 3) := by decide +kernel
theorem dX6_readDigit_31 : decode cX6_readDigit 31 = .ok (.aload_n 0, 1) := by decide +kernel
theorem dX6_readDigit_32 : decode cX6_readDigit 32 = .ok (.iconst 1, 1) := by decide +kernel
theorem dX6_readDigit_33 : decode cX6_readDigit 33 = .ok (.putfield 36, 3) := by decide +kernel
theorem dX6_readDigit_36 : decode cX6_readDigit 36 = .ok (.iconst 0, 1) := by decide +kernel
theorem dX6_readDigit_37 : decode cX6_readDigit 37 = .ok (.ireturn, 1) := by decide +kernel
theorem dX6_readDigit_38 : decode cX6_readDigit 38 = .ok (.aload_n 0, 1) := by decide +kernel
theorem dX6_readDigit_39 : decode cX6_readDigit 39 = .ok (.dup, 1) := by decide +kernel
theorem dX6_readDigit_40 : decode cX6_readDigit 40 = .ok (.getfield 33, 3) := by decide +kernel
theorem dX6_readDigit_43 : decode cX6_readDigit 43 = .ok (.iconst 1, 1) := by decide +kernel
theorem dX6_readDigit_44 : decode cX6_readDigit 44 = .ok (.iadd, 1) := by decide +kernel
theorem dX6_readDigit_45 : decode cX6_readDigit 45 = .ok (.putfield 33, 3) := by decide +kernel
theorem dX6_readDigit_48 : decode cX6_readDigit 48 = .ok (.iload_n 2, 1) := by decide +kernel
theorem dX6_readDigit_49 : decode cX6_readDigit 49 = .ok (.ireturn, 1) := by decide +kernel
theorem dX6_accept_0 : decode cX6_accept 0 = .ok (.aload_n 0, 1) := by decide +kernel
theorem dX6_accept_1 : decode cX6_accept 1 = .ok (.getfield 36, 3) := by decide +kernel
theorem dX6_accept_4 : decode cX6_accept 4 = .ok (.ifCond .ne 22, 3) := by decide +kernel
theorem dX6_accept_7 : decode cX6_accept 7 = .ok (.aload_n 0, 1) := by decide +kernel
theorem dX6_accept_8 : decode cX6_accept 8 = .ok (.getfield 40, 3) := by decide +kernel
theorem dX6_accept_11 : decode cX6_accept 11 = .ok (.aload_n 0, 1) := by decide +kernel
theorem dX6_accept_12 : decode cX6_accept 12 = .ok (.getfield 33, 3) := by decide +kernel
theorem dX6_accept_15 : decode cX6_accept 15 = .ok (.invokevirtual 57, 3) := by decide +kernel
theorem dX6_accept_18 : decode cX6_accept 18 = .ok (.iload_n 1, 1) := by decide +kernel
theorem dX6_accept_19 : decode cX6_accept 19 = .ok (.if_icmp .ne 7, 3) := by decide +kernel
theorem dX6_accept_22 : decode cX6_accept 22 = .ok (.iconst 1, 1) := by decide +kernel
theorem dX6_accept_23 : decode cX6_accept 23 = .ok (.goto 4, 3) := by decide +kernel
theorem dX6_accept_26 : decode cX6_accept 26 = .ok (.iconst 0, 1) := by decide +kernel
theorem dX6_accept_27 : decode cX6_accept 27 = .ok (.istore_n 2, 1) := by decide +kernel
theorem dX6_accept_28 : decode cX6_accept 28 = .ok (.aload_n 0, 1) := by decide +kernel
theorem dX6_accept_29 : decode cX6_accept 29 = .ok (.dup, 1) := by decide +kernel
theorem dX6_accept_30 : decode cX6_accept 30 = .ok (.getfield 33, 3) := by decide +kernel
theorem dX6_accept_33 : decode cX6_accept 33 = .ok (.iload_n 2, 1) := by decide +kernel
theorem dX6_accept_34 : decode cX6_accept 34 = .ok (.ifCond .eq 7, 3) := by decide +kernel
theorem dX6_accept_37 : decode cX6_accept 37 = .ok (.iconst 1, 1) := by decide +kernel
theorem dX6_accept_38 : decode cX6_accept 38 = .ok (.goto 4, 3) := by decide +kernel
theorem dX6_accept_41 : decode cX6_accept 41 = .ok (.iconst 0, 1) := by decide +kernel
theorem dX6_accept_42 : decode cX6_accept 42 = .ok (.iadd, 1) := by decide +kernel
theorem dX6_accept_43 : decode cX6_accept 43 = .ok (.putfield 33, 3) := by decide +kernel
theorem dX6_accept_46 : decode cX6_accept 46 = .ok (.iload_n 2, 1) := by decide +kernel
theorem dX6_accept_47 : decode cX6_accept 47 = .ok (.ireturn, 1) := by decide +kernel
theorem dX6_expect_0 : decode cX6_expect 0 = .ok (.aload_n 0, 1) := by decide +kernel
theorem dX6_expect_1 : decode cX6_expect 1 = .ok (.iload_n 1, 1) := by decide +kernel
theorem dX6_expect_2 : decode cX6_expect 2 = .ok (.invokevirtual 68, 3) := by decide +kernel
theorem dX6_expect_5 : decode cX6_expect 5 = .ok (.ifCond .ne 8, 3) := by decide +kernel
theorem dX6_expect_8 : decode cX6_expect 8 = .ok (.aload_n 0, 1) := by decide +kernel
theorem dX6_expect_9 : decode cX6_expect 9 = .ok (.iconst 1, 1) := by decide +kernel
theorem dX6_expect_10 : decode cX6_expect 10 = .ok (.putfield 36, 3) := by decide +kernel
theorem dX6_expect_13 : decode cX6_expect 13 = .ok (.return_, 1) := by decide +kernel
theorem dX6_orders_0 : decode cX6_orders 0 = .ok (.aload_n 0, 1) := by decide +kernel
theorem dX6_orders_1 : decode cX6_orders 1 = .ok (.getfield 29, 3) := by decide +kernel
theorem dX6_orders_4 : decode cX6_orders 4 = .ok (.ireturn, 1) := by decide +kernel
theorem dX6_kind_0 : decode cX6_kind 0 = .ok (.aload_n 0, 1) := by decide +kernel
theorem dX6_kind_1 : decode cX6_kind 1 = .ok (.getfield 14, 3) := by decide +kernel
theorem dX6_kind_4 : decode cX6_kind 4 = .ok (.iload_n 1, 1) := by decide +kernel
theorem dX6_kind_5 : decode cX6_kind 5 = .ok (.invokevirtual 79, 3) := by decide +kernel
theorem dX6_kind_8 : decode cX6_kind 8 = .ok (.ireturn, 1) := by decide +kernel
theorem dX6_first_0 : decode cX6_first 0 = .ok (.aload_n 0, 1) := by decide +kernel
theorem dX6_first_1 : decode cX6_first 1 = .ok (.getfield 20, 3) := by decide +kernel
theorem dX6_first_4 : decode cX6_first 4 = .ok (.iload_n 1, 1) := by decide +kernel
theorem dX6_first_5 : decode cX6_first 5 = .ok (.invokevirtual 79, 3) := by decide +kernel
theorem dX6_first_8 : decode cX6_first 8 = .ok (.ireturn, 1) := by decide +kernel
theorem dX6_second_0 : decode cX6_second 0 = .ok (.aload_n 0, 1) := by decide +kernel
theorem dX6_second_1 : decode cX6_second 1 = .ok (.getfield 23, 3) := by decide +kernel
theorem dX6_second_4 : decode cX6_second 4 = .ok (.iload_n 1, 1) := by decide +kernel
theorem dX6_second_5 : decode cX6_second 5 = .ok (.invokevirtual 79, 3) := by decide +kernel
theorem dX6_second_8 : decode cX6_second 8 = .ok (.ireturn, 1) := by decide +kernel
theorem dX6_third_0 : decode cX6_third 0 = .ok (.aload_n 0, 1) := by decide +kernel
theorem dX6_third_1 : decode cX6_third 1 = .ok (.getfield 26, 3) := by decide +kernel
theorem dX6_third_4 : decode cX6_third 4 = .ok (.iload_n 1, 1) := by decide +kernel
theorem dX6_third_5 : decode cX6_third 5 = .ok (.invokevirtual 79, 3) := by decide +kernel
theorem dX6_third_8 : decode cX6_third 8 = .ok (.ireturn, 1) := by decide +kernel
theorem dX7_init_0 : decode cX7_init 0 = .ok (.aload_n 0, 1) := by decide +kernel
theorem dX7_init_1 : decode cX7_init 1 = .ok (.invokespecial 1, 3) := by decide +kernel
theorem dX7_init_4 : decode cX7_init 4 = .ok (.aload_n 0, 1) := by decide +kernel
theorem dX7_init_5 : decode cX7_init 5 = .ok (.iload_n 1, 1) := by decide +kernel
theorem dX7_init_6 : decode cX7_init 6 = .ok (.iconst 0, 1) := by decide +kernel
theorem dX7_init_7 : decode cX7_init 7 = .ok (.invokestatic 7, 3) := by decide +kernel
theorem dX7_init_10 : decode cX7_init 10 = .ok (.anewarray 13, 3) := by decide +kernel
theorem dX7_init_13 : decode cX7_init 13 = .ok (.putfield 15, 3) := by decide +kernel
theorem dX7_init_16 : decode cX7_init 16 = .ok (.iconst 0, 1) := by decide +kernel
theorem dX7_init_17 : decode cX7_init 17 = .ok (.istore_n 2, 1) := by decide +kernel
theorem dX7_init_18 : decode cX7_init 18 = .ok (.iload_n 2, 1) := by decide +kernel
theorem dX7_init_19 : decode cX7_init 19 = .ok (.aload_n 0, 1) := by decide +kernel
theorem dX7_init_20 : decode cX7_init 20 = .ok (.getfield 15, 3) := by decide +kernel
theorem dX7_init_23 : decode cX7_init 23 = .ok (.arraylength, 1) := by decide +kernel
theorem dX7_init_24 : decode cX7_init 24 = .ok (.if_icmp .ge 22, 3) := by decide +kernel
theorem dX7_init_27 : decode cX7_init 27 = .ok (.aload_n 0, 1) := by decide +kernel
theorem dX7_init_28 : decode cX7_init 28 = .ok (.getfield 15, 3) := by decide +kernel
theorem dX7_init_31 : decode cX7_init 31 = .ok (.iload_n 2, 1) := by decide +kernel
theorem dX7_init_32 : decode cX7_init 32 = .ok (.new 13, 3) := by decide +kernel
theorem dX7_init_35 : decode cX7_init 35 = .ok (.dup, 1) := by decide +kernel
theorem dX7_init_36 : decode cX7_init 36 = .ok (.invokespecial 21, 3) := by decide +kernel
theorem dX7_init_39 : decode cX7_init 39 = .ok (.aastore, 1) := by decide +kernel
theorem dX7_init_40 : decode cX7_init 40 = .ok (.iinc 2 1, 3) := by decide +kernel
theorem dX7_init_43 : decode cX7_init 43 = .ok (.goto (-25), 3) := by decide +kernel
theorem dX7_init_46 : decode cX7_init 46 = .ok (.return_, 1) := by decide +kernel
theorem dX7_keep_0 : decode cX7_keep 0 = .ok (.aload_n 0, 1) := by decide +kernel
theorem dX7_keep_1 : decode cX7_keep 1 = .ok (.iload_n 1, 1) := by decide +kernel
theorem dX7_keep_2 : decode cX7_keep 2 = .ok (.invokevirtual 22, 3) := by decide +kernel
theorem dX7_keep_5 : decode cX7_keep 5 = .ok (.astore_n 3, 1) := by decide +kernel
theorem dX7_keep_6 : decode cX7_keep 6 = .ok (.aload_n 3, 1) := by decide +kernel
theorem dX7_keep_7 : decode cX7_keep 7 = .ok (.ifnull 8, 3) := by decide +kernel
theorem dX7_keep_10 : decode cX7_keep 10 = .ok (.aload_n 3, 1) := by decide +kernel
theorem dX7_keep_11 : decode cX7_keep 11 = .ok (.aload_n 2, 1) := by decide +kernel
theorem dX7_keep_12 : decode cX7_keep 12 = .ok (.invokevirtual 26, 3) := by decide +kernel
theorem dX7_keep_15 : decode cX7_keep 15 = .ok (.return_, 1) := by decide +kernel
theorem dX7_bringBack_0 : decode cX7_bringBack 0 = .ok (.aload_n 0, 1) := by decide +kernel
theorem dX7_bringBack_1 : decode cX7_bringBack 1 = .ok (.iload_n 1, 1) := by decide +kernel
theorem dX7_bringBack_2 : decode cX7_bringBack 2 = .ok (.invokevirtual 22, 3) := by decide +kernel
theorem dX7_bringBack_5 : decode cX7_bringBack 5 = .ok (.astore_n 3, 1) := by decide +kernel
theorem dX7_bringBack_6 : decode cX7_bringBack 6 = .ok (.aload_n 3, 1) := by decide +kernel
theorem dX7_bringBack_7 : decode cX7_bringBack 7 = .ok (.ifnull 8, 3) := by decide +kernel
theorem dX7_bringBack_10 : decode cX7_bringBack 10 = .ok (.aload_n 2, 1) := by decide +kernel
theorem dX7_bringBack_11 : decode cX7_bringBack 11 = .ok (.aload_n 3, 1) := by decide +kernel
theorem dX7_bringBack_12 : decode cX7_bringBack 12 = .ok (.invokevirtual 26, 3) := by decide +kernel
theorem dX7_bringBack_15 : decode cX7_bringBack 15 = .ok (.return_, 1) := by decide +kernel
theorem dX7_state_0 : decode cX7_state 0 = .ok (.iload_n 1, 1) := by decide +kernel
theorem dX7_state_1 : decode cX7_state 1 = .ok (.ifCond .lt 21, 3) := by decide +kernel
theorem dX7_state_4 : decode cX7_state 4 = .ok (.iload_n 1, 1) := by decide +kernel
theorem dX7_state_5 : decode cX7_state 5 = .ok (.aload_n 0, 1) := by decide +kernel
theorem dX7_state_6 : decode cX7_state 6 = .ok (.getfield 15, 3) := by decide +kernel
theorem dX7_state_9 : decode cX7_state 9 = .ok (.arraylength, 1) := by decide +kernel
theorem dX7_state_10 : decode cX7_state 10 = .ok (.if_icmp .ge 12, 3) := by decide +kernel
theorem dX7_state_13 : decode cX7_state 13 = .ok (.aload_n 0, 1) := by decide +kernel
theorem dX7_state_14 : decode cX7_state 14 = .ok (.getfield 15, 3) := by decide +kernel
theorem dX7_state_17 : decode cX7_state 17 = .ok (.iload_n 1, 1) := by decide +kernel
theorem dX7_state_18 : decode cX7_state 18 = .ok (.aaload, 1) := by decide +kernel
theorem dX7_state_19 : decode cX7_state 19 = .ok (.goto 4, 3) := by decide +kernel
theorem dX7_state_22 : decode cX7_state 22 = .ok (.aconst_null, 1) := by decide +kernel
theorem dX7_state_23 : decode cX7_state 23 = .ok (.areturn, 1) := by decide +kernel
theorem dX8_isHour_0 : decode cX8_isHour 0 = .ok (.iload_n 0, 1) := by decide +kernel
theorem dX8_isHour_1 : decode cX8_isHour 1 = .ok (.ifCond .lt 13, 3) := by decide +kernel
theorem dX8_isHour_4 : decode cX8_isHour 4 = .ok (.iload_n 0, 1) := by decide +kernel
theorem dX8_isHour_5 : decode cX8_isHour 5 = .ok (.bipush 11, 2) := by decide +kernel
theorem dX8_isHour_7 : decode cX8_isHour 7 = .ok (.if_icmp .ge 7, 3) := by decide +kernel
theorem dX8_isHour_10 : decode cX8_isHour 10 = .ok (.iconst 1, 1) := by decide +kernel
theorem dX8_isHour_11 : decode cX8_isHour 11 = .ok (.goto 4, 3) := by decide +kernel
theorem dX8_isHour_14 : decode cX8_isHour 14 = .ok (.iconst 0, 1) := by decide +kernel
theorem dX8_isHour_15 : decode cX8_isHour 15 = .ok (.ireturn, 1) := by decide +kernel
theorem dX8_height_0 : decode cX8_height 0 = .ok (.bipush 6, 2) := by decide +kernel
theorem dX8_height_2 : decode cX8_height 2 = .ok (.iload_n 0, 1) := by decide +kernel
theorem dX8_height_3 : decode cX8_height 3 = .ok (.iconst 5, 1) := by decide +kernel
theorem dX8_height_4 : decode cX8_height 4 = .ok (.isub, 1) := by decide +kernel
theorem dX8_height_5 : decode cX8_height 5 = .ok (.invokestatic 9, 3) := by decide +kernel
theorem dX8_height_8 : decode cX8_height 8 = .ok (.isub, 1) := by decide +kernel
theorem dX8_height_9 : decode cX8_height 9 = .ok (.ireturn, 1) := by decide +kernel
theorem dX8_columns_0 : decode cX8_columns 0 = .ok (.iconst 5, 1) := by decide +kernel
theorem dX8_columns_1 : decode cX8_columns 1 = .ok (.iload_n 0, 1) := by decide +kernel
theorem dX8_columns_2 : decode cX8_columns 2 = .ok (.isub, 1) := by decide +kernel
theorem dX8_columns_3 : decode cX8_columns 3 = .ok (.ireturn, 1) := by decide +kernel
theorem dX9_init_0 : decode cX9_init 0 = .ok (.aload_n 0, 1) := by decide +kernel
theorem dX9_init_1 : decode cX9_init 1 = .ok (.invokespecial 3, 3) := by decide +kernel
theorem dX9_init_4 : decode cX9_init 4 = .ok (.aload_n 0, 1) := by decide +kernel
theorem dX9_init_5 : decode cX9_init 5 = .ok (.new 9, 3) := by decide +kernel
theorem dX9_init_8 : decode cX9_init 8 = .ok (.dup, 1) := by decide +kernel
theorem dX9_init_9 : decode cX9_init 9 = .ok (.invokespecial 11, 3) := by decide +kernel
theorem dX9_init_12 : decode cX9_init 12 = .ok (.putfield 12, 3) := by decide +kernel
theorem dX9_init_15 : decode cX9_init 15 = .ok (.aload_n 0, 1) := by decide +kernel
theorem dX9_init_16 : decode cX9_init 16 = .ok (.new 16, 3) := by decide +kernel
theorem dX9_init_19 : decode cX9_init 19 = .ok (.dup, 1) := by decide +kernel
theorem dX9_init_20 : decode cX9_init 20 = .ok (.aload_n 0, 1) := by decide +kernel
theorem dX9_init_21 : decode cX9_init 21 = .ok (.getfield 12, 3) := by decide +kernel
theorem dX9_init_24 : decode cX9_init 24 = .ok (.invokespecial 18, 3) := by decide +kernel
theorem dX9_init_27 : decode cX9_init 27 = .ok (.putfield 21, 3) := by decide +kernel
theorem dX9_init_30 : decode cX9_init 30 = .ok (.aload_n 0, 1) := by decide +kernel
theorem dX9_init_31 : decode cX9_init 31 = .ok (.new 25, 3) := by decide +kernel
theorem dX9_init_34 : decode cX9_init 34 = .ok (.dup, 1) := by decide +kernel
theorem dX9_init_35 : decode cX9_init 35 = .ok (.aload_n 0, 1) := by decide +kernel
theorem dX9_init_36 : decode cX9_init 36 = .ok (.getfield 12, 3) := by decide +kernel
theorem dX9_init_39 : decode cX9_init 39 = .ok (.invokespecial 27, 3) := by decide +kernel
theorem dX9_init_42 : decode cX9_init 42 = .ok (.putfield 28, 3) := by decide +kernel
theorem dX9_init_45 : decode cX9_init 45 = .ok (.aload_n 0, 1) := by decide +kernel
theorem dX9_init_46 : decode cX9_init 46 = .ok (.new 32, 3) := by decide +kernel
theorem dX9_init_49 : decode cX9_init 49 = .ok (.dup, 1) := by decide +kernel
theorem dX9_init_50 : decode cX9_init 50 = .ok (.invokespecial 34, 3) := by decide +kernel
theorem dX9_init_53 : decode cX9_init 53 = .ok (.putfield 35, 3) := by decide +kernel
theorem dX9_init_56 : decode cX9_init 56 = .ok (.aload_n 0, 1) := by decide +kernel
theorem dX9_init_57 : decode cX9_init 57 = .ok (.new 39, 3) := by decide +kernel
theorem dX9_init_60 : decode cX9_init 60 = .ok (.dup, 1) := by decide +kernel
theorem dX9_init_61 : decode cX9_init 61 = .ok (.aload_n 0, 1) := by decide +kernel
theorem dX9_init_62 : decode cX9_init 62 = .ok (.getfield 35, 3) := by decide +kernel
theorem dX9_init_65 : decode cX9_init 65 = .ok (.invokespecial 41, 3) := by decide +kernel
theorem dX9_init_68 : decode cX9_init 68 = .ok (.putfield 44, 3) := by decide +kernel
theorem dX9_init_71 : decode cX9_init 71 = .ok (.aload_n 0, 1) := by decide +kernel
theorem dX9_init_72 : decode cX9_init 72 = .ok (.new 48, 3) := by decide +kernel
theorem dX9_init_75 : decode cX9_init 75 = .ok (.dup, 1) := by decide +kernel
theorem dX9_init_76 : decode cX9_init 76 = .ok (.invokespecial 50, 3) := by decide +kernel
theorem dX9_init_79 : decode cX9_init 79 = .ok (.putfield 51, 3) := by decide +kernel
theorem dX9_init_82 : decode cX9_init 82 = .ok (.aload_n 0, 1) := by decide +kernel
theorem dX9_init_83 : decode cX9_init 83 = .ok (.new 55, 3) := by decide +kernel
theorem dX9_init_86 : decode cX9_init 86 = .ok (.dup, 1) := by decide +kernel
theorem dX9_init_87 : decode cX9_init 87 = .ok (.iconst 2, 1) := by decide +kernel
theorem dX9_init_88 : decode cX9_init 88 = .ok (.invokespecial 57, 3) := by decide +kernel
theorem dX9_init_91 : decode cX9_init 91 = .ok (.putfield 60, 3) := by decide +kernel
theorem dX9_init_94 : decode cX9_init 94 = .ok (.aload_n 0, 1) := by decide +kernel
theorem dX9_init_95 : decode cX9_init 95 = .ok (.iconst 0, 1) := by decide +kernel
theorem dX9_init_96 : decode cX9_init 96 = .ok (.putfield 64, 3) := by decide +kernel
theorem dX9_init_99 : decode cX9_init 99 = .ok (.return_, 1) := by decide +kernel
theorem dX9_set_0 : decode cX9_set 0 = .ok (.aload_n 0, 1) := by decide +kernel
theorem dX9_set_1 : decode cX9_set 1 = .ok (.getfield 51, 3) := by decide +kernel
theorem dX9_set_4 : decode cX9_set 4 = .ok (.aload_n 0, 1) := by decide +kernel
theorem dX9_set_5 : decode cX9_set 5 = .ok (.getfield 12, 3) := by decide +kernel
theorem dX9_set_8 : decode cX9_set 8 = .ok (.invokevirtual 68, 3) := by decide +kernel
theorem dX9_set_11 : decode cX9_set 11 = .ok (.aload_n 0, 1) := by decide +kernel
theorem dX9_set_12 : decode cX9_set 12 = .ok (.aload_n 0, 1) := by decide +kernel
theorem dX9_set_13 : decode cX9_set 13 = .ok (.getfield 12, 3) := by decide +kernel
theorem dX9_set_16 : decode cX9_set 16 = .ok (.iload_n 1, 1) := by decide +kernel
theorem dX9_set_17 : decode cX9_set 17 = .ok (.iload_n 2, 1) := by decide +kernel
theorem dX9_set_18 : decode cX9_set 18 = .ok (.invokevirtual 71, 3) := by decide +kernel
theorem dX9_set_21 : decode cX9_set 21 = .ok (.invokevirtual 75, 3) := by decide +kernel
theorem dX9_set_24 : decode cX9_set 24 = .ok (.ireturn, 1) := by decide +kernel
theorem dX9_mirror_0 : decode cX9_mirror 0 = .ok (.aload_n 0, 1) := by decide +kernel
theorem dX9_mirror_1 : decode cX9_mirror 1 = .ok (.getfield 51, 3) := by decide +kernel
theorem dX9_mirror_4 : decode cX9_mirror 4 = .ok (.aload_n 0, 1) := by decide +kernel
theorem dX9_mirror_5 : decode cX9_mirror 5 = .ok (.getfield 12, 3) := by decide +kernel
theorem dX9_mirror_8 : decode cX9_mirror 8 = .ok (.invokevirtual 68, 3) := by decide +kernel
theorem dX9_mirror_11 : decode cX9_mirror 11 = .ok (.aload_n 0, 1) := by decide +kernel
theorem dX9_mirror_12 : decode cX9_mirror 12 = .ok (.aload_n 0, 1) := by decide +kernel
theorem dX9_mirror_13 : decode cX9_mirror 13 = .ok (.getfield 12, 3) := by decide +kernel
theorem dX9_mirror_16 : decode cX9_mirror 16 = .ok (.iload_n 1, 1) := by decide +kernel
theorem dX9_mirror_17 : decode cX9_mirror 17 = .ok (.iload_n 2, 1) := by decide +kernel
theorem dX9_mirror_18 : decode cX9_mirror 18 = .ok (.iload_n 3, 1) := by decide +kernel
theorem dX9_mirror_19 : decode cX9_mirror 19 = .ok (.invokevirtual 79, 3) := by decide +kernel
theorem dX9_mirror_22 : decode cX9_mirror 22 = .ok (.invokevirtual 75, 3) := by decide +kernel
theorem dX9_mirror_25 : decode cX9_mirror 25 = .ok (.ireturn, 1) := by decide +kernel
theorem dX9_take_0 : decode cX9_take 0 = .ok (.aload_n 0, 1) := by decide +kernel
theorem dX9_take_1 : decode cX9_take 1 = .ok (.getfield 51, 3) := by decide +kernel
theorem dX9_take_4 : decode cX9_take 4 = .ok (.aload_n 0, 1) := by decide +kernel
theorem dX9_take_5 : decode cX9_take 5 = .ok (.getfield 12, 3) := by decide +kernel
theorem dX9_take_8 : decode cX9_take 8 = .ok (.invokevirtual 68, 3) := by decide +kernel
theorem dX9_take_11 : decode cX9_take 11 = .ok (.aload_n 0, 1) := by decide +kernel
theorem dX9_take_12 : decode cX9_take 12 = .ok (.aload_n 0, 1) := by decide +kernel
theorem dX9_take_13 : decode cX9_take 13 = .ok (.getfield 12, 3) := by decide +kernel
theorem dX9_take_16 : decode cX9_take 16 = .ok (.iload_n 1, 1) := by decide +kernel
theorem dX9_take_17 : decode cX9_take 17 = .ok (.invokevirtual 83, 3) := by decide +kernel
theorem dX9_take_20 : decode cX9_take 20 = .ok (.invokevirtual 75, 3) := by decide +kernel
theorem dX9_take_23 : decode cX9_take 23 = .ok (.ireturn, 1) := by decide +kernel
theorem dX9_aim_0 : decode cX9_aim 0 = .ok (.aload_n 0, 1) := by decide +kernel
theorem dX9_aim_1 : decode cX9_aim 1 = .ok (.getfield 51, 3) := by decide +kernel
theorem dX9_aim_4 : decode cX9_aim 4 = .ok (.aload_n 0, 1) := by decide +kernel
theorem dX9_aim_5 : decode cX9_aim 5 = .ok (.getfield 12, 3) := by decide +kernel
theorem dX9_aim_8 : decode cX9_aim 8 = .ok (.invokevirtual 68, 3) := by decide +kernel
theorem dX9_aim_11 : decode cX9_aim 11 = .ok (.aload_n 0, 1) := by decide +kernel
theorem dX9_aim_12 : decode cX9_aim 12 = .ok (.aload_n 0, 1) := by decide +kernel
theorem dX9_aim_13 : decode cX9_aim 13 = .ok (.getfield 12, 3) := by decide +kernel
theorem dX9_aim_16 : decode cX9_aim 16 = .ok (.iload_n 1, 1) := by decide +kernel
theorem dX9_aim_17 : decode cX9_aim 17 = .ok (.iload_n 2, 1) := by decide +kernel
theorem dX9_aim_18 : decode cX9_aim 18 = .ok (.invokevirtual 86, 3) := by decide +kernel
theorem dX9_aim_21 : decode cX9_aim 21 = .ok (.invokevirtual 75, 3) := by decide +kernel
theorem dX9_aim_24 : decode cX9_aim 24 = .ok (.ireturn, 1) := by decide +kernel
theorem dX9_wash_0 : decode cX9_wash 0 = .ok (.aload_n 0, 1) := by decide +kernel
theorem dX9_wash_1 : decode cX9_wash 1 = .ok (.getfield 51, 3) := by decide +kernel
theorem dX9_wash_4 : decode cX9_wash 4 = .ok (.aload_n 0, 1) := by decide +kernel
theorem dX9_wash_5 : decode cX9_wash 5 = .ok (.getfield 12, 3) := by decide +kernel
theorem dX9_wash_8 : decode cX9_wash 8 = .ok (.invokevirtual 68, 3) := by decide +kernel
theorem dX9_wash_11 : decode cX9_wash 11 = .ok (.aload_n 0, 1) := by decide +kernel
theorem dX9_wash_12 : decode cX9_wash 12 = .ok (.aload_n 0, 1) := by decide +kernel
theorem dX9_wash_13 : decode cX9_wash 13 = .ok (.getfield 12, 3) := by decide +kernel
theorem dX9_wash_16 : decode cX9_wash 16 = .ok (.iload_n 1, 1) := by decide +kernel
theorem dX9_wash_17 : decode cX9_wash 17 = .ok (.invokevirtual 89, 3) := by decide +kernel
theorem dX9_wash_20 : decode cX9_wash 20 = .ok (.invokevirtual 75, 3) := by decide +kernel
theorem dX9_wash_23 : decode cX9_wash 23 = .ok (.ireturn, 1) := by decide +kernel
theorem dX9_wind_0 : decode cX9_wind 0 = .ok (.aload_n 0, 1) := by decide +kernel
theorem dX9_wind_1 : decode cX9_wind 1 = .ok (.getfield 51, 3) := by decide +kernel
theorem dX9_wind_4 : decode cX9_wind 4 = .ok (.aload_n 0, 1) := by decide +kernel
theorem dX9_wind_5 : decode cX9_wind 5 = .ok (.getfield 12, 3) := by decide +kernel
theorem dX9_wind_8 : decode cX9_wind 8 = .ok (.invokevirtual 68, 3) := by decide +kernel
theorem dX9_wind_11 : decode cX9_wind 11 = .ok (.aload_n 0, 1) := by decide +kernel
theorem dX9_wind_12 : decode cX9_wind 12 = .ok (.aload_n 0, 1) := by decide +kernel
theorem dX9_wind_13 : decode cX9_wind 13 = .ok (.getfield 12, 3) := by decide +kernel
theorem dX9_wind_16 : decode cX9_wind 16 = .ok (.iload_n 1, 1) := by decide +kernel
theorem dX9_wind_17 : decode cX9_wind 17 = .ok (.invokevirtual 92, 3) := by decide +kernel
theorem dX9_wind_20 : decode cX9_wind 20 = .ok (.invokevirtual 75, 3) := by decide +kernel
theorem dX9_wind_23 : decode cX9_wind 23 = .ok (.ireturn, 1) := by decide +kernel
theorem dX9_pass_0 : decode cX9_pass 0 = .ok (.aload_n 0, 1) := by decide +kernel
theorem dX9_pass_1 : decode cX9_pass 1 = .ok (.getfield 51, 3) := by decide +kernel
theorem dX9_pass_4 : decode cX9_pass 4 = .ok (.aload_n 0, 1) := by decide +kernel
theorem dX9_pass_5 : decode cX9_pass 5 = .ok (.getfield 12, 3) := by decide +kernel
theorem dX9_pass_8 : decode cX9_pass 8 = .ok (.invokevirtual 68, 3) := by decide +kernel
theorem dX9_pass_11 : decode cX9_pass 11 = .ok (.aload_n 0, 1) := by decide +kernel
theorem dX9_pass_12 : decode cX9_pass 12 = .ok (.aload_n 0, 1) := by decide +kernel
theorem dX9_pass_13 : decode cX9_pass 13 = .ok (.getfield 21, 3) := by decide +kernel
theorem dX9_pass_16 : decode cX9_pass 16 = .ok (.iload_n 1, 1) := by decide +kernel
theorem dX9_pass_17 : decode cX9_pass 17 = .ok (.invokevirtual 95, 3) := by decide +kernel
theorem dX9_pass_20 : decode cX9_pass 20 = .ok (.invokevirtual 75, 3) := by decide +kernel
theorem dX9_pass_23 : decode cX9_pass 23 = .ok (.ireturn, 1) := by decide +kernel
theorem dX9_of_0 : decode cX9_of 0 = .ok (.aload_n 0, 1) := by decide +kernel
theorem dX9_of_1 : decode cX9_of 1 = .ok (.getfield 12, 3) := by decide +kernel
theorem dX9_of_4 : decode cX9_of 4 = .ok (.iload_n 1, 1) := by decide +kernel
theorem dX9_of_5 : decode cX9_of 5 = .ok (.invokevirtual 98, 3) := by decide +kernel
theorem dX9_of_8 : decode cX9_of 8 = .ok (.ifCond .ne 5, 3) := by decide +kernel
theorem dX9_of_11 : decode cX9_of 11 = .ok (.iconst (-1), 1) := by decide +kernel
theorem dX9_of_12 : decode cX9_of 12 = .ok (.ireturn, 1) := by decide +kernel
theorem dX9_of_13 : decode cX9_of 13 = .ok (.iload_n 2, 1) := by decide +kernel
theorem dX9_of_14 : decode cX9_of 14 = .ok (.tableswitch 122 0 5 #[38, 50, 62, 74, 86, 110], 38) := by decide +kernel
theorem dX9_of_52 : decode cX9_of 52 = .ok (.aload_n 0, 1) := by decide +kernel
theorem dX9_of_53 : decode cX9_of 53 = .ok (.getfield 12, 3) := by decide +kernel
theorem dX9_of_56 : decode cX9_of 56 = .ok (.getfield 102, 3) := by decide +kernel
theorem dX9_of_59 : decode cX9_of 59 = .ok (.iload_n 1, 1) := by decide +kernel
theorem dX9_of_60 : decode cX9_of 60 = .ok (.invokevirtual 106, 3) := by decide +kernel
theorem dX9_of_63 : decode cX9_of 63 = .ok (.ireturn, 1) := by decide +kernel
theorem dX9_of_64 : decode cX9_of 64 = .ok (.aload_n 0, 1) := by decide +kernel
theorem dX9_of_65 : decode cX9_of 65 = .ok (.getfield 12, 3) := by decide +kernel
theorem dX9_of_68 : decode cX9_of 68 = .ok (.getfield 111, 3) := by decide +kernel
theorem dX9_of_71 : decode cX9_of 71 = .ok (.iload_n 1, 1) := by decide +kernel
theorem dX9_of_72 : decode cX9_of 72 = .ok (.invokevirtual 106, 3) := by decide +kernel
theorem dX9_of_75 : decode cX9_of 75 = .ok (.ireturn, 1) := by decide +kernel
theorem dX9_of_76 : decode cX9_of 76 = .ok (.aload_n 0, 1) := by decide +kernel
theorem dX9_of_77 : decode cX9_of 77 = .ok (.getfield 12, 3) := by decide +kernel
theorem dX9_of_80 : decode cX9_of 80 = .ok (.getfield 114, 3) := by decide +kernel
theorem dX9_of_83 : decode cX9_of 83 = .ok (.iload_n 1, 1) := by decide +kernel
theorem dX9_of_84 : decode cX9_of 84 = .ok (.invokevirtual 106, 3) := by decide +kernel
theorem dX9_of_87 : decode cX9_of 87 = .ok (.ireturn, 1) := by decide +kernel
theorem dX9_of_88 : decode cX9_of 88 = .ok (.aload_n 0, 1) := by decide +kernel
theorem dX9_of_89 : decode cX9_of 89 = .ok (.getfield 12, 3) := by decide +kernel
theorem dX9_of_92 : decode cX9_of 92 = .ok (.getfield 117, 3) := by decide +kernel
theorem dX9_of_95 : decode cX9_of 95 = .ok (.iload_n 1, 1) := by decide +kernel
theorem dX9_of_96 : decode cX9_of 96 = .ok (.invokevirtual 106, 3) := by decide +kernel
theorem dX9_of_99 : decode cX9_of 99 = .ok (.ireturn, 1) := by decide +kernel
theorem dX9_of_100 : decode cX9_of 100 = .ok (.aload_n 0, 1) := by decide +kernel
theorem dX9_of_101 : decode cX9_of 101 = .ok (.getfield 21, 3) := by decide +kernel
theorem dX9_of_104 : decode cX9_of 104 = .ok (.invokevirtual 120, 3) := by decide +kernel
theorem dX9_of_107 : decode cX9_of 107 = .ok (.aload_n 0, 1) := by decide +kernel
theorem dX9_of_108 : decode cX9_of 108 = .ok (.getfield 21, 3) := by decide +kernel
theorem dX9_of_111 : decode cX9_of 111 = .ok (.iload_n 1, 1) := by decide +kernel
theorem dX9_of_112 : decode cX9_of 112 = .ok (.invokevirtual 123, 3) := by decide +kernel
theorem dX9_of_115 : decode cX9_of 115 = .ok (.ifCond .eq 7, 3) := by decide +kernel
theorem dX9_of_118 : decode cX9_of 118 = .ok (.iconst 1, 1) := by decide +kernel
theorem dX9_of_119 : decode cX9_of 119 = .ok (.goto 4, 3) := by decide +kernel
theorem dX9_of_122 : decode cX9_of 122 = .ok (.iconst 0, 1) := by decide +kernel
theorem dX9_of_123 : decode cX9_of 123 = .ok (.ireturn, 1) := by decide +kernel
theorem dX9_of_124 : decode cX9_of 124 = .ok (.aload_n 0, 1) := by decide +kernel
theorem dX9_of_125 : decode cX9_of 125 = .ok (.getfield 12, 3) := by decide +kernel
theorem dX9_of_128 : decode cX9_of 128 = .ok (.getfield 126, 3) := by decide +kernel
theorem dX9_of_131 : decode cX9_of 131 = .ok (.iload_n 1, 1) := by decide +kernel
theorem dX9_of_132 : decode cX9_of 132 = .ok (.invokevirtual 106, 3) := by decide +kernel
theorem dX9_of_135 : decode cX9_of 135 = .ok (.ireturn, 1) := by decide +kernel
theorem dX9_of_136 : decode cX9_of 136 = .ok (.bipush (-2), 2) := by decide +kernel
theorem dX9_of_138 : decode cX9_of 138 = .ok (.ireturn, 1) := by decide +kernel
theorem dX9_at_0 : decode cX9_at 0 = .ok (.aload_n 0, 1) := by decide +kernel
theorem dX9_at_1 : decode cX9_at 1 = .ok (.getfield 12, 3) := by decide +kernel
theorem dX9_at_4 : decode cX9_at 4 = .ok (.iload_n 1, 1) := by decide +kernel
theorem dX9_at_5 : decode cX9_at 5 = .ok (.invokevirtual 98, 3) := by decide +kernel
theorem dX9_at_8 : decode cX9_at 8 = .ok (.ifCond .eq 10, 3) := by decide +kernel
theorem dX9_at_11 : decode cX9_at 11 = .ok (.iload_n 2, 1) := by decide +kernel
theorem dX9_at_12 : decode cX9_at 12 = .ok (.invokestatic 129, 3) := by decide +kernel
theorem dX9_at_15 : decode cX9_at 15 = .ok (.ifCond .ne 5, 3) := by decide +kernel
theorem dX9_at_18 : decode cX9_at 18 = .ok (.iconst (-1), 1) := by decide +kernel
theorem dX9_at_19 : decode cX9_at 19 = .ok (.ireturn, 1) := by decide +kernel
theorem dX9_at_20 : decode cX9_at 20 = .ok (.aload_n 0, 1) := by decide +kernel
theorem dX9_at_21 : decode cX9_at 21 = .ok (.getfield 21, 3) := by decide +kernel
theorem dX9_at_24 : decode cX9_at 24 = .ok (.invokevirtual 120, 3) := by decide +kernel
theorem dX9_at_27 : decode cX9_at 27 = .ok (.aload_n 0, 1) := by decide +kernel
theorem dX9_at_28 : decode cX9_at 28 = .ok (.getfield 21, 3) := by decide +kernel
theorem dX9_at_31 : decode cX9_at 31 = .ok (.iload_n 2, 1) := by decide +kernel
theorem dX9_at_32 : decode cX9_at 32 = .ok (.invokevirtual 134, 3) := by decide +kernel
theorem dX9_at_35 : decode cX9_at 35 = .ok (.pop, 1) := by decide +kernel
theorem dX9_at_36 : decode cX9_at 36 = .ok (.iload_n 3, 1) := by decide +kernel
theorem dX9_at_37 : decode cX9_at 37 = .ok (.tableswitch 87 0 3 #[31, 51, 60, 77], 31) := by decide +kernel
theorem dX9_at_68 : decode cX9_at 68 = .ok (.aload_n 0, 1) := by decide +kernel
theorem dX9_at_69 : decode cX9_at 69 = .ok (.getfield 21, 3) := by decide +kernel
theorem dX9_at_72 : decode cX9_at 72 = .ok (.iload_n 1, 1) := by decide +kernel
theorem dX9_at_73 : decode cX9_at 73 = .ok (.iload_n 2, 1) := by decide +kernel
theorem dX9_at_74 : decode cX9_at 74 = .ok (.invokevirtual 137, 3) := by decide +kernel
theorem dX9_at_77 : decode cX9_at 77 = .ok (.bipush (-6), 2) := by decide +kernel
theorem dX9_at_79 : decode cX9_at 79 = .ok (.if_icmp .ne 7, 3) := by decide +kernel
theorem dX9_at_82 : decode cX9_at 82 = .ok (.iconst 0, 1) := by decide +kernel
theorem dX9_at_83 : decode cX9_at 83 = .ok (.goto 4, 3) := by decide +kernel
theorem dX9_at_86 : decode cX9_at 86 = .ok (.iconst 1, 1) := by decide +kernel
theorem dX9_at_87 : decode cX9_at 87 = .ok (.ireturn, 1) := by decide +kernel
theorem dX9_at_88 : decode cX9_at 88 = .ok (.aload_n 0, 1) := by decide +kernel
theorem dX9_at_89 : decode cX9_at 89 = .ok (.getfield 21, 3) := by decide +kernel
theorem dX9_at_92 : decode cX9_at 92 = .ok (.iload_n 1, 1) := by decide +kernel
theorem dX9_at_93 : decode cX9_at 93 = .ok (.invokevirtual 140, 3) := by decide +kernel
theorem dX9_at_96 : decode cX9_at 96 = .ok (.ireturn, 1) := by decide +kernel
theorem dX9_at_97 : decode cX9_at 97 = .ok (.aload_n 0, 1) := by decide +kernel
theorem dX9_at_98 : decode cX9_at 98 = .ok (.getfield 21, 3) := by decide +kernel
theorem dX9_at_101 : decode cX9_at 101 = .ok (.iload_n 1, 1) := by decide +kernel
theorem dX9_at_102 : decode cX9_at 102 = .ok (.invokevirtual 143, 3) := by decide +kernel
theorem dX9_at_105 : decode cX9_at 105 = .ok (.ifCond .eq 7, 3) := by decide +kernel
theorem dX9_at_108 : decode cX9_at 108 = .ok (.iconst 1, 1) := by decide +kernel
theorem dX9_at_109 : decode cX9_at 109 = .ok (.goto 4, 3) := by decide +kernel
theorem dX9_at_112 : decode cX9_at 112 = .ok (.iconst 0, 1) := by decide +kernel
theorem dX9_at_113 : decode cX9_at 113 = .ok (.ireturn, 1) := by decide +kernel
theorem dX9_at_114 : decode cX9_at 114 = .ok (.aload_n 0, 1) := by decide +kernel
theorem dX9_at_115 : decode cX9_at 115 = .ok (.getfield 21, 3) := by decide +kernel
theorem dX9_at_118 : decode cX9_at 118 = .ok (.iload_n 1, 1) := by decide +kernel
theorem dX9_at_119 : decode cX9_at 119 = .ok (.iload_n 2, 1) := by decide +kernel
theorem dX9_at_120 : decode cX9_at 120 = .ok (.invokevirtual 137, 3) := by decide +kernel
theorem dX9_at_123 : decode cX9_at 123 = .ok (.ireturn, 1) := by decide +kernel
theorem dX9_at_124 : decode cX9_at 124 = .ok (.bipush (-2), 2) := by decide +kernel
theorem dX9_at_126 : decode cX9_at 126 = .ok (.ireturn, 1) := by decide +kernel
theorem dX9_point_0 : decode cX9_point 0 = .ok (.iload_n 1, 1) := by decide +kernel
theorem dX9_point_1 : decode cX9_point 1 = .ok (.invokestatic 146, 3) := by decide +kernel
theorem dX9_point_4 : decode cX9_point 4 = .ok (.ifCond .eq 10, 3) := by decide +kernel
theorem dX9_point_7 : decode cX9_point 7 = .ok (.iload_n 2, 1) := by decide +kernel
theorem dX9_point_8 : decode cX9_point 8 = .ok (.invokestatic 129, 3) := by decide +kernel
theorem dX9_point_11 : decode cX9_point 11 = .ok (.ifCond .ne 5, 3) := by decide +kernel
theorem dX9_point_14 : decode cX9_point 14 = .ok (.iconst (-1), 1) := by decide +kernel
theorem dX9_point_15 : decode cX9_point 15 = .ok (.ireturn, 1) := by decide +kernel
theorem dX9_point_16 : decode cX9_point 16 = .ok (.aload_n 0, 1) := by decide +kernel
theorem dX9_point_17 : decode cX9_point 17 = .ok (.getfield 21, 3) := by decide +kernel
theorem dX9_point_20 : decode cX9_point 20 = .ok (.invokevirtual 120, 3) := by decide +kernel
theorem dX9_point_23 : decode cX9_point 23 = .ok (.aload_n 0, 1) := by decide +kernel
theorem dX9_point_24 : decode cX9_point 24 = .ok (.getfield 21, 3) := by decide +kernel
theorem dX9_point_27 : decode cX9_point 27 = .ok (.iload_n 2, 1) := by decide +kernel
theorem dX9_point_28 : decode cX9_point 28 = .ok (.invokevirtual 134, 3) := by decide +kernel
theorem dX9_point_31 : decode cX9_point 31 = .ok (.pop, 1) := by decide +kernel
theorem dX9_point_32 : decode cX9_point 32 = .ok (.iload_n 3, 1) := by decide +kernel
theorem dX9_point_33 : decode cX9_point 33 = .ok (.tableswitch 62 0 2 #[27, 36, 45], 27) := by decide +kernel
theorem dX9_point_60 : decode cX9_point 60 = .ok (.aload_n 0, 1) := by decide +kernel
theorem dX9_point_61 : decode cX9_point 61 = .ok (.getfield 21, 3) := by decide +kernel
theorem dX9_point_64 : decode cX9_point 64 = .ok (.iload_n 1, 1) := by decide +kernel
theorem dX9_point_65 : decode cX9_point 65 = .ok (.invokevirtual 149, 3) := by decide +kernel
theorem dX9_point_68 : decode cX9_point 68 = .ok (.ireturn, 1) := by decide +kernel
theorem dX9_point_69 : decode cX9_point 69 = .ok (.aload_n 0, 1) := by decide +kernel
theorem dX9_point_70 : decode cX9_point 70 = .ok (.getfield 12, 3) := by decide +kernel
theorem dX9_point_73 : decode cX9_point 73 = .ok (.iload_n 1, 1) := by decide +kernel
theorem dX9_point_74 : decode cX9_point 74 = .ok (.invokevirtual 152, 3) := by decide +kernel
theorem dX9_point_77 : decode cX9_point 77 = .ok (.ireturn, 1) := by decide +kernel
theorem dX9_point_78 : decode cX9_point 78 = .ok (.aload_n 0, 1) := by decide +kernel
theorem dX9_point_79 : decode cX9_point 79 = .ok (.getfield 12, 3) := by decide +kernel
theorem dX9_point_82 : decode cX9_point 82 = .ok (.iload_n 1, 1) := by decide +kernel
theorem dX9_point_83 : decode cX9_point 83 = .ok (.invokevirtual 152, 3) := by decide +kernel
theorem dX9_point_86 : decode cX9_point 86 = .ok (.aload_n 0, 1) := by decide +kernel
theorem dX9_point_87 : decode cX9_point 87 = .ok (.getfield 21, 3) := by decide +kernel
theorem dX9_point_90 : decode cX9_point 90 = .ok (.invokevirtual 155, 3) := by decide +kernel
theorem dX9_point_93 : decode cX9_point 93 = .ok (.iand, 1) := by decide +kernel
theorem dX9_point_94 : decode cX9_point 94 = .ok (.ireturn, 1) := by decide +kernel
theorem dX9_point_95 : decode cX9_point 95 = .ok (.bipush (-2), 2) := by decide +kernel
theorem dX9_point_97 : decode cX9_point 97 = .ok (.ireturn, 1) := by decide +kernel
theorem dX9_count_0 : decode cX9_count 0 = .ok (.iload_n 1, 1) := by decide +kernel
theorem dX9_count_1 : decode cX9_count 1 = .ok (.tableswitch 205 0 12 #[67, 75, 83, 91, 107, 115, 130, 145, 153, 165, 177, 189, 197], 67) := by decide +kernel
theorem dX9_count_68 : decode cX9_count 68 = .ok (.aload_n 0, 1) := by decide +kernel
theorem dX9_count_69 : decode cX9_count 69 = .ok (.getfield 12, 3) := by decide +kernel
theorem dX9_count_72 : decode cX9_count 72 = .ok (.getfield 159, 3) := by decide +kernel
theorem dX9_count_75 : decode cX9_count 75 = .ok (.ireturn, 1) := by decide +kernel
theorem dX9_count_76 : decode cX9_count 76 = .ok (.aload_n 0, 1) := by decide +kernel
theorem dX9_count_77 : decode cX9_count 77 = .ok (.getfield 12, 3) := by decide +kernel
theorem dX9_count_80 : decode cX9_count 80 = .ok (.getfield 162, 3) := by decide +kernel
theorem dX9_count_83 : decode cX9_count 83 = .ok (.ireturn, 1) := by decide +kernel
theorem dX9_count_84 : decode cX9_count 84 = .ok (.aload_n 0, 1) := by decide +kernel
theorem dX9_count_85 : decode cX9_count 85 = .ok (.getfield 12, 3) := by decide +kernel
theorem dX9_count_88 : decode cX9_count 88 = .ok (.getfield 165, 3) := by decide +kernel
theorem dX9_count_91 : decode cX9_count 91 = .ok (.ireturn, 1) := by decide +kernel
theorem dX9_count_92 : decode cX9_count 92 = .ok (.aload_n 0, 1) := by decide +kernel
theorem dX9_count_93 : decode cX9_count 93 = .ok (.getfield 12, 3) := by decide +kernel
theorem dX9_count_96 : decode cX9_count 96 = .ok (.invokevirtual 168, 3) := by decide +kernel
theorem dX9_count_99 : decode cX9_count 99 = .ok (.ifCond .eq 7, 3) := by decide +kernel
theorem dX9_count_102 : decode cX9_count 102 = .ok (.iconst 1, 1) := by decide +kernel
theorem dX9_count_103 : decode cX9_count 103 = .ok (.goto 4, 3) := by decide +kernel
theorem dX9_count_106 : decode cX9_count 106 = .ok (.iconst 0, 1) := by decide +kernel
theorem dX9_count_107 : decode cX9_count 107 = .ok (.ireturn, 1) := by decide +kernel
theorem dX9_count_108 : decode cX9_count 108 = .ok (.aload_n 0, 1) := by decide +kernel
theorem dX9_count_109 : decode cX9_count 109 = .ok (.getfield 12, 3) := by decide +kernel
theorem dX9_count_112 : decode cX9_count 112 = .ok (.getfield 172, 3) := by decide +kernel
theorem dX9_count_115 : decode cX9_count 115 = .ok (.ireturn, 1) := by decide +kernel
theorem dX9_count_116 : decode cX9_count 116 = .ok (.aload_n 0, 1) := by decide +kernel
theorem dX9_count_117 : decode cX9_count 117 = .ok (.getfield 21, 3) := by decide +kernel
theorem dX9_count_120 : decode cX9_count 120 = .ok (.invokevirtual 120, 3) := by decide +kernel
theorem dX9_count_123 : decode cX9_count 123 = .ok (.aload_n 0, 1) := by decide +kernel
theorem dX9_count_124 : decode cX9_count 124 = .ok (.getfield 21, 3) := by decide +kernel
theorem dX9_count_127 : decode cX9_count 127 = .ok (.invokevirtual 175, 3) := by decide +kernel
theorem dX9_count_130 : decode cX9_count 130 = .ok (.ireturn, 1) := by decide +kernel
theorem dX9_count_131 : decode cX9_count 131 = .ok (.aload_n 0, 1) := by decide +kernel
theorem dX9_count_132 : decode cX9_count 132 = .ok (.getfield 21, 3) := by decide +kernel
theorem dX9_count_135 : decode cX9_count 135 = .ok (.invokevirtual 120, 3) := by decide +kernel
theorem dX9_count_138 : decode cX9_count 138 = .ok (.aload_n 0, 1) := by decide +kernel
theorem dX9_count_139 : decode cX9_count 139 = .ok (.getfield 21, 3) := by decide +kernel
theorem dX9_count_142 : decode cX9_count 142 = .ok (.invokevirtual 178, 3) := by decide +kernel
theorem dX9_count_145 : decode cX9_count 145 = .ok (.ireturn, 1) := by decide +kernel
theorem dX9_count_146 : decode cX9_count 146 = .ok (.aload_n 0, 1) := by decide +kernel
theorem dX9_count_147 : decode cX9_count 147 = .ok (.getfield 12, 3) := by decide +kernel
theorem dX9_count_150 : decode cX9_count 150 = .ok (.invokevirtual 181, 3) := by decide +kernel
theorem dX9_count_153 : decode cX9_count 153 = .ok (.ireturn, 1) := by decide +kernel
theorem dX9_count_154 : decode cX9_count 154 = .ok (.aload_n 0, 1) := by decide +kernel
theorem dX9_count_155 : decode cX9_count 155 = .ok (.getfield 12, 3) := by decide +kernel
theorem dX9_count_158 : decode cX9_count 158 = .ok (.getfield 184, 3) := by decide +kernel
theorem dX9_count_161 : decode cX9_count 161 = .ok (.iconst 0, 1) := by decide +kernel
theorem dX9_count_162 : decode cX9_count 162 = .ok (.invokevirtual 106, 3) := by decide +kernel
theorem dX9_count_165 : decode cX9_count 165 = .ok (.ireturn, 1) := by decide +kernel
theorem dX9_count_166 : decode cX9_count 166 = .ok (.aload_n 0, 1) := by decide +kernel
theorem dX9_count_167 : decode cX9_count 167 = .ok (.getfield 12, 3) := by decide +kernel
theorem dX9_count_170 : decode cX9_count 170 = .ok (.getfield 184, 3) := by decide +kernel
theorem dX9_count_173 : decode cX9_count 173 = .ok (.iconst 1, 1) := by decide +kernel
theorem dX9_count_174 : decode cX9_count 174 = .ok (.invokevirtual 106, 3) := by decide +kernel
theorem dX9_count_177 : decode cX9_count 177 = .ok (.ireturn, 1) := by decide +kernel
theorem dX9_count_178 : decode cX9_count 178 = .ok (.aload_n 0, 1) := by decide +kernel
theorem dX9_count_179 : decode cX9_count 179 = .ok (.getfield 12, 3) := by decide +kernel
theorem dX9_count_182 : decode cX9_count 182 = .ok (.getfield 184, 3) := by decide +kernel
theorem dX9_count_185 : decode cX9_count 185 = .ok (.iconst 2, 1) := by decide +kernel
theorem dX9_count_186 : decode cX9_count 186 = .ok (.invokevirtual 106, 3) := by decide +kernel
theorem dX9_count_189 : decode cX9_count 189 = .ok (.ireturn, 1) := by decide +kernel
theorem dX9_count_190 : decode cX9_count 190 = .ok (.aload_n 0, 1) := by decide +kernel
theorem dX9_count_191 : decode cX9_count 191 = .ok (.getfield 35, 3) := by decide +kernel
theorem dX9_count_194 : decode cX9_count 194 = .ok (.invokevirtual 187, 3) := by decide +kernel
theorem dX9_count_197 : decode cX9_count 197 = .ok (.ireturn, 1) := by decide +kernel
theorem dX9_count_198 : decode cX9_count 198 = .ok (.aload_n 0, 1) := by decide +kernel
theorem dX9_count_199 : decode cX9_count 199 = .ok (.getfield 51, 3) := by decide +kernel
theorem dX9_count_202 : decode cX9_count 202 = .ok (.invokevirtual 190, 3) := by decide +kernel
theorem dX9_count_205 : decode cX9_count 205 = .ok (.ireturn, 1) := by decide +kernel
theorem dX9_count_206 : decode cX9_count 206 = .ok (.bipush (-2), 2) := by decide +kernel
theorem dX9_count_208 : decode cX9_count 208 = .ok (.ireturn, 1) := by decide +kernel
theorem dX9_in_0 : decode cX9_in 0 = .ok (.iload_n 1, 1) := by decide +kernel
theorem dX9_in_1 : decode cX9_in 1 = .ok (.iload_n 2, 1) := by decide +kernel
theorem dX9_in_2 : decode cX9_in 2 = .ok (.invokestatic 193, 3) := by decide +kernel
theorem dX9_in_5 : decode cX9_in 5 = .ok (.ifCond .eq 15, 3) := by decide +kernel
theorem dX9_in_8 : decode cX9_in 8 = .ok (.aload_n 0, 1) := by decide +kernel
theorem dX9_in_9 : decode cX9_in 9 = .ok (.getfield 12, 3) := by decide +kernel
theorem dX9_in_12 : decode cX9_in 12 = .ok (.iload_n 1, 1) := by decide +kernel
theorem dX9_in_13 : decode cX9_in 13 = .ok (.iload_n 2, 1) := by decide +kernel
theorem dX9_in_14 : decode cX9_in 14 = .ok (.invokevirtual 197, 3) := by decide +kernel
theorem dX9_in_17 : decode cX9_in 17 = .ok (.goto 4, 3) := by decide +kernel
theorem dX9_in_20 : decode cX9_in 20 = .ok (.iconst (-1), 1) := by decide +kernel
theorem dX9_in_21 : decode cX9_in 21 = .ok (.ireturn, 1) := by decide +kernel
theorem dX9_worthLeast_0 : decode cX9_worthLeast 0 = .ok (.iload_n 1, 1) := by decide +kernel
theorem dX9_worthLeast_1 : decode cX9_worthLeast 1 = .ok (.invokestatic 200, 3) := by decide +kernel
theorem dX9_worthLeast_4 : decode cX9_worthLeast 4 = .ok (.ifCond .eq 14, 3) := by decide +kernel
theorem dX9_worthLeast_7 : decode cX9_worthLeast 7 = .ok (.aload_n 0, 1) := by decide +kernel
theorem dX9_worthLeast_8 : decode cX9_worthLeast 8 = .ok (.getfield 28, 3) := by decide +kernel
theorem dX9_worthLeast_11 : decode cX9_worthLeast 11 = .ok (.iload_n 1, 1) := by decide +kernel
theorem dX9_worthLeast_12 : decode cX9_worthLeast 12 = .ok (.invokevirtual 203, 3) := by decide +kernel
theorem dX9_worthLeast_15 : decode cX9_worthLeast 15 = .ok (.goto 5, 3) := by decide +kernel
theorem dX9_worthLeast_18 : decode cX9_worthLeast 18 = .ok (.bipush (-2), 2) := by decide +kernel
theorem dX9_worthLeast_20 : decode cX9_worthLeast 20 = .ok (.ireturn, 1) := by decide +kernel
theorem dX9_bestColumn_0 : decode cX9_bestColumn 0 = .ok (.iload_n 1, 1) := by decide +kernel
theorem dX9_bestColumn_1 : decode cX9_bestColumn 1 = .ok (.iconst 0, 1) := by decide +kernel
theorem dX9_bestColumn_2 : decode cX9_bestColumn 2 = .ok (.invokestatic 193, 3) := by decide +kernel
theorem dX9_bestColumn_5 : decode cX9_bestColumn 5 = .ok (.ifCond .eq 17, 3) := by decide +kernel
theorem dX9_bestColumn_8 : decode cX9_bestColumn 8 = .ok (.iload_n 2, 1) := by decide +kernel
theorem dX9_bestColumn_9 : decode cX9_bestColumn 9 = .ok (.invokestatic 146, 3) := by decide +kernel
theorem dX9_bestColumn_12 : decode cX9_bestColumn 12 = .ok (.ifCond .eq 10, 3) := by decide +kernel
theorem dX9_bestColumn_15 : decode cX9_bestColumn 15 = .ok (.iload_n 3, 1) := by decide +kernel
theorem dX9_bestColumn_16 : decode cX9_bestColumn 16 = .ok (.invokestatic 200, 3) := by decide +kernel
theorem dX9_bestColumn_19 : decode cX9_bestColumn 19 = .ok (.ifCond .ne 6, 3) := by decide +kernel
theorem dX9_bestColumn_22 : decode cX9_bestColumn 22 = .ok (.bipush (-2), 2) := by decide +kernel
theorem dX9_bestColumn_24 : decode cX9_bestColumn 24 = .ok (.ireturn, 1) := by decide +kernel
theorem dX9_bestColumn_25 : decode cX9_bestColumn 25 = .ok (.aload_n 0, 1) := by decide +kernel
theorem dX9_bestColumn_26 : decode cX9_bestColumn 26 = .ok (.getfield 28, 3) := by decide +kernel
theorem dX9_bestColumn_29 : decode cX9_bestColumn 29 = .ok (.iload_n 1, 1) := by decide +kernel
theorem dX9_bestColumn_30 : decode cX9_bestColumn 30 = .ok (.iload_n 2, 1) := by decide +kernel
theorem dX9_bestColumn_31 : decode cX9_bestColumn 31 = .ok (.iload_n 3, 1) := by decide +kernel
theorem dX9_bestColumn_32 : decode cX9_bestColumn 32 = .ok (.invokevirtual 206, 3) := by decide +kernel
theorem dX9_bestColumn_35 : decode cX9_bestColumn 35 = .ok (.ireturn, 1) := by decide +kernel
theorem dX9_toWash_0 : decode cX9_toWash 0 = .ok (.aload_n 0, 1) := by decide +kernel
theorem dX9_toWash_1 : decode cX9_toWash 1 = .ok (.getfield 28, 3) := by decide +kernel
theorem dX9_toWash_4 : decode cX9_toWash 4 = .ok (.invokevirtual 209, 3) := by decide +kernel
theorem dX9_toWash_7 : decode cX9_toWash 7 = .ok (.ireturn, 1) := by decide +kernel
theorem dX9_leastLimit_0 : decode cX9_leastLimit 0 = .ok (.aload_n 0, 1) := by decide +kernel
theorem dX9_leastLimit_1 : decode cX9_leastLimit 1 = .ok (.getfield 28, 3) := by decide +kernel
theorem dX9_leastLimit_4 : decode cX9_leastLimit 4 = .ok (.invokevirtual 212, 3) := by decide +kernel
theorem dX9_leastLimit_7 : decode cX9_leastLimit 7 = .ok (.ireturn, 1) := by decide +kernel
theorem dX9_put_0 : decode cX9_put 0 = .ok (.aload_n 0, 1) := by decide +kernel
theorem dX9_put_1 : decode cX9_put 1 = .ok (.getfield 35, 3) := by decide +kernel
theorem dX9_put_4 : decode cX9_put 4 = .ok (.lload_n 1, 1) := by decide +kernel
theorem dX9_put_5 : decode cX9_put 5 = .ok (.invokevirtual 215, 3) := by decide +kernel
theorem dX9_put_8 : decode cX9_put 8 = .ok (.ireturn, 1) := by decide +kernel
theorem dX9_wipe_0 : decode cX9_wipe 0 = .ok (.aload_n 0, 1) := by decide +kernel
theorem dX9_wipe_1 : decode cX9_wipe 1 = .ok (.getfield 35, 3) := by decide +kernel
theorem dX9_wipe_4 : decode cX9_wipe 4 = .ok (.invokevirtual 219, 3) := by decide +kernel
theorem dX9_wipe_7 : decode cX9_wipe 7 = .ok (.ireturn, 1) := by decide +kernel
theorem dX9_fault_0 : decode cX9_fault 0 = .ok (.aload_n 0, 1) := by decide +kernel
theorem dX9_fault_1 : decode cX9_fault 1 = .ok (.getfield 44, 3) := by decide +kernel
theorem dX9_fault_4 : decode cX9_fault 4 = .ok (.invokevirtual 222, 3) := by decide +kernel
theorem dX9_fault_7 : decode cX9_fault 7 = .ok (.ireturn, 1) := by decide +kernel
theorem dX9_carryOut_0 : decode cX9_carryOut 0 = .ok (.aload_n 0, 1) := by decide +kernel
theorem dX9_carryOut_1 : decode cX9_carryOut 1 = .ok (.getfield 44, 3) := by decide +kernel
theorem dX9_carryOut_4 : decode cX9_carryOut 4 = .ok (.invokevirtual 222, 3) := by decide +kernel
theorem dX9_carryOut_7 : decode cX9_carryOut 7 = .ok (.bipush (-6), 2) := by decide +kernel
theorem dX9_carryOut_9 : decode cX9_carryOut 9 = .ok (.if_icmp .eq 6, 3) := by decide +kernel
theorem dX9_carryOut_12 : decode cX9_carryOut 12 = .ok (.bipush (-3), 2) := by decide +kernel
theorem dX9_carryOut_14 : decode cX9_carryOut 14 = .ok (.ireturn, 1) := by decide +kernel
theorem dX9_carryOut_15 : decode cX9_carryOut 15 = .ok (.aload_n 0, 1) := by decide +kernel
theorem dX9_carryOut_16 : decode cX9_carryOut 16 = .ok (.getfield 51, 3) := by decide +kernel
theorem dX9_carryOut_19 : decode cX9_carryOut 19 = .ok (.aload_n 0, 1) := by decide +kernel
theorem dX9_carryOut_20 : decode cX9_carryOut 20 = .ok (.getfield 12, 3) := by decide +kernel
theorem dX9_carryOut_23 : decode cX9_carryOut 23 = .ok (.invokevirtual 68, 3) := by decide +kernel
theorem dX9_carryOut_26 : decode cX9_carryOut 26 = .ok (.aload_n 0, 1) := by decide +kernel
theorem dX9_carryOut_27 : decode cX9_carryOut 27 = .ok (.getfield 44, 3) := by decide +kernel
theorem dX9_carryOut_30 : decode cX9_carryOut 30 = .ok (.invokevirtual 224, 3) := by decide +kernel
theorem dX9_carryOut_33 : decode cX9_carryOut 33 = .ok (.istore_n 1, 1) := by decide +kernel
theorem dX9_carryOut_34 : decode cX9_carryOut 34 = .ok (.iconst 0, 1) := by decide +kernel
theorem dX9_carryOut_35 : decode cX9_carryOut 35 = .ok (.istore_n 2, 1) := by decide +kernel
theorem dX9_carryOut_36 : decode cX9_carryOut 36 = .ok (.iload_n 2, 1) := by decide +kernel
theorem dX9_carryOut_37 : decode cX9_carryOut 37 = .ok (.iload_n 1, 1) := by decide +kernel
theorem dX9_carryOut_38 : decode cX9_carryOut 38 = .ok (.if_icmp .ge 17, 3) := by decide +kernel
theorem dX9_carryOut_41 : decode cX9_carryOut 41 = .ok (.aload_n 0, 1) := by decide +kernel
theorem dX9_carryOut_42 : decode cX9_carryOut 42 = .ok (.iload_n 2, 1) := by decide +kernel
theorem dX9_carryOut_43 : decode cX9_carryOut 43 = .ok (.invokevirtual 227, 3) := by decide +kernel
theorem dX9_carryOut_46 : decode cX9_carryOut 46 = .ok (.ifCond .lt 9, 3) := by decide +kernel
theorem dX9_carryOut_49 : decode cX9_carryOut 49 = .ok (.iinc 2 1, 3) := by decide +kernel
theorem dX9_carryOut_52 : decode cX9_carryOut 52 = .ok (.goto (-16), 3) := by decide +kernel
theorem dX9_carryOut_55 : decode cX9_carryOut 55 = .ok (.aload_n 0, 1) := by decide +kernel
theorem dX9_carryOut_56 : decode cX9_carryOut 56 = .ok (.getfield 35, 3) := by decide +kernel
theorem dX9_carryOut_59 : decode cX9_carryOut 59 = .ok (.invokevirtual 219, 3) := by decide +kernel
theorem dX9_carryOut_62 : decode cX9_carryOut 62 = .ok (.pop, 1) := by decide +kernel
theorem dX9_carryOut_63 : decode cX9_carryOut 63 = .ok (.aload_n 0, 1) := by decide +kernel
theorem dX9_carryOut_64 : decode cX9_carryOut 64 = .ok (.iload_n 2, 1) := by decide +kernel
theorem dX9_carryOut_65 : decode cX9_carryOut 65 = .ok (.invokevirtual 75, 3) := by decide +kernel
theorem dX9_carryOut_68 : decode cX9_carryOut 68 = .ok (.ireturn, 1) := by decide +kernel
theorem dX9_undo_0 : decode cX9_undo 0 = .ok (.aload_n 0, 1) := by decide +kernel
theorem dX9_undo_1 : decode cX9_undo 1 = .ok (.getfield 51, 3) := by decide +kernel
theorem dX9_undo_4 : decode cX9_undo 4 = .ok (.aload_n 0, 1) := by decide +kernel
theorem dX9_undo_5 : decode cX9_undo 5 = .ok (.getfield 12, 3) := by decide +kernel
theorem dX9_undo_8 : decode cX9_undo 8 = .ok (.invokevirtual 230, 3) := by decide +kernel
theorem dX9_undo_11 : decode cX9_undo 11 = .ok (.ifCond .eq 13, 3) := by decide +kernel
theorem dX9_undo_14 : decode cX9_undo 14 = .ok (.aload_n 0, 1) := by decide +kernel
theorem dX9_undo_15 : decode cX9_undo 15 = .ok (.getfield 51, 3) := by decide +kernel
theorem dX9_undo_18 : decode cX9_undo 18 = .ok (.invokevirtual 190, 3) := by decide +kernel
theorem dX9_undo_21 : decode cX9_undo 21 = .ok (.goto 5, 3) := by decide +kernel
theorem dX9_undo_24 : decode cX9_undo 24 = .ok (.bipush (-5), 2) := by decide +kernel
theorem dX9_undo_26 : decode cX9_undo 26 = .ok (.ireturn, 1) := by decide +kernel
theorem dX9_save_0 : decode cX9_save 0 = .ok (.iload_n 1, 1) := by decide +kernel
theorem dX9_save_1 : decode cX9_save 1 = .ok (.invokestatic 234, 3) := by decide +kernel
theorem dX9_save_4 : decode cX9_save 4 = .ok (.ifCond .ne 6, 3) := by decide +kernel
theorem dX9_save_7 : decode cX9_save 7 = .ok (.bipush (-2), 2) := by decide +kernel
theorem dX9_save_9 : decode cX9_save 9 = .ok (.ireturn, 1) := by decide +kernel
theorem dX9_save_10 : decode cX9_save 10 = .ok (.aload_n 0, 1) := by decide +kernel
theorem dX9_save_11 : decode cX9_save 11 = .ok (.getfield 60, 3) := by decide +kernel
theorem dX9_save_14 : decode cX9_save 14 = .ok (.iload_n 1, 1) := by decide +kernel
theorem dX9_save_15 : decode cX9_save 15 = .ok (.aload_n 0, 1) := by decide +kernel
theorem dX9_save_16 : decode cX9_save 16 = .ok (.getfield 12, 3) := by decide +kernel
theorem dX9_save_19 : decode cX9_save 19 = .ok (.invokevirtual 237, 3) := by decide +kernel
theorem dX9_save_22 : decode cX9_save 22 = .ok (.aload_n 0, 1) := by decide +kernel
theorem dX9_save_23 : decode cX9_save 23 = .ok (.dup, 1) := by decide +kernel
theorem dX9_save_24 : decode cX9_save 24 = .ok (.getfield 64, 3) := by decide +kernel
theorem dX9_save_27 : decode cX9_save 27 = .ok (.iconst 1, 1) := by decide +kernel
theorem dX9_save_28 : decode cX9_save 28 = .ok (.iload_n 1, 1) := by decide +kernel
theorem dX9_save_29 : decode cX9_save 29 = .ok (.ishl, 1) := by decide +kernel
theorem dX9_save_30 : decode cX9_save 30 = .ok (.ior, 1) := by decide +kernel
theorem dX9_save_31 : decode cX9_save 31 = .ok (.putfield 64, 3) := by decide +kernel
theorem dX9_save_34 : decode cX9_save 34 = .ok (.aload_n 0, 1) := by decide +kernel
theorem dX9_save_35 : decode cX9_save 35 = .ok (.getfield 12, 3) := by decide +kernel
theorem dX9_save_38 : decode cX9_save 38 = .ok (.getfield 162, 3) := by decide +kernel
theorem dX9_save_41 : decode cX9_save 41 = .ok (.ireturn, 1) := by decide +kernel
theorem dX9_restore_0 : decode cX9_restore 0 = .ok (.iload_n 1, 1) := by decide +kernel
theorem dX9_restore_1 : decode cX9_restore 1 = .ok (.invokestatic 234, 3) := by decide +kernel
theorem dX9_restore_4 : decode cX9_restore 4 = .ok (.ifCond .ne 6, 3) := by decide +kernel
theorem dX9_restore_7 : decode cX9_restore 7 = .ok (.bipush (-2), 2) := by decide +kernel
theorem dX9_restore_9 : decode cX9_restore 9 = .ok (.ireturn, 1) := by decide +kernel
theorem dX9_restore_10 : decode cX9_restore 10 = .ok (.aload_n 0, 1) := by decide +kernel
theorem dX9_restore_11 : decode cX9_restore 11 = .ok (.getfield 64, 3) := by decide +kernel
theorem dX9_restore_14 : decode cX9_restore 14 = .ok (.iload_n 1, 1) := by decide +kernel
theorem dX9_restore_15 : decode cX9_restore 15 = .ok (.ishr, 1) := by decide +kernel
theorem dX9_restore_16 : decode cX9_restore 16 = .ok (.iconst 1, 1) := by decide +kernel
theorem dX9_restore_17 : decode cX9_restore 17 = .ok (.iand, 1) := by decide +kernel
theorem dX9_restore_18 : decode cX9_restore 18 = .ok (.ifCond .ne 6, 3) := by decide +kernel
theorem dX9_restore_21 : decode cX9_restore 21 = .ok (.bipush (-5), 2) := by decide +kernel
theorem dX9_restore_23 : decode cX9_restore 23 = .ok (.ireturn, 1) := by decide +kernel
theorem dX9_restore_24 : decode cX9_restore 24 = .ok (.aload_n 0, 1) := by decide +kernel
theorem dX9_restore_25 : decode cX9_restore 25 = .ok (.getfield 51, 3) := by decide +kernel
theorem dX9_restore_28 : decode cX9_restore 28 = .ok (.aload_n 0, 1) := by decide +kernel
theorem dX9_restore_29 : decode cX9_restore 29 = .ok (.getfield 12, 3) := by decide +kernel
theorem dX9_restore_32 : decode cX9_restore 32 = .ok (.invokevirtual 68, 3) := by decide +kernel
theorem dX9_restore_35 : decode cX9_restore 35 = .ok (.aload_n 0, 1) := by decide +kernel
theorem dX9_restore_36 : decode cX9_restore 36 = .ok (.getfield 60, 3) := by decide +kernel
theorem dX9_restore_39 : decode cX9_restore 39 = .ok (.iload_n 1, 1) := by decide +kernel
theorem dX9_restore_40 : decode cX9_restore 40 = .ok (.aload_n 0, 1) := by decide +kernel
theorem dX9_restore_41 : decode cX9_restore 41 = .ok (.getfield 12, 3) := by decide +kernel
theorem dX9_restore_44 : decode cX9_restore 44 = .ok (.invokevirtual 241, 3) := by decide +kernel
theorem dX9_restore_47 : decode cX9_restore 47 = .ok (.aload_n 0, 1) := by decide +kernel
theorem dX9_restore_48 : decode cX9_restore 48 = .ok (.aload_n 0, 1) := by decide +kernel
theorem dX9_restore_49 : decode cX9_restore 49 = .ok (.getfield 12, 3) := by decide +kernel
theorem dX9_restore_52 : decode cX9_restore 52 = .ok (.getfield 162, 3) := by decide +kernel
theorem dX9_restore_55 : decode cX9_restore 55 = .ok (.invokevirtual 75, 3) := by decide +kernel
theorem dX9_restore_58 : decode cX9_restore 58 = .ok (.ireturn, 1) := by decide +kernel
theorem dX9_recorded_0 : decode cX9_recorded 0 = .ok (.iload_n 1, 1) := by decide +kernel
theorem dX9_recorded_1 : decode cX9_recorded 1 = .ok (.ifCond .lt 10, 3) := by decide +kernel
theorem dX9_recorded_4 : decode cX9_recorded 4 = .ok (.aload_n 0, 1) := by decide +kernel
theorem dX9_recorded_5 : decode cX9_recorded 5 = .ok (.getfield 51, 3) := by decide +kernel
theorem dX9_recorded_8 : decode cX9_recorded 8 = .ok (.invokevirtual 244, 3) := by decide +kernel
theorem dX9_recorded_11 : decode cX9_recorded 11 = .ok (.iload_n 1, 1) := by decide +kernel
theorem dX9_recorded_12 : decode cX9_recorded 12 = .ok (.ireturn, 1) := by decide +kernel
theorem dX9_carry_0 : decode cX9_carry 0 = .ok (.aload_n 0, 1) := by decide +kernel
theorem dX9_carry_1 : decode cX9_carry 1 = .ok (.getfield 44, 3) := by decide +kernel
theorem dX9_carry_4 : decode cX9_carry 4 = .ok (.iload_n 1, 1) := by decide +kernel
theorem dX9_carry_5 : decode cX9_carry 5 = .ok (.invokevirtual 247, 3) := by decide +kernel
theorem dX9_carry_8 : decode cX9_carry 8 = .ok (.istore_n 2, 1) := by decide +kernel
theorem dX9_carry_9 : decode cX9_carry 9 = .ok (.aload_n 0, 1) := by decide +kernel
theorem dX9_carry_10 : decode cX9_carry 10 = .ok (.getfield 44, 3) := by decide +kernel
theorem dX9_carry_13 : decode cX9_carry 13 = .ok (.iload_n 1, 1) := by decide +kernel
theorem dX9_carry_14 : decode cX9_carry 14 = .ok (.invokevirtual 250, 3) := by decide +kernel
theorem dX9_carry_17 : decode cX9_carry 17 = .ok (.istore_n 3, 1) := by decide +kernel
theorem dX9_carry_18 : decode cX9_carry 18 = .ok (.aload_n 0, 1) := by decide +kernel
theorem dX9_carry_19 : decode cX9_carry 19 = .ok (.getfield 44, 3) := by decide +kernel
theorem dX9_carry_22 : decode cX9_carry 22 = .ok (.iload_n 1, 1) := by decide +kernel
theorem dX9_carry_23 : decode cX9_carry 23 = .ok (.invokevirtual 253, 3) := by decide +kernel
theorem dX9_carry_26 : decode cX9_carry 26 = .ok (.lookupswitch 122 #[(43, 58), (97, 85), (116, 113), (118, 104), (119, 95), (120, 76)], 58) := by decide +kernel
theorem dX9_carry_84 : decode cX9_carry 84 = .ok (.aload_n 0, 1) := by decide +kernel
theorem dX9_carry_85 : decode cX9_carry 85 = .ok (.getfield 12, 3) := by decide +kernel
theorem dX9_carry_88 : decode cX9_carry 88 = .ok (.iload_n 2, 1) := by decide +kernel
theorem dX9_carry_89 : decode cX9_carry 89 = .ok (.iload_n 3, 1) := by decide +kernel
theorem dX9_carry_90 : decode cX9_carry 90 = .ok (.aload_n 0, 1) := by decide +kernel
theorem dX9_carry_91 : decode cX9_carry 91 = .ok (.getfield 44, 3) := by decide +kernel
theorem dX9_carry_94 : decode cX9_carry 94 = .ok (.iload_n 1, 1) := by decide +kernel
theorem dX9_carry_95 : decode cX9_carry 95 = .ok (.invokevirtual 256, 3) := by decide +kernel
theorem dX9_carry_98 : decode cX9_carry 98 = .ok (.invokevirtual 79, 3) := by decide +kernel
theorem dX9_carry_101 : decode cX9_carry 101 = .ok (.ireturn, 1) := by decide +kernel
theorem dX9_carry_102 : decode cX9_carry 102 = .ok (.aload_n 0, 1) := by decide +kernel
theorem dX9_carry_103 : decode cX9_carry 103 = .ok (.getfield 12, 3) := by decide +kernel
theorem dX9_carry_106 : decode cX9_carry 106 = .ok (.iload_n 2, 1) := by decide +kernel
theorem dX9_carry_107 : decode cX9_carry 107 = .ok (.invokevirtual 83, 3) := by decide +kernel
theorem dX9_carry_110 : decode cX9_carry 110 = .ok (.ireturn, 1) := by decide +kernel
theorem dX9_carry_111 : decode cX9_carry 111 = .ok (.aload_n 0, 1) := by decide +kernel
theorem dX9_carry_112 : decode cX9_carry 112 = .ok (.getfield 12, 3) := by decide +kernel
theorem dX9_carry_115 : decode cX9_carry 115 = .ok (.iload_n 2, 1) := by decide +kernel
theorem dX9_carry_116 : decode cX9_carry 116 = .ok (.iload_n 3, 1) := by decide +kernel
theorem dX9_carry_117 : decode cX9_carry 117 = .ok (.invokevirtual 86, 3) := by decide +kernel
theorem dX9_carry_120 : decode cX9_carry 120 = .ok (.ireturn, 1) := by decide +kernel
theorem dX9_carry_121 : decode cX9_carry 121 = .ok (.aload_n 0, 1) := by decide +kernel
theorem dX9_carry_122 : decode cX9_carry 122 = .ok (.getfield 12, 3) := by decide +kernel
theorem dX9_carry_125 : decode cX9_carry 125 = .ok (.iload_n 2, 1) := by decide +kernel
theorem dX9_carry_126 : decode cX9_carry 126 = .ok (.invokevirtual 89, 3) := by decide +kernel
theorem dX9_carry_129 : decode cX9_carry 129 = .ok (.ireturn, 1) := by decide +kernel
theorem dX9_carry_130 : decode cX9_carry 130 = .ok (.aload_n 0, 1) := by decide +kernel
theorem dX9_carry_131 : decode cX9_carry 131 = .ok (.getfield 12, 3) := by decide +kernel
theorem dX9_carry_134 : decode cX9_carry 134 = .ok (.iload_n 2, 1) := by decide +kernel
theorem dX9_carry_135 : decode cX9_carry 135 = .ok (.invokevirtual 92, 3) := by decide +kernel
theorem dX9_carry_138 : decode cX9_carry 138 = .ok (.ireturn, 1) := by decide +kernel
theorem dX9_carry_139 : decode cX9_carry 139 = .ok (.aload_n 0, 1) := by decide +kernel
theorem dX9_carry_140 : decode cX9_carry 140 = .ok (.getfield 21, 3) := by decide +kernel
theorem dX9_carry_143 : decode cX9_carry 143 = .ok (.iload_n 2, 1) := by decide +kernel
theorem dX9_carry_144 : decode cX9_carry 144 = .ok (.invokevirtual 95, 3) := by decide +kernel
theorem dX9_carry_147 : decode cX9_carry 147 = .ok (.ireturn, 1) := by decide +kernel
theorem dX9_carry_148 : decode cX9_carry 148 = .ok (.bipush (-3), 2) := by decide +kernel
theorem dX9_carry_150 : decode cX9_carry 150 = .ok (.ireturn, 1) := by decide +kernel
theorem dX9_isPlace_0 : decode cX9_isPlace 0 = .ok (.iload_n 0, 1) := by decide +kernel
theorem dX9_isPlace_1 : decode cX9_isPlace 1 = .ok (.ifCond .lt 23, 3) := by decide +kernel
theorem dX9_isPlace_4 : decode cX9_isPlace 4 = .ok (.iload_n 0, 1) := by decide +kernel
theorem dX9_isPlace_5 : decode cX9_isPlace 5 = .ok (.bipush 20, 2) := by decide +kernel
theorem dX9_isPlace_7 : decode cX9_isPlace 7 = .ok (.if_icmp .ge 17, 3) := by decide +kernel
theorem dX9_isPlace_10 : decode cX9_isPlace 10 = .ok (.iload_n 1, 1) := by decide +kernel
theorem dX9_isPlace_11 : decode cX9_isPlace 11 = .ok (.ifCond .lt 13, 3) := by decide +kernel
theorem dX9_isPlace_14 : decode cX9_isPlace 14 = .ok (.iload_n 1, 1) := by decide +kernel
theorem dX9_isPlace_15 : decode cX9_isPlace 15 = .ok (.bipush 20, 2) := by decide +kernel
theorem dX9_isPlace_17 : decode cX9_isPlace 17 = .ok (.if_icmp .ge 7, 3) := by decide +kernel
theorem dX9_isPlace_20 : decode cX9_isPlace 20 = .ok (.iconst 1, 1) := by decide +kernel
theorem dX9_isPlace_21 : decode cX9_isPlace 21 = .ok (.goto 4, 3) := by decide +kernel
theorem dX9_isPlace_24 : decode cX9_isPlace 24 = .ok (.iconst 0, 1) := by decide +kernel
theorem dX9_isPlace_25 : decode cX9_isPlace 25 = .ok (.ireturn, 1) := by decide +kernel
theorem dX9_isAimPoint_0 : decode cX9_isAimPoint 0 = .ok (.iload_n 0, 1) := by decide +kernel
theorem dX9_isAimPoint_1 : decode cX9_isAimPoint 1 = .ok (.ifCond .lt 12, 3) := by decide +kernel
theorem dX9_isAimPoint_4 : decode cX9_isAimPoint 4 = .ok (.iload_n 0, 1) := by decide +kernel
theorem dX9_isAimPoint_5 : decode cX9_isAimPoint 5 = .ok (.iconst 4, 1) := by decide +kernel
theorem dX9_isAimPoint_6 : decode cX9_isAimPoint 6 = .ok (.if_icmp .ge 7, 3) := by decide +kernel
theorem dX9_isAimPoint_9 : decode cX9_isAimPoint 9 = .ok (.iconst 1, 1) := by decide +kernel
theorem dX9_isAimPoint_10 : decode cX9_isAimPoint 10 = .ok (.goto 4, 3) := by decide +kernel
theorem dX9_isAimPoint_13 : decode cX9_isAimPoint 13 = .ok (.iconst 0, 1) := by decide +kernel
theorem dX9_isAimPoint_14 : decode cX9_isAimPoint 14 = .ok (.ireturn, 1) := by decide +kernel
theorem dX9_isChoice_0 : decode cX9_isChoice 0 = .ok (.iload_n 0, 1) := by decide +kernel
theorem dX9_isChoice_1 : decode cX9_isChoice 1 = .ok (.ifCond .eq 8, 3) := by decide +kernel
theorem dX9_isChoice_4 : decode cX9_isChoice 4 = .ok (.iload_n 0, 1) := by decide +kernel
theorem dX9_isChoice_5 : decode cX9_isChoice 5 = .ok (.iconst 1, 1) := by decide +kernel
theorem dX9_isChoice_6 : decode cX9_isChoice 6 = .ok (.if_icmp .ne 7, 3) := by decide +kernel
theorem dX9_isChoice_9 : decode cX9_isChoice 9 = .ok (.iconst 1, 1) := by decide +kernel
theorem dX9_isChoice_10 : decode cX9_isChoice 10 = .ok (.goto 4, 3) := by decide +kernel
theorem dX9_isChoice_13 : decode cX9_isChoice 13 = .ok (.iconst 0, 1) := by decide +kernel
theorem dX9_isChoice_14 : decode cX9_isChoice 14 = .ok (.ireturn, 1) := by decide +kernel
theorem dX9_isSlot_0 : decode cX9_isSlot 0 = .ok (.iload_n 0, 1) := by decide +kernel
theorem dX9_isSlot_1 : decode cX9_isSlot 1 = .ok (.ifCond .lt 12, 3) := by decide +kernel
theorem dX9_isSlot_4 : decode cX9_isSlot 4 = .ok (.iload_n 0, 1) := by decide +kernel
theorem dX9_isSlot_5 : decode cX9_isSlot 5 = .ok (.iconst 2, 1) := by decide +kernel
theorem dX9_isSlot_6 : decode cX9_isSlot 6 = .ok (.if_icmp .ge 7, 3) := by decide +kernel
theorem dX9_isSlot_9 : decode cX9_isSlot 9 = .ok (.iconst 1, 1) := by decide +kernel
theorem dX9_isSlot_10 : decode cX9_isSlot 10 = .ok (.goto 4, 3) := by decide +kernel
theorem dX9_isSlot_13 : decode cX9_isSlot 13 = .ok (.iconst 0, 1) := by decide +kernel
theorem dX9_isSlot_14 : decode cX9_isSlot 14 = .ok (.ireturn, 1) := by decide +kernel
theorem dX10_init_0 : decode cX10_init 0 = .ok (.aload_n 0, 1) := by decide +kernel
theorem dX10_init_1 : decode cX10_init 1 = .ok (.invokespecial 1, 3) := by decide +kernel
theorem dX10_init_4 : decode cX10_init 4 = .ok (.aload_n 0, 1) := by decide +kernel
theorem dX10_init_5 : decode cX10_init 5 = .ok (.sipush 132, 3) := by decide +kernel
theorem dX10_init_8 : decode cX10_init 8 = .ok (.newarray .int, 2) := by decide +kernel
theorem dX10_init_10 : decode cX10_init 10 = .ok (.putfield 7, 3) := by decide +kernel
theorem dX10_init_13 : decode cX10_init 13 = .ok (.aload_n 0, 1) := by decide +kernel
theorem dX10_init_14 : decode cX10_init 14 = .ok (.sipush 132, 3) := by decide +kernel
theorem dX10_init_17 : decode cX10_init 17 = .ok (.newarray .int, 2) := by decide +kernel
theorem dX10_init_19 : decode cX10_init 19 = .ok (.putfield 13, 3) := by decide +kernel
theorem dX10_init_22 : decode cX10_init 22 = .ok (.aload_n 0, 1) := by decide +kernel
theorem dX10_init_23 : decode cX10_init 23 = .ok (.sipush 132, 3) := by decide +kernel
theorem dX10_init_26 : decode cX10_init 26 = .ok (.newarray .int, 2) := by decide +kernel
theorem dX10_init_28 : decode cX10_init 28 = .ok (.putfield 16, 3) := by decide +kernel
theorem dX10_init_31 : decode cX10_init 31 = .ok (.aload_n 0, 1) := by decide +kernel
theorem dX10_init_32 : decode cX10_init 32 = .ok (.sipush 792, 3) := by decide +kernel
theorem dX10_init_35 : decode cX10_init 35 = .ok (.newarray .int, 2) := by decide +kernel
theorem dX10_init_37 : decode cX10_init 37 = .ok (.putfield 19, 3) := by decide +kernel
theorem dX10_init_40 : decode cX10_init 40 = .ok (.aload_n 0, 1) := by decide +kernel
theorem dX10_init_41 : decode cX10_init 41 = .ok (.sipush 264, 3) := by decide +kernel
theorem dX10_init_44 : decode cX10_init 44 = .ok (.newarray .int, 2) := by decide +kernel
theorem dX10_init_46 : decode cX10_init 46 = .ok (.putfield 22, 3) := by decide +kernel
theorem dX10_init_49 : decode cX10_init 49 = .ok (.aload_n 0, 1) := by decide +kernel
theorem dX10_init_50 : decode cX10_init 50 = .ok (.iconst 2, 1) := by decide +kernel
theorem dX10_init_51 : decode cX10_init 51 = .ok (.newarray .int, 2) := by decide +kernel
theorem dX10_init_53 : decode cX10_init 53 = .ok (.putfield 25, 3) := by decide +kernel
theorem dX10_init_56 : decode cX10_init 56 = .ok (.aload_n 0, 1) := by decide +kernel
theorem dX10_init_57 : decode cX10_init 57 = .ok (.bipush 25, 2) := by decide +kernel
theorem dX10_init_59 : decode cX10_init 59 = .ok (.newarray .int, 2) := by decide +kernel
theorem dX10_init_61 : decode cX10_init 61 = .ok (.putfield 28, 3) := by decide +kernel
theorem dX10_init_64 : decode cX10_init 64 = .ok (.aload_n 0, 1) := by decide +kernel
theorem dX10_init_65 : decode cX10_init 65 = .ok (.bipush 25, 2) := by decide +kernel
theorem dX10_init_67 : decode cX10_init 67 = .ok (.newarray .int, 2) := by decide +kernel
theorem dX10_init_69 : decode cX10_init 69 = .ok (.putfield 31, 3) := by decide +kernel
theorem dX10_init_72 : decode cX10_init 72 = .ok (.aload_n 0, 1) := by decide +kernel
theorem dX10_init_73 : decode cX10_init 73 = .ok (.iconst 4, 1) := by decide +kernel
theorem dX10_init_74 : decode cX10_init 74 = .ok (.newarray .int, 2) := by decide +kernel
theorem dX10_init_76 : decode cX10_init 76 = .ok (.putfield 34, 3) := by decide +kernel
theorem dX10_init_79 : decode cX10_init 79 = .ok (.aload_n 0, 1) := by decide +kernel
theorem dX10_init_80 : decode cX10_init 80 = .ok (.bipush 25, 2) := by decide +kernel
theorem dX10_init_82 : decode cX10_init 82 = .ok (.newarray .int, 2) := by decide +kernel
theorem dX10_init_84 : decode cX10_init 84 = .ok (.putfield 37, 3) := by decide +kernel
theorem dX10_init_87 : decode cX10_init 87 = .ok (.aload_n 0, 1) := by decide +kernel
theorem dX10_init_88 : decode cX10_init 88 = .ok (.bipush 80, 2) := by decide +kernel
theorem dX10_init_90 : decode cX10_init 90 = .ok (.newarray .int, 2) := by decide +kernel
theorem dX10_init_92 : decode cX10_init 92 = .ok (.putfield 40, 3) := by decide +kernel
theorem dX10_init_95 : decode cX10_init 95 = .ok (.aload_n 0, 1) := by decide +kernel
theorem dX10_init_96 : decode cX10_init 96 = .ok (.getfield 7, 3) := by decide +kernel
theorem dX10_init_99 : decode cX10_init 99 = .ok (.iconst 0, 1) := by decide +kernel
theorem dX10_init_100 : decode cX10_init 100 = .ok (.sipush 400, 3) := by decide +kernel
theorem dX10_init_103 : decode cX10_init 103 = .ok (.iastore, 1) := by decide +kernel
theorem dX10_init_104 : decode cX10_init 104 = .ok (.aload_n 0, 1) := by decide +kernel
theorem dX10_init_105 : decode cX10_init 105 = .ok (.getfield 7, 3) := by decide +kernel
theorem dX10_init_108 : decode cX10_init 108 = .ok (.iconst 1, 1) := by decide +kernel
theorem dX10_init_109 : decode cX10_init 109 = .ok (.bipush 50, 2) := by decide +kernel
theorem dX10_init_111 : decode cX10_init 111 = .ok (.iastore, 1) := by decide +kernel
theorem dX10_init_112 : decode cX10_init 112 = .ok (.aload_n 0, 1) := by decide +kernel
theorem dX10_init_113 : decode cX10_init 113 = .ok (.getfield 7, 3) := by decide +kernel
theorem dX10_init_116 : decode cX10_init 116 = .ok (.iconst 2, 1) := by decide +kernel
theorem dX10_init_117 : decode cX10_init 117 = .ok (.iconst 2, 1) := by decide +kernel
theorem dX10_init_118 : decode cX10_init 118 = .ok (.iastore, 1) := by decide +kernel
theorem dX10_init_119 : decode cX10_init 119 = .ok (.return_, 1) := by decide +kernel
theorem dX10_isIn_0 : decode cX10_isIn 0 = .ok (.lload_n 0, 1) := by decide +kernel
theorem dX10_isIn_1 : decode cX10_isIn 1 = .ok (.lload_n 2, 1) := by decide +kernel
theorem dX10_isIn_2 : decode cX10_isIn 2 = .ok (.lcmp, 1) := by decide +kernel
theorem dX10_isIn_3 : decode cX10_isIn 3 = .ok (.ifCond .lt 14, 3) := by decide +kernel
theorem dX10_isIn_6 : decode cX10_isIn 6 = .ok (.lload_n 0, 1) := by decide +kernel
theorem dX10_isIn_7 : decode cX10_isIn 7 = .ok (.lload 4, 2) := by decide +kernel
theorem dX10_isIn_9 : decode cX10_isIn 9 = .ok (.lcmp, 1) := by decide +kernel
theorem dX10_isIn_10 : decode cX10_isIn 10 = .ok (.ifCond .gt 7, 3) := by decide +kernel
theorem dX10_isIn_13 : decode cX10_isIn 13 = .ok (.iconst 1, 1) := by decide +kernel
theorem dX10_isIn_14 : decode cX10_isIn 14 = .ok (.goto 4, 3) := by decide +kernel
theorem dX10_isIn_17 : decode cX10_isIn 17 = .ok (.iconst 0, 1) := by decide +kernel
theorem dX10_isIn_18 : decode cX10_isIn 18 = .ok (.ireturn, 1) := by decide +kernel
theorem dX10_copy_0 : decode cX10_copy 0 = .ok (.iconst 0, 1) := by decide +kernel
theorem dX10_copy_1 : decode cX10_copy 1 = .ok (.istore_n 2, 1) := by decide +kernel
theorem dX10_copy_2 : decode cX10_copy 2 = .ok (.iload_n 2, 1) := by decide +kernel
theorem dX10_copy_3 : decode cX10_copy 3 = .ok (.sipush 132, 3) := by decide +kernel
theorem dX10_copy_6 : decode cX10_copy 6 = .ok (.if_icmp .ge 15, 3) := by decide +kernel
theorem dX10_copy_9 : decode cX10_copy 9 = .ok (.aload_n 1, 1) := by decide +kernel
theorem dX10_copy_10 : decode cX10_copy 10 = .ok (.iload_n 2, 1) := by decide +kernel
theorem dX10_copy_11 : decode cX10_copy 11 = .ok (.aload_n 0, 1) := by decide +kernel
theorem dX10_copy_12 : decode cX10_copy 12 = .ok (.iload_n 2, 1) := by decide +kernel
theorem dX10_copy_13 : decode cX10_copy 13 = .ok (.iaload, 1) := by decide +kernel
theorem dX10_copy_14 : decode cX10_copy 14 = .ok (.iastore, 1) := by decide +kernel
theorem dX10_copy_15 : decode cX10_copy 15 = .ok (.iinc 2 1, 3) := by decide +kernel
theorem dX10_copy_18 : decode cX10_copy 18 = .ok (.goto (-16), 3) := by decide +kernel
theorem dX10_copy_21 : decode cX10_copy 21 = .ok (.return_, 1) := by decide +kernel
theorem dX10_changed_0 : decode cX10_changed 0 = .ok (.aload_n 0, 1) := by decide +kernel
theorem dX10_changed_1 : decode cX10_changed 1 = .ok (.getfield 43, 3) := by decide +kernel
theorem dX10_changed_4 : decode cX10_changed 4 = .ok (.bipush 6, 2) := by decide +kernel
theorem dX10_changed_6 : decode cX10_changed 6 = .ok (.if_icmp .ne 44, 3) := by decide +kernel
theorem dX10_changed_9 : decode cX10_changed 9 = .ok (.iconst 0, 1) := by decide +kernel
theorem dX10_changed_10 : decode cX10_changed 10 = .ok (.istore_n 2, 1) := by decide +kernel
theorem dX10_changed_11 : decode cX10_changed 11 = .ok (.iload_n 2, 1) := by decide +kernel
theorem dX10_changed_12 : decode cX10_changed 12 = .ok (.sipush 660, 3) := by decide +kernel
theorem dX10_changed_15 : decode cX10_changed 15 = .ok (.if_icmp .ge 25, 3) := by decide +kernel
theorem dX10_changed_18 : decode cX10_changed 18 = .ok (.aload_n 0, 1) := by decide +kernel
theorem dX10_changed_19 : decode cX10_changed 19 = .ok (.getfield 19, 3) := by decide +kernel
theorem dX10_changed_22 : decode cX10_changed 22 = .ok (.iload_n 2, 1) := by decide +kernel
theorem dX10_changed_23 : decode cX10_changed 23 = .ok (.aload_n 0, 1) := by decide +kernel
theorem dX10_changed_24 : decode cX10_changed 24 = .ok (.getfield 19, 3) := by decide +kernel
theorem dX10_changed_27 : decode cX10_changed 27 = .ok (.iload_n 2, 1) := by decide +kernel
theorem dX10_changed_28 : decode cX10_changed 28 = .ok (.sipush 132, 3) := by decide +kernel
theorem dX10_changed_31 : decode cX10_changed 31 = .ok (.iadd, 1) := by decide +kernel
theorem dX10_changed_32 : decode cX10_changed 32 = .ok (.iaload, 1) := by decide +kernel
theorem dX10_changed_33 : decode cX10_changed 33 = .ok (.iastore, 1) := by decide +kernel
end
section
theorem dX10_changed_34 : decode cX10_changed 34 = .ok (.iinc 2 1, 3) := by decide +kernel
theorem dX10_changed_37 : decode cX10_changed 37 = .ok (.goto (-26), 3) := by decide +kernel
theorem dX10_changed_40 : decode cX10_changed 40 = .ok (.aload_n 0, 1) := by decide +kernel
theorem dX10_changed_41 : decode cX10_changed 41 = .ok (.dup, 1) := by decide +kernel
theorem dX10_changed_42 : decode cX10_changed 42 = .ok (.getfield 43, 3) := by decide +kernel
theorem dX10_changed_45 : decode cX10_changed 45 = .ok (.iconst 1, 1) := by decide +kernel
theorem dX10_changed_46 : decode cX10_changed 46 = .ok (.isub, 1) := by decide +kernel
theorem dX10_changed_47 : decode cX10_changed 47 = .ok (.putfield 43, 3) := by decide +kernel
theorem dX10_changed_50 : decode cX10_changed 50 = .ok (.iconst 0, 1) := by decide +kernel
theorem dX10_changed_51 : decode cX10_changed 51 = .ok (.istore_n 2, 1) := by decide +kernel
theorem dX10_changed_52 : decode cX10_changed 52 = .ok (.iload_n 2, 1) := by decide +kernel
theorem dX10_changed_53 : decode cX10_changed 53 = .ok (.sipush 132, 3) := by decide +kernel
theorem dX10_changed_56 : decode cX10_changed 56 = .ok (.if_icmp .ge 30, 3) := by decide +kernel
theorem dX10_changed_59 : decode cX10_changed 59 = .ok (.aload_n 0, 1) := by decide +kernel
theorem dX10_changed_60 : decode cX10_changed 60 = .ok (.getfield 19, 3) := by decide +kernel
theorem dX10_changed_63 : decode cX10_changed 63 = .ok (.sipush 132, 3) := by decide +kernel
theorem dX10_changed_66 : decode cX10_changed 66 = .ok (.aload_n 0, 1) := by decide +kernel
theorem dX10_changed_67 : decode cX10_changed 67 = .ok (.getfield 43, 3) := by decide +kernel
theorem dX10_changed_70 : decode cX10_changed 70 = .ok (.imul, 1) := by decide +kernel
theorem dX10_changed_71 : decode cX10_changed 71 = .ok (.iload_n 2, 1) := by decide +kernel
theorem dX10_changed_72 : decode cX10_changed 72 = .ok (.iadd, 1) := by decide +kernel
theorem dX10_changed_73 : decode cX10_changed 73 = .ok (.aload_n 0, 1) := by decide +kernel
theorem dX10_changed_74 : decode cX10_changed 74 = .ok (.getfield 13, 3) := by decide +kernel
theorem dX10_changed_77 : decode cX10_changed 77 = .ok (.iload_n 2, 1) := by decide +kernel
theorem dX10_changed_78 : decode cX10_changed 78 = .ok (.iaload, 1) := by decide +kernel
theorem dX10_changed_79 : decode cX10_changed 79 = .ok (.iastore, 1) := by decide +kernel
theorem dX10_changed_80 : decode cX10_changed 80 = .ok (.iinc 2 1, 3) := by decide +kernel
theorem dX10_changed_83 : decode cX10_changed 83 = .ok (.goto (-31), 3) := by decide +kernel
theorem dX10_changed_86 : decode cX10_changed 86 = .ok (.aload_n 0, 1) := by decide +kernel
theorem dX10_changed_87 : decode cX10_changed 87 = .ok (.dup, 1) := by decide +kernel
theorem dX10_changed_88 : decode cX10_changed 88 = .ok (.getfield 43, 3) := by decide +kernel
theorem dX10_changed_91 : decode cX10_changed 91 = .ok (.iconst 1, 1) := by decide +kernel
theorem dX10_changed_92 : decode cX10_changed 92 = .ok (.iadd, 1) := by decide +kernel
theorem dX10_changed_93 : decode cX10_changed 93 = .ok (.putfield 43, 3) := by decide +kernel
theorem dX10_changed_96 : decode cX10_changed 96 = .ok (.iload_n 1, 1) := by decide +kernel
theorem dX10_changed_97 : decode cX10_changed 97 = .ok (.ireturn, 1) := by decide +kernel
theorem dX10_size_0 : decode cX10_size 0 = .ok (.iload_n 0, 1) := by decide +kernel
theorem dX10_size_1 : decode cX10_size 1 = .ok (.ifCond .ge 8, 3) := by decide +kernel
theorem dX10_size_4 : decode cX10_size 4 = .ok (.iload_n 0, 1) := by decide +kernel
theorem dX10_size_5 : decode cX10_size 5 = .ok (.ineg, 1) := by decide +kernel
theorem dX10_size_6 : decode cX10_size 6 = .ok (.goto 4, 3) := by decide +kernel
theorem dX10_size_9 : decode cX10_size 9 = .ok (.iload_n 0, 1) := by decide +kernel
theorem dX10_size_10 : decode cX10_size 10 = .ok (.ireturn, 1) := by decide +kernel
theorem dX10_high_0 : decode cX10_high 0 = .ok (.bipush 6, 2) := by decide +kernel
theorem dX10_high_2 : decode cX10_high 2 = .ok (.iload_n 0, 1) := by decide +kernel
theorem dX10_high_3 : decode cX10_high 3 = .ok (.iconst 5, 1) := by decide +kernel
theorem dX10_high_4 : decode cX10_high 4 = .ok (.isub, 1) := by decide +kernel
theorem dX10_high_5 : decode cX10_high 5 = .ok (.invokestatic 47, 3) := by decide +kernel
theorem dX10_high_8 : decode cX10_high 8 = .ok (.isub, 1) := by decide +kernel
theorem dX10_high_9 : decode cX10_high 9 = .ok (.ireturn, 1) := by decide +kernel
theorem dX10_its_0 : decode cX10_its 0 = .ok (.aload_n 0, 1) := by decide +kernel
theorem dX10_its_1 : decode cX10_its 1 = .ok (.getfield 7, 3) := by decide +kernel
theorem dX10_its_4 : decode cX10_its 4 = .ok (.bipush 7, 2) := by decide +kernel
theorem dX10_its_6 : decode cX10_its 6 = .ok (.iconst 5, 1) := by decide +kernel
theorem dX10_its_7 : decode cX10_its 7 = .ok (.iload_n 1, 1) := by decide +kernel
theorem dX10_its_8 : decode cX10_its 8 = .ok (.imul, 1) := by decide +kernel
theorem dX10_its_9 : decode cX10_its 9 = .ok (.iadd, 1) := by decide +kernel
theorem dX10_its_10 : decode cX10_its 10 = .ok (.iload_n 2, 1) := by decide +kernel
theorem dX10_its_11 : decode cX10_its 11 = .ok (.iadd, 1) := by decide +kernel
theorem dX10_its_12 : decode cX10_its 12 = .ok (.iaload, 1) := by decide +kernel
theorem dX10_its_13 : decode cX10_its 13 = .ok (.ireturn, 1) := by decide +kernel
theorem dX10_sets_0 : decode cX10_sets 0 = .ok (.aload_n 0, 1) := by decide +kernel
theorem dX10_sets_1 : decode cX10_sets 1 = .ok (.getfield 7, 3) := by decide +kernel
theorem dX10_sets_4 : decode cX10_sets 4 = .ok (.bipush 7, 2) := by decide +kernel
theorem dX10_sets_6 : decode cX10_sets 6 = .ok (.iconst 5, 1) := by decide +kernel
theorem dX10_sets_7 : decode cX10_sets 7 = .ok (.iload_n 1, 1) := by decide +kernel
theorem dX10_sets_8 : decode cX10_sets 8 = .ok (.imul, 1) := by decide +kernel
theorem dX10_sets_9 : decode cX10_sets 9 = .ok (.iadd, 1) := by decide +kernel
theorem dX10_sets_10 : decode cX10_sets 10 = .ok (.iload_n 2, 1) := by decide +kernel
theorem dX10_sets_11 : decode cX10_sets 11 = .ok (.iadd, 1) := by decide +kernel
theorem dX10_sets_12 : decode cX10_sets 12 = .ok (.iload_n 3, 1) := by decide +kernel
theorem dX10_sets_13 : decode cX10_sets 13 = .ok (.iastore, 1) := by decide +kernel
theorem dX10_sets_14 : decode cX10_sets 14 = .ok (.return_, 1) := by decide +kernel
theorem dX10_isMirror_0 : decode cX10_isMirror 0 = .ok (.iload_n 1, 1) := by decide +kernel
theorem dX10_isMirror_1 : decode cX10_isMirror 1 = .ok (.i2l, 1) := by decide +kernel
theorem dX10_isMirror_2 : decode cX10_isMirror 2 = .ok (.lconst 0, 1) := by decide +kernel
theorem dX10_isMirror_3 : decode cX10_isMirror 3 = .ok (.aload_n 0, 1) := by decide +kernel
theorem dX10_isMirror_4 : decode cX10_isMirror 4 = .ok (.getfield 7, 3) := by decide +kernel
theorem dX10_isMirror_7 : decode cX10_isMirror 7 = .ok (.bipush 6, 2) := by decide +kernel
theorem dX10_isMirror_9 : decode cX10_isMirror 9 = .ok (.iaload, 1) := by decide +kernel
theorem dX10_isMirror_10 : decode cX10_isMirror 10 = .ok (.i2l, 1) := by decide +kernel
theorem dX10_isMirror_11 : decode cX10_isMirror 11 = .ok (.lconst 1, 1) := by decide +kernel
theorem dX10_isMirror_12 : decode cX10_isMirror 12 = .ok (.lsub, 1) := by decide +kernel
theorem dX10_isMirror_13 : decode cX10_isMirror 13 = .ok (.invokestatic 51, 3) := by decide +kernel
theorem dX10_isMirror_16 : decode cX10_isMirror 16 = .ok (.ireturn, 1) := by decide +kernel
theorem dX10_isPlace_0 : decode cX10_isPlace 0 = .ok (.iload_n 0, 1) := by decide +kernel
theorem dX10_isPlace_1 : decode cX10_isPlace 1 = .ok (.i2l, 1) := by decide +kernel
theorem dX10_isPlace_2 : decode cX10_isPlace 2 = .ok (.lconst 0, 1) := by decide +kernel
theorem dX10_isPlace_3 : decode cX10_isPlace 3 = .ok (.ldc2_w 55, 3) := by decide +kernel
theorem dX10_isPlace_6 : decode cX10_isPlace 6 = .ok (.invokestatic 51, 3) := by decide +kernel
theorem dX10_isPlace_9 : decode cX10_isPlace 9 = .ok (.ifCond .eq 19, 3) := by decide +kernel
theorem dX10_isPlace_12 : decode cX10_isPlace 12 = .ok (.iload_n 1, 1) := by decide +kernel
theorem dX10_isPlace_13 : decode cX10_isPlace 13 = .ok (.i2l, 1) := by decide +kernel
theorem dX10_isPlace_14 : decode cX10_isPlace 14 = .ok (.lconst 0, 1) := by decide +kernel
theorem dX10_isPlace_15 : decode cX10_isPlace 15 = .ok (.ldc2_w 55, 3) := by decide +kernel
theorem dX10_isPlace_18 : decode cX10_isPlace 18 = .ok (.invokestatic 51, 3) := by decide +kernel
theorem dX10_isPlace_21 : decode cX10_isPlace 21 = .ok (.ifCond .eq 7, 3) := by decide +kernel
theorem dX10_isPlace_24 : decode cX10_isPlace 24 = .ok (.iconst 1, 1) := by decide +kernel
theorem dX10_isPlace_25 : decode cX10_isPlace 25 = .ok (.goto 4, 3) := by decide +kernel
theorem dX10_isPlace_28 : decode cX10_isPlace 28 = .ok (.iconst 0, 1) := by decide +kernel
theorem dX10_isPlace_29 : decode cX10_isPlace 29 = .ok (.ireturn, 1) := by decide +kernel
theorem dX10_mirrorAt_0 : decode cX10_mirrorAt 0 = .ok (.iconst 0, 1) := by decide +kernel
theorem dX10_mirrorAt_1 : decode cX10_mirrorAt 1 = .ok (.istore_n 3, 1) := by decide +kernel
theorem dX10_mirrorAt_2 : decode cX10_mirrorAt 2 = .ok (.iload_n 3, 1) := by decide +kernel
theorem dX10_mirrorAt_3 : decode cX10_mirrorAt 3 = .ok (.aload_n 0, 1) := by decide +kernel
theorem dX10_mirrorAt_4 : decode cX10_mirrorAt 4 = .ok (.getfield 7, 3) := by decide +kernel
theorem dX10_mirrorAt_7 : decode cX10_mirrorAt 7 = .ok (.bipush 6, 2) := by decide +kernel
theorem dX10_mirrorAt_9 : decode cX10_mirrorAt 9 = .ok (.iaload, 1) := by decide +kernel
theorem dX10_mirrorAt_10 : decode cX10_mirrorAt 10 = .ok (.if_icmp .ge 31, 3) := by decide +kernel
theorem dX10_mirrorAt_13 : decode cX10_mirrorAt 13 = .ok (.aload_n 0, 1) := by decide +kernel
theorem dX10_mirrorAt_14 : decode cX10_mirrorAt 14 = .ok (.iload_n 3, 1) := by decide +kernel
theorem dX10_mirrorAt_15 : decode cX10_mirrorAt 15 = .ok (.iconst 0, 1) := by decide +kernel
theorem dX10_mirrorAt_16 : decode cX10_mirrorAt 16 = .ok (.invokevirtual 57, 3) := by decide +kernel
theorem dX10_mirrorAt_19 : decode cX10_mirrorAt 19 = .ok (.iload_n 1, 1) := by decide +kernel
theorem dX10_mirrorAt_20 : decode cX10_mirrorAt 20 = .ok (.if_icmp .ne 15, 3) := by decide +kernel
theorem dX10_mirrorAt_23 : decode cX10_mirrorAt 23 = .ok (.aload_n 0, 1) := by decide +kernel
theorem dX10_mirrorAt_24 : decode cX10_mirrorAt 24 = .ok (.iload_n 3, 1) := by decide +kernel
theorem dX10_mirrorAt_25 : decode cX10_mirrorAt 25 = .ok (.iconst 1, 1) := by decide +kernel
theorem dX10_mirrorAt_26 : decode cX10_mirrorAt 26 = .ok (.invokevirtual 57, 3) := by decide +kernel
theorem dX10_mirrorAt_29 : decode cX10_mirrorAt 29 = .ok (.iload_n 2, 1) := by decide +kernel
theorem dX10_mirrorAt_30 : decode cX10_mirrorAt 30 = .ok (.if_icmp .ne 5, 3) := by decide +kernel
theorem dX10_mirrorAt_33 : decode cX10_mirrorAt 33 = .ok (.iload_n 3, 1) := by decide +kernel
theorem dX10_mirrorAt_34 : decode cX10_mirrorAt 34 = .ok (.ireturn, 1) := by decide +kernel
theorem dX10_mirrorAt_35 : decode cX10_mirrorAt 35 = .ok (.iinc 3 1, 3) := by decide +kernel
theorem dX10_mirrorAt_38 : decode cX10_mirrorAt 38 = .ok (.goto (-36), 3) := by decide +kernel
theorem dX10_mirrorAt_41 : decode cX10_mirrorAt 41 = .ok (.bipush (-6), 2) := by decide +kernel
theorem dX10_mirrorAt_43 : decode cX10_mirrorAt 43 = .ok (.ireturn, 1) := by decide +kernel
theorem dX10_shadeOf_0 : decode cX10_shadeOf 0 = .ok (.iconst 1, 1) := by decide +kernel
theorem dX10_shadeOf_1 : decode cX10_shadeOf 1 = .ok (.istore_n 3, 1) := by decide +kernel
theorem dX10_shadeOf_2 : decode cX10_shadeOf 2 = .ok (.iload_n 3, 1) := by decide +kernel
theorem dX10_shadeOf_3 : decode cX10_shadeOf 3 = .ok (.bipush 6, 2) := by decide +kernel
theorem dX10_shadeOf_5 : decode cX10_shadeOf 5 = .ok (.iload_n 2, 1) := by decide +kernel
theorem dX10_shadeOf_6 : decode cX10_shadeOf 6 = .ok (.invokestatic 61, 3) := by decide +kernel
theorem dX10_shadeOf_9 : decode cX10_shadeOf 9 = .ok (.idiv, 1) := by decide +kernel
theorem dX10_shadeOf_10 : decode cX10_shadeOf 10 = .ok (.if_icmp .gt 45, 3) := by decide +kernel
theorem dX10_shadeOf_13 : decode cX10_shadeOf 13 = .ok (.aload_n 0, 1) := by decide +kernel
theorem dX10_shadeOf_14 : decode cX10_shadeOf 14 = .ok (.aload_n 0, 1) := by decide +kernel
theorem dX10_shadeOf_15 : decode cX10_shadeOf 15 = .ok (.iload_n 1, 1) := by decide +kernel
theorem dX10_shadeOf_16 : decode cX10_shadeOf 16 = .ok (.iconst 0, 1) := by decide +kernel
theorem dX10_shadeOf_17 : decode cX10_shadeOf 17 = .ok (.invokevirtual 57, 3) := by decide +kernel
theorem dX10_shadeOf_20 : decode cX10_shadeOf 20 = .ok (.iload_n 3, 1) := by decide +kernel
theorem dX10_shadeOf_21 : decode cX10_shadeOf 21 = .ok (.isub, 1) := by decide +kernel
theorem dX10_shadeOf_22 : decode cX10_shadeOf 22 = .ok (.aload_n 0, 1) := by decide +kernel
theorem dX10_shadeOf_23 : decode cX10_shadeOf 23 = .ok (.iload_n 1, 1) := by decide +kernel
theorem dX10_shadeOf_24 : decode cX10_shadeOf 24 = .ok (.iconst 1, 1) := by decide +kernel
theorem dX10_shadeOf_25 : decode cX10_shadeOf 25 = .ok (.invokevirtual 57, 3) := by decide +kernel
theorem dX10_shadeOf_28 : decode cX10_shadeOf 28 = .ok (.iload_n 3, 1) := by decide +kernel
theorem dX10_shadeOf_29 : decode cX10_shadeOf 29 = .ok (.iconst 5, 1) := by decide +kernel
theorem dX10_shadeOf_30 : decode cX10_shadeOf 30 = .ok (.iload_n 2, 1) := by decide +kernel
theorem dX10_shadeOf_31 : decode cX10_shadeOf 31 = .ok (.isub, 1) := by decide +kernel
theorem dX10_shadeOf_32 : decode cX10_shadeOf 32 = .ok (.imul, 1) := by decide +kernel
theorem dX10_shadeOf_33 : decode cX10_shadeOf 33 = .ok (.iadd, 1) := by decide +kernel
theorem dX10_shadeOf_34 : decode cX10_shadeOf 34 = .ok (.invokevirtual 64, 3) := by decide +kernel
theorem dX10_shadeOf_37 : decode cX10_shadeOf 37 = .ok (.istore 4, 2) := by decide +kernel
theorem dX10_shadeOf_39 : decode cX10_shadeOf 39 = .ok (.iload 4, 2) := by decide +kernel
theorem dX10_shadeOf_41 : decode cX10_shadeOf 41 = .ok (.bipush (-6), 2) := by decide +kernel
theorem dX10_shadeOf_43 : decode cX10_shadeOf 43 = .ok (.if_icmp .eq 6, 3) := by decide +kernel
theorem dX10_shadeOf_46 : decode cX10_shadeOf 46 = .ok (.iload 4, 2) := by decide +kernel
theorem dX10_shadeOf_48 : decode cX10_shadeOf 48 = .ok (.ireturn, 1) := by decide +kernel
theorem dX10_shadeOf_49 : decode cX10_shadeOf 49 = .ok (.iinc 3 1, 3) := by decide +kernel
theorem dX10_shadeOf_52 : decode cX10_shadeOf 52 = .ok (.goto (-50), 3) := by decide +kernel
theorem dX10_shadeOf_55 : decode cX10_shadeOf 55 = .ok (.bipush (-6), 2) := by decide +kernel
theorem dX10_shadeOf_57 : decode cX10_shadeOf 57 = .ok (.ireturn, 1) := by decide +kernel
theorem dX10_isBlocked_0 : decode cX10_isBlocked 0 = .ok (.aload_n 0, 1) := by decide +kernel
theorem dX10_isBlocked_1 : decode cX10_isBlocked 1 = .ok (.iload_n 1, 1) := by decide +kernel
theorem dX10_isBlocked_2 : decode cX10_isBlocked 2 = .ok (.iconst 0, 1) := by decide +kernel
theorem dX10_isBlocked_3 : decode cX10_isBlocked 3 = .ok (.invokevirtual 57, 3) := by decide +kernel
theorem dX10_isBlocked_6 : decode cX10_isBlocked 6 = .ok (.bipush (-2), 2) := by decide +kernel
theorem dX10_isBlocked_8 : decode cX10_isBlocked 8 = .ok (.isub, 1) := by decide +kernel
theorem dX10_isBlocked_9 : decode cX10_isBlocked 9 = .ok (.istore_n 2, 1) := by decide +kernel
theorem dX10_isBlocked_10 : decode cX10_isBlocked 10 = .ok (.aload_n 0, 1) := by decide +kernel
theorem dX10_isBlocked_11 : decode cX10_isBlocked 11 = .ok (.iload_n 1, 1) := by decide +kernel
theorem dX10_isBlocked_12 : decode cX10_isBlocked 12 = .ok (.iconst 1, 1) := by decide +kernel
theorem dX10_isBlocked_13 : decode cX10_isBlocked 13 = .ok (.invokevirtual 57, 3) := by decide +kernel
theorem dX10_isBlocked_16 : decode cX10_isBlocked 16 = .ok (.bipush 10, 2) := by decide +kernel
theorem dX10_isBlocked_18 : decode cX10_isBlocked 18 = .ok (.isub, 1) := by decide +kernel
theorem dX10_isBlocked_19 : decode cX10_isBlocked 19 = .ok (.istore_n 3, 1) := by decide +kernel
theorem dX10_isBlocked_20 : decode cX10_isBlocked 20 = .ok (.iconst 0, 1) := by decide +kernel
theorem dX10_isBlocked_21 : decode cX10_isBlocked 21 = .ok (.istore 4, 2) := by decide +kernel
theorem dX10_isBlocked_23 : decode cX10_isBlocked 23 = .ok (.iconst 0, 1) := by decide +kernel
theorem dX10_isBlocked_24 : decode cX10_isBlocked 24 = .ok (.istore 5, 2) := by decide +kernel
theorem dX10_isBlocked_26 : decode cX10_isBlocked 26 = .ok (.iload 5, 2) := by decide +kernel
theorem dX10_isBlocked_28 : decode cX10_isBlocked 28 = .ok (.aload_n 0, 1) := by decide +kernel
theorem dX10_isBlocked_29 : decode cX10_isBlocked 29 = .ok (.getfield 7, 3) := by decide +kernel
theorem dX10_isBlocked_32 : decode cX10_isBlocked 32 = .ok (.bipush 6, 2) := by decide +kernel
theorem dX10_isBlocked_34 : decode cX10_isBlocked 34 = .ok (.iaload, 1) := by decide +kernel
theorem dX10_isBlocked_35 : decode cX10_isBlocked 35 = .ok (.if_icmp .ge 77, 3) := by decide +kernel
theorem dX10_isBlocked_38 : decode cX10_isBlocked 38 = .ok (.aload_n 0, 1) := by decide +kernel
theorem dX10_isBlocked_39 : decode cX10_isBlocked 39 = .ok (.iload_n 1, 1) := by decide +kernel
theorem dX10_isBlocked_40 : decode cX10_isBlocked 40 = .ok (.iconst 0, 1) := by decide +kernel
theorem dX10_isBlocked_41 : decode cX10_isBlocked 41 = .ok (.invokevirtual 57, 3) := by decide +kernel
theorem dX10_isBlocked_44 : decode cX10_isBlocked 44 = .ok (.aload_n 0, 1) := by decide +kernel
theorem dX10_isBlocked_45 : decode cX10_isBlocked 45 = .ok (.iload 5, 2) := by decide +kernel
theorem dX10_isBlocked_47 : decode cX10_isBlocked 47 = .ok (.iconst 0, 1) := by decide +kernel
theorem dX10_isBlocked_48 : decode cX10_isBlocked 48 = .ok (.invokevirtual 57, 3) := by decide +kernel
theorem dX10_isBlocked_51 : decode cX10_isBlocked 51 = .ok (.isub, 1) := by decide +kernel
theorem dX10_isBlocked_52 : decode cX10_isBlocked 52 = .ok (.istore 6, 2) := by decide +kernel
theorem dX10_isBlocked_54 : decode cX10_isBlocked 54 = .ok (.iload 4, 2) := by decide +kernel
theorem dX10_isBlocked_56 : decode cX10_isBlocked 56 = .ok (.ifCond .ne 43, 3) := by decide +kernel
theorem dX10_isBlocked_59 : decode cX10_isBlocked 59 = .ok (.iload 6, 2) := by decide +kernel
theorem dX10_isBlocked_61 : decode cX10_isBlocked 61 = .ok (.i2l, 1) := by decide +kernel
theorem dX10_isBlocked_62 : decode cX10_isBlocked 62 = .ok (.lconst 1, 1) := by decide +kernel
theorem dX10_isBlocked_63 : decode cX10_isBlocked 63 = .ok (.ldc2_w 67, 3) := by decide +kernel
theorem dX10_isBlocked_66 : decode cX10_isBlocked 66 = .ok (.invokestatic 51, 3) := by decide +kernel
theorem dX10_isBlocked_69 : decode cX10_isBlocked 69 = .ok (.ifCond .eq 34, 3) := by decide +kernel
theorem dX10_isBlocked_72 : decode cX10_isBlocked 72 = .ok (.aload_n 0, 1) := by decide +kernel
theorem dX10_isBlocked_73 : decode cX10_isBlocked 73 = .ok (.iload 5, 2) := by decide +kernel
theorem dX10_isBlocked_75 : decode cX10_isBlocked 75 = .ok (.iconst 1, 1) := by decide +kernel
theorem dX10_isBlocked_76 : decode cX10_isBlocked 76 = .ok (.invokevirtual 57, 3) := by decide +kernel
theorem dX10_isBlocked_79 : decode cX10_isBlocked 79 = .ok (.bipush 10, 2) := by decide +kernel
theorem dX10_isBlocked_81 : decode cX10_isBlocked 81 = .ok (.isub, 1) := by decide +kernel
theorem dX10_isBlocked_82 : decode cX10_isBlocked 82 = .ok (.iload_n 2, 1) := by decide +kernel
theorem dX10_isBlocked_83 : decode cX10_isBlocked 83 = .ok (.imul, 1) := by decide +kernel
theorem dX10_isBlocked_84 : decode cX10_isBlocked 84 = .ok (.iload_n 3, 1) := by decide +kernel
theorem dX10_isBlocked_85 : decode cX10_isBlocked 85 = .ok (.aload_n 0, 1) := by decide +kernel
theorem dX10_isBlocked_86 : decode cX10_isBlocked 86 = .ok (.iload 5, 2) := by decide +kernel
theorem dX10_isBlocked_88 : decode cX10_isBlocked 88 = .ok (.iconst 0, 1) := by decide +kernel
theorem dX10_isBlocked_89 : decode cX10_isBlocked 89 = .ok (.invokevirtual 57, 3) := by decide +kernel
theorem dX10_isBlocked_92 : decode cX10_isBlocked 92 = .ok (.bipush (-2), 2) := by decide +kernel
theorem dX10_isBlocked_94 : decode cX10_isBlocked 94 = .ok (.isub, 1) := by decide +kernel
theorem dX10_isBlocked_95 : decode cX10_isBlocked 95 = .ok (.imul, 1) := by decide +kernel
theorem dX10_isBlocked_96 : decode cX10_isBlocked 96 = .ok (.if_icmp .ne 7, 3) := by decide +kernel
theorem dX10_isBlocked_99 : decode cX10_isBlocked 99 = .ok (.iconst 1, 1) := by decide +kernel
theorem dX10_isBlocked_100 : decode cX10_isBlocked 100 = .ok (.goto 4, 3) := by decide +kernel
theorem dX10_isBlocked_103 : decode cX10_isBlocked 103 = .ok (.iconst 0, 1) := by decide +kernel
theorem dX10_isBlocked_104 : decode cX10_isBlocked 104 = .ok (.istore 4, 2) := by decide +kernel
theorem dX10_isBlocked_106 : decode cX10_isBlocked 106 = .ok (.iinc 5 1, 3) := by decide +kernel
theorem dX10_isBlocked_109 : decode cX10_isBlocked 109 = .ok (.goto (-83), 3) := by decide +kernel
theorem dX10_isBlocked_112 : decode cX10_isBlocked 112 = .ok (.iload 4, 2) := by decide +kernel
theorem dX10_isBlocked_114 : decode cX10_isBlocked 114 = .ok (.ireturn, 1) := by decide +kernel
theorem dX10_areFlat_0 : decode cX10_areFlat 0 = .ok (.aload_n 0, 1) := by decide +kernel
theorem dX10_areFlat_1 : decode cX10_areFlat 1 = .ok (.getfield 7, 3) := by decide +kernel
theorem dX10_areFlat_4 : decode cX10_areFlat 4 = .ok (.iconst 4, 1) := by decide +kernel
theorem dX10_areFlat_5 : decode cX10_areFlat 5 = .ok (.iaload, 1) := by decide +kernel
theorem dX10_areFlat_6 : decode cX10_areFlat 6 = .ok (.aload_n 0, 1) := by decide +kernel
theorem dX10_areFlat_7 : decode cX10_areFlat 7 = .ok (.getfield 7, 3) := by decide +kernel
theorem dX10_areFlat_10 : decode cX10_areFlat 10 = .ok (.iconst 1, 1) := by decide +kernel
theorem dX10_areFlat_11 : decode cX10_areFlat 11 = .ok (.iaload, 1) := by decide +kernel
theorem dX10_areFlat_12 : decode cX10_areFlat 12 = .ok (.if_icmp .le 7, 3) := by decide +kernel
theorem dX10_areFlat_15 : decode cX10_areFlat 15 = .ok (.iconst 1, 1) := by decide +kernel
theorem dX10_areFlat_16 : decode cX10_areFlat 16 = .ok (.goto 4, 3) := by decide +kernel
theorem dX10_areFlat_19 : decode cX10_areFlat 19 = .ok (.iconst 0, 1) := by decide +kernel
theorem dX10_areFlat_20 : decode cX10_areFlat 20 = .ok (.ireturn, 1) := by decide +kernel
theorem dX10_gives_0 : decode cX10_gives 0 = .ok (.aload_n 0, 1) := by decide +kernel
theorem dX10_gives_1 : decode cX10_gives 1 = .ok (.invokevirtual 69, 3) := by decide +kernel
theorem dX10_gives_4 : decode cX10_gives 4 = .ok (.ifCond .ne 22, 3) := by decide +kernel
theorem dX10_gives_7 : decode cX10_gives 7 = .ok (.aload_n 0, 1) := by decide +kernel
theorem dX10_gives_8 : decode cX10_gives 8 = .ok (.iload_n 1, 1) := by decide +kernel
theorem dX10_gives_9 : decode cX10_gives 9 = .ok (.iload_n 2, 1) := by decide +kernel
theorem dX10_gives_10 : decode cX10_gives 10 = .ok (.invokevirtual 73, 3) := by decide +kernel
theorem dX10_gives_13 : decode cX10_gives 13 = .ok (.bipush (-6), 2) := by decide +kernel
theorem dX10_gives_15 : decode cX10_gives 15 = .ok (.if_icmp .ne 11, 3) := by decide +kernel
theorem dX10_gives_18 : decode cX10_gives 18 = .ok (.aload_n 0, 1) := by decide +kernel
theorem dX10_gives_19 : decode cX10_gives 19 = .ok (.iload_n 1, 1) := by decide +kernel
theorem dX10_gives_20 : decode cX10_gives 20 = .ok (.invokevirtual 76, 3) := by decide +kernel
theorem dX10_gives_23 : decode cX10_gives 23 = .ok (.ifCond .eq 5, 3) := by decide +kernel
theorem dX10_gives_26 : decode cX10_gives 26 = .ok (.iconst 0, 1) := by decide +kernel
theorem dX10_gives_27 : decode cX10_gives 27 = .ok (.ireturn, 1) := by decide +kernel
theorem dX10_gives_28 : decode cX10_gives 28 = .ok (.bipush 100, 2) := by decide +kernel
theorem dX10_gives_30 : decode cX10_gives 30 = .ok (.aload_n 0, 1) := by decide +kernel
theorem dX10_gives_31 : decode cX10_gives 31 = .ok (.iload_n 1, 1) := by decide +kernel
theorem dX10_gives_32 : decode cX10_gives 32 = .ok (.iconst 3, 1) := by decide +kernel
theorem dX10_gives_33 : decode cX10_gives 33 = .ok (.invokevirtual 57, 3) := by decide +kernel
theorem dX10_gives_36 : decode cX10_gives 36 = .ok (.isub, 1) := by decide +kernel
theorem dX10_gives_37 : decode cX10_gives 37 = .ok (.iload_n 2, 1) := by decide +kernel
theorem dX10_gives_38 : decode cX10_gives 38 = .ok (.invokestatic 61, 3) := by decide +kernel
theorem dX10_gives_41 : decode cX10_gives 41 = .ok (.imul, 1) := by decide +kernel
theorem dX10_gives_42 : decode cX10_gives 42 = .ok (.bipush 20, 2) := by decide +kernel
theorem dX10_gives_44 : decode cX10_gives 44 = .ok (.imul, 1) := by decide +kernel
theorem dX10_gives_45 : decode cX10_gives 45 = .ok (.bipush 20, 2) := by decide +kernel
theorem dX10_gives_47 : decode cX10_gives 47 = .ok (.aload_n 0, 1) := by decide +kernel
theorem dX10_gives_48 : decode cX10_gives 48 = .ok (.iload_n 1, 1) := by decide +kernel
theorem dX10_gives_49 : decode cX10_gives 49 = .ok (.iconst 0, 1) := by decide +kernel
theorem dX10_gives_50 : decode cX10_gives 50 = .ok (.invokevirtual 57, 3) := by decide +kernel
theorem dX10_gives_53 : decode cX10_gives 53 = .ok (.iadd, 1) := by decide +kernel
theorem dX10_gives_54 : decode cX10_gives 54 = .ok (.idiv, 1) := by decide +kernel
theorem dX10_gives_55 : decode cX10_gives 55 = .ok (.bipush 10, 2) := by decide +kernel
theorem dX10_gives_57 : decode cX10_gives 57 = .ok (.idiv, 1) := by decide +kernel
theorem dX10_gives_58 : decode cX10_gives 58 = .ok (.ireturn, 1) := by decide +kernel
theorem dX10_sorts_0 : decode cX10_sorts 0 = .ok (.iconst 0, 1) := by decide +kernel
theorem dX10_sorts_1 : decode cX10_sorts 1 = .ok (.istore_n 1, 1) := by decide +kernel
theorem dX10_sorts_2 : decode cX10_sorts 2 = .ok (.iload_n 1, 1) := by decide +kernel
theorem dX10_sorts_3 : decode cX10_sorts 3 = .ok (.aload_n 0, 1) := by decide +kernel
theorem dX10_sorts_4 : decode cX10_sorts 4 = .ok (.getfield 7, 3) := by decide +kernel
theorem dX10_sorts_7 : decode cX10_sorts 7 = .ok (.bipush 6, 2) := by decide +kernel
theorem dX10_sorts_9 : decode cX10_sorts 9 = .ok (.iaload, 1) := by decide +kernel
theorem dX10_sorts_10 : decode cX10_sorts 10 = .ok (.if_icmp .ge 64, 3) := by decide +kernel
theorem dX10_sorts_13 : decode cX10_sorts 13 = .ok (.iload_n 1, 1) := by decide +kernel
theorem dX10_sorts_14 : decode cX10_sorts 14 = .ok (.istore_n 2, 1) := by decide +kernel
theorem dX10_sorts_15 : decode cX10_sorts 15 = .ok (.iload_n 2, 1) := by decide +kernel
theorem dX10_sorts_16 : decode cX10_sorts 16 = .ok (.ifCond .le 45, 3) := by decide +kernel
theorem dX10_sorts_19 : decode cX10_sorts 19 = .ok (.aload_n 0, 1) := by decide +kernel
theorem dX10_sorts_20 : decode cX10_sorts 20 = .ok (.getfield 28, 3) := by decide +kernel
theorem dX10_sorts_23 : decode cX10_sorts 23 = .ok (.aload_n 0, 1) := by decide +kernel
theorem dX10_sorts_24 : decode cX10_sorts 24 = .ok (.getfield 37, 3) := by decide +kernel
theorem dX10_sorts_27 : decode cX10_sorts 27 = .ok (.iload_n 2, 1) := by decide +kernel
theorem dX10_sorts_28 : decode cX10_sorts 28 = .ok (.iconst 1, 1) := by decide +kernel
theorem dX10_sorts_29 : decode cX10_sorts 29 = .ok (.isub, 1) := by decide +kernel
theorem dX10_sorts_30 : decode cX10_sorts 30 = .ok (.iaload, 1) := by decide +kernel
theorem dX10_sorts_31 : decode cX10_sorts 31 = .ok (.iaload, 1) := by decide +kernel
theorem dX10_sorts_32 : decode cX10_sorts 32 = .ok (.aload_n 0, 1) := by decide +kernel
theorem dX10_sorts_33 : decode cX10_sorts 33 = .ok (.getfield 28, 3) := by decide +kernel
theorem dX10_sorts_36 : decode cX10_sorts 36 = .ok (.iload_n 1, 1) := by decide +kernel
theorem dX10_sorts_37 : decode cX10_sorts 37 = .ok (.iaload, 1) := by decide +kernel
theorem dX10_sorts_38 : decode cX10_sorts 38 = .ok (.if_icmp .ge 23, 3) := by decide +kernel
theorem dX10_sorts_41 : decode cX10_sorts 41 = .ok (.aload_n 0, 1) := by decide +kernel
theorem dX10_sorts_42 : decode cX10_sorts 42 = .ok (.getfield 37, 3) := by decide +kernel
theorem dX10_sorts_45 : decode cX10_sorts 45 = .ok (.iload_n 2, 1) := by decide +kernel
theorem dX10_sorts_46 : decode cX10_sorts 46 = .ok (.aload_n 0, 1) := by decide +kernel
theorem dX10_sorts_47 : decode cX10_sorts 47 = .ok (.getfield 37, 3) := by decide +kernel
theorem dX10_sorts_50 : decode cX10_sorts 50 = .ok (.iload_n 2, 1) := by decide +kernel
theorem dX10_sorts_51 : decode cX10_sorts 51 = .ok (.iconst 1, 1) := by decide +kernel
theorem dX10_sorts_52 : decode cX10_sorts 52 = .ok (.isub, 1) := by decide +kernel
theorem dX10_sorts_53 : decode cX10_sorts 53 = .ok (.iaload, 1) := by decide +kernel
theorem dX10_sorts_54 : decode cX10_sorts 54 = .ok (.iastore, 1) := by decide +kernel
theorem dX10_sorts_55 : decode cX10_sorts 55 = .ok (.iinc 2 (-1), 3) := by decide +kernel
theorem dX10_sorts_58 : decode cX10_sorts 58 = .ok (.goto (-43), 3) := by decide +kernel
theorem dX10_sorts_61 : decode cX10_sorts 61 = .ok (.aload_n 0, 1) := by decide +kernel
theorem dX10_sorts_62 : decode cX10_sorts 62 = .ok (.getfield 37, 3) := by decide +kernel
theorem dX10_sorts_65 : decode cX10_sorts 65 = .ok (.iload_n 2, 1) := by decide +kernel
theorem dX10_sorts_66 : decode cX10_sorts 66 = .ok (.iload_n 1, 1) := by decide +kernel
theorem dX10_sorts_67 : decode cX10_sorts 67 = .ok (.iastore, 1) := by decide +kernel
theorem dX10_sorts_68 : decode cX10_sorts 68 = .ok (.iinc 1 1, 3) := by decide +kernel
theorem dX10_sorts_71 : decode cX10_sorts 71 = .ok (.goto (-69), 3) := by decide +kernel
theorem dX10_sorts_74 : decode cX10_sorts 74 = .ok (.return_, 1) := by decide +kernel
theorem dX10_looks_0 : decode cX10_looks 0 = .ok (.iconst 0, 1) := by decide +kernel
theorem dX10_looks_1 : decode cX10_looks 1 = .ok (.istore_n 2, 1) := by decide +kernel
theorem dX10_looks_2 : decode cX10_looks 2 = .ok (.iconst 0, 1) := by decide +kernel
theorem dX10_looks_3 : decode cX10_looks 3 = .ok (.istore_n 3, 1) := by decide +kernel
theorem dX10_looks_4 : decode cX10_looks 4 = .ok (.iload_n 3, 1) := by decide +kernel
theorem dX10_looks_5 : decode cX10_looks 5 = .ok (.iconst 4, 1) := by decide +kernel
theorem dX10_looks_6 : decode cX10_looks 6 = .ok (.if_icmp .ge 16, 3) := by decide +kernel
theorem dX10_looks_9 : decode cX10_looks 9 = .ok (.aload_n 0, 1) := by decide +kernel
theorem dX10_looks_10 : decode cX10_looks 10 = .ok (.getfield 34, 3) := by decide +kernel
theorem dX10_looks_13 : decode cX10_looks 13 = .ok (.iload_n 3, 1) := by decide +kernel
theorem dX10_looks_14 : decode cX10_looks 14 = .ok (.iconst 0, 1) := by decide +kernel
theorem dX10_looks_15 : decode cX10_looks 15 = .ok (.iastore, 1) := by decide +kernel
theorem dX10_looks_16 : decode cX10_looks 16 = .ok (.iinc 3 1, 3) := by decide +kernel
theorem dX10_looks_19 : decode cX10_looks 19 = .ok (.goto (-15), 3) := by decide +kernel
theorem dX10_looks_22 : decode cX10_looks 22 = .ok (.iconst 0, 1) := by decide +kernel
theorem dX10_looks_23 : decode cX10_looks 23 = .ok (.istore_n 3, 1) := by decide +kernel
theorem dX10_looks_24 : decode cX10_looks 24 = .ok (.iload_n 3, 1) := by decide +kernel
theorem dX10_looks_25 : decode cX10_looks 25 = .ok (.aload_n 0, 1) := by decide +kernel
theorem dX10_looks_26 : decode cX10_looks 26 = .ok (.getfield 7, 3) := by decide +kernel
theorem dX10_looks_29 : decode cX10_looks 29 = .ok (.bipush 6, 2) := by decide +kernel
theorem dX10_looks_31 : decode cX10_looks 31 = .ok (.iaload, 1) := by decide +kernel
theorem dX10_looks_32 : decode cX10_looks 32 = .ok (.if_icmp .ge 21, 3) := by decide +kernel
theorem dX10_looks_35 : decode cX10_looks 35 = .ok (.aload_n 0, 1) := by decide +kernel
theorem dX10_looks_36 : decode cX10_looks 36 = .ok (.getfield 28, 3) := by decide +kernel
theorem dX10_looks_39 : decode cX10_looks 39 = .ok (.iload_n 3, 1) := by decide +kernel
theorem dX10_looks_40 : decode cX10_looks 40 = .ok (.aload_n 0, 1) := by decide +kernel
theorem dX10_looks_41 : decode cX10_looks 41 = .ok (.iload_n 3, 1) := by decide +kernel
theorem dX10_looks_42 : decode cX10_looks 42 = .ok (.iload_n 1, 1) := by decide +kernel
theorem dX10_looks_43 : decode cX10_looks 43 = .ok (.invokevirtual 80, 3) := by decide +kernel
theorem dX10_looks_46 : decode cX10_looks 46 = .ok (.iastore, 1) := by decide +kernel
theorem dX10_looks_47 : decode cX10_looks 47 = .ok (.iinc 3 1, 3) := by decide +kernel
theorem dX10_looks_50 : decode cX10_looks 50 = .ok (.goto (-26), 3) := by decide +kernel
theorem dX10_looks_53 : decode cX10_looks 53 = .ok (.aload_n 0, 1) := by decide +kernel
theorem dX10_looks_54 : decode cX10_looks 54 = .ok (.invokevirtual 83, 3) := by decide +kernel
theorem dX10_looks_57 : decode cX10_looks 57 = .ok (.iconst 0, 1) := by decide +kernel
theorem dX10_looks_58 : decode cX10_looks 58 = .ok (.istore_n 3, 1) := by decide +kernel
theorem dX10_looks_59 : decode cX10_looks 59 = .ok (.iload_n 3, 1) := by decide +kernel
theorem dX10_looks_60 : decode cX10_looks 60 = .ok (.aload_n 0, 1) := by decide +kernel
theorem dX10_looks_61 : decode cX10_looks 61 = .ok (.getfield 7, 3) := by decide +kernel
theorem dX10_looks_64 : decode cX10_looks 64 = .ok (.bipush 6, 2) := by decide +kernel
theorem dX10_looks_66 : decode cX10_looks 66 = .ok (.iaload, 1) := by decide +kernel
theorem dX10_looks_67 : decode cX10_looks 67 = .ok (.if_icmp .ge 105, 3) := by decide +kernel
theorem dX10_looks_70 : decode cX10_looks 70 = .ok (.aload_n 0, 1) := by decide +kernel
theorem dX10_looks_71 : decode cX10_looks 71 = .ok (.getfield 37, 3) := by decide +kernel
theorem dX10_looks_74 : decode cX10_looks 74 = .ok (.iload_n 3, 1) := by decide +kernel
theorem dX10_looks_75 : decode cX10_looks 75 = .ok (.iaload, 1) := by decide +kernel
theorem dX10_looks_76 : decode cX10_looks 76 = .ok (.istore 4, 2) := by decide +kernel
theorem dX10_looks_78 : decode cX10_looks 78 = .ok (.aload_n 0, 1) := by decide +kernel
theorem dX10_looks_79 : decode cX10_looks 79 = .ok (.iload 4, 2) := by decide +kernel
theorem dX10_looks_81 : decode cX10_looks 81 = .ok (.iconst 2, 1) := by decide +kernel
theorem dX10_looks_82 : decode cX10_looks 82 = .ok (.invokevirtual 57, 3) := by decide +kernel
theorem dX10_looks_85 : decode cX10_looks 85 = .ok (.istore 5, 2) := by decide +kernel
theorem dX10_looks_87 : decode cX10_looks 87 = .ok (.aload_n 0, 1) := by decide +kernel
theorem dX10_looks_88 : decode cX10_looks 88 = .ok (.getfield 31, 3) := by decide +kernel
theorem dX10_looks_91 : decode cX10_looks 91 = .ok (.iload 4, 2) := by decide +kernel
theorem dX10_looks_93 : decode cX10_looks 93 = .ok (.aload_n 0, 1) := by decide +kernel
theorem dX10_looks_94 : decode cX10_looks 94 = .ok (.getfield 34, 3) := by decide +kernel
theorem dX10_looks_97 : decode cX10_looks 97 = .ok (.iload 5, 2) := by decide +kernel
theorem dX10_looks_99 : decode cX10_looks 99 = .ok (.iaload, 1) := by decide +kernel
theorem dX10_looks_100 : decode cX10_looks 100 = .ok (.aload_n 0, 1) := by decide +kernel
theorem dX10_looks_101 : decode cX10_looks 101 = .ok (.getfield 28, 3) := by decide +kernel
theorem dX10_looks_104 : decode cX10_looks 104 = .ok (.iload 4, 2) := by decide +kernel
theorem dX10_looks_106 : decode cX10_looks 106 = .ok (.iaload, 1) := by decide +kernel
theorem dX10_looks_107 : decode cX10_looks 107 = .ok (.iadd, 1) := by decide +kernel
theorem dX10_looks_108 : decode cX10_looks 108 = .ok (.aload_n 0, 1) := by decide +kernel
theorem dX10_looks_109 : decode cX10_looks 109 = .ok (.getfield 7, 3) := by decide +kernel
theorem dX10_looks_112 : decode cX10_looks 112 = .ok (.iconst 0, 1) := by decide +kernel
theorem dX10_looks_113 : decode cX10_looks 113 = .ok (.iaload, 1) := by decide +kernel
theorem dX10_looks_114 : decode cX10_looks 114 = .ok (.if_icmp .gt 7, 3) := by decide +kernel
theorem dX10_looks_117 : decode cX10_looks 117 = .ok (.iconst 1, 1) := by decide +kernel
theorem dX10_looks_118 : decode cX10_looks 118 = .ok (.goto 4, 3) := by decide +kernel
theorem dX10_looks_121 : decode cX10_looks 121 = .ok (.iconst 0, 1) := by decide +kernel
theorem dX10_looks_122 : decode cX10_looks 122 = .ok (.iastore, 1) := by decide +kernel
theorem dX10_looks_123 : decode cX10_looks 123 = .ok (.aload_n 0, 1) := by decide +kernel
theorem dX10_looks_124 : decode cX10_looks 124 = .ok (.getfield 34, 3) := by decide +kernel
theorem dX10_looks_127 : decode cX10_looks 127 = .ok (.iload 5, 2) := by decide +kernel
theorem dX10_looks_129 : decode cX10_looks 129 = .ok (.dup2, 1) := by decide +kernel
theorem dX10_looks_130 : decode cX10_looks 130 = .ok (.iaload, 1) := by decide +kernel
theorem dX10_looks_131 : decode cX10_looks 131 = .ok (.aload_n 0, 1) := by decide +kernel
theorem dX10_looks_132 : decode cX10_looks 132 = .ok (.getfield 31, 3) := by decide +kernel
theorem dX10_looks_135 : decode cX10_looks 135 = .ok (.iload 4, 2) := by decide +kernel
theorem dX10_looks_137 : decode cX10_looks 137 = .ok (.iaload, 1) := by decide +kernel
theorem dX10_looks_138 : decode cX10_looks 138 = .ok (.aload_n 0, 1) := by decide +kernel
theorem dX10_looks_139 : decode cX10_looks 139 = .ok (.getfield 28, 3) := by decide +kernel
theorem dX10_looks_142 : decode cX10_looks 142 = .ok (.iload 4, 2) := by decide +kernel
theorem dX10_looks_144 : decode cX10_looks 144 = .ok (.iaload, 1) := by decide +kernel
theorem dX10_looks_145 : decode cX10_looks 145 = .ok (.imul, 1) := by decide +kernel
theorem dX10_looks_146 : decode cX10_looks 146 = .ok (.iadd, 1) := by decide +kernel
theorem dX10_looks_147 : decode cX10_looks 147 = .ok (.iastore, 1) := by decide +kernel
theorem dX10_looks_148 : decode cX10_looks 148 = .ok (.iload_n 2, 1) := by decide +kernel
theorem dX10_looks_149 : decode cX10_looks 149 = .ok (.aload_n 0, 1) := by decide +kernel
theorem dX10_looks_150 : decode cX10_looks 150 = .ok (.getfield 31, 3) := by decide +kernel
theorem dX10_looks_153 : decode cX10_looks 153 = .ok (.iload 4, 2) := by decide +kernel
theorem dX10_looks_155 : decode cX10_looks 155 = .ok (.iaload, 1) := by decide +kernel
theorem dX10_looks_156 : decode cX10_looks 156 = .ok (.aload_n 0, 1) := by decide +kernel
theorem dX10_looks_157 : decode cX10_looks 157 = .ok (.getfield 28, 3) := by decide +kernel
theorem dX10_looks_160 : decode cX10_looks 160 = .ok (.iload 4, 2) := by decide +kernel
theorem dX10_looks_162 : decode cX10_looks 162 = .ok (.iaload, 1) := by decide +kernel
theorem dX10_looks_163 : decode cX10_looks 163 = .ok (.imul, 1) := by decide +kernel
theorem dX10_looks_164 : decode cX10_looks 164 = .ok (.iadd, 1) := by decide +kernel
theorem dX10_looks_165 : decode cX10_looks 165 = .ok (.istore_n 2, 1) := by decide +kernel
theorem dX10_looks_166 : decode cX10_looks 166 = .ok (.iinc 3 1, 3) := by decide +kernel
theorem dX10_looks_169 : decode cX10_looks 169 = .ok (.goto (-110), 3) := by decide +kernel
theorem dX10_looks_172 : decode cX10_looks 172 = .ok (.iload_n 2, 1) := by decide +kernel
theorem dX10_looks_173 : decode cX10_looks 173 = .ok (.ireturn, 1) := by decide +kernel
theorem dX10_brings_0 : decode cX10_brings 0 = .ok (.iconst 0, 1) := by decide +kernel
theorem dX10_brings_1 : decode cX10_brings 1 = .ok (.istore_n 1, 1) := by decide +kernel
theorem dX10_brings_2 : decode cX10_brings 2 = .ok (.iconst 0, 1) := by decide +kernel
theorem dX10_brings_3 : decode cX10_brings 3 = .ok (.istore_n 2, 1) := by decide +kernel
theorem dX10_brings_4 : decode cX10_brings 4 = .ok (.iload_n 2, 1) := by decide +kernel
theorem dX10_brings_5 : decode cX10_brings 5 = .ok (.bipush 11, 2) := by decide +kernel
theorem dX10_brings_7 : decode cX10_brings 7 = .ok (.if_icmp .ge 17, 3) := by decide +kernel
theorem dX10_brings_10 : decode cX10_brings 10 = .ok (.iload_n 1, 1) := by decide +kernel
theorem dX10_brings_11 : decode cX10_brings 11 = .ok (.aload_n 0, 1) := by decide +kernel
theorem dX10_brings_12 : decode cX10_brings 12 = .ok (.iload_n 2, 1) := by decide +kernel
theorem dX10_brings_13 : decode cX10_brings 13 = .ok (.invokevirtual 86, 3) := by decide +kernel
theorem dX10_brings_16 : decode cX10_brings 16 = .ok (.iadd, 1) := by decide +kernel
theorem dX10_brings_17 : decode cX10_brings 17 = .ok (.istore_n 1, 1) := by decide +kernel
theorem dX10_brings_18 : decode cX10_brings 18 = .ok (.iinc 2 1, 3) := by decide +kernel
theorem dX10_brings_21 : decode cX10_brings 21 = .ok (.goto (-17), 3) := by decide +kernel
theorem dX10_brings_24 : decode cX10_brings 24 = .ok (.iload_n 1, 1) := by decide +kernel
theorem dX10_brings_25 : decode cX10_brings 25 = .ok (.ireturn, 1) := by decide +kernel
theorem dX10_day_0 : decode cX10_day 0 = .ok (.iconst 0, 1) := by decide +kernel
theorem dX10_day_1 : decode cX10_day 1 = .ok (.istore_n 1, 1) := by decide +kernel
theorem dX10_day_2 : decode cX10_day 2 = .ok (.iload_n 1, 1) := by decide +kernel
theorem dX10_day_3 : decode cX10_day 3 = .ok (.bipush 11, 2) := by decide +kernel
theorem dX10_day_5 : decode cX10_day 5 = .ok (.if_icmp .ge 68, 3) := by decide +kernel
theorem dX10_day_8 : decode cX10_day 8 = .ok (.aload_n 0, 1) := by decide +kernel
theorem dX10_day_9 : decode cX10_day 9 = .ok (.getfield 7, 3) := by decide +kernel
theorem dX10_day_12 : decode cX10_day 12 = .ok (.iconst 5, 1) := by decide +kernel
theorem dX10_day_13 : decode cX10_day 13 = .ok (.dup2, 1) := by decide +kernel
theorem dX10_day_14 : decode cX10_day 14 = .ok (.iaload, 1) := by decide +kernel
theorem dX10_day_15 : decode cX10_day 15 = .ok (.aload_n 0, 1) := by decide +kernel
theorem dX10_day_16 : decode cX10_day 16 = .ok (.iload_n 1, 1) := by decide +kernel
theorem dX10_day_17 : decode cX10_day 17 = .ok (.invokevirtual 86, 3) := by decide +kernel
theorem dX10_day_20 : decode cX10_day 20 = .ok (.iadd, 1) := by decide +kernel
theorem dX10_day_21 : decode cX10_day 21 = .ok (.iastore, 1) := by decide +kernel
theorem dX10_day_22 : decode cX10_day 22 = .ok (.iconst 0, 1) := by decide +kernel
theorem dX10_day_23 : decode cX10_day 23 = .ok (.istore_n 2, 1) := by decide +kernel
theorem dX10_day_24 : decode cX10_day 24 = .ok (.iload_n 2, 1) := by decide +kernel
theorem dX10_day_25 : decode cX10_day 25 = .ok (.aload_n 0, 1) := by decide +kernel
theorem dX10_day_26 : decode cX10_day 26 = .ok (.getfield 7, 3) := by decide +kernel
theorem dX10_day_29 : decode cX10_day 29 = .ok (.bipush 6, 2) := by decide +kernel
theorem dX10_day_31 : decode cX10_day 31 = .ok (.iaload, 1) := by decide +kernel
theorem dX10_day_32 : decode cX10_day 32 = .ok (.if_icmp .ge 35, 3) := by decide +kernel
theorem dX10_day_35 : decode cX10_day 35 = .ok (.aload_n 0, 1) := by decide +kernel
theorem dX10_day_36 : decode cX10_day 36 = .ok (.iload_n 2, 1) := by decide +kernel
theorem dX10_day_37 : decode cX10_day 37 = .ok (.iconst 4, 1) := by decide +kernel
theorem dX10_day_38 : decode cX10_day 38 = .ok (.aload_n 0, 1) := by decide +kernel
theorem dX10_day_39 : decode cX10_day 39 = .ok (.iload_n 2, 1) := by decide +kernel
theorem dX10_day_40 : decode cX10_day 40 = .ok (.iconst 4, 1) := by decide +kernel
theorem dX10_day_41 : decode cX10_day 41 = .ok (.invokevirtual 57, 3) := by decide +kernel
theorem dX10_day_44 : decode cX10_day 44 = .ok (.aload_n 0, 1) := by decide +kernel
theorem dX10_day_45 : decode cX10_day 45 = .ok (.getfield 31, 3) := by decide +kernel
theorem dX10_day_48 : decode cX10_day 48 = .ok (.iload_n 2, 1) := by decide +kernel
theorem dX10_day_49 : decode cX10_day 49 = .ok (.iaload, 1) := by decide +kernel
theorem dX10_day_50 : decode cX10_day 50 = .ok (.aload_n 0, 1) := by decide +kernel
theorem dX10_day_51 : decode cX10_day 51 = .ok (.getfield 28, 3) := by decide +kernel
theorem dX10_day_54 : decode cX10_day 54 = .ok (.iload_n 2, 1) := by decide +kernel
theorem dX10_day_55 : decode cX10_day 55 = .ok (.iaload, 1) := by decide +kernel
theorem dX10_day_56 : decode cX10_day 56 = .ok (.imul, 1) := by decide +kernel
theorem dX10_day_57 : decode cX10_day 57 = .ok (.iadd, 1) := by decide +kernel
theorem dX10_day_58 : decode cX10_day 58 = .ok (.invokevirtual 89, 3) := by decide +kernel
theorem dX10_day_61 : decode cX10_day 61 = .ok (.iinc 2 1, 3) := by decide +kernel
theorem dX10_day_64 : decode cX10_day 64 = .ok (.goto (-40), 3) := by decide +kernel
theorem dX10_day_67 : decode cX10_day 67 = .ok (.iinc 1 1, 3) := by decide +kernel
theorem dX10_day_70 : decode cX10_day 70 = .ok (.goto (-68), 3) := by decide +kernel
theorem dX10_day_73 : decode cX10_day 73 = .ok (.iconst 0, 1) := by decide +kernel
theorem dX10_day_74 : decode cX10_day 74 = .ok (.istore_n 1, 1) := by decide +kernel
theorem dX10_day_75 : decode cX10_day 75 = .ok (.iload_n 1, 1) := by decide +kernel
theorem dX10_day_76 : decode cX10_day 76 = .ok (.aload_n 0, 1) := by decide +kernel
theorem dX10_day_77 : decode cX10_day 77 = .ok (.getfield 7, 3) := by decide +kernel
theorem dX10_day_80 : decode cX10_day 80 = .ok (.bipush 6, 2) := by decide +kernel
theorem dX10_day_82 : decode cX10_day 82 = .ok (.iaload, 1) := by decide +kernel
theorem dX10_day_83 : decode cX10_day 83 = .ok (.if_icmp .ge 41, 3) := by decide +kernel
theorem dX10_day_86 : decode cX10_day 86 = .ok (.aload_n 0, 1) := by decide +kernel
theorem dX10_day_87 : decode cX10_day 87 = .ok (.iload_n 1, 1) := by decide +kernel
theorem dX10_day_88 : decode cX10_day 88 = .ok (.iconst 3, 1) := by decide +kernel
theorem dX10_day_89 : decode cX10_day 89 = .ok (.invokevirtual 57, 3) := by decide +kernel
theorem dX10_day_92 : decode cX10_day 92 = .ok (.aload_n 0, 1) := by decide +kernel
theorem dX10_day_93 : decode cX10_day 93 = .ok (.getfield 7, 3) := by decide +kernel
theorem dX10_day_96 : decode cX10_day 96 = .ok (.iconst 2, 1) := by decide +kernel
theorem dX10_day_97 : decode cX10_day 97 = .ok (.iaload, 1) := by decide +kernel
theorem dX10_day_98 : decode cX10_day 98 = .ok (.iadd, 1) := by decide +kernel
theorem dX10_day_99 : decode cX10_day 99 = .ok (.istore_n 2, 1) := by decide +kernel
theorem dX10_day_100 : decode cX10_day 100 = .ok (.aload_n 0, 1) := by decide +kernel
theorem dX10_day_101 : decode cX10_day 101 = .ok (.iload_n 1, 1) := by decide +kernel
theorem dX10_day_102 : decode cX10_day 102 = .ok (.iconst 3, 1) := by decide +kernel
theorem dX10_day_103 : decode cX10_day 103 = .ok (.iload_n 2, 1) := by decide +kernel
theorem dX10_day_104 : decode cX10_day 104 = .ok (.bipush 100, 2) := by decide +kernel
theorem dX10_day_106 : decode cX10_day 106 = .ok (.if_icmp .ge 7, 3) := by decide +kernel
theorem dX10_day_109 : decode cX10_day 109 = .ok (.iload_n 2, 1) := by decide +kernel
theorem dX10_day_110 : decode cX10_day 110 = .ok (.goto 5, 3) := by decide +kernel
theorem dX10_day_113 : decode cX10_day 113 = .ok (.bipush 100, 2) := by decide +kernel
theorem dX10_day_115 : decode cX10_day 115 = .ok (.invokevirtual 89, 3) := by decide +kernel
theorem dX10_day_118 : decode cX10_day 118 = .ok (.iinc 1 1, 3) := by decide +kernel
theorem dX10_day_121 : decode cX10_day 121 = .ok (.goto (-46), 3) := by decide +kernel
theorem dX10_day_124 : decode cX10_day 124 = .ok (.aload_n 0, 1) := by decide +kernel
theorem dX10_day_125 : decode cX10_day 125 = .ok (.getfield 7, 3) := by decide +kernel
theorem dX10_day_128 : decode cX10_day 128 = .ok (.iconst 3, 1) := by decide +kernel
theorem dX10_day_129 : decode cX10_day 129 = .ok (.dup2, 1) := by decide +kernel
theorem dX10_day_130 : decode cX10_day 130 = .ok (.iaload, 1) := by decide +kernel
theorem dX10_day_131 : decode cX10_day 131 = .ok (.iconst 1, 1) := by decide +kernel
theorem dX10_day_132 : decode cX10_day 132 = .ok (.iadd, 1) := by decide +kernel
theorem dX10_day_133 : decode cX10_day 133 = .ok (.iastore, 1) := by decide +kernel
theorem dX10_day_134 : decode cX10_day 134 = .ok (.return_, 1) := by decide +kernel
theorem dX10_puts_0 : decode cX10_puts 0 = .ok (.aload_n 0, 1) := by decide +kernel
theorem dX10_puts_1 : decode cX10_puts 1 = .ok (.getfield 7, 3) := by decide +kernel
theorem dX10_puts_4 : decode cX10_puts 4 = .ok (.bipush 6, 2) := by decide +kernel
theorem dX10_puts_6 : decode cX10_puts 6 = .ok (.iaload, 1) := by decide +kernel
theorem dX10_puts_7 : decode cX10_puts 7 = .ok (.istore 4, 2) := by decide +kernel
theorem dX10_puts_9 : decode cX10_puts 9 = .ok (.aload_n 0, 1) := by decide +kernel
theorem dX10_puts_10 : decode cX10_puts 10 = .ok (.getfield 7, 3) := by decide +kernel
theorem dX10_puts_13 : decode cX10_puts 13 = .ok (.bipush 6, 2) := by decide +kernel
theorem dX10_puts_15 : decode cX10_puts 15 = .ok (.dup2, 1) := by decide +kernel
theorem dX10_puts_16 : decode cX10_puts 16 = .ok (.iaload, 1) := by decide +kernel
theorem dX10_puts_17 : decode cX10_puts 17 = .ok (.iconst 1, 1) := by decide +kernel
theorem dX10_puts_18 : decode cX10_puts 18 = .ok (.iadd, 1) := by decide +kernel
theorem dX10_puts_19 : decode cX10_puts 19 = .ok (.iastore, 1) := by decide +kernel
theorem dX10_puts_20 : decode cX10_puts 20 = .ok (.aload_n 0, 1) := by decide +kernel
theorem dX10_puts_21 : decode cX10_puts 21 = .ok (.iload 4, 2) := by decide +kernel
theorem dX10_puts_23 : decode cX10_puts 23 = .ok (.iconst 0, 1) := by decide +kernel
theorem dX10_puts_24 : decode cX10_puts 24 = .ok (.iload_n 1, 1) := by decide +kernel
theorem dX10_puts_25 : decode cX10_puts 25 = .ok (.invokevirtual 89, 3) := by decide +kernel
theorem dX10_puts_28 : decode cX10_puts 28 = .ok (.aload_n 0, 1) := by decide +kernel
theorem dX10_puts_29 : decode cX10_puts 29 = .ok (.iload 4, 2) := by decide +kernel
theorem dX10_puts_31 : decode cX10_puts 31 = .ok (.iconst 1, 1) := by decide +kernel
theorem dX10_puts_32 : decode cX10_puts 32 = .ok (.iload_n 2, 1) := by decide +kernel
theorem dX10_puts_33 : decode cX10_puts 33 = .ok (.invokevirtual 89, 3) := by decide +kernel
theorem dX10_puts_36 : decode cX10_puts 36 = .ok (.aload_n 0, 1) := by decide +kernel
theorem dX10_puts_37 : decode cX10_puts 37 = .ok (.iload 4, 2) := by decide +kernel
theorem dX10_puts_39 : decode cX10_puts 39 = .ok (.iconst 2, 1) := by decide +kernel
theorem dX10_puts_40 : decode cX10_puts 40 = .ok (.iload_n 3, 1) := by decide +kernel
theorem dX10_puts_41 : decode cX10_puts 41 = .ok (.invokevirtual 89, 3) := by decide +kernel
theorem dX10_puts_44 : decode cX10_puts 44 = .ok (.aload_n 0, 1) := by decide +kernel
theorem dX10_puts_45 : decode cX10_puts 45 = .ok (.iload 4, 2) := by decide +kernel
theorem dX10_puts_47 : decode cX10_puts 47 = .ok (.iconst 3, 1) := by decide +kernel
theorem dX10_puts_48 : decode cX10_puts 48 = .ok (.iconst 0, 1) := by decide +kernel
theorem dX10_puts_49 : decode cX10_puts 49 = .ok (.invokevirtual 89, 3) := by decide +kernel
theorem dX10_puts_52 : decode cX10_puts 52 = .ok (.aload_n 0, 1) := by decide +kernel
theorem dX10_puts_53 : decode cX10_puts 53 = .ok (.iload 4, 2) := by decide +kernel
theorem dX10_puts_55 : decode cX10_puts 55 = .ok (.iconst 4, 1) := by decide +kernel
theorem dX10_puts_56 : decode cX10_puts 56 = .ok (.iconst 0, 1) := by decide +kernel
theorem dX10_puts_57 : decode cX10_puts 57 = .ok (.invokevirtual 89, 3) := by decide +kernel
theorem dX10_puts_60 : decode cX10_puts 60 = .ok (.return_, 1) := by decide +kernel
theorem dX10_takesOut_0 : decode cX10_takesOut 0 = .ok (.aload_n 0, 1) := by decide +kernel
theorem dX10_takesOut_1 : decode cX10_takesOut 1 = .ok (.getfield 7, 3) := by decide +kernel
theorem dX10_takesOut_4 : decode cX10_takesOut 4 = .ok (.bipush 6, 2) := by decide +kernel
theorem dX10_takesOut_6 : decode cX10_takesOut 6 = .ok (.dup2, 1) := by decide +kernel
theorem dX10_takesOut_7 : decode cX10_takesOut 7 = .ok (.iaload, 1) := by decide +kernel
theorem dX10_takesOut_8 : decode cX10_takesOut 8 = .ok (.iconst 1, 1) := by decide +kernel
theorem dX10_takesOut_9 : decode cX10_takesOut 9 = .ok (.isub, 1) := by decide +kernel
theorem dX10_takesOut_10 : decode cX10_takesOut 10 = .ok (.iastore, 1) := by decide +kernel
theorem dX10_takesOut_11 : decode cX10_takesOut 11 = .ok (.bipush 7, 2) := by decide +kernel
theorem dX10_takesOut_13 : decode cX10_takesOut 13 = .ok (.iconst 5, 1) := by decide +kernel
theorem dX10_takesOut_14 : decode cX10_takesOut 14 = .ok (.iload_n 1, 1) := by decide +kernel
theorem dX10_takesOut_15 : decode cX10_takesOut 15 = .ok (.imul, 1) := by decide +kernel
theorem dX10_takesOut_16 : decode cX10_takesOut 16 = .ok (.iadd, 1) := by decide +kernel
theorem dX10_takesOut_17 : decode cX10_takesOut 17 = .ok (.istore_n 2, 1) := by decide +kernel
theorem dX10_takesOut_18 : decode cX10_takesOut 18 = .ok (.iload_n 2, 1) := by decide +kernel
theorem dX10_takesOut_19 : decode cX10_takesOut 19 = .ok (.bipush 7, 2) := by decide +kernel
theorem dX10_takesOut_21 : decode cX10_takesOut 21 = .ok (.iconst 5, 1) := by decide +kernel
theorem dX10_takesOut_22 : decode cX10_takesOut 22 = .ok (.aload_n 0, 1) := by decide +kernel
theorem dX10_takesOut_23 : decode cX10_takesOut 23 = .ok (.getfield 7, 3) := by decide +kernel
theorem dX10_takesOut_26 : decode cX10_takesOut 26 = .ok (.bipush 6, 2) := by decide +kernel
theorem dX10_takesOut_28 : decode cX10_takesOut 28 = .ok (.iaload, 1) := by decide +kernel
theorem dX10_takesOut_29 : decode cX10_takesOut 29 = .ok (.imul, 1) := by decide +kernel
theorem dX10_takesOut_30 : decode cX10_takesOut 30 = .ok (.iadd, 1) := by decide +kernel
theorem dX10_takesOut_31 : decode cX10_takesOut 31 = .ok (.if_icmp .ge 23, 3) := by decide +kernel
theorem dX10_takesOut_34 : decode cX10_takesOut 34 = .ok (.aload_n 0, 1) := by decide +kernel
theorem dX10_takesOut_35 : decode cX10_takesOut 35 = .ok (.getfield 7, 3) := by decide +kernel
theorem dX10_takesOut_38 : decode cX10_takesOut 38 = .ok (.iload_n 2, 1) := by decide +kernel
theorem dX10_takesOut_39 : decode cX10_takesOut 39 = .ok (.aload_n 0, 1) := by decide +kernel
theorem dX10_takesOut_40 : decode cX10_takesOut 40 = .ok (.getfield 7, 3) := by decide +kernel
theorem dX10_takesOut_43 : decode cX10_takesOut 43 = .ok (.iload_n 2, 1) := by decide +kernel
theorem dX10_takesOut_44 : decode cX10_takesOut 44 = .ok (.iconst 5, 1) := by decide +kernel
theorem dX10_takesOut_45 : decode cX10_takesOut 45 = .ok (.iadd, 1) := by decide +kernel
theorem dX10_takesOut_46 : decode cX10_takesOut 46 = .ok (.iaload, 1) := by decide +kernel
theorem dX10_takesOut_47 : decode cX10_takesOut 47 = .ok (.iastore, 1) := by decide +kernel
theorem dX10_takesOut_48 : decode cX10_takesOut 48 = .ok (.iinc 2 1, 3) := by decide +kernel
theorem dX10_takesOut_51 : decode cX10_takesOut 51 = .ok (.goto (-33), 3) := by decide +kernel
theorem dX10_takesOut_54 : decode cX10_takesOut 54 = .ok (.return_, 1) := by decide +kernel
theorem dX10_isSetting_0 : decode cX10_isSetting 0 = .ok (.iload_n 0, 1) := by decide +kernel
theorem dX10_isSetting_1 : decode cX10_isSetting 1 = .ok (.ifCond .ne 15, 3) := by decide +kernel
theorem dX10_isSetting_4 : decode cX10_isSetting 4 = .ok (.iload_n 1, 1) := by decide +kernel
theorem dX10_isSetting_5 : decode cX10_isSetting 5 = .ok (.i2l, 1) := by decide +kernel
theorem dX10_isSetting_6 : decode cX10_isSetting 6 = .ok (.lconst 1, 1) := by decide +kernel
theorem dX10_isSetting_7 : decode cX10_isSetting 7 = .ok (.ldc2_w 93, 3) := by decide +kernel
theorem dX10_isSetting_10 : decode cX10_isSetting 10 = .ok (.invokestatic 51, 3) := by decide +kernel
theorem dX10_isSetting_13 : decode cX10_isSetting 13 = .ok (.goto 42, 3) := by decide +kernel
theorem dX10_isSetting_16 : decode cX10_isSetting 16 = .ok (.iload_n 0, 1) := by decide +kernel
theorem dX10_isSetting_17 : decode cX10_isSetting 17 = .ok (.iconst 1, 1) := by decide +kernel
theorem dX10_isSetting_18 : decode cX10_isSetting 18 = .ok (.if_icmp .ne 15, 3) := by decide +kernel
theorem dX10_isSetting_21 : decode cX10_isSetting 21 = .ok (.iload_n 1, 1) := by decide +kernel
theorem dX10_isSetting_22 : decode cX10_isSetting 22 = .ok (.i2l, 1) := by decide +kernel
theorem dX10_isSetting_23 : decode cX10_isSetting 23 = .ok (.lconst 1, 1) := by decide +kernel
theorem dX10_isSetting_24 : decode cX10_isSetting 24 = .ok (.ldc2_w 95, 3) := by decide +kernel
theorem dX10_isSetting_27 : decode cX10_isSetting 27 = .ok (.invokestatic 51, 3) := by decide +kernel
theorem dX10_isSetting_30 : decode cX10_isSetting 30 = .ok (.goto 25, 3) := by decide +kernel
theorem dX10_isSetting_33 : decode cX10_isSetting 33 = .ok (.iload_n 0, 1) := by decide +kernel
theorem dX10_isSetting_34 : decode cX10_isSetting 34 = .ok (.iconst 2, 1) := by decide +kernel
theorem dX10_isSetting_35 : decode cX10_isSetting 35 = .ok (.if_icmp .ne 19, 3) := by decide +kernel
theorem dX10_isSetting_38 : decode cX10_isSetting 38 = .ok (.iload_n 1, 1) := by decide +kernel
theorem dX10_isSetting_39 : decode cX10_isSetting 39 = .ok (.i2l, 1) := by decide +kernel
theorem dX10_isSetting_40 : decode cX10_isSetting 40 = .ok (.lconst 0, 1) := by decide +kernel
theorem dX10_isSetting_41 : decode cX10_isSetting 41 = .ok (.ldc2_w 97, 3) := by decide +kernel
theorem dX10_isSetting_44 : decode cX10_isSetting 44 = .ok (.invokestatic 51, 3) := by decide +kernel
theorem dX10_isSetting_47 : decode cX10_isSetting 47 = .ok (.ifCond .eq 7, 3) := by decide +kernel
theorem dX10_isSetting_50 : decode cX10_isSetting 50 = .ok (.iconst 1, 1) := by decide +kernel
theorem dX10_isSetting_51 : decode cX10_isSetting 51 = .ok (.goto 4, 3) := by decide +kernel
theorem dX10_isSetting_54 : decode cX10_isSetting 54 = .ok (.iconst 0, 1) := by decide +kernel
theorem dX10_isSetting_55 : decode cX10_isSetting 55 = .ok (.ireturn, 1) := by decide +kernel
theorem dX10_doMirror_0 : decode cX10_doMirror 0 = .ok (.iload_n 1, 1) := by decide +kernel
theorem dX10_doMirror_1 : decode cX10_doMirror 1 = .ok (.iload_n 2, 1) := by decide +kernel
theorem dX10_doMirror_2 : decode cX10_doMirror 2 = .ok (.invokestatic 99, 3) := by decide +kernel
theorem dX10_doMirror_5 : decode cX10_doMirror 5 = .ok (.ifCond .eq 15, 3) := by decide +kernel
theorem dX10_doMirror_8 : decode cX10_doMirror 8 = .ok (.iload_n 3, 1) := by decide +kernel
theorem dX10_doMirror_9 : decode cX10_doMirror 9 = .ok (.i2l, 1) := by decide +kernel
theorem dX10_doMirror_10 : decode cX10_doMirror 10 = .ok (.lconst 0, 1) := by decide +kernel
theorem dX10_doMirror_11 : decode cX10_doMirror 11 = .ok (.ldc2_w 103, 3) := by decide +kernel
theorem dX10_doMirror_14 : decode cX10_doMirror 14 = .ok (.invokestatic 51, 3) := by decide +kernel
theorem dX10_doMirror_17 : decode cX10_doMirror 17 = .ok (.ifCond .ne 6, 3) := by decide +kernel
theorem dX10_doMirror_20 : decode cX10_doMirror 20 = .ok (.bipush (-2), 2) := by decide +kernel
theorem dX10_doMirror_22 : decode cX10_doMirror 22 = .ok (.ireturn, 1) := by decide +kernel
theorem dX10_doMirror_23 : decode cX10_doMirror 23 = .ok (.aload_n 0, 1) := by decide +kernel
theorem dX10_doMirror_24 : decode cX10_doMirror 24 = .ok (.iload_n 1, 1) := by decide +kernel
theorem dX10_doMirror_25 : decode cX10_doMirror 25 = .ok (.iload_n 2, 1) := by decide +kernel
theorem dX10_doMirror_26 : decode cX10_doMirror 26 = .ok (.invokevirtual 64, 3) := by decide +kernel
theorem dX10_doMirror_29 : decode cX10_doMirror 29 = .ok (.bipush (-6), 2) := by decide +kernel
theorem dX10_doMirror_31 : decode cX10_doMirror 31 = .ok (.if_icmp .eq 6, 3) := by decide +kernel
theorem dX10_doMirror_34 : decode cX10_doMirror 34 = .ok (.bipush (-5), 2) := by decide +kernel
theorem dX10_doMirror_36 : decode cX10_doMirror 36 = .ok (.ireturn, 1) := by decide +kernel
theorem dX10_doMirror_37 : decode cX10_doMirror 37 = .ok (.aload_n 0, 1) := by decide +kernel
theorem dX10_doMirror_38 : decode cX10_doMirror 38 = .ok (.getfield 7, 3) := by decide +kernel
theorem dX10_doMirror_41 : decode cX10_doMirror 41 = .ok (.bipush 6, 2) := by decide +kernel
theorem dX10_doMirror_43 : decode cX10_doMirror 43 = .ok (.iaload, 1) := by decide +kernel
theorem dX10_doMirror_44 : decode cX10_doMirror 44 = .ok (.bipush 24, 2) := by decide +kernel
theorem dX10_doMirror_46 : decode cX10_doMirror 46 = .ok (.if_icmp .ne 6, 3) := by decide +kernel
theorem dX10_doMirror_49 : decode cX10_doMirror 49 = .ok (.bipush (-4), 2) := by decide +kernel
theorem dX10_doMirror_51 : decode cX10_doMirror 51 = .ok (.ireturn, 1) := by decide +kernel
theorem dX10_doMirror_52 : decode cX10_doMirror 52 = .ok (.aload_n 0, 1) := by decide +kernel
theorem dX10_doMirror_53 : decode cX10_doMirror 53 = .ok (.iload_n 1, 1) := by decide +kernel
theorem dX10_doMirror_54 : decode cX10_doMirror 54 = .ok (.iload_n 2, 1) := by decide +kernel
theorem dX10_doMirror_55 : decode cX10_doMirror 55 = .ok (.iload_n 3, 1) := by decide +kernel
theorem dX10_doMirror_56 : decode cX10_doMirror 56 = .ok (.invokevirtual 105, 3) := by decide +kernel
theorem dX10_doMirror_59 : decode cX10_doMirror 59 = .ok (.aload_n 0, 1) := by decide +kernel
theorem dX10_doMirror_60 : decode cX10_doMirror 60 = .ok (.getfield 7, 3) := by decide +kernel
theorem dX10_doMirror_63 : decode cX10_doMirror 63 = .ok (.bipush 6, 2) := by decide +kernel
theorem dX10_doMirror_65 : decode cX10_doMirror 65 = .ok (.iaload, 1) := by decide +kernel
theorem dX10_doMirror_66 : decode cX10_doMirror 66 = .ok (.iconst 1, 1) := by decide +kernel
theorem dX10_doMirror_67 : decode cX10_doMirror 67 = .ok (.isub, 1) := by decide +kernel
theorem dX10_doMirror_68 : decode cX10_doMirror 68 = .ok (.ireturn, 1) := by decide +kernel
theorem dX10_doTake_0 : decode cX10_doTake 0 = .ok (.aload_n 0, 1) := by decide +kernel
theorem dX10_doTake_1 : decode cX10_doTake 1 = .ok (.iload_n 1, 1) := by decide +kernel
theorem dX10_doTake_2 : decode cX10_doTake 2 = .ok (.invokevirtual 108, 3) := by decide +kernel
theorem dX10_doTake_5 : decode cX10_doTake 5 = .ok (.ifCond .ne 5, 3) := by decide +kernel
theorem dX10_doTake_8 : decode cX10_doTake 8 = .ok (.iconst (-1), 1) := by decide +kernel
theorem dX10_doTake_9 : decode cX10_doTake 9 = .ok (.ireturn, 1) := by decide +kernel
theorem dX10_doTake_10 : decode cX10_doTake 10 = .ok (.aload_n 0, 1) := by decide +kernel
theorem dX10_doTake_11 : decode cX10_doTake 11 = .ok (.iload_n 1, 1) := by decide +kernel
theorem dX10_doTake_12 : decode cX10_doTake 12 = .ok (.invokevirtual 111, 3) := by decide +kernel
theorem dX10_doTake_15 : decode cX10_doTake 15 = .ok (.aload_n 0, 1) := by decide +kernel
theorem dX10_doTake_16 : decode cX10_doTake 16 = .ok (.getfield 7, 3) := by decide +kernel
theorem dX10_doTake_19 : decode cX10_doTake 19 = .ok (.bipush 6, 2) := by decide +kernel
theorem dX10_doTake_21 : decode cX10_doTake 21 = .ok (.iaload, 1) := by decide +kernel
theorem dX10_doTake_22 : decode cX10_doTake 22 = .ok (.ireturn, 1) := by decide +kernel
theorem dX10_doAim_0 : decode cX10_doAim 0 = .ok (.aload_n 0, 1) := by decide +kernel
theorem dX10_doAim_1 : decode cX10_doAim 1 = .ok (.iload_n 1, 1) := by decide +kernel
theorem dX10_doAim_2 : decode cX10_doAim 2 = .ok (.invokevirtual 108, 3) := by decide +kernel
theorem dX10_doAim_5 : decode cX10_doAim 5 = .ok (.ifCond .ne 5, 3) := by decide +kernel
theorem dX10_doAim_8 : decode cX10_doAim 8 = .ok (.iconst (-1), 1) := by decide +kernel
theorem dX10_doAim_9 : decode cX10_doAim 9 = .ok (.ireturn, 1) := by decide +kernel
theorem dX10_doAim_10 : decode cX10_doAim 10 = .ok (.iload_n 2, 1) := by decide +kernel
theorem dX10_doAim_11 : decode cX10_doAim 11 = .ok (.i2l, 1) := by decide +kernel
theorem dX10_doAim_12 : decode cX10_doAim 12 = .ok (.lconst 0, 1) := by decide +kernel
theorem dX10_doAim_13 : decode cX10_doAim 13 = .ok (.ldc2_w 103, 3) := by decide +kernel
theorem dX10_doAim_16 : decode cX10_doAim 16 = .ok (.invokestatic 51, 3) := by decide +kernel
theorem dX10_doAim_19 : decode cX10_doAim 19 = .ok (.ifCond .ne 6, 3) := by decide +kernel
theorem dX10_doAim_22 : decode cX10_doAim 22 = .ok (.bipush (-2), 2) := by decide +kernel
theorem dX10_doAim_24 : decode cX10_doAim 24 = .ok (.ireturn, 1) := by decide +kernel
theorem dX10_doAim_25 : decode cX10_doAim 25 = .ok (.aload_n 0, 1) := by decide +kernel
theorem dX10_doAim_26 : decode cX10_doAim 26 = .ok (.iload_n 1, 1) := by decide +kernel
theorem dX10_doAim_27 : decode cX10_doAim 27 = .ok (.iconst 2, 1) := by decide +kernel
theorem dX10_doAim_28 : decode cX10_doAim 28 = .ok (.invokevirtual 57, 3) := by decide +kernel
theorem dX10_doAim_31 : decode cX10_doAim 31 = .ok (.istore_n 3, 1) := by decide +kernel
theorem dX10_doAim_32 : decode cX10_doAim 32 = .ok (.aload_n 0, 1) := by decide +kernel
theorem dX10_doAim_33 : decode cX10_doAim 33 = .ok (.iload_n 1, 1) := by decide +kernel
theorem dX10_doAim_34 : decode cX10_doAim 34 = .ok (.iconst 2, 1) := by decide +kernel
theorem dX10_doAim_35 : decode cX10_doAim 35 = .ok (.iload_n 2, 1) := by decide +kernel
theorem dX10_doAim_36 : decode cX10_doAim 36 = .ok (.invokevirtual 89, 3) := by decide +kernel
theorem dX10_doAim_39 : decode cX10_doAim 39 = .ok (.iload_n 3, 1) := by decide +kernel
theorem dX10_doAim_40 : decode cX10_doAim 40 = .ok (.ireturn, 1) := by decide +kernel
theorem dX10_doWash_0 : decode cX10_doWash 0 = .ok (.aload_n 0, 1) := by decide +kernel
theorem dX10_doWash_1 : decode cX10_doWash 1 = .ok (.iload_n 1, 1) := by decide +kernel
theorem dX10_doWash_2 : decode cX10_doWash 2 = .ok (.invokevirtual 108, 3) := by decide +kernel
theorem dX10_doWash_5 : decode cX10_doWash 5 = .ok (.ifCond .ne 5, 3) := by decide +kernel
theorem dX10_doWash_8 : decode cX10_doWash 8 = .ok (.iconst (-1), 1) := by decide +kernel
theorem dX10_doWash_9 : decode cX10_doWash 9 = .ok (.ireturn, 1) := by decide +kernel
theorem dX10_doWash_10 : decode cX10_doWash 10 = .ok (.aload_n 0, 1) := by decide +kernel
theorem dX10_doWash_11 : decode cX10_doWash 11 = .ok (.iload_n 1, 1) := by decide +kernel
theorem dX10_doWash_12 : decode cX10_doWash 12 = .ok (.iconst 3, 1) := by decide +kernel
theorem dX10_doWash_13 : decode cX10_doWash 13 = .ok (.invokevirtual 57, 3) := by decide +kernel
theorem dX10_doWash_16 : decode cX10_doWash 16 = .ok (.istore_n 2, 1) := by decide +kernel
theorem dX10_doWash_17 : decode cX10_doWash 17 = .ok (.aload_n 0, 1) := by decide +kernel
theorem dX10_doWash_18 : decode cX10_doWash 18 = .ok (.iload_n 1, 1) := by decide +kernel
theorem dX10_doWash_19 : decode cX10_doWash 19 = .ok (.iconst 3, 1) := by decide +kernel
theorem dX10_doWash_20 : decode cX10_doWash 20 = .ok (.iconst 0, 1) := by decide +kernel
theorem dX10_doWash_21 : decode cX10_doWash 21 = .ok (.invokevirtual 89, 3) := by decide +kernel
theorem dX10_doWash_24 : decode cX10_doWash 24 = .ok (.iload_n 2, 1) := by decide +kernel
theorem dX10_doWash_25 : decode cX10_doWash 25 = .ok (.ireturn, 1) := by decide +kernel
theorem dX10_doWind_0 : decode cX10_doWind 0 = .ok (.iload_n 1, 1) := by decide +kernel
theorem dX10_doWind_1 : decode cX10_doWind 1 = .ok (.i2l, 1) := by decide +kernel
theorem dX10_doWind_2 : decode cX10_doWind 2 = .ok (.lconst 0, 1) := by decide +kernel
theorem dX10_doWind_3 : decode cX10_doWind 3 = .ok (.ldc2_w 95, 3) := by decide +kernel
theorem dX10_doWind_6 : decode cX10_doWind 6 = .ok (.invokestatic 51, 3) := by decide +kernel
theorem dX10_doWind_9 : decode cX10_doWind 9 = .ok (.ifCond .ne 6, 3) := by decide +kernel
theorem dX10_doWind_12 : decode cX10_doWind 12 = .ok (.bipush (-2), 2) := by decide +kernel
theorem dX10_doWind_14 : decode cX10_doWind 14 = .ok (.ireturn, 1) := by decide +kernel
theorem dX10_doWind_15 : decode cX10_doWind 15 = .ok (.aload_n 0, 1) := by decide +kernel
theorem dX10_doWind_16 : decode cX10_doWind 16 = .ok (.getfield 7, 3) := by decide +kernel
theorem dX10_doWind_19 : decode cX10_doWind 19 = .ok (.iconst 4, 1) := by decide +kernel
theorem dX10_doWind_20 : decode cX10_doWind 20 = .ok (.iload_n 1, 1) := by decide +kernel
theorem dX10_doWind_21 : decode cX10_doWind 21 = .ok (.iastore, 1) := by decide +kernel
theorem dX10_doWind_22 : decode cX10_doWind 22 = .ok (.aload_n 0, 1) := by decide +kernel
theorem dX10_doWind_23 : decode cX10_doWind 23 = .ok (.invokevirtual 69, 3) := by decide +kernel
theorem dX10_doWind_26 : decode cX10_doWind 26 = .ok (.ifCond .eq 7, 3) := by decide +kernel
theorem dX10_doWind_29 : decode cX10_doWind 29 = .ok (.iconst 1, 1) := by decide +kernel
theorem dX10_doWind_30 : decode cX10_doWind 30 = .ok (.goto 4, 3) := by decide +kernel
theorem dX10_doWind_33 : decode cX10_doWind 33 = .ok (.iconst 0, 1) := by decide +kernel
theorem dX10_doWind_34 : decode cX10_doWind 34 = .ok (.ireturn, 1) := by decide +kernel
theorem dX10_doPass_0 : decode cX10_doPass 0 = .ok (.iload_n 1, 1) := by decide +kernel
theorem dX10_doPass_1 : decode cX10_doPass 1 = .ok (.i2l, 1) := by decide +kernel
theorem dX10_doPass_2 : decode cX10_doPass 2 = .ok (.lconst 1, 1) := by decide +kernel
theorem dX10_doPass_3 : decode cX10_doPass 3 = .ok (.ldc2_w 95, 3) := by decide +kernel
theorem dX10_doPass_6 : decode cX10_doPass 6 = .ok (.invokestatic 51, 3) := by decide +kernel
theorem dX10_doPass_9 : decode cX10_doPass 9 = .ok (.ifCond .ne 6, 3) := by decide +kernel
theorem dX10_doPass_12 : decode cX10_doPass 12 = .ok (.bipush (-2), 2) := by decide +kernel
theorem dX10_doPass_14 : decode cX10_doPass 14 = .ok (.ireturn, 1) := by decide +kernel
theorem dX10_doPass_15 : decode cX10_doPass 15 = .ok (.aload_n 0, 1) := by decide +kernel
theorem dX10_doPass_16 : decode cX10_doPass 16 = .ok (.getfield 7, 3) := by decide +kernel
theorem dX10_doPass_19 : decode cX10_doPass 19 = .ok (.iconst 3, 1) := by decide +kernel
theorem dX10_doPass_20 : decode cX10_doPass 20 = .ok (.iaload, 1) := by decide +kernel
theorem dX10_doPass_21 : decode cX10_doPass 21 = .ok (.iload_n 1, 1) := by decide +kernel
theorem dX10_doPass_22 : decode cX10_doPass 22 = .ok (.iadd, 1) := by decide +kernel
theorem dX10_doPass_23 : decode cX10_doPass 23 = .ok (.sipush 999, 3) := by decide +kernel
theorem dX10_doPass_26 : decode cX10_doPass 26 = .ok (.if_icmp .le 6, 3) := by decide +kernel
theorem dX10_doPass_29 : decode cX10_doPass 29 = .ok (.bipush (-5), 2) := by decide +kernel
theorem dX10_doPass_31 : decode cX10_doPass 31 = .ok (.ireturn, 1) := by decide +kernel
theorem dX10_doPass_32 : decode cX10_doPass 32 = .ok (.aload_n 0, 1) := by decide +kernel
theorem dX10_doPass_33 : decode cX10_doPass 33 = .ok (.getfield 7, 3) := by decide +kernel
theorem dX10_doPass_36 : decode cX10_doPass 36 = .ok (.iconst 5, 1) := by decide +kernel
theorem dX10_doPass_37 : decode cX10_doPass 37 = .ok (.iaload, 1) := by decide +kernel
theorem dX10_doPass_38 : decode cX10_doPass 38 = .ok (.istore_n 2, 1) := by decide +kernel
theorem dX10_doPass_39 : decode cX10_doPass 39 = .ok (.iconst 0, 1) := by decide +kernel
theorem dX10_doPass_40 : decode cX10_doPass 40 = .ok (.istore_n 3, 1) := by decide +kernel
theorem dX10_doPass_41 : decode cX10_doPass 41 = .ok (.iload_n 3, 1) := by decide +kernel
theorem dX10_doPass_42 : decode cX10_doPass 42 = .ok (.iload_n 1, 1) := by decide +kernel
theorem dX10_doPass_43 : decode cX10_doPass 43 = .ok (.if_icmp .ge 13, 3) := by decide +kernel
theorem dX10_doPass_46 : decode cX10_doPass 46 = .ok (.aload_n 0, 1) := by decide +kernel
theorem dX10_doPass_47 : decode cX10_doPass 47 = .ok (.invokevirtual 115, 3) := by decide +kernel
theorem dX10_doPass_50 : decode cX10_doPass 50 = .ok (.iinc 3 1, 3) := by decide +kernel
theorem dX10_doPass_53 : decode cX10_doPass 53 = .ok (.goto (-12), 3) := by decide +kernel
theorem dX10_doPass_56 : decode cX10_doPass 56 = .ok (.aload_n 0, 1) := by decide +kernel
theorem dX10_doPass_57 : decode cX10_doPass 57 = .ok (.getfield 7, 3) := by decide +kernel
theorem dX10_doPass_60 : decode cX10_doPass 60 = .ok (.iconst 5, 1) := by decide +kernel
theorem dX10_doPass_61 : decode cX10_doPass 61 = .ok (.iaload, 1) := by decide +kernel
theorem dX10_doPass_62 : decode cX10_doPass 62 = .ok (.iload_n 2, 1) := by decide +kernel
theorem dX10_doPass_63 : decode cX10_doPass 63 = .ok (.isub, 1) := by decide +kernel
theorem dX10_doPass_64 : decode cX10_doPass 64 = .ok (.ireturn, 1) := by decide +kernel
theorem dX10_ends_0 : decode cX10_ends 0 = .ok (.iload_n 1, 1) := by decide +kernel
theorem dX10_ends_1 : decode cX10_ends 1 = .ok (.ifCond .ge 7, 3) := by decide +kernel
theorem dX10_ends_4 : decode cX10_ends 4 = .ok (.iload_n 1, 1) := by decide +kernel
theorem dX10_ends_5 : decode cX10_ends 5 = .ok (.goto 8, 3) := by decide +kernel
theorem dX10_ends_8 : decode cX10_ends 8 = .ok (.aload_n 0, 1) := by decide +kernel
theorem dX10_ends_9 : decode cX10_ends 9 = .ok (.iload_n 1, 1) := by decide +kernel
theorem dX10_ends_10 : decode cX10_ends 10 = .ok (.invokevirtual 118, 3) := by decide +kernel
theorem dX10_ends_13 : decode cX10_ends 13 = .ok (.ireturn, 1) := by decide +kernel
theorem dX10_set_0 : decode cX10_set 0 = .ok (.iload_n 1, 1) := by decide +kernel
theorem dX10_set_1 : decode cX10_set 1 = .ok (.iload_n 2, 1) := by decide +kernel
theorem dX10_set_2 : decode cX10_set 2 = .ok (.invokestatic 121, 3) := by decide +kernel
theorem dX10_set_5 : decode cX10_set 5 = .ok (.ifCond .ne 6, 3) := by decide +kernel
theorem dX10_set_8 : decode cX10_set 8 = .ok (.bipush (-2), 2) := by decide +kernel
theorem dX10_set_10 : decode cX10_set 10 = .ok (.ireturn, 1) := by decide +kernel
theorem dX10_set_11 : decode cX10_set 11 = .ok (.aload_n 0, 1) := by decide +kernel
theorem dX10_set_12 : decode cX10_set 12 = .ok (.getfield 7, 3) := by decide +kernel
theorem dX10_set_15 : decode cX10_set 15 = .ok (.aload_n 0, 1) := by decide +kernel
theorem dX10_set_16 : decode cX10_set 16 = .ok (.getfield 13, 3) := by decide +kernel
theorem dX10_set_19 : decode cX10_set 19 = .ok (.invokestatic 124, 3) := by decide +kernel
theorem dX10_set_22 : decode cX10_set 22 = .ok (.aload_n 0, 1) := by decide +kernel
theorem dX10_set_23 : decode cX10_set 23 = .ok (.getfield 7, 3) := by decide +kernel
theorem dX10_set_26 : decode cX10_set 26 = .ok (.iload_n 1, 1) := by decide +kernel
theorem dX10_set_27 : decode cX10_set 27 = .ok (.iload_n 2, 1) := by decide +kernel
theorem dX10_set_28 : decode cX10_set 28 = .ok (.iastore, 1) := by decide +kernel
theorem dX10_set_29 : decode cX10_set 29 = .ok (.aload_n 0, 1) := by decide +kernel
theorem dX10_set_30 : decode cX10_set 30 = .ok (.aload_n 0, 1) := by decide +kernel
theorem dX10_set_31 : decode cX10_set 31 = .ok (.getfield 13, 3) := by decide +kernel
theorem dX10_set_34 : decode cX10_set 34 = .ok (.iload_n 1, 1) := by decide +kernel
theorem dX10_set_35 : decode cX10_set 35 = .ok (.iaload, 1) := by decide +kernel
theorem dX10_set_36 : decode cX10_set 36 = .ok (.invokevirtual 118, 3) := by decide +kernel
theorem dX10_set_39 : decode cX10_set 39 = .ok (.ireturn, 1) := by decide +kernel
theorem dX10_mirror_0 : decode cX10_mirror 0 = .ok (.aload_n 0, 1) := by decide +kernel
theorem dX10_mirror_1 : decode cX10_mirror 1 = .ok (.getfield 7, 3) := by decide +kernel
theorem dX10_mirror_4 : decode cX10_mirror 4 = .ok (.aload_n 0, 1) := by decide +kernel
theorem dX10_mirror_5 : decode cX10_mirror 5 = .ok (.getfield 13, 3) := by decide +kernel
theorem dX10_mirror_8 : decode cX10_mirror 8 = .ok (.invokestatic 124, 3) := by decide +kernel
theorem dX10_mirror_11 : decode cX10_mirror 11 = .ok (.aload_n 0, 1) := by decide +kernel
theorem dX10_mirror_12 : decode cX10_mirror 12 = .ok (.aload_n 0, 1) := by decide +kernel
theorem dX10_mirror_13 : decode cX10_mirror 13 = .ok (.iload_n 1, 1) := by decide +kernel
theorem dX10_mirror_14 : decode cX10_mirror 14 = .ok (.iload_n 2, 1) := by decide +kernel
theorem dX10_mirror_15 : decode cX10_mirror 15 = .ok (.iload_n 3, 1) := by decide +kernel
theorem dX10_mirror_16 : decode cX10_mirror 16 = .ok (.invokevirtual 128, 3) := by decide +kernel
theorem dX10_mirror_19 : decode cX10_mirror 19 = .ok (.invokevirtual 132, 3) := by decide +kernel
theorem dX10_mirror_22 : decode cX10_mirror 22 = .ok (.ireturn, 1) := by decide +kernel
theorem dX10_take_0 : decode cX10_take 0 = .ok (.aload_n 0, 1) := by decide +kernel
theorem dX10_take_1 : decode cX10_take 1 = .ok (.getfield 7, 3) := by decide +kernel
theorem dX10_take_4 : decode cX10_take 4 = .ok (.aload_n 0, 1) := by decide +kernel
theorem dX10_take_5 : decode cX10_take 5 = .ok (.getfield 13, 3) := by decide +kernel
theorem dX10_take_8 : decode cX10_take 8 = .ok (.invokestatic 124, 3) := by decide +kernel
theorem dX10_take_11 : decode cX10_take 11 = .ok (.aload_n 0, 1) := by decide +kernel
theorem dX10_take_12 : decode cX10_take 12 = .ok (.aload_n 0, 1) := by decide +kernel
theorem dX10_take_13 : decode cX10_take 13 = .ok (.iload_n 1, 1) := by decide +kernel
theorem dX10_take_14 : decode cX10_take 14 = .ok (.invokevirtual 135, 3) := by decide +kernel
theorem dX10_take_17 : decode cX10_take 17 = .ok (.invokevirtual 132, 3) := by decide +kernel
theorem dX10_take_20 : decode cX10_take 20 = .ok (.ireturn, 1) := by decide +kernel
theorem dX10_aim_0 : decode cX10_aim 0 = .ok (.aload_n 0, 1) := by decide +kernel
theorem dX10_aim_1 : decode cX10_aim 1 = .ok (.getfield 7, 3) := by decide +kernel
theorem dX10_aim_4 : decode cX10_aim 4 = .ok (.aload_n 0, 1) := by decide +kernel
theorem dX10_aim_5 : decode cX10_aim 5 = .ok (.getfield 13, 3) := by decide +kernel
theorem dX10_aim_8 : decode cX10_aim 8 = .ok (.invokestatic 124, 3) := by decide +kernel
theorem dX10_aim_11 : decode cX10_aim 11 = .ok (.aload_n 0, 1) := by decide +kernel
theorem dX10_aim_12 : decode cX10_aim 12 = .ok (.aload_n 0, 1) := by decide +kernel
theorem dX10_aim_13 : decode cX10_aim 13 = .ok (.iload_n 1, 1) := by decide +kernel
theorem dX10_aim_14 : decode cX10_aim 14 = .ok (.iload_n 2, 1) := by decide +kernel
theorem dX10_aim_15 : decode cX10_aim 15 = .ok (.invokevirtual 138, 3) := by decide +kernel
theorem dX10_aim_18 : decode cX10_aim 18 = .ok (.invokevirtual 132, 3) := by decide +kernel
theorem dX10_aim_21 : decode cX10_aim 21 = .ok (.ireturn, 1) := by decide +kernel
theorem dX10_wash_0 : decode cX10_wash 0 = .ok (.aload_n 0, 1) := by decide +kernel
theorem dX10_wash_1 : decode cX10_wash 1 = .ok (.getfield 7, 3) := by decide +kernel
theorem dX10_wash_4 : decode cX10_wash 4 = .ok (.aload_n 0, 1) := by decide +kernel
theorem dX10_wash_5 : decode cX10_wash 5 = .ok (.getfield 13, 3) := by decide +kernel
theorem dX10_wash_8 : decode cX10_wash 8 = .ok (.invokestatic 124, 3) := by decide +kernel
theorem dX10_wash_11 : decode cX10_wash 11 = .ok (.aload_n 0, 1) := by decide +kernel
theorem dX10_wash_12 : decode cX10_wash 12 = .ok (.aload_n 0, 1) := by decide +kernel
theorem dX10_wash_13 : decode cX10_wash 13 = .ok (.iload_n 1, 1) := by decide +kernel
theorem dX10_wash_14 : decode cX10_wash 14 = .ok (.invokevirtual 141, 3) := by decide +kernel
theorem dX10_wash_17 : decode cX10_wash 17 = .ok (.invokevirtual 132, 3) := by decide +kernel
theorem dX10_wash_20 : decode cX10_wash 20 = .ok (.ireturn, 1) := by decide +kernel
theorem dX10_wind_0 : decode cX10_wind 0 = .ok (.aload_n 0, 1) := by decide +kernel
theorem dX10_wind_1 : decode cX10_wind 1 = .ok (.getfield 7, 3) := by decide +kernel
theorem dX10_wind_4 : decode cX10_wind 4 = .ok (.aload_n 0, 1) := by decide +kernel
theorem dX10_wind_5 : decode cX10_wind 5 = .ok (.getfield 13, 3) := by decide +kernel
theorem dX10_wind_8 : decode cX10_wind 8 = .ok (.invokestatic 124, 3) := by decide +kernel
theorem dX10_wind_11 : decode cX10_wind 11 = .ok (.aload_n 0, 1) := by decide +kernel
theorem dX10_wind_12 : decode cX10_wind 12 = .ok (.aload_n 0, 1) := by decide +kernel
theorem dX10_wind_13 : decode cX10_wind 13 = .ok (.iload_n 1, 1) := by decide +kernel
theorem dX10_wind_14 : decode cX10_wind 14 = .ok (.invokevirtual 144, 3) := by decide +kernel
theorem dX10_wind_17 : decode cX10_wind 17 = .ok (.invokevirtual 132, 3) := by decide +kernel
theorem dX10_wind_20 : decode cX10_wind 20 = .ok (.ireturn, 1) := by decide +kernel
theorem dX10_pass_0 : decode cX10_pass 0 = .ok (.aload_n 0, 1) := by decide +kernel
theorem dX10_pass_1 : decode cX10_pass 1 = .ok (.getfield 7, 3) := by decide +kernel
theorem dX10_pass_4 : decode cX10_pass 4 = .ok (.aload_n 0, 1) := by decide +kernel
theorem dX10_pass_5 : decode cX10_pass 5 = .ok (.getfield 13, 3) := by decide +kernel
theorem dX10_pass_8 : decode cX10_pass 8 = .ok (.invokestatic 124, 3) := by decide +kernel
theorem dX10_pass_11 : decode cX10_pass 11 = .ok (.aload_n 0, 1) := by decide +kernel
theorem dX10_pass_12 : decode cX10_pass 12 = .ok (.aload_n 0, 1) := by decide +kernel
theorem dX10_pass_13 : decode cX10_pass 13 = .ok (.iload_n 1, 1) := by decide +kernel
theorem dX10_pass_14 : decode cX10_pass 14 = .ok (.invokevirtual 147, 3) := by decide +kernel
theorem dX10_pass_17 : decode cX10_pass 17 = .ok (.invokevirtual 132, 3) := by decide +kernel
theorem dX10_pass_20 : decode cX10_pass 20 = .ok (.ireturn, 1) := by decide +kernel
theorem dX10_of_0 : decode cX10_of 0 = .ok (.aload_n 0, 1) := by decide +kernel
theorem dX10_of_1 : decode cX10_of 1 = .ok (.iload_n 1, 1) := by decide +kernel
theorem dX10_of_2 : decode cX10_of 2 = .ok (.invokevirtual 108, 3) := by decide +kernel
theorem dX10_of_5 : decode cX10_of 5 = .ok (.ifCond .ne 5, 3) := by decide +kernel
theorem dX10_of_8 : decode cX10_of 8 = .ok (.iconst (-1), 1) := by decide +kernel
theorem dX10_of_9 : decode cX10_of 9 = .ok (.ireturn, 1) := by decide +kernel
theorem dX10_of_10 : decode cX10_of 10 = .ok (.iload_n 2, 1) := by decide +kernel
theorem dX10_of_11 : decode cX10_of 11 = .ok (.i2l, 1) := by decide +kernel
theorem dX10_of_12 : decode cX10_of 12 = .ok (.lconst 0, 1) := by decide +kernel
theorem dX10_of_13 : decode cX10_of 13 = .ok (.ldc2_w 103, 3) := by decide +kernel
theorem dX10_of_16 : decode cX10_of 16 = .ok (.invokestatic 51, 3) := by decide +kernel
theorem dX10_of_19 : decode cX10_of 19 = .ok (.ifCond .eq 12, 3) := by decide +kernel
theorem dX10_of_22 : decode cX10_of 22 = .ok (.aload_n 0, 1) := by decide +kernel
theorem dX10_of_23 : decode cX10_of 23 = .ok (.iload_n 1, 1) := by decide +kernel
theorem dX10_of_24 : decode cX10_of 24 = .ok (.iload_n 2, 1) := by decide +kernel
theorem dX10_of_25 : decode cX10_of 25 = .ok (.invokevirtual 57, 3) := by decide +kernel
theorem dX10_of_28 : decode cX10_of 28 = .ok (.goto 40, 3) := by decide +kernel
theorem dX10_of_31 : decode cX10_of 31 = .ok (.iload_n 2, 1) := by decide +kernel
theorem dX10_of_32 : decode cX10_of 32 = .ok (.iconst 4, 1) := by decide +kernel
theorem dX10_of_33 : decode cX10_of 33 = .ok (.if_icmp .ne 19, 3) := by decide +kernel
theorem dX10_of_36 : decode cX10_of 36 = .ok (.aload_n 0, 1) := by decide +kernel
theorem dX10_of_37 : decode cX10_of 37 = .ok (.iload_n 1, 1) := by decide +kernel
theorem dX10_of_38 : decode cX10_of 38 = .ok (.invokevirtual 76, 3) := by decide +kernel
theorem dX10_of_41 : decode cX10_of 41 = .ok (.ifCond .eq 7, 3) := by decide +kernel
theorem dX10_of_44 : decode cX10_of 44 = .ok (.iconst 1, 1) := by decide +kernel
theorem dX10_of_45 : decode cX10_of 45 = .ok (.goto 23, 3) := by decide +kernel
theorem dX10_of_48 : decode cX10_of 48 = .ok (.iconst 0, 1) := by decide +kernel
theorem dX10_of_49 : decode cX10_of 49 = .ok (.goto 19, 3) := by decide +kernel
theorem dX10_of_52 : decode cX10_of 52 = .ok (.iload_n 2, 1) := by decide +kernel
theorem dX10_of_53 : decode cX10_of 53 = .ok (.iconst 5, 1) := by decide +kernel
theorem dX10_of_54 : decode cX10_of 54 = .ok (.if_icmp .ne 12, 3) := by decide +kernel
theorem dX10_of_57 : decode cX10_of 57 = .ok (.aload_n 0, 1) := by decide +kernel
theorem dX10_of_58 : decode cX10_of 58 = .ok (.iload_n 1, 1) := by decide +kernel
theorem dX10_of_59 : decode cX10_of 59 = .ok (.iconst 4, 1) := by decide +kernel
theorem dX10_of_60 : decode cX10_of 60 = .ok (.invokevirtual 57, 3) := by decide +kernel
theorem dX10_of_63 : decode cX10_of 63 = .ok (.goto 5, 3) := by decide +kernel
theorem dX10_of_66 : decode cX10_of 66 = .ok (.bipush (-2), 2) := by decide +kernel
theorem dX10_of_68 : decode cX10_of 68 = .ok (.ireturn, 1) := by decide +kernel
theorem dX10_isHour_0 : decode cX10_isHour 0 = .ok (.iload_n 0, 1) := by decide +kernel
theorem dX10_isHour_1 : decode cX10_isHour 1 = .ok (.i2l, 1) := by decide +kernel
theorem dX10_isHour_2 : decode cX10_isHour 2 = .ok (.lconst 0, 1) := by decide +kernel
theorem dX10_isHour_3 : decode cX10_isHour 3 = .ok (.ldc2_w 150, 3) := by decide +kernel
theorem dX10_isHour_6 : decode cX10_isHour 6 = .ok (.invokestatic 51, 3) := by decide +kernel
theorem dX10_isHour_9 : decode cX10_isHour 9 = .ok (.ireturn, 1) := by decide +kernel
theorem dX10_at_0 : decode cX10_at 0 = .ok (.aload_n 0, 1) := by decide +kernel
theorem dX10_at_1 : decode cX10_at 1 = .ok (.iload_n 1, 1) := by decide +kernel
theorem dX10_at_2 : decode cX10_at 2 = .ok (.invokevirtual 108, 3) := by decide +kernel
theorem dX10_at_5 : decode cX10_at 5 = .ok (.ifCond .eq 10, 3) := by decide +kernel
theorem dX10_at_8 : decode cX10_at 8 = .ok (.iload_n 2, 1) := by decide +kernel
theorem dX10_at_9 : decode cX10_at 9 = .ok (.invokestatic 152, 3) := by decide +kernel
theorem dX10_at_12 : decode cX10_at 12 = .ok (.ifCond .ne 5, 3) := by decide +kernel
theorem dX10_at_15 : decode cX10_at 15 = .ok (.iconst (-1), 1) := by decide +kernel
theorem dX10_at_16 : decode cX10_at 16 = .ok (.ireturn, 1) := by decide +kernel
theorem dX10_at_17 : decode cX10_at 17 = .ok (.aload_n 0, 1) := by decide +kernel
theorem dX10_at_18 : decode cX10_at 18 = .ok (.iload_n 1, 1) := by decide +kernel
theorem dX10_at_19 : decode cX10_at 19 = .ok (.iload_n 2, 1) := by decide +kernel
theorem dX10_at_20 : decode cX10_at 20 = .ok (.invokevirtual 73, 3) := by decide +kernel
theorem dX10_at_23 : decode cX10_at 23 = .ok (.istore 4, 2) := by decide +kernel
theorem dX10_at_25 : decode cX10_at 25 = .ok (.aload_n 0, 1) := by decide +kernel
theorem dX10_at_26 : decode cX10_at 26 = .ok (.iload_n 2, 1) := by decide +kernel
theorem dX10_at_27 : decode cX10_at 27 = .ok (.invokevirtual 86, 3) := by decide +kernel
theorem dX10_at_30 : decode cX10_at 30 = .ok (.istore 5, 2) := by decide +kernel
theorem dX10_at_32 : decode cX10_at 32 = .ok (.iload_n 3, 1) := by decide +kernel
theorem dX10_at_33 : decode cX10_at 33 = .ok (.ifCond .ne 18, 3) := by decide +kernel
theorem dX10_at_36 : decode cX10_at 36 = .ok (.iload 4, 2) := by decide +kernel
theorem dX10_at_38 : decode cX10_at 38 = .ok (.bipush (-6), 2) := by decide +kernel
theorem dX10_at_40 : decode cX10_at 40 = .ok (.if_icmp .ne 7, 3) := by decide +kernel
theorem dX10_at_43 : decode cX10_at 43 = .ok (.iconst 0, 1) := by decide +kernel
theorem dX10_at_44 : decode cX10_at 44 = .ok (.goto 47, 3) := by decide +kernel
theorem dX10_at_47 : decode cX10_at 47 = .ok (.iconst 1, 1) := by decide +kernel
theorem dX10_at_48 : decode cX10_at 48 = .ok (.goto 43, 3) := by decide +kernel
theorem dX10_at_51 : decode cX10_at 51 = .ok (.iload_n 3, 1) := by decide +kernel
theorem dX10_at_52 : decode cX10_at 52 = .ok (.iconst 1, 1) := by decide +kernel
theorem dX10_at_53 : decode cX10_at 53 = .ok (.if_icmp .ne 12, 3) := by decide +kernel
theorem dX10_at_56 : decode cX10_at 56 = .ok (.aload_n 0, 1) := by decide +kernel
theorem dX10_at_57 : decode cX10_at 57 = .ok (.getfield 28, 3) := by decide +kernel
theorem dX10_at_60 : decode cX10_at 60 = .ok (.iload_n 1, 1) := by decide +kernel
theorem dX10_at_61 : decode cX10_at 61 = .ok (.iaload, 1) := by decide +kernel
theorem dX10_at_62 : decode cX10_at 62 = .ok (.goto 29, 3) := by decide +kernel
theorem dX10_at_65 : decode cX10_at 65 = .ok (.iload_n 3, 1) := by decide +kernel
theorem dX10_at_66 : decode cX10_at 66 = .ok (.iconst 2, 1) := by decide +kernel
theorem dX10_at_67 : decode cX10_at 67 = .ok (.if_icmp .ne 12, 3) := by decide +kernel
theorem dX10_at_70 : decode cX10_at 70 = .ok (.aload_n 0, 1) := by decide +kernel
theorem dX10_at_71 : decode cX10_at 71 = .ok (.getfield 31, 3) := by decide +kernel
theorem dX10_at_74 : decode cX10_at 74 = .ok (.iload_n 1, 1) := by decide +kernel
theorem dX10_at_75 : decode cX10_at 75 = .ok (.iaload, 1) := by decide +kernel
theorem dX10_at_76 : decode cX10_at 76 = .ok (.goto 15, 3) := by decide +kernel
theorem dX10_at_79 : decode cX10_at 79 = .ok (.iload_n 3, 1) := by decide +kernel
theorem dX10_at_80 : decode cX10_at 80 = .ok (.iconst 3, 1) := by decide +kernel
theorem dX10_at_81 : decode cX10_at 81 = .ok (.if_icmp .ne 8, 3) := by decide +kernel
theorem dX10_at_84 : decode cX10_at 84 = .ok (.iload 4, 2) := by decide +kernel
theorem dX10_at_86 : decode cX10_at 86 = .ok (.goto 5, 3) := by decide +kernel
theorem dX10_at_89 : decode cX10_at 89 = .ok (.bipush (-2), 2) := by decide +kernel
theorem dX10_at_91 : decode cX10_at 91 = .ok (.ireturn, 1) := by decide +kernel
theorem dX10_mirrorsOf_0 : decode cX10_mirrorsOf 0 = .ok (.iconst 0, 1) := by decide +kernel
theorem dX10_mirrorsOf_1 : decode cX10_mirrorsOf 1 = .ok (.istore_n 3, 1) := by decide +kernel
theorem dX10_mirrorsOf_2 : decode cX10_mirrorsOf 2 = .ok (.iconst 0, 1) := by decide +kernel
theorem dX10_mirrorsOf_3 : decode cX10_mirrorsOf 3 = .ok (.istore 4, 2) := by decide +kernel
theorem dX10_mirrorsOf_5 : decode cX10_mirrorsOf 5 = .ok (.iload 4, 2) := by decide +kernel
theorem dX10_mirrorsOf_7 : decode cX10_mirrorsOf 7 = .ok (.aload_n 0, 1) := by decide +kernel
theorem dX10_mirrorsOf_8 : decode cX10_mirrorsOf 8 = .ok (.getfield 7, 3) := by decide +kernel
theorem dX10_mirrorsOf_11 : decode cX10_mirrorsOf 11 = .ok (.bipush 6, 2) := by decide +kernel
theorem dX10_mirrorsOf_13 : decode cX10_mirrorsOf 13 = .ok (.iaload, 1) := by decide +kernel
theorem dX10_mirrorsOf_14 : decode cX10_mirrorsOf 14 = .ok (.if_icmp .ge 46, 3) := by decide +kernel
theorem dX10_mirrorsOf_17 : decode cX10_mirrorsOf 17 = .ok (.iload_n 3, 1) := by decide +kernel
theorem dX10_mirrorsOf_18 : decode cX10_mirrorsOf 18 = .ok (.aload_n 0, 1) := by decide +kernel
theorem dX10_mirrorsOf_19 : decode cX10_mirrorsOf 19 = .ok (.iload 4, 2) := by decide +kernel
theorem dX10_mirrorsOf_21 : decode cX10_mirrorsOf 21 = .ok (.iconst 2, 1) := by decide +kernel
theorem dX10_mirrorsOf_22 : decode cX10_mirrorsOf 22 = .ok (.invokevirtual 57, 3) := by decide +kernel
theorem dX10_mirrorsOf_25 : decode cX10_mirrorsOf 25 = .ok (.iload_n 1, 1) := by decide +kernel
theorem dX10_mirrorsOf_26 : decode cX10_mirrorsOf 26 = .ok (.if_icmp .ne 25, 3) := by decide +kernel
theorem dX10_mirrorsOf_29 : decode cX10_mirrorsOf 29 = .ok (.iload_n 2, 1) := by decide +kernel
theorem dX10_mirrorsOf_30 : decode cX10_mirrorsOf 30 = .ok (.ifCond .eq 14, 3) := by decide +kernel
theorem dX10_mirrorsOf_33 : decode cX10_mirrorsOf 33 = .ok (.aload_n 0, 1) := by decide +kernel
theorem dX10_mirrorsOf_34 : decode cX10_mirrorsOf 34 = .ok (.getfield 31, 3) := by decide +kernel
theorem dX10_mirrorsOf_37 : decode cX10_mirrorsOf 37 = .ok (.iload 4, 2) := by decide +kernel
theorem dX10_mirrorsOf_39 : decode cX10_mirrorsOf 39 = .ok (.iaload, 1) := by decide +kernel
theorem dX10_mirrorsOf_40 : decode cX10_mirrorsOf 40 = .ok (.iconst 1, 1) := by decide +kernel
theorem dX10_mirrorsOf_41 : decode cX10_mirrorsOf 41 = .ok (.if_icmp .ne 10, 3) := by decide +kernel
theorem dX10_mirrorsOf_44 : decode cX10_mirrorsOf 44 = .ok (.iconst 1, 1) := by decide +kernel
theorem dX10_mirrorsOf_45 : decode cX10_mirrorsOf 45 = .ok (.iload 4, 2) := by decide +kernel
theorem dX10_mirrorsOf_47 : decode cX10_mirrorsOf 47 = .ok (.ishl, 1) := by decide +kernel
theorem dX10_mirrorsOf_48 : decode cX10_mirrorsOf 48 = .ok (.goto 4, 3) := by decide +kernel
theorem dX10_mirrorsOf_51 : decode cX10_mirrorsOf 51 = .ok (.iconst 0, 1) := by decide +kernel
theorem dX10_mirrorsOf_52 : decode cX10_mirrorsOf 52 = .ok (.ior, 1) := by decide +kernel
theorem dX10_mirrorsOf_53 : decode cX10_mirrorsOf 53 = .ok (.istore_n 3, 1) := by decide +kernel
theorem dX10_mirrorsOf_54 : decode cX10_mirrorsOf 54 = .ok (.iinc 4 1, 3) := by decide +kernel
theorem dX10_mirrorsOf_57 : decode cX10_mirrorsOf 57 = .ok (.goto (-52), 3) := by decide +kernel
theorem dX10_mirrorsOf_60 : decode cX10_mirrorsOf 60 = .ok (.iload_n 3, 1) := by decide +kernel
theorem dX10_mirrorsOf_61 : decode cX10_mirrorsOf 61 = .ok (.ireturn, 1) := by decide +kernel
theorem dX10_point_0 : decode cX10_point 0 = .ok (.iload_n 1, 1) := by decide +kernel
theorem dX10_point_1 : decode cX10_point 1 = .ok (.i2l, 1) := by decide +kernel
theorem dX10_point_2 : decode cX10_point 2 = .ok (.lconst 0, 1) := by decide +kernel
theorem dX10_point_3 : decode cX10_point 3 = .ok (.ldc2_w 103, 3) := by decide +kernel
theorem dX10_point_6 : decode cX10_point 6 = .ok (.invokestatic 51, 3) := by decide +kernel
theorem dX10_point_9 : decode cX10_point 9 = .ok (.ifCond .eq 10, 3) := by decide +kernel
theorem dX10_point_12 : decode cX10_point 12 = .ok (.iload_n 2, 1) := by decide +kernel
theorem dX10_point_13 : decode cX10_point 13 = .ok (.invokestatic 152, 3) := by decide +kernel
theorem dX10_point_16 : decode cX10_point 16 = .ok (.ifCond .ne 5, 3) := by decide +kernel
theorem dX10_point_19 : decode cX10_point 19 = .ok (.iconst (-1), 1) := by decide +kernel
theorem dX10_point_20 : decode cX10_point 20 = .ok (.ireturn, 1) := by decide +kernel
theorem dX10_point_21 : decode cX10_point 21 = .ok (.aload_n 0, 1) := by decide +kernel
theorem dX10_point_22 : decode cX10_point 22 = .ok (.iload_n 2, 1) := by decide +kernel
theorem dX10_point_23 : decode cX10_point 23 = .ok (.invokevirtual 86, 3) := by decide +kernel
theorem dX10_point_26 : decode cX10_point 26 = .ok (.istore 4, 2) := by decide +kernel
theorem dX10_point_28 : decode cX10_point 28 = .ok (.iload_n 3, 1) := by decide +kernel
theorem dX10_point_29 : decode cX10_point 29 = .ok (.ifCond .ne 12, 3) := by decide +kernel
theorem dX10_point_32 : decode cX10_point 32 = .ok (.aload_n 0, 1) := by decide +kernel
theorem dX10_point_33 : decode cX10_point 33 = .ok (.getfield 34, 3) := by decide +kernel
theorem dX10_point_36 : decode cX10_point 36 = .ok (.iload_n 1, 1) := by decide +kernel
theorem dX10_point_37 : decode cX10_point 37 = .ok (.iaload, 1) := by decide +kernel
theorem dX10_point_38 : decode cX10_point 38 = .ok (.goto 33, 3) := by decide +kernel
theorem dX10_point_41 : decode cX10_point 41 = .ok (.iload_n 3, 1) := by decide +kernel
theorem dX10_point_42 : decode cX10_point 42 = .ok (.iconst 1, 1) := by decide +kernel
theorem dX10_point_43 : decode cX10_point 43 = .ok (.if_icmp .eq 8, 3) := by decide +kernel
theorem dX10_point_46 : decode cX10_point 46 = .ok (.iload_n 3, 1) := by decide +kernel
theorem dX10_point_47 : decode cX10_point 47 = .ok (.iconst 2, 1) := by decide +kernel
theorem dX10_point_48 : decode cX10_point 48 = .ok (.if_icmp .ne 21, 3) := by decide +kernel
theorem dX10_point_51 : decode cX10_point 51 = .ok (.aload_n 0, 1) := by decide +kernel
theorem dX10_point_52 : decode cX10_point 52 = .ok (.iload_n 1, 1) := by decide +kernel
theorem dX10_point_53 : decode cX10_point 53 = .ok (.iload_n 3, 1) := by decide +kernel
theorem dX10_point_54 : decode cX10_point 54 = .ok (.iconst 2, 1) := by decide +kernel
theorem dX10_point_55 : decode cX10_point 55 = .ok (.if_icmp .ne 7, 3) := by decide +kernel
theorem dX10_point_58 : decode cX10_point 58 = .ok (.iconst 1, 1) := by decide +kernel
theorem dX10_point_59 : decode cX10_point 59 = .ok (.goto 4, 3) := by decide +kernel
theorem dX10_point_62 : decode cX10_point 62 = .ok (.iconst 0, 1) := by decide +kernel
theorem dX10_point_63 : decode cX10_point 63 = .ok (.invokevirtual 155, 3) := by decide +kernel
theorem dX10_point_66 : decode cX10_point 66 = .ok (.goto 5, 3) := by decide +kernel
theorem dX10_point_69 : decode cX10_point 69 = .ok (.bipush (-2), 2) := by decide +kernel
theorem dX10_point_71 : decode cX10_point 71 = .ok (.ireturn, 1) := by decide +kernel
theorem dX10_blockedOnes_0 : decode cX10_blockedOnes 0 = .ok (.iconst 0, 1) := by decide +kernel
theorem dX10_blockedOnes_1 : decode cX10_blockedOnes 1 = .ok (.istore_n 1, 1) := by decide +kernel
theorem dX10_blockedOnes_2 : decode cX10_blockedOnes 2 = .ok (.iconst 0, 1) := by decide +kernel
theorem dX10_blockedOnes_3 : decode cX10_blockedOnes 3 = .ok (.istore_n 2, 1) := by decide +kernel
theorem dX10_blockedOnes_4 : decode cX10_blockedOnes 4 = .ok (.iload_n 2, 1) := by decide +kernel
theorem dX10_blockedOnes_5 : decode cX10_blockedOnes 5 = .ok (.aload_n 0, 1) := by decide +kernel
theorem dX10_blockedOnes_6 : decode cX10_blockedOnes 6 = .ok (.getfield 7, 3) := by decide +kernel
theorem dX10_blockedOnes_9 : decode cX10_blockedOnes 9 = .ok (.bipush 6, 2) := by decide +kernel
theorem dX10_blockedOnes_11 : decode cX10_blockedOnes 11 = .ok (.iaload, 1) := by decide +kernel
theorem dX10_blockedOnes_12 : decode cX10_blockedOnes 12 = .ok (.if_icmp .ge 27, 3) := by decide +kernel
theorem dX10_blockedOnes_15 : decode cX10_blockedOnes 15 = .ok (.iload_n 1, 1) := by decide +kernel
theorem dX10_blockedOnes_16 : decode cX10_blockedOnes 16 = .ok (.aload_n 0, 1) := by decide +kernel
theorem dX10_blockedOnes_17 : decode cX10_blockedOnes 17 = .ok (.iload_n 2, 1) := by decide +kernel
theorem dX10_blockedOnes_18 : decode cX10_blockedOnes 18 = .ok (.invokevirtual 76, 3) := by decide +kernel
theorem dX10_blockedOnes_21 : decode cX10_blockedOnes 21 = .ok (.ifCond .eq 9, 3) := by decide +kernel
theorem dX10_blockedOnes_24 : decode cX10_blockedOnes 24 = .ok (.iconst 1, 1) := by decide +kernel
theorem dX10_blockedOnes_25 : decode cX10_blockedOnes 25 = .ok (.iload_n 2, 1) := by decide +kernel
theorem dX10_blockedOnes_26 : decode cX10_blockedOnes 26 = .ok (.ishl, 1) := by decide +kernel
theorem dX10_blockedOnes_27 : decode cX10_blockedOnes 27 = .ok (.goto 4, 3) := by decide +kernel
theorem dX10_blockedOnes_30 : decode cX10_blockedOnes 30 = .ok (.iconst 0, 1) := by decide +kernel
theorem dX10_blockedOnes_31 : decode cX10_blockedOnes 31 = .ok (.ior, 1) := by decide +kernel
theorem dX10_blockedOnes_32 : decode cX10_blockedOnes 32 = .ok (.istore_n 1, 1) := by decide +kernel
theorem dX10_blockedOnes_33 : decode cX10_blockedOnes 33 = .ok (.iinc 2 1, 3) := by decide +kernel
theorem dX10_blockedOnes_36 : decode cX10_blockedOnes 36 = .ok (.goto (-32), 3) := by decide +kernel
theorem dX10_blockedOnes_39 : decode cX10_blockedOnes 39 = .ok (.iload_n 1, 1) := by decide +kernel
theorem dX10_blockedOnes_40 : decode cX10_blockedOnes 40 = .ok (.ireturn, 1) := by decide +kernel
theorem dX10_allDirt_0 : decode cX10_allDirt 0 = .ok (.iconst 0, 1) := by decide +kernel
theorem dX10_allDirt_1 : decode cX10_allDirt 1 = .ok (.istore_n 1, 1) := by decide +kernel
theorem dX10_allDirt_2 : decode cX10_allDirt 2 = .ok (.iconst 0, 1) := by decide +kernel
theorem dX10_allDirt_3 : decode cX10_allDirt 3 = .ok (.istore_n 2, 1) := by decide +kernel
theorem dX10_allDirt_4 : decode cX10_allDirt 4 = .ok (.iload_n 2, 1) := by decide +kernel
theorem dX10_allDirt_5 : decode cX10_allDirt 5 = .ok (.aload_n 0, 1) := by decide +kernel
theorem dX10_allDirt_6 : decode cX10_allDirt 6 = .ok (.getfield 7, 3) := by decide +kernel
theorem dX10_allDirt_9 : decode cX10_allDirt 9 = .ok (.bipush 6, 2) := by decide +kernel
theorem dX10_allDirt_11 : decode cX10_allDirt 11 = .ok (.iaload, 1) := by decide +kernel
theorem dX10_allDirt_12 : decode cX10_allDirt 12 = .ok (.if_icmp .ge 18, 3) := by decide +kernel
theorem dX10_allDirt_15 : decode cX10_allDirt 15 = .ok (.iload_n 1, 1) := by decide +kernel
theorem dX10_allDirt_16 : decode cX10_allDirt 16 = .ok (.aload_n 0, 1) := by decide +kernel
theorem dX10_allDirt_17 : decode cX10_allDirt 17 = .ok (.iload_n 2, 1) := by decide +kernel
theorem dX10_allDirt_18 : decode cX10_allDirt 18 = .ok (.iconst 3, 1) := by decide +kernel
theorem dX10_allDirt_19 : decode cX10_allDirt 19 = .ok (.invokevirtual 57, 3) := by decide +kernel
theorem dX10_allDirt_22 : decode cX10_allDirt 22 = .ok (.iadd, 1) := by decide +kernel
theorem dX10_allDirt_23 : decode cX10_allDirt 23 = .ok (.istore_n 1, 1) := by decide +kernel
theorem dX10_allDirt_24 : decode cX10_allDirt 24 = .ok (.iinc 2 1, 3) := by decide +kernel
theorem dX10_allDirt_27 : decode cX10_allDirt 27 = .ok (.goto (-23), 3) := by decide +kernel
theorem dX10_allDirt_30 : decode cX10_allDirt 30 = .ok (.iload_n 1, 1) := by decide +kernel
theorem dX10_allDirt_31 : decode cX10_allDirt 31 = .ok (.ireturn, 1) := by decide +kernel
theorem dX10_count_0 : decode cX10_count 0 = .ok (.iload_n 1, 1) := by decide +kernel
theorem dX10_count_1 : decode cX10_count 1 = .ok (.tableswitch 144 0 12 #[67, 74, 82, 89, 102, 109, 114, 119, 124, 124, 124, 134, 139], 67) := by decide +kernel
theorem dX10_count_68 : decode cX10_count 68 = .ok (.aload_n 0, 1) := by decide +kernel
theorem dX10_count_69 : decode cX10_count 69 = .ok (.getfield 7, 3) := by decide +kernel
theorem dX10_count_72 : decode cX10_count 72 = .ok (.iconst 3, 1) := by decide +kernel
theorem dX10_count_73 : decode cX10_count 73 = .ok (.iaload, 1) := by decide +kernel
theorem dX10_count_74 : decode cX10_count 74 = .ok (.ireturn, 1) := by decide +kernel
theorem dX10_count_75 : decode cX10_count 75 = .ok (.aload_n 0, 1) := by decide +kernel
theorem dX10_count_76 : decode cX10_count 76 = .ok (.getfield 7, 3) := by decide +kernel
theorem dX10_count_79 : decode cX10_count 79 = .ok (.bipush 6, 2) := by decide +kernel
theorem dX10_count_81 : decode cX10_count 81 = .ok (.iaload, 1) := by decide +kernel
theorem dX10_count_82 : decode cX10_count 82 = .ok (.ireturn, 1) := by decide +kernel
theorem dX10_count_83 : decode cX10_count 83 = .ok (.aload_n 0, 1) := by decide +kernel
theorem dX10_count_84 : decode cX10_count 84 = .ok (.getfield 7, 3) := by decide +kernel
theorem dX10_count_87 : decode cX10_count 87 = .ok (.iconst 4, 1) := by decide +kernel
theorem dX10_count_88 : decode cX10_count 88 = .ok (.iaload, 1) := by decide +kernel
theorem dX10_count_89 : decode cX10_count 89 = .ok (.ireturn, 1) := by decide +kernel
theorem dX10_count_90 : decode cX10_count 90 = .ok (.aload_n 0, 1) := by decide +kernel
theorem dX10_count_91 : decode cX10_count 91 = .ok (.invokevirtual 69, 3) := by decide +kernel
theorem dX10_count_94 : decode cX10_count 94 = .ok (.ifCond .eq 7, 3) := by decide +kernel
theorem dX10_count_97 : decode cX10_count 97 = .ok (.iconst 1, 1) := by decide +kernel
theorem dX10_count_98 : decode cX10_count 98 = .ok (.goto 4, 3) := by decide +kernel
theorem dX10_count_101 : decode cX10_count 101 = .ok (.iconst 0, 1) := by decide +kernel
theorem dX10_count_102 : decode cX10_count 102 = .ok (.ireturn, 1) := by decide +kernel
theorem dX10_count_103 : decode cX10_count 103 = .ok (.aload_n 0, 1) := by decide +kernel
theorem dX10_count_104 : decode cX10_count 104 = .ok (.getfield 7, 3) := by decide +kernel
theorem dX10_count_107 : decode cX10_count 107 = .ok (.iconst 5, 1) := by decide +kernel
theorem dX10_count_108 : decode cX10_count 108 = .ok (.iaload, 1) := by decide +kernel
theorem dX10_count_109 : decode cX10_count 109 = .ok (.ireturn, 1) := by decide +kernel
theorem dX10_count_110 : decode cX10_count 110 = .ok (.aload_n 0, 1) := by decide +kernel
theorem dX10_count_111 : decode cX10_count 111 = .ok (.invokevirtual 159, 3) := by decide +kernel
theorem dX10_count_114 : decode cX10_count 114 = .ok (.ireturn, 1) := by decide +kernel
theorem dX10_count_115 : decode cX10_count 115 = .ok (.aload_n 0, 1) := by decide +kernel
theorem dX10_count_116 : decode cX10_count 116 = .ok (.invokevirtual 163, 3) := by decide +kernel
theorem dX10_count_119 : decode cX10_count 119 = .ok (.ireturn, 1) := by decide +kernel
theorem dX10_count_120 : decode cX10_count 120 = .ok (.aload_n 0, 1) := by decide +kernel
theorem dX10_count_121 : decode cX10_count 121 = .ok (.invokevirtual 166, 3) := by decide +kernel
theorem dX10_count_124 : decode cX10_count 124 = .ok (.ireturn, 1) := by decide +kernel
theorem dX10_count_125 : decode cX10_count 125 = .ok (.aload_n 0, 1) := by decide +kernel
theorem dX10_count_126 : decode cX10_count 126 = .ok (.getfield 7, 3) := by decide +kernel
theorem dX10_count_129 : decode cX10_count 129 = .ok (.iload_n 1, 1) := by decide +kernel
theorem dX10_count_130 : decode cX10_count 130 = .ok (.bipush 8, 2) := by decide +kernel
theorem dX10_count_132 : decode cX10_count 132 = .ok (.isub, 1) := by decide +kernel
theorem dX10_count_133 : decode cX10_count 133 = .ok (.iaload, 1) := by decide +kernel
theorem dX10_count_134 : decode cX10_count 134 = .ok (.ireturn, 1) := by decide +kernel
theorem dX10_count_135 : decode cX10_count 135 = .ok (.aload_n 0, 1) := by decide +kernel
theorem dX10_count_136 : decode cX10_count 136 = .ok (.getfield 169, 3) := by decide +kernel
theorem dX10_count_139 : decode cX10_count 139 = .ok (.ireturn, 1) := by decide +kernel
theorem dX10_count_140 : decode cX10_count 140 = .ok (.aload_n 0, 1) := by decide +kernel
theorem dX10_count_141 : decode cX10_count 141 = .ok (.getfield 43, 3) := by decide +kernel
theorem dX10_count_144 : decode cX10_count 144 = .ok (.ireturn, 1) := by decide +kernel
theorem dX10_count_145 : decode cX10_count 145 = .ok (.bipush (-2), 2) := by decide +kernel
theorem dX10_count_147 : decode cX10_count 147 = .ok (.ireturn, 1) := by decide +kernel
theorem dX10_in_0 : decode cX10_in 0 = .ok (.iload_n 1, 1) := by decide +kernel
theorem dX10_in_1 : decode cX10_in 1 = .ok (.iload_n 2, 1) := by decide +kernel
theorem dX10_in_2 : decode cX10_in 2 = .ok (.invokestatic 99, 3) := by decide +kernel
theorem dX10_in_5 : decode cX10_in 5 = .ok (.ifCond .eq 12, 3) := by decide +kernel
theorem dX10_in_8 : decode cX10_in 8 = .ok (.aload_n 0, 1) := by decide +kernel
theorem dX10_in_9 : decode cX10_in 9 = .ok (.iload_n 1, 1) := by decide +kernel
theorem dX10_in_10 : decode cX10_in 10 = .ok (.iload_n 2, 1) := by decide +kernel
theorem dX10_in_11 : decode cX10_in 11 = .ok (.invokevirtual 64, 3) := by decide +kernel
theorem dX10_in_14 : decode cX10_in 14 = .ok (.goto 4, 3) := by decide +kernel
theorem dX10_in_17 : decode cX10_in 17 = .ok (.iconst (-1), 1) := by decide +kernel
theorem dX10_in_18 : decode cX10_in 18 = .ok (.ireturn, 1) := by decide +kernel
theorem dX10_worthLeast_0 : decode cX10_worthLeast 0 = .ok (.iload_n 1, 1) := by decide +kernel
theorem dX10_worthLeast_1 : decode cX10_worthLeast 1 = .ok (.i2l, 1) := by decide +kernel
theorem dX10_worthLeast_2 : decode cX10_worthLeast 2 = .ok (.lconst 0, 1) := by decide +kernel
theorem dX10_worthLeast_3 : decode cX10_worthLeast 3 = .ok (.lconst 1, 1) := by decide +kernel
theorem dX10_worthLeast_4 : decode cX10_worthLeast 4 = .ok (.invokestatic 51, 3) := by decide +kernel
theorem dX10_worthLeast_7 : decode cX10_worthLeast 7 = .ok (.ifCond .ne 6, 3) := by decide +kernel
theorem dX10_worthLeast_10 : decode cX10_worthLeast 10 = .ok (.bipush (-2), 2) := by decide +kernel
theorem dX10_worthLeast_12 : decode cX10_worthLeast 12 = .ok (.ireturn, 1) := by decide +kernel
theorem dX10_worthLeast_13 : decode cX10_worthLeast 13 = .ok (.bipush (-6), 2) := by decide +kernel
theorem dX10_worthLeast_15 : decode cX10_worthLeast 15 = .ok (.istore_n 2, 1) := by decide +kernel
theorem dX10_worthLeast_16 : decode cX10_worthLeast 16 = .ok (.bipush (-6), 2) := by decide +kernel
theorem dX10_worthLeast_18 : decode cX10_worthLeast 18 = .ok (.istore_n 3, 1) := by decide +kernel
theorem dX10_worthLeast_19 : decode cX10_worthLeast 19 = .ok (.aload_n 0, 1) := by decide +kernel
theorem dX10_worthLeast_20 : decode cX10_worthLeast 20 = .ok (.getfield 7, 3) := by decide +kernel
theorem dX10_worthLeast_23 : decode cX10_worthLeast 23 = .ok (.aload_n 0, 1) := by decide +kernel
theorem dX10_worthLeast_24 : decode cX10_worthLeast 24 = .ok (.getfield 16, 3) := by decide +kernel
theorem dX10_worthLeast_27 : decode cX10_worthLeast 27 = .ok (.invokestatic 124, 3) := by decide +kernel
theorem dX10_worthLeast_30 : decode cX10_worthLeast 30 = .ok (.iconst 0, 1) := by decide +kernel
theorem dX10_worthLeast_31 : decode cX10_worthLeast 31 = .ok (.istore 4, 2) := by decide +kernel
theorem dX10_worthLeast_33 : decode cX10_worthLeast 33 = .ok (.iload 4, 2) := by decide +kernel
theorem dX10_worthLeast_35 : decode cX10_worthLeast 35 = .ok (.aload_n 0, 1) := by decide +kernel
theorem dX10_worthLeast_36 : decode cX10_worthLeast 36 = .ok (.getfield 16, 3) := by decide +kernel
theorem dX10_worthLeast_39 : decode cX10_worthLeast 39 = .ok (.bipush 6, 2) := by decide +kernel
theorem dX10_worthLeast_41 : decode cX10_worthLeast 41 = .ok (.iaload, 1) := by decide +kernel
theorem dX10_worthLeast_42 : decode cX10_worthLeast 42 = .ok (.if_icmp .ge 58, 3) := by decide +kernel
theorem dX10_worthLeast_45 : decode cX10_worthLeast 45 = .ok (.aload_n 0, 1) := by decide +kernel
theorem dX10_worthLeast_46 : decode cX10_worthLeast 46 = .ok (.iload 4, 2) := by decide +kernel
theorem dX10_worthLeast_48 : decode cX10_worthLeast 48 = .ok (.invokevirtual 111, 3) := by decide +kernel
theorem dX10_worthLeast_51 : decode cX10_worthLeast 51 = .ok (.aload_n 0, 1) := by decide +kernel
theorem dX10_worthLeast_52 : decode cX10_worthLeast 52 = .ok (.invokevirtual 159, 3) := by decide +kernel
theorem dX10_worthLeast_55 : decode cX10_worthLeast 55 = .ok (.istore 5, 2) := by decide +kernel
theorem dX10_worthLeast_57 : decode cX10_worthLeast 57 = .ok (.aload_n 0, 1) := by decide +kernel
theorem dX10_worthLeast_58 : decode cX10_worthLeast 58 = .ok (.getfield 16, 3) := by decide +kernel
theorem dX10_worthLeast_61 : decode cX10_worthLeast 61 = .ok (.aload_n 0, 1) := by decide +kernel
theorem dX10_worthLeast_62 : decode cX10_worthLeast 62 = .ok (.getfield 7, 3) := by decide +kernel
theorem dX10_worthLeast_65 : decode cX10_worthLeast 65 = .ok (.invokestatic 124, 3) := by decide +kernel
theorem dX10_worthLeast_68 : decode cX10_worthLeast 68 = .ok (.iload 5, 2) := by decide +kernel
theorem dX10_worthLeast_70 : decode cX10_worthLeast 70 = .ok (.iload_n 3, 1) := by decide +kernel
theorem dX10_worthLeast_71 : decode cX10_worthLeast 71 = .ok (.if_icmp .le 8, 3) := by decide +kernel
theorem dX10_worthLeast_74 : decode cX10_worthLeast 74 = .ok (.iload 4, 2) := by decide +kernel
theorem dX10_worthLeast_76 : decode cX10_worthLeast 76 = .ok (.goto 4, 3) := by decide +kernel
theorem dX10_worthLeast_79 : decode cX10_worthLeast 79 = .ok (.iload_n 2, 1) := by decide +kernel
theorem dX10_worthLeast_80 : decode cX10_worthLeast 80 = .ok (.istore_n 2, 1) := by decide +kernel
theorem dX10_worthLeast_81 : decode cX10_worthLeast 81 = .ok (.iload 5, 2) := by decide +kernel
theorem dX10_worthLeast_83 : decode cX10_worthLeast 83 = .ok (.iload_n 3, 1) := by decide +kernel
theorem dX10_worthLeast_84 : decode cX10_worthLeast 84 = .ok (.if_icmp .le 8, 3) := by decide +kernel
theorem dX10_worthLeast_87 : decode cX10_worthLeast 87 = .ok (.iload 5, 2) := by decide +kernel
theorem dX10_worthLeast_89 : decode cX10_worthLeast 89 = .ok (.goto 4, 3) := by decide +kernel
theorem dX10_worthLeast_92 : decode cX10_worthLeast 92 = .ok (.iload_n 3, 1) := by decide +kernel
theorem dX10_worthLeast_93 : decode cX10_worthLeast 93 = .ok (.istore_n 3, 1) := by decide +kernel
theorem dX10_worthLeast_94 : decode cX10_worthLeast 94 = .ok (.iinc 4 1, 3) := by decide +kernel
theorem dX10_worthLeast_97 : decode cX10_worthLeast 97 = .ok (.goto (-64), 3) := by decide +kernel
theorem dX10_worthLeast_100 : decode cX10_worthLeast 100 = .ok (.iload_n 1, 1) := by decide +kernel
theorem dX10_worthLeast_101 : decode cX10_worthLeast 101 = .ok (.ifCond .ne 7, 3) := by decide +kernel
theorem dX10_worthLeast_104 : decode cX10_worthLeast 104 = .ok (.iload_n 2, 1) := by decide +kernel
theorem dX10_worthLeast_105 : decode cX10_worthLeast 105 = .ok (.goto 4, 3) := by decide +kernel
theorem dX10_worthLeast_108 : decode cX10_worthLeast 108 = .ok (.iload_n 3, 1) := by decide +kernel
theorem dX10_worthLeast_109 : decode cX10_worthLeast 109 = .ok (.ireturn, 1) := by decide +kernel
theorem dX10_bestColumn_0 : decode cX10_bestColumn 0 = .ok (.iload_n 1, 1) := by decide +kernel
theorem dX10_bestColumn_1 : decode cX10_bestColumn 1 = .ok (.iconst 0, 1) := by decide +kernel
theorem dX10_bestColumn_2 : decode cX10_bestColumn 2 = .ok (.invokestatic 99, 3) := by decide +kernel
theorem dX10_bestColumn_5 : decode cX10_bestColumn 5 = .ok (.ifCond .eq 25, 3) := by decide +kernel
theorem dX10_bestColumn_8 : decode cX10_bestColumn 8 = .ok (.iload_n 2, 1) := by decide +kernel
theorem dX10_bestColumn_9 : decode cX10_bestColumn 9 = .ok (.i2l, 1) := by decide +kernel
theorem dX10_bestColumn_10 : decode cX10_bestColumn 10 = .ok (.lconst 0, 1) := by decide +kernel
theorem dX10_bestColumn_11 : decode cX10_bestColumn 11 = .ok (.ldc2_w 103, 3) := by decide +kernel
theorem dX10_bestColumn_14 : decode cX10_bestColumn 14 = .ok (.invokestatic 51, 3) := by decide +kernel
theorem dX10_bestColumn_17 : decode cX10_bestColumn 17 = .ok (.ifCond .eq 13, 3) := by decide +kernel
theorem dX10_bestColumn_20 : decode cX10_bestColumn 20 = .ok (.iload_n 3, 1) := by decide +kernel
theorem dX10_bestColumn_21 : decode cX10_bestColumn 21 = .ok (.i2l, 1) := by decide +kernel
theorem dX10_bestColumn_22 : decode cX10_bestColumn 22 = .ok (.lconst 0, 1) := by decide +kernel
theorem dX10_bestColumn_23 : decode cX10_bestColumn 23 = .ok (.lconst 1, 1) := by decide +kernel
theorem dX10_bestColumn_24 : decode cX10_bestColumn 24 = .ok (.invokestatic 51, 3) := by decide +kernel
theorem dX10_bestColumn_27 : decode cX10_bestColumn 27 = .ok (.ifCond .ne 6, 3) := by decide +kernel
theorem dX10_bestColumn_30 : decode cX10_bestColumn 30 = .ok (.bipush (-2), 2) := by decide +kernel
theorem dX10_bestColumn_32 : decode cX10_bestColumn 32 = .ok (.ireturn, 1) := by decide +kernel
theorem dX10_bestColumn_33 : decode cX10_bestColumn 33 = .ok (.bipush (-6), 2) := by decide +kernel
theorem dX10_bestColumn_35 : decode cX10_bestColumn 35 = .ok (.istore 4, 2) := by decide +kernel
theorem dX10_bestColumn_37 : decode cX10_bestColumn 37 = .ok (.bipush (-6), 2) := by decide +kernel
theorem dX10_bestColumn_39 : decode cX10_bestColumn 39 = .ok (.istore 5, 2) := by decide +kernel
theorem dX10_bestColumn_41 : decode cX10_bestColumn 41 = .ok (.aload_n 0, 1) := by decide +kernel
theorem dX10_bestColumn_42 : decode cX10_bestColumn 42 = .ok (.getfield 7, 3) := by decide +kernel
theorem dX10_bestColumn_45 : decode cX10_bestColumn 45 = .ok (.aload_n 0, 1) := by decide +kernel
theorem dX10_bestColumn_46 : decode cX10_bestColumn 46 = .ok (.getfield 16, 3) := by decide +kernel
theorem dX10_bestColumn_49 : decode cX10_bestColumn 49 = .ok (.invokestatic 124, 3) := by decide +kernel
theorem dX10_bestColumn_52 : decode cX10_bestColumn 52 = .ok (.iconst 0, 1) := by decide +kernel
theorem dX10_bestColumn_53 : decode cX10_bestColumn 53 = .ok (.istore 6, 2) := by decide +kernel
theorem dX10_bestColumn_55 : decode cX10_bestColumn 55 = .ok (.iload 6, 2) := by decide +kernel
theorem dX10_bestColumn_57 : decode cX10_bestColumn 57 = .ok (.bipush 20, 2) := by decide +kernel
theorem dX10_bestColumn_59 : decode cX10_bestColumn 59 = .ok (.if_icmp .ge 78, 3) := by decide +kernel
theorem dX10_bestColumn_62 : decode cX10_bestColumn 62 = .ok (.aload_n 0, 1) := by decide +kernel
theorem dX10_bestColumn_63 : decode cX10_bestColumn 63 = .ok (.iload_n 1, 1) := by decide +kernel
theorem dX10_bestColumn_64 : decode cX10_bestColumn 64 = .ok (.iload 6, 2) := by decide +kernel
theorem dX10_bestColumn_66 : decode cX10_bestColumn 66 = .ok (.invokevirtual 64, 3) := by decide +kernel
theorem dX10_bestColumn_69 : decode cX10_bestColumn 69 = .ok (.bipush (-6), 2) := by decide +kernel
theorem dX10_bestColumn_71 : decode cX10_bestColumn 71 = .ok (.if_icmp .ne 60, 3) := by decide +kernel
theorem dX10_bestColumn_74 : decode cX10_bestColumn 74 = .ok (.aload_n 0, 1) := by decide +kernel
theorem dX10_bestColumn_75 : decode cX10_bestColumn 75 = .ok (.iload_n 1, 1) := by decide +kernel
theorem dX10_bestColumn_76 : decode cX10_bestColumn 76 = .ok (.iload 6, 2) := by decide +kernel
theorem dX10_bestColumn_78 : decode cX10_bestColumn 78 = .ok (.iload_n 2, 1) := by decide +kernel
theorem dX10_bestColumn_79 : decode cX10_bestColumn 79 = .ok (.invokevirtual 105, 3) := by decide +kernel
theorem dX10_bestColumn_82 : decode cX10_bestColumn 82 = .ok (.aload_n 0, 1) := by decide +kernel
theorem dX10_bestColumn_83 : decode cX10_bestColumn 83 = .ok (.invokevirtual 159, 3) := by decide +kernel
theorem dX10_bestColumn_86 : decode cX10_bestColumn 86 = .ok (.istore 7, 2) := by decide +kernel
theorem dX10_bestColumn_88 : decode cX10_bestColumn 88 = .ok (.aload_n 0, 1) := by decide +kernel
theorem dX10_bestColumn_89 : decode cX10_bestColumn 89 = .ok (.getfield 16, 3) := by decide +kernel
theorem dX10_bestColumn_92 : decode cX10_bestColumn 92 = .ok (.aload_n 0, 1) := by decide +kernel
theorem dX10_bestColumn_93 : decode cX10_bestColumn 93 = .ok (.getfield 7, 3) := by decide +kernel
theorem dX10_bestColumn_96 : decode cX10_bestColumn 96 = .ok (.invokestatic 124, 3) := by decide +kernel
theorem dX10_bestColumn_99 : decode cX10_bestColumn 99 = .ok (.iload 7, 2) := by decide +kernel
theorem dX10_bestColumn_101 : decode cX10_bestColumn 101 = .ok (.iload 5, 2) := by decide +kernel
theorem dX10_bestColumn_103 : decode cX10_bestColumn 103 = .ok (.if_icmp .le 8, 3) := by decide +kernel
theorem dX10_bestColumn_106 : decode cX10_bestColumn 106 = .ok (.iload 6, 2) := by decide +kernel
theorem dX10_bestColumn_108 : decode cX10_bestColumn 108 = .ok (.goto 5, 3) := by decide +kernel
theorem dX10_bestColumn_111 : decode cX10_bestColumn 111 = .ok (.iload 4, 2) := by decide +kernel
theorem dX10_bestColumn_113 : decode cX10_bestColumn 113 = .ok (.istore 4, 2) := by decide +kernel
theorem dX10_bestColumn_115 : decode cX10_bestColumn 115 = .ok (.iload 7, 2) := by decide +kernel
theorem dX10_bestColumn_117 : decode cX10_bestColumn 117 = .ok (.iload 5, 2) := by decide +kernel
theorem dX10_bestColumn_119 : decode cX10_bestColumn 119 = .ok (.if_icmp .le 8, 3) := by decide +kernel
theorem dX10_bestColumn_122 : decode cX10_bestColumn 122 = .ok (.iload 7, 2) := by decide +kernel
theorem dX10_bestColumn_124 : decode cX10_bestColumn 124 = .ok (.goto 5, 3) := by decide +kernel
theorem dX10_bestColumn_127 : decode cX10_bestColumn 127 = .ok (.iload 5, 2) := by decide +kernel
theorem dX10_bestColumn_129 : decode cX10_bestColumn 129 = .ok (.istore 5, 2) := by decide +kernel
theorem dX10_bestColumn_131 : decode cX10_bestColumn 131 = .ok (.iinc 6 1, 3) := by decide +kernel
theorem dX10_bestColumn_134 : decode cX10_bestColumn 134 = .ok (.goto (-79), 3) := by decide +kernel
end
section
theorem dX10_bestColumn_137 : decode cX10_bestColumn 137 = .ok (.iload_n 3, 1) := by decide +kernel
theorem dX10_bestColumn_138 : decode cX10_bestColumn 138 = .ok (.ifCond .ne 8, 3) := by decide +kernel
theorem dX10_bestColumn_141 : decode cX10_bestColumn 141 = .ok (.iload 4, 2) := by decide +kernel
theorem dX10_bestColumn_143 : decode cX10_bestColumn 143 = .ok (.goto 5, 3) := by decide +kernel
theorem dX10_bestColumn_146 : decode cX10_bestColumn 146 = .ok (.iload 5, 2) := by decide +kernel
theorem dX10_bestColumn_148 : decode cX10_bestColumn 148 = .ok (.ireturn, 1) := by decide +kernel
theorem dX10_toWash_0 : decode cX10_toWash 0 = .ok (.bipush (-6), 2) := by decide +kernel
theorem dX10_toWash_2 : decode cX10_toWash 2 = .ok (.istore_n 1, 1) := by decide +kernel
theorem dX10_toWash_3 : decode cX10_toWash 3 = .ok (.bipush (-6), 2) := by decide +kernel
theorem dX10_toWash_5 : decode cX10_toWash 5 = .ok (.istore_n 2, 1) := by decide +kernel
theorem dX10_toWash_6 : decode cX10_toWash 6 = .ok (.iconst 0, 1) := by decide +kernel
theorem dX10_toWash_7 : decode cX10_toWash 7 = .ok (.istore_n 3, 1) := by decide +kernel
theorem dX10_toWash_8 : decode cX10_toWash 8 = .ok (.iload_n 3, 1) := by decide +kernel
theorem dX10_toWash_9 : decode cX10_toWash 9 = .ok (.aload_n 0, 1) := by decide +kernel
theorem dX10_toWash_10 : decode cX10_toWash 10 = .ok (.getfield 7, 3) := by decide +kernel
theorem dX10_toWash_13 : decode cX10_toWash 13 = .ok (.bipush 6, 2) := by decide +kernel
theorem dX10_toWash_15 : decode cX10_toWash 15 = .ok (.iaload, 1) := by decide +kernel
theorem dX10_toWash_16 : decode cX10_toWash 16 = .ok (.if_icmp .ge 63, 3) := by decide +kernel
theorem dX10_toWash_19 : decode cX10_toWash 19 = .ok (.aload_n 0, 1) := by decide +kernel
theorem dX10_toWash_20 : decode cX10_toWash 20 = .ok (.iload_n 3, 1) := by decide +kernel
theorem dX10_toWash_21 : decode cX10_toWash 21 = .ok (.iconst 3, 1) := by decide +kernel
theorem dX10_toWash_22 : decode cX10_toWash 22 = .ok (.invokevirtual 57, 3) := by decide +kernel
theorem dX10_toWash_25 : decode cX10_toWash 25 = .ok (.istore 4, 2) := by decide +kernel
theorem dX10_toWash_27 : decode cX10_toWash 27 = .ok (.aload_n 0, 1) := by decide +kernel
theorem dX10_toWash_28 : decode cX10_toWash 28 = .ok (.iload_n 3, 1) := by decide +kernel
theorem dX10_toWash_29 : decode cX10_toWash 29 = .ok (.iconst 3, 1) := by decide +kernel
theorem dX10_toWash_30 : decode cX10_toWash 30 = .ok (.iconst 0, 1) := by decide +kernel
theorem dX10_toWash_31 : decode cX10_toWash 31 = .ok (.invokevirtual 89, 3) := by decide +kernel
theorem dX10_toWash_34 : decode cX10_toWash 34 = .ok (.aload_n 0, 1) := by decide +kernel
theorem dX10_toWash_35 : decode cX10_toWash 35 = .ok (.invokevirtual 159, 3) := by decide +kernel
theorem dX10_toWash_38 : decode cX10_toWash 38 = .ok (.istore 5, 2) := by decide +kernel
theorem dX10_toWash_40 : decode cX10_toWash 40 = .ok (.aload_n 0, 1) := by decide +kernel
theorem dX10_toWash_41 : decode cX10_toWash 41 = .ok (.iload_n 3, 1) := by decide +kernel
theorem dX10_toWash_42 : decode cX10_toWash 42 = .ok (.iconst 3, 1) := by decide +kernel
theorem dX10_toWash_43 : decode cX10_toWash 43 = .ok (.iload 4, 2) := by decide +kernel
theorem dX10_toWash_45 : decode cX10_toWash 45 = .ok (.invokevirtual 89, 3) := by decide +kernel
theorem dX10_toWash_48 : decode cX10_toWash 48 = .ok (.iload 5, 2) := by decide +kernel
theorem dX10_toWash_50 : decode cX10_toWash 50 = .ok (.iload_n 2, 1) := by decide +kernel
theorem dX10_toWash_51 : decode cX10_toWash 51 = .ok (.if_icmp .le 7, 3) := by decide +kernel
theorem dX10_toWash_54 : decode cX10_toWash 54 = .ok (.iload_n 3, 1) := by decide +kernel
theorem dX10_toWash_55 : decode cX10_toWash 55 = .ok (.goto 4, 3) := by decide +kernel
theorem dX10_toWash_58 : decode cX10_toWash 58 = .ok (.iload_n 1, 1) := by decide +kernel
theorem dX10_toWash_59 : decode cX10_toWash 59 = .ok (.istore_n 1, 1) := by decide +kernel
theorem dX10_toWash_60 : decode cX10_toWash 60 = .ok (.iload 5, 2) := by decide +kernel
theorem dX10_toWash_62 : decode cX10_toWash 62 = .ok (.iload_n 2, 1) := by decide +kernel
theorem dX10_toWash_63 : decode cX10_toWash 63 = .ok (.if_icmp .le 8, 3) := by decide +kernel
theorem dX10_toWash_66 : decode cX10_toWash 66 = .ok (.iload 5, 2) := by decide +kernel
theorem dX10_toWash_68 : decode cX10_toWash 68 = .ok (.goto 4, 3) := by decide +kernel
theorem dX10_toWash_71 : decode cX10_toWash 71 = .ok (.iload_n 2, 1) := by decide +kernel
theorem dX10_toWash_72 : decode cX10_toWash 72 = .ok (.istore_n 2, 1) := by decide +kernel
theorem dX10_toWash_73 : decode cX10_toWash 73 = .ok (.iinc 3 1, 3) := by decide +kernel
theorem dX10_toWash_76 : decode cX10_toWash 76 = .ok (.goto (-68), 3) := by decide +kernel
theorem dX10_toWash_79 : decode cX10_toWash 79 = .ok (.iload_n 1, 1) := by decide +kernel
theorem dX10_toWash_80 : decode cX10_toWash 80 = .ok (.ireturn, 1) := by decide +kernel
theorem dX10_leastLimit_0 : decode cX10_leastLimit 0 = .ok (.aload_n 0, 1) := by decide +kernel
theorem dX10_leastLimit_1 : decode cX10_leastLimit 1 = .ok (.getfield 7, 3) := by decide +kernel
theorem dX10_leastLimit_4 : decode cX10_leastLimit 4 = .ok (.iconst 0, 1) := by decide +kernel
theorem dX10_leastLimit_5 : decode cX10_leastLimit 5 = .ok (.iaload, 1) := by decide +kernel
theorem dX10_leastLimit_6 : decode cX10_leastLimit 6 = .ok (.istore_n 1, 1) := by decide +kernel
theorem dX10_leastLimit_7 : decode cX10_leastLimit 7 = .ok (.iconst 1, 1) := by decide +kernel
theorem dX10_leastLimit_8 : decode cX10_leastLimit 8 = .ok (.istore_n 2, 1) := by decide +kernel
theorem dX10_leastLimit_9 : decode cX10_leastLimit 9 = .ok (.aload_n 0, 1) := by decide +kernel
theorem dX10_leastLimit_10 : decode cX10_leastLimit 10 = .ok (.getfield 7, 3) := by decide +kernel
theorem dX10_leastLimit_13 : decode cX10_leastLimit 13 = .ok (.iconst 0, 1) := by decide +kernel
theorem dX10_leastLimit_14 : decode cX10_leastLimit 14 = .ok (.sipush 9999, 3) := by decide +kernel
theorem dX10_leastLimit_17 : decode cX10_leastLimit 17 = .ok (.iastore, 1) := by decide +kernel
theorem dX10_leastLimit_18 : decode cX10_leastLimit 18 = .ok (.iconst 0, 1) := by decide +kernel
theorem dX10_leastLimit_19 : decode cX10_leastLimit 19 = .ok (.istore_n 3, 1) := by decide +kernel
theorem dX10_leastLimit_20 : decode cX10_leastLimit 20 = .ok (.iload_n 3, 1) := by decide +kernel
theorem dX10_leastLimit_21 : decode cX10_leastLimit 21 = .ok (.bipush 11, 2) := by decide +kernel
theorem dX10_leastLimit_23 : decode cX10_leastLimit 23 = .ok (.if_icmp .ge 54, 3) := by decide +kernel
theorem dX10_leastLimit_26 : decode cX10_leastLimit 26 = .ok (.aload_n 0, 1) := by decide +kernel
theorem dX10_leastLimit_27 : decode cX10_leastLimit 27 = .ok (.iload_n 3, 1) := by decide +kernel
theorem dX10_leastLimit_28 : decode cX10_leastLimit 28 = .ok (.invokevirtual 86, 3) := by decide +kernel
theorem dX10_leastLimit_31 : decode cX10_leastLimit 31 = .ok (.istore 4, 2) := by decide +kernel
theorem dX10_leastLimit_33 : decode cX10_leastLimit 33 = .ok (.iconst 0, 1) := by decide +kernel
theorem dX10_leastLimit_34 : decode cX10_leastLimit 34 = .ok (.istore 5, 2) := by decide +kernel
theorem dX10_leastLimit_36 : decode cX10_leastLimit 36 = .ok (.iload 5, 2) := by decide +kernel
theorem dX10_leastLimit_38 : decode cX10_leastLimit 38 = .ok (.iconst 4, 1) := by decide +kernel
theorem dX10_leastLimit_39 : decode cX10_leastLimit 39 = .ok (.if_icmp .ge 32, 3) := by decide +kernel
theorem dX10_leastLimit_42 : decode cX10_leastLimit 42 = .ok (.aload_n 0, 1) := by decide +kernel
theorem dX10_leastLimit_43 : decode cX10_leastLimit 43 = .ok (.getfield 34, 3) := by decide +kernel
theorem dX10_leastLimit_46 : decode cX10_leastLimit 46 = .ok (.iload 5, 2) := by decide +kernel
theorem dX10_leastLimit_48 : decode cX10_leastLimit 48 = .ok (.iaload, 1) := by decide +kernel
theorem dX10_leastLimit_49 : decode cX10_leastLimit 49 = .ok (.iload_n 2, 1) := by decide +kernel
theorem dX10_leastLimit_50 : decode cX10_leastLimit 50 = .ok (.if_icmp .le 13, 3) := by decide +kernel
theorem dX10_leastLimit_53 : decode cX10_leastLimit 53 = .ok (.aload_n 0, 1) := by decide +kernel
theorem dX10_leastLimit_54 : decode cX10_leastLimit 54 = .ok (.getfield 34, 3) := by decide +kernel
theorem dX10_leastLimit_57 : decode cX10_leastLimit 57 = .ok (.iload 5, 2) := by decide +kernel
theorem dX10_leastLimit_59 : decode cX10_leastLimit 59 = .ok (.iaload, 1) := by decide +kernel
theorem dX10_leastLimit_60 : decode cX10_leastLimit 60 = .ok (.goto 4, 3) := by decide +kernel
theorem dX10_leastLimit_63 : decode cX10_leastLimit 63 = .ok (.iload_n 2, 1) := by decide +kernel
theorem dX10_leastLimit_64 : decode cX10_leastLimit 64 = .ok (.istore_n 2, 1) := by decide +kernel
theorem dX10_leastLimit_65 : decode cX10_leastLimit 65 = .ok (.iinc 5 1, 3) := by decide +kernel
theorem dX10_leastLimit_68 : decode cX10_leastLimit 68 = .ok (.goto (-32), 3) := by decide +kernel
theorem dX10_leastLimit_71 : decode cX10_leastLimit 71 = .ok (.iinc 3 1, 3) := by decide +kernel
theorem dX10_leastLimit_74 : decode cX10_leastLimit 74 = .ok (.goto (-54), 3) := by decide +kernel
theorem dX10_leastLimit_77 : decode cX10_leastLimit 77 = .ok (.aload_n 0, 1) := by decide +kernel
theorem dX10_leastLimit_78 : decode cX10_leastLimit 78 = .ok (.getfield 7, 3) := by decide +kernel
theorem dX10_leastLimit_81 : decode cX10_leastLimit 81 = .ok (.iconst 0, 1) := by decide +kernel
theorem dX10_leastLimit_82 : decode cX10_leastLimit 82 = .ok (.iload_n 1, 1) := by decide +kernel
theorem dX10_leastLimit_83 : decode cX10_leastLimit 83 = .ok (.iastore, 1) := by decide +kernel
theorem dX10_leastLimit_84 : decode cX10_leastLimit 84 = .ok (.iload_n 2, 1) := by decide +kernel
theorem dX10_leastLimit_85 : decode cX10_leastLimit 85 = .ok (.ireturn, 1) := by decide +kernel
theorem dX10_put_0 : decode cX10_put 0 = .ok (.iconst 0, 1) := by decide +kernel
theorem dX10_put_1 : decode cX10_put 1 = .ok (.istore_n 3, 1) := by decide +kernel
theorem dX10_put_2 : decode cX10_put 2 = .ok (.iconst 1, 1) := by decide +kernel
theorem dX10_put_3 : decode cX10_put 3 = .ok (.istore 4, 2) := by decide +kernel
theorem dX10_put_5 : decode cX10_put 5 = .ok (.lload_n 1, 1) := by decide +kernel
theorem dX10_put_6 : decode cX10_put 6 = .ok (.lstore 5, 2) := by decide +kernel
theorem dX10_put_8 : decode cX10_put 8 = .ok (.iload_n 3, 1) := by decide +kernel
theorem dX10_put_9 : decode cX10_put 9 = .ok (.bipush 8, 2) := by decide +kernel
theorem dX10_put_11 : decode cX10_put 11 = .ok (.if_icmp .ge 57, 3) := by decide +kernel
theorem dX10_put_14 : decode cX10_put 14 = .ok (.lload 5, 2) := by decide +kernel
theorem dX10_put_16 : decode cX10_put 16 = .ok (.ldc2_w 172, 3) := by decide +kernel
theorem dX10_put_19 : decode cX10_put 19 = .ok (.land, 1) := by decide +kernel
theorem dX10_put_20 : decode cX10_put 20 = .ok (.lconst 0, 1) := by decide +kernel
theorem dX10_put_21 : decode cX10_put 21 = .ok (.lcmp, 1) := by decide +kernel
theorem dX10_put_22 : decode cX10_put 22 = .ok (.ifCond .eq 46, 3) := by decide +kernel
theorem dX10_put_25 : decode cX10_put 25 = .ok (.iload 4, 2) := by decide +kernel
theorem dX10_put_27 : decode cX10_put 27 = .ok (.ifCond .eq 25, 3) := by decide +kernel
theorem dX10_put_30 : decode cX10_put 30 = .ok (.lload 5, 2) := by decide +kernel
theorem dX10_put_32 : decode cX10_put 32 = .ok (.ldc2_w 172, 3) := by decide +kernel
theorem dX10_put_35 : decode cX10_put 35 = .ok (.land, 1) := by decide +kernel
theorem dX10_put_36 : decode cX10_put 36 = .ok (.ldc2_w 174, 3) := by decide +kernel
theorem dX10_put_39 : decode cX10_put 39 = .ok (.ldc2_w 176, 3) := by decide +kernel
theorem dX10_put_42 : decode cX10_put 42 = .ok (.invokestatic 51, 3) := by decide +kernel
theorem dX10_put_45 : decode cX10_put 45 = .ok (.ifCond .eq 7, 3) := by decide +kernel
theorem dX10_put_48 : decode cX10_put 48 = .ok (.iconst 1, 1) := by decide +kernel
theorem dX10_put_49 : decode cX10_put 49 = .ok (.goto 4, 3) := by decide +kernel
theorem dX10_put_52 : decode cX10_put 52 = .ok (.iconst 0, 1) := by decide +kernel
theorem dX10_put_53 : decode cX10_put 53 = .ok (.istore 4, 2) := by decide +kernel
theorem dX10_put_55 : decode cX10_put 55 = .ok (.lload 5, 2) := by decide +kernel
theorem dX10_put_57 : decode cX10_put 57 = .ok (.bipush 8, 2) := by decide +kernel
theorem dX10_put_59 : decode cX10_put 59 = .ok (.lushr, 1) := by decide +kernel
theorem dX10_put_60 : decode cX10_put 60 = .ok (.lstore 5, 2) := by decide +kernel
theorem dX10_put_62 : decode cX10_put 62 = .ok (.iinc 3 1, 3) := by decide +kernel
theorem dX10_put_65 : decode cX10_put 65 = .ok (.goto (-57), 3) := by decide +kernel
theorem dX10_put_68 : decode cX10_put 68 = .ok (.iload_n 3, 1) := by decide +kernel
theorem dX10_put_69 : decode cX10_put 69 = .ok (.ifCond .eq 15, 3) := by decide +kernel
theorem dX10_put_72 : decode cX10_put 72 = .ok (.lload 5, 2) := by decide +kernel
theorem dX10_put_74 : decode cX10_put 74 = .ok (.lconst 0, 1) := by decide +kernel
theorem dX10_put_75 : decode cX10_put 75 = .ok (.lcmp, 1) := by decide +kernel
theorem dX10_put_76 : decode cX10_put 76 = .ok (.ifCond .ne 8, 3) := by decide +kernel
theorem dX10_put_79 : decode cX10_put 79 = .ok (.iload 4, 2) := by decide +kernel
theorem dX10_put_81 : decode cX10_put 81 = .ok (.ifCond .ne 6, 3) := by decide +kernel
theorem dX10_put_84 : decode cX10_put 84 = .ok (.bipush (-2), 2) := by decide +kernel
theorem dX10_put_86 : decode cX10_put 86 = .ok (.ireturn, 1) := by decide +kernel
theorem dX10_put_87 : decode cX10_put 87 = .ok (.aload_n 0, 1) := by decide +kernel
theorem dX10_put_88 : decode cX10_put 88 = .ok (.getfield 169, 3) := by decide +kernel
theorem dX10_put_91 : decode cX10_put 91 = .ok (.iload_n 3, 1) := by decide +kernel
theorem dX10_put_92 : decode cX10_put 92 = .ok (.iadd, 1) := by decide +kernel
theorem dX10_put_93 : decode cX10_put 93 = .ok (.bipush 80, 2) := by decide +kernel
theorem dX10_put_95 : decode cX10_put 95 = .ok (.if_icmp .le 6, 3) := by decide +kernel
theorem dX10_put_98 : decode cX10_put 98 = .ok (.bipush (-4), 2) := by decide +kernel
theorem dX10_put_100 : decode cX10_put 100 = .ok (.ireturn, 1) := by decide +kernel
theorem dX10_put_101 : decode cX10_put 101 = .ok (.iload_n 3, 1) := by decide +kernel
theorem dX10_put_102 : decode cX10_put 102 = .ok (.iconst 1, 1) := by decide +kernel
theorem dX10_put_103 : decode cX10_put 103 = .ok (.isub, 1) := by decide +kernel
theorem dX10_put_104 : decode cX10_put 104 = .ok (.istore 7, 2) := by decide +kernel
theorem dX10_put_106 : decode cX10_put 106 = .ok (.iload 7, 2) := by decide +kernel
theorem dX10_put_108 : decode cX10_put 108 = .ok (.ifCond .lt 40, 3) := by decide +kernel
theorem dX10_put_111 : decode cX10_put 111 = .ok (.aload_n 0, 1) := by decide +kernel
theorem dX10_put_112 : decode cX10_put 112 = .ok (.getfield 40, 3) := by decide +kernel
theorem dX10_put_115 : decode cX10_put 115 = .ok (.aload_n 0, 1) := by decide +kernel
theorem dX10_put_116 : decode cX10_put 116 = .ok (.getfield 169, 3) := by decide +kernel
theorem dX10_put_119 : decode cX10_put 119 = .ok (.lload_n 1, 1) := by decide +kernel
theorem dX10_put_120 : decode cX10_put 120 = .ok (.bipush 8, 2) := by decide +kernel
theorem dX10_put_122 : decode cX10_put 122 = .ok (.iload 7, 2) := by decide +kernel
theorem dX10_put_124 : decode cX10_put 124 = .ok (.imul, 1) := by decide +kernel
theorem dX10_put_125 : decode cX10_put 125 = .ok (.lushr, 1) := by decide +kernel
theorem dX10_put_126 : decode cX10_put 126 = .ok (.ldc2_w 172, 3) := by decide +kernel
theorem dX10_put_129 : decode cX10_put 129 = .ok (.land, 1) := by decide +kernel
theorem dX10_put_130 : decode cX10_put 130 = .ok (.l2i, 1) := by decide +kernel
theorem dX10_put_131 : decode cX10_put 131 = .ok (.iastore, 1) := by decide +kernel
theorem dX10_put_132 : decode cX10_put 132 = .ok (.aload_n 0, 1) := by decide +kernel
theorem dX10_put_133 : decode cX10_put 133 = .ok (.dup, 1) := by decide +kernel
theorem dX10_put_134 : decode cX10_put 134 = .ok (.getfield 169, 3) := by decide +kernel
theorem dX10_put_137 : decode cX10_put 137 = .ok (.iconst 1, 1) := by decide +kernel
theorem dX10_put_138 : decode cX10_put 138 = .ok (.iadd, 1) := by decide +kernel
theorem dX10_put_139 : decode cX10_put 139 = .ok (.putfield 169, 3) := by decide +kernel
theorem dX10_put_142 : decode cX10_put 142 = .ok (.iinc 7 (-1), 3) := by decide +kernel
theorem dX10_put_145 : decode cX10_put 145 = .ok (.goto (-39), 3) := by decide +kernel
theorem dX10_put_148 : decode cX10_put 148 = .ok (.aload_n 0, 1) := by decide +kernel
theorem dX10_put_149 : decode cX10_put 149 = .ok (.getfield 169, 3) := by decide +kernel
theorem dX10_put_152 : decode cX10_put 152 = .ok (.ireturn, 1) := by decide +kernel
theorem dX10_wipe_0 : decode cX10_wipe 0 = .ok (.aload_n 0, 1) := by decide +kernel
theorem dX10_wipe_1 : decode cX10_wipe 1 = .ok (.getfield 169, 3) := by decide +kernel
theorem dX10_wipe_4 : decode cX10_wipe 4 = .ok (.istore_n 1, 1) := by decide +kernel
theorem dX10_wipe_5 : decode cX10_wipe 5 = .ok (.aload_n 0, 1) := by decide +kernel
theorem dX10_wipe_6 : decode cX10_wipe 6 = .ok (.iconst 0, 1) := by decide +kernel
theorem dX10_wipe_7 : decode cX10_wipe 7 = .ok (.putfield 169, 3) := by decide +kernel
theorem dX10_wipe_10 : decode cX10_wipe 10 = .ok (.iload_n 1, 1) := by decide +kernel
theorem dX10_wipe_11 : decode cX10_wipe 11 = .ok (.ireturn, 1) := by decide +kernel
theorem dX10_isHere_0 : decode cX10_isHere 0 = .ok (.aload_n 0, 1) := by decide +kernel
theorem dX10_isHere_1 : decode cX10_isHere 1 = .ok (.getfield 178, 3) := by decide +kernel
theorem dX10_isHere_4 : decode cX10_isHere 4 = .ok (.aload_n 0, 1) := by decide +kernel
theorem dX10_isHere_5 : decode cX10_isHere 5 = .ok (.getfield 169, 3) := by decide +kernel
theorem dX10_isHere_8 : decode cX10_isHere 8 = .ok (.if_icmp .ge 27, 3) := by decide +kernel
theorem dX10_isHere_11 : decode cX10_isHere 11 = .ok (.aload_n 0, 1) := by decide +kernel
theorem dX10_isHere_12 : decode cX10_isHere 12 = .ok (.getfield 40, 3) := by decide +kernel
theorem dX10_isHere_15 : decode cX10_isHere 15 = .ok (.aload_n 0, 1) := by decide +kernel
theorem dX10_isHere_16 : decode cX10_isHere 16 = .ok (.getfield 178, 3) := by decide +kernel
theorem dX10_isHere_19 : decode cX10_isHere 19 = .ok (.iaload, 1) := by decide +kernel
theorem dX10_isHere_20 : decode cX10_isHere 20 = .ok (.i2l, 1) := by decide +kernel
theorem dX10_isHere_21 : decode cX10_isHere 21 = .ok (.iload_n 1, 1) := by decide +kernel
theorem dX10_isHere_22 : decode cX10_isHere 22 = .ok (.i2l, 1) := by decide +kernel
theorem dX10_isHere_23 : decode cX10_isHere 23 = .ok (.iload_n 2, 1) := by decide +kernel
theorem dX10_isHere_24 : decode cX10_isHere 24 = .ok (.i2l, 1) := by decide +kernel
theorem dX10_isHere_25 : decode cX10_isHere 25 = .ok (.invokestatic 51, 3) := by decide +kernel
theorem dX10_isHere_28 : decode cX10_isHere 28 = .ok (.ifCond .eq 7, 3) := by decide +kernel
theorem dX10_isHere_31 : decode cX10_isHere 31 = .ok (.iconst 1, 1) := by decide +kernel
theorem dX10_isHere_32 : decode cX10_isHere 32 = .ok (.goto 4, 3) := by decide +kernel
theorem dX10_isHere_35 : decode cX10_isHere 35 = .ok (.iconst 0, 1) := by decide +kernel
theorem dX10_isHere_36 : decode cX10_isHere 36 = .ok (.ireturn, 1) := by decide +kernel
theorem dX10_takes_0 : decode cX10_takes 0 = .ok (.aload_n 0, 1) := by decide +kernel
theorem dX10_takes_1 : decode cX10_takes 1 = .ok (.iload_n 1, 1) := by decide +kernel
theorem dX10_takes_2 : decode cX10_takes 2 = .ok (.iload_n 1, 1) := by decide +kernel
theorem dX10_takes_3 : decode cX10_takes 3 = .ok (.invokevirtual 181, 3) := by decide +kernel
theorem dX10_takes_6 : decode cX10_takes 6 = .ok (.istore_n 2, 1) := by decide +kernel
theorem dX10_takes_7 : decode cX10_takes 7 = .ok (.aload_n 0, 1) := by decide +kernel
theorem dX10_takes_8 : decode cX10_takes 8 = .ok (.dup, 1) := by decide +kernel
theorem dX10_takes_9 : decode cX10_takes 9 = .ok (.getfield 178, 3) := by decide +kernel
theorem dX10_takes_12 : decode cX10_takes 12 = .ok (.iload_n 2, 1) := by decide +kernel
theorem dX10_takes_13 : decode cX10_takes 13 = .ok (.ifCond .eq 7, 3) := by decide +kernel
theorem dX10_takes_16 : decode cX10_takes 16 = .ok (.iconst 1, 1) := by decide +kernel
theorem dX10_takes_17 : decode cX10_takes 17 = .ok (.goto 4, 3) := by decide +kernel
theorem dX10_takes_20 : decode cX10_takes 20 = .ok (.iconst 0, 1) := by decide +kernel
theorem dX10_takes_21 : decode cX10_takes 21 = .ok (.iadd, 1) := by decide +kernel
theorem dX10_takes_22 : decode cX10_takes 22 = .ok (.putfield 178, 3) := by decide +kernel
theorem dX10_takes_25 : decode cX10_takes 25 = .ok (.iload_n 2, 1) := by decide +kernel
theorem dX10_takes_26 : decode cX10_takes 26 = .ok (.ireturn, 1) := by decide +kernel
theorem dX10_readsNumber_0 : decode cX10_readsNumber 0 = .ok (.aload_n 0, 1) := by decide +kernel
theorem dX10_readsNumber_1 : decode cX10_readsNumber 1 = .ok (.bipush 48, 2) := by decide +kernel
theorem dX10_readsNumber_3 : decode cX10_readsNumber 3 = .ok (.bipush 57, 2) := by decide +kernel
theorem dX10_readsNumber_5 : decode cX10_readsNumber 5 = .ok (.invokevirtual 181, 3) := by decide +kernel
theorem dX10_readsNumber_8 : decode cX10_readsNumber 8 = .ok (.ifCond .eq 19, 3) := by decide +kernel
theorem dX10_readsNumber_11 : decode cX10_readsNumber 11 = .ok (.aload_n 0, 1) := by decide +kernel
theorem dX10_readsNumber_12 : decode cX10_readsNumber 12 = .ok (.getfield 40, 3) := by decide +kernel
theorem dX10_readsNumber_15 : decode cX10_readsNumber 15 = .ok (.aload_n 0, 1) := by decide +kernel
theorem dX10_readsNumber_16 : decode cX10_readsNumber 16 = .ok (.getfield 178, 3) := by decide +kernel
theorem dX10_readsNumber_19 : decode cX10_readsNumber 19 = .ok (.iaload, 1) := by decide +kernel
theorem dX10_readsNumber_20 : decode cX10_readsNumber 20 = .ok (.bipush 48, 2) := by decide +kernel
theorem dX10_readsNumber_22 : decode cX10_readsNumber 22 = .ok (.isub, 1) := by decide +kernel
theorem dX10_readsNumber_23 : decode cX10_readsNumber 23 = .ok (.iload_n 1, 1) := by decide +kernel
theorem dX10_readsNumber_24 : decode cX10_readsNumber 24 = .ok (.if_icmp .le 5, 3) := by decide +kernel
theorem dX10_readsNumber_27 : decode cX10_readsNumber 27 = .ok (.iconst 0, 1) := by decide +kernel
theorem dX10_readsNumber_28 : decode cX10_readsNumber 28 = .ok (.ireturn, 1) := by decide +kernel
theorem dX10_readsNumber_29 : decode cX10_readsNumber 29 = .ok (.aload_n 0, 1) := by decide +kernel
theorem dX10_readsNumber_30 : decode cX10_readsNumber 30 = .ok (.aload_n 0, 1) := by decide +kernel
theorem dX10_readsNumber_31 : decode cX10_readsNumber 31 = .ok (.getfield 40, 3) := by decide +kernel
theorem dX10_readsNumber_34 : decode cX10_readsNumber 34 = .ok (.aload_n 0, 1) := by decide +kernel
theorem dX10_readsNumber_35 : decode cX10_readsNumber 35 = .ok (.getfield 178, 3) := by decide +kernel
theorem dX10_readsNumber_38 : decode cX10_readsNumber 38 = .ok (.iaload, 1) := by decide +kernel
theorem dX10_readsNumber_39 : decode cX10_readsNumber 39 = .ok (.bipush 48, 2) := by decide +kernel
theorem dX10_readsNumber_41 : decode cX10_readsNumber 41 = .ok (.isub, 1) := by decide +kernel
theorem dX10_readsNumber_42 : decode cX10_readsNumber 42 = .ok (.putfield 184, 3) := by decide +kernel
theorem dX10_readsNumber_45 : decode cX10_readsNumber 45 = .ok (.aload_n 0, 1) := by decide +kernel
theorem dX10_readsNumber_46 : decode cX10_readsNumber 46 = .ok (.dup, 1) := by decide +kernel
theorem dX10_readsNumber_47 : decode cX10_readsNumber 47 = .ok (.getfield 178, 3) := by decide +kernel
theorem dX10_readsNumber_50 : decode cX10_readsNumber 50 = .ok (.iconst 1, 1) := by decide +kernel
theorem dX10_readsNumber_51 : decode cX10_readsNumber 51 = .ok (.iadd, 1) := by decide +kernel
theorem dX10_readsNumber_52 : decode cX10_readsNumber 52 = .ok (.putfield 178, 3) := by decide +kernel
theorem dX10_readsNumber_55 : decode cX10_readsNumber 55 = .ok (.aload_n 0, 1) := by decide +kernel
theorem dX10_readsNumber_56 : decode cX10_readsNumber 56 = .ok (.getfield 184, 3) := by decide +kernel
theorem dX10_readsNumber_59 : decode cX10_readsNumber 59 = .ok (.ifCond .le 75, 3) := by decide +kernel
theorem dX10_readsNumber_62 : decode cX10_readsNumber 62 = .ok (.aload_n 0, 1) := by decide +kernel
theorem dX10_readsNumber_63 : decode cX10_readsNumber 63 = .ok (.bipush 48, 2) := by decide +kernel
theorem dX10_readsNumber_65 : decode cX10_readsNumber 65 = .ok (.bipush 57, 2) := by decide +kernel
theorem dX10_readsNumber_67 : decode cX10_readsNumber 67 = .ok (.invokevirtual 181, 3) := by decide +kernel
theorem dX10_readsNumber_70 : decode cX10_readsNumber 70 = .ok (.ifCond .eq 64, 3) := by decide +kernel
theorem dX10_readsNumber_73 : decode cX10_readsNumber 73 = .ok (.bipush 10, 2) := by decide +kernel
theorem dX10_readsNumber_75 : decode cX10_readsNumber 75 = .ok (.aload_n 0, 1) := by decide +kernel
theorem dX10_readsNumber_76 : decode cX10_readsNumber 76 = .ok (.getfield 184, 3) := by decide +kernel
theorem dX10_readsNumber_79 : decode cX10_readsNumber 79 = .ok (.imul, 1) := by decide +kernel
theorem dX10_readsNumber_80 : decode cX10_readsNumber 80 = .ok (.aload_n 0, 1) := by decide +kernel
theorem dX10_readsNumber_81 : decode cX10_readsNumber 81 = .ok (.getfield 40, 3) := by decide +kernel
theorem dX10_readsNumber_84 : decode cX10_readsNumber 84 = .ok (.aload_n 0, 1) := by decide +kernel
theorem dX10_readsNumber_85 : decode cX10_readsNumber 85 = .ok (.getfield 178, 3) := by decide +kernel
theorem dX10_readsNumber_88 : decode cX10_readsNumber 88 = .ok (.iaload, 1) := by decide +kernel
theorem dX10_readsNumber_89 : decode cX10_readsNumber 89 = .ok (.iadd, 1) := by decide +kernel
theorem dX10_readsNumber_90 : decode cX10_readsNumber 90 = .ok (.bipush 48, 2) := by decide +kernel
theorem dX10_readsNumber_92 : decode cX10_readsNumber 92 = .ok (.isub, 1) := by decide +kernel
theorem dX10_readsNumber_93 : decode cX10_readsNumber 93 = .ok (.iload_n 1, 1) := by decide +kernel
theorem dX10_readsNumber_94 : decode cX10_readsNumber 94 = .ok (.if_icmp .gt 40, 3) := by decide +kernel
theorem dX10_readsNumber_97 : decode cX10_readsNumber 97 = .ok (.aload_n 0, 1) := by decide +kernel
theorem dX10_readsNumber_98 : decode cX10_readsNumber 98 = .ok (.bipush 10, 2) := by decide +kernel
theorem dX10_readsNumber_100 : decode cX10_readsNumber 100 = .ok (.aload_n 0, 1) := by decide +kernel
theorem dX10_readsNumber_101 : decode cX10_readsNumber 101 = .ok (.getfield 184, 3) := by decide +kernel
theorem dX10_readsNumber_104 : decode cX10_readsNumber 104 = .ok (.imul, 1) := by decide +kernel
theorem dX10_readsNumber_105 : decode cX10_readsNumber 105 = .ok (.aload_n 0, 1) := by decide +kernel
theorem dX10_readsNumber_106 : decode cX10_readsNumber 106 = .ok (.getfield 40, 3) := by decide +kernel
theorem dX10_readsNumber_109 : decode cX10_readsNumber 109 = .ok (.aload_n 0, 1) := by decide +kernel
theorem dX10_readsNumber_110 : decode cX10_readsNumber 110 = .ok (.getfield 178, 3) := by decide +kernel
theorem dX10_readsNumber_113 : decode cX10_readsNumber 113 = .ok (.iaload, 1) := by decide +kernel
theorem dX10_readsNumber_114 : decode cX10_readsNumber 114 = .ok (.iadd, 1) := by decide +kernel
theorem dX10_readsNumber_115 : decode cX10_readsNumber 115 = .ok (.bipush 48, 2) := by decide +kernel
theorem dX10_readsNumber_117 : decode cX10_readsNumber 117 = .ok (.isub, 1) := by decide +kernel
theorem dX10_readsNumber_118 : decode cX10_readsNumber 118 = .ok (.putfield 184, 3) := by decide +kernel
theorem dX10_readsNumber_121 : decode cX10_readsNumber 121 = .ok (.aload_n 0, 1) := by decide +kernel
theorem dX10_readsNumber_122 : decode cX10_readsNumber 122 = .ok (.dup, 1) := by decide +kernel
theorem dX10_readsNumber_123 : decode cX10_readsNumber 123 = .ok (.getfield 178, 3) := by decide +kernel
theorem dX10_readsNumber_126 : decode cX10_readsNumber 126 = .ok (.iconst 1, 1) := by decide +kernel
theorem dX10_readsNumber_127 : decode cX10_readsNumber 127 = .ok (.iadd, 1) := by decide +kernel
theorem dX10_readsNumber_128 : decode cX10_readsNumber 128 = .ok (.putfield 178, 3) := by decide +kernel
theorem dX10_readsNumber_131 : decode cX10_readsNumber 131 = .ok (.goto (-76), 3) := by decide +kernel
theorem dX10_readsNumber_134 : decode cX10_readsNumber 134 = .ok (.iconst 1, 1) := by decide +kernel
theorem dX10_readsNumber_135 : decode cX10_readsNumber 135 = .ok (.ireturn, 1) := by decide +kernel
theorem dX10_does_0 : decode cX10_does 0 = .ok (.aload_n 0, 1) := by decide +kernel
theorem dX10_does_1 : decode cX10_does 1 = .ok (.iload_n 1, 1) := by decide +kernel
theorem dX10_does_2 : decode cX10_does 2 = .ok (.ifCond .ge 7, 3) := by decide +kernel
theorem dX10_does_5 : decode cX10_does 5 = .ok (.iload_n 1, 1) := by decide +kernel
theorem dX10_does_6 : decode cX10_does 6 = .ok (.goto 4, 3) := by decide +kernel
theorem dX10_does_9 : decode cX10_does 9 = .ok (.iconst 0, 1) := by decide +kernel
theorem dX10_does_10 : decode cX10_does 10 = .ok (.putfield 187, 3) := by decide +kernel
theorem dX10_does_13 : decode cX10_does 13 = .ok (.return_, 1) := by decide +kernel
theorem dX10_readsMirror_0 : decode cX10_readsMirror 0 = .ok (.aload_n 0, 1) := by decide +kernel
theorem dX10_readsMirror_1 : decode cX10_readsMirror 1 = .ok (.bipush 99, 2) := by decide +kernel
theorem dX10_readsMirror_3 : decode cX10_readsMirror 3 = .ok (.invokevirtual 190, 3) := by decide +kernel
theorem dX10_readsMirror_6 : decode cX10_readsMirror 6 = .ok (.ifCond .ne 5, 3) := by decide +kernel
theorem dX10_readsMirror_9 : decode cX10_readsMirror 9 = .ok (.iconst 0, 1) := by decide +kernel
theorem dX10_readsMirror_10 : decode cX10_readsMirror 10 = .ok (.ireturn, 1) := by decide +kernel
theorem dX10_readsMirror_11 : decode cX10_readsMirror 11 = .ok (.aload_n 0, 1) := by decide +kernel
theorem dX10_readsMirror_12 : decode cX10_readsMirror 12 = .ok (.getfield 184, 3) := by decide +kernel
theorem dX10_readsMirror_15 : decode cX10_readsMirror 15 = .ok (.istore_n 1, 1) := by decide +kernel
theorem dX10_readsMirror_16 : decode cX10_readsMirror 16 = .ok (.aload_n 0, 1) := by decide +kernel
theorem dX10_readsMirror_17 : decode cX10_readsMirror 17 = .ok (.bipush 46, 2) := by decide +kernel
theorem dX10_readsMirror_19 : decode cX10_readsMirror 19 = .ok (.invokevirtual 193, 3) := by decide +kernel
theorem dX10_readsMirror_22 : decode cX10_readsMirror 22 = .ok (.ifCond .eq 12, 3) := by decide +kernel
theorem dX10_readsMirror_25 : decode cX10_readsMirror 25 = .ok (.aload_n 0, 1) := by decide +kernel
theorem dX10_readsMirror_26 : decode cX10_readsMirror 26 = .ok (.bipush 99, 2) := by decide +kernel
theorem dX10_readsMirror_28 : decode cX10_readsMirror 28 = .ok (.invokevirtual 190, 3) := by decide +kernel
theorem dX10_readsMirror_31 : decode cX10_readsMirror 31 = .ok (.ifCond .ne 5, 3) := by decide +kernel
theorem dX10_readsMirror_34 : decode cX10_readsMirror 34 = .ok (.iconst 0, 1) := by decide +kernel
theorem dX10_readsMirror_35 : decode cX10_readsMirror 35 = .ok (.ireturn, 1) := by decide +kernel
theorem dX10_readsMirror_36 : decode cX10_readsMirror 36 = .ok (.aload_n 0, 1) := by decide +kernel
theorem dX10_readsMirror_37 : decode cX10_readsMirror 37 = .ok (.getfield 184, 3) := by decide +kernel
theorem dX10_readsMirror_40 : decode cX10_readsMirror 40 = .ok (.istore_n 2, 1) := by decide +kernel
theorem dX10_readsMirror_41 : decode cX10_readsMirror 41 = .ok (.aload_n 0, 1) := by decide +kernel
theorem dX10_readsMirror_42 : decode cX10_readsMirror 42 = .ok (.iconst 0, 1) := by decide +kernel
theorem dX10_readsMirror_43 : decode cX10_readsMirror 43 = .ok (.putfield 184, 3) := by decide +kernel
theorem dX10_readsMirror_46 : decode cX10_readsMirror 46 = .ok (.aload_n 0, 1) := by decide +kernel
theorem dX10_readsMirror_47 : decode cX10_readsMirror 47 = .ok (.bipush 97, 2) := by decide +kernel
theorem dX10_readsMirror_49 : decode cX10_readsMirror 49 = .ok (.invokevirtual 193, 3) := by decide +kernel
theorem dX10_readsMirror_52 : decode cX10_readsMirror 52 = .ok (.ifCond .eq 13, 3) := by decide +kernel
theorem dX10_readsMirror_55 : decode cX10_readsMirror 55 = .ok (.aload_n 0, 1) := by decide +kernel
theorem dX10_readsMirror_56 : decode cX10_readsMirror 56 = .ok (.iconst 3, 1) := by decide +kernel
theorem dX10_readsMirror_57 : decode cX10_readsMirror 57 = .ok (.invokevirtual 190, 3) := by decide +kernel
theorem dX10_readsMirror_60 : decode cX10_readsMirror 60 = .ok (.ifCond .ne 5, 3) := by decide +kernel
theorem dX10_readsMirror_63 : decode cX10_readsMirror 63 = .ok (.iconst 0, 1) := by decide +kernel
theorem dX10_readsMirror_64 : decode cX10_readsMirror 64 = .ok (.ireturn, 1) := by decide +kernel
theorem dX10_readsMirror_65 : decode cX10_readsMirror 65 = .ok (.aload_n 0, 1) := by decide +kernel
theorem dX10_readsMirror_66 : decode cX10_readsMirror 66 = .ok (.getfield 196, 3) := by decide +kernel
theorem dX10_readsMirror_69 : decode cX10_readsMirror 69 = .ok (.ifCond .eq 17, 3) := by decide +kernel
theorem dX10_readsMirror_72 : decode cX10_readsMirror 72 = .ok (.aload_n 0, 1) := by decide +kernel
theorem dX10_readsMirror_73 : decode cX10_readsMirror 73 = .ok (.aload_n 0, 1) := by decide +kernel
theorem dX10_readsMirror_74 : decode cX10_readsMirror 74 = .ok (.iload_n 1, 1) := by decide +kernel
theorem dX10_readsMirror_75 : decode cX10_readsMirror 75 = .ok (.iload_n 2, 1) := by decide +kernel
theorem dX10_readsMirror_76 : decode cX10_readsMirror 76 = .ok (.aload_n 0, 1) := by decide +kernel
theorem dX10_readsMirror_77 : decode cX10_readsMirror 77 = .ok (.getfield 184, 3) := by decide +kernel
theorem dX10_readsMirror_80 : decode cX10_readsMirror 80 = .ok (.invokevirtual 128, 3) := by decide +kernel
theorem dX10_readsMirror_83 : decode cX10_readsMirror 83 = .ok (.invokevirtual 200, 3) := by decide +kernel
theorem dX10_readsMirror_86 : decode cX10_readsMirror 86 = .ok (.iconst 1, 1) := by decide +kernel
theorem dX10_readsMirror_87 : decode cX10_readsMirror 87 = .ok (.ireturn, 1) := by decide +kernel
theorem dX10_readsAim_0 : decode cX10_readsAim 0 = .ok (.aload_n 0, 1) := by decide +kernel
theorem dX10_readsAim_1 : decode cX10_readsAim 1 = .ok (.bipush 99, 2) := by decide +kernel
theorem dX10_readsAim_3 : decode cX10_readsAim 3 = .ok (.invokevirtual 190, 3) := by decide +kernel
theorem dX10_readsAim_6 : decode cX10_readsAim 6 = .ok (.ifCond .ne 5, 3) := by decide +kernel
theorem dX10_readsAim_9 : decode cX10_readsAim 9 = .ok (.iconst 0, 1) := by decide +kernel
theorem dX10_readsAim_10 : decode cX10_readsAim 10 = .ok (.ireturn, 1) := by decide +kernel
theorem dX10_readsAim_11 : decode cX10_readsAim 11 = .ok (.aload_n 0, 1) := by decide +kernel
theorem dX10_readsAim_12 : decode cX10_readsAim 12 = .ok (.getfield 184, 3) := by decide +kernel
theorem dX10_readsAim_15 : decode cX10_readsAim 15 = .ok (.istore_n 1, 1) := by decide +kernel
theorem dX10_readsAim_16 : decode cX10_readsAim 16 = .ok (.aload_n 0, 1) := by decide +kernel
theorem dX10_readsAim_17 : decode cX10_readsAim 17 = .ok (.bipush 62, 2) := by decide +kernel
theorem dX10_readsAim_19 : decode cX10_readsAim 19 = .ok (.invokevirtual 193, 3) := by decide +kernel
theorem dX10_readsAim_22 : decode cX10_readsAim 22 = .ok (.ifCond .eq 11, 3) := by decide +kernel
theorem dX10_readsAim_25 : decode cX10_readsAim 25 = .ok (.aload_n 0, 1) := by decide +kernel
theorem dX10_readsAim_26 : decode cX10_readsAim 26 = .ok (.iconst 3, 1) := by decide +kernel
theorem dX10_readsAim_27 : decode cX10_readsAim 27 = .ok (.invokevirtual 190, 3) := by decide +kernel
theorem dX10_readsAim_30 : decode cX10_readsAim 30 = .ok (.ifCond .ne 5, 3) := by decide +kernel
theorem dX10_readsAim_33 : decode cX10_readsAim 33 = .ok (.iconst 0, 1) := by decide +kernel
theorem dX10_readsAim_34 : decode cX10_readsAim 34 = .ok (.ireturn, 1) := by decide +kernel
theorem dX10_readsAim_35 : decode cX10_readsAim 35 = .ok (.aload_n 0, 1) := by decide +kernel
theorem dX10_readsAim_36 : decode cX10_readsAim 36 = .ok (.getfield 196, 3) := by decide +kernel
theorem dX10_readsAim_39 : decode cX10_readsAim 39 = .ok (.ifCond .eq 16, 3) := by decide +kernel
theorem dX10_readsAim_42 : decode cX10_readsAim 42 = .ok (.aload_n 0, 1) := by decide +kernel
theorem dX10_readsAim_43 : decode cX10_readsAim 43 = .ok (.aload_n 0, 1) := by decide +kernel
theorem dX10_readsAim_44 : decode cX10_readsAim 44 = .ok (.iload_n 1, 1) := by decide +kernel
theorem dX10_readsAim_45 : decode cX10_readsAim 45 = .ok (.aload_n 0, 1) := by decide +kernel
theorem dX10_readsAim_46 : decode cX10_readsAim 46 = .ok (.getfield 184, 3) := by decide +kernel
theorem dX10_readsAim_49 : decode cX10_readsAim 49 = .ok (.invokevirtual 138, 3) := by decide +kernel
theorem dX10_readsAim_52 : decode cX10_readsAim 52 = .ok (.invokevirtual 200, 3) := by decide +kernel
theorem dX10_readsAim_55 : decode cX10_readsAim 55 = .ok (.iconst 1, 1) := by decide +kernel
theorem dX10_readsAim_56 : decode cX10_readsAim 56 = .ok (.ireturn, 1) := by decide +kernel
theorem dX10_readsOrder_0 : decode cX10_readsOrder 0 = .ok (.aload_n 0, 1) := by decide +kernel
theorem dX10_readsOrder_1 : decode cX10_readsOrder 1 = .ok (.bipush 43, 2) := by decide +kernel
theorem dX10_readsOrder_3 : decode cX10_readsOrder 3 = .ok (.invokevirtual 193, 3) := by decide +kernel
theorem dX10_readsOrder_6 : decode cX10_readsOrder 6 = .ok (.ifCond .eq 8, 3) := by decide +kernel
theorem dX10_readsOrder_9 : decode cX10_readsOrder 9 = .ok (.aload_n 0, 1) := by decide +kernel
theorem dX10_readsOrder_10 : decode cX10_readsOrder 10 = .ok (.invokevirtual 203, 3) := by decide +kernel
theorem dX10_readsOrder_13 : decode cX10_readsOrder 13 = .ok (.ireturn, 1) := by decide +kernel
theorem dX10_readsOrder_14 : decode cX10_readsOrder 14 = .ok (.aload_n 0, 1) := by decide +kernel
theorem dX10_readsOrder_15 : decode cX10_readsOrder 15 = .ok (.bipush 97, 2) := by decide +kernel
theorem dX10_readsOrder_17 : decode cX10_readsOrder 17 = .ok (.invokevirtual 193, 3) := by decide +kernel
theorem dX10_readsOrder_20 : decode cX10_readsOrder 20 = .ok (.ifCond .eq 8, 3) := by decide +kernel
theorem dX10_readsOrder_23 : decode cX10_readsOrder 23 = .ok (.aload_n 0, 1) := by decide +kernel
theorem dX10_readsOrder_24 : decode cX10_readsOrder 24 = .ok (.invokevirtual 206, 3) := by decide +kernel
theorem dX10_readsOrder_27 : decode cX10_readsOrder 27 = .ok (.ireturn, 1) := by decide +kernel
theorem dX10_readsOrder_28 : decode cX10_readsOrder 28 = .ok (.aload_n 0, 1) := by decide +kernel
theorem dX10_readsOrder_29 : decode cX10_readsOrder 29 = .ok (.bipush 120, 2) := by decide +kernel
theorem dX10_readsOrder_31 : decode cX10_readsOrder 31 = .ok (.bipush 120, 2) := by decide +kernel
theorem dX10_readsOrder_33 : decode cX10_readsOrder 33 = .ok (.invokevirtual 181, 3) := by decide +kernel
theorem dX10_readsOrder_36 : decode cX10_readsOrder 36 = .ok (.ifCond .ne 36, 3) := by decide +kernel
theorem dX10_readsOrder_39 : decode cX10_readsOrder 39 = .ok (.aload_n 0, 1) := by decide +kernel
theorem dX10_readsOrder_40 : decode cX10_readsOrder 40 = .ok (.bipush 119, 2) := by decide +kernel
theorem dX10_readsOrder_42 : decode cX10_readsOrder 42 = .ok (.bipush 119, 2) := by decide +kernel
theorem dX10_readsOrder_44 : decode cX10_readsOrder 44 = .ok (.invokevirtual 181, 3) := by decide +kernel
theorem dX10_readsOrder_47 : decode cX10_readsOrder 47 = .ok (.ifCond .ne 25, 3) := by decide +kernel
theorem dX10_readsOrder_50 : decode cX10_readsOrder 50 = .ok (.aload_n 0, 1) := by decide +kernel
theorem dX10_readsOrder_51 : decode cX10_readsOrder 51 = .ok (.bipush 118, 2) := by decide +kernel
theorem dX10_readsOrder_53 : decode cX10_readsOrder 53 = .ok (.bipush 118, 2) := by decide +kernel
theorem dX10_readsOrder_55 : decode cX10_readsOrder 55 = .ok (.invokevirtual 181, 3) := by decide +kernel
theorem dX10_readsOrder_58 : decode cX10_readsOrder 58 = .ok (.ifCond .ne 14, 3) := by decide +kernel
theorem dX10_readsOrder_61 : decode cX10_readsOrder 61 = .ok (.aload_n 0, 1) := by decide +kernel
theorem dX10_readsOrder_62 : decode cX10_readsOrder 62 = .ok (.bipush 116, 2) := by decide +kernel
theorem dX10_readsOrder_64 : decode cX10_readsOrder 64 = .ok (.bipush 116, 2) := by decide +kernel
theorem dX10_readsOrder_66 : decode cX10_readsOrder 66 = .ok (.invokevirtual 181, 3) := by decide +kernel
theorem dX10_readsOrder_69 : decode cX10_readsOrder 69 = .ok (.ifCond .eq 15, 3) := by decide +kernel
theorem dX10_readsOrder_72 : decode cX10_readsOrder 72 = .ok (.aload_n 0, 1) := by decide +kernel
theorem dX10_readsOrder_73 : decode cX10_readsOrder 73 = .ok (.getfield 40, 3) := by decide +kernel
theorem dX10_readsOrder_76 : decode cX10_readsOrder 76 = .ok (.aload_n 0, 1) := by decide +kernel
theorem dX10_readsOrder_77 : decode cX10_readsOrder 77 = .ok (.getfield 178, 3) := by decide +kernel
theorem dX10_readsOrder_80 : decode cX10_readsOrder 80 = .ok (.iaload, 1) := by decide +kernel
theorem dX10_readsOrder_81 : decode cX10_readsOrder 81 = .ok (.goto 5, 3) := by decide +kernel
theorem dX10_readsOrder_84 : decode cX10_readsOrder 84 = .ok (.bipush (-6), 2) := by decide +kernel
theorem dX10_readsOrder_86 : decode cX10_readsOrder 86 = .ok (.istore_n 1, 1) := by decide +kernel
theorem dX10_readsOrder_87 : decode cX10_readsOrder 87 = .ok (.aload_n 0, 1) := by decide +kernel
theorem dX10_readsOrder_88 : decode cX10_readsOrder 88 = .ok (.dup, 1) := by decide +kernel
theorem dX10_readsOrder_89 : decode cX10_readsOrder 89 = .ok (.getfield 178, 3) := by decide +kernel
theorem dX10_readsOrder_92 : decode cX10_readsOrder 92 = .ok (.iload_n 1, 1) := by decide +kernel
theorem dX10_readsOrder_93 : decode cX10_readsOrder 93 = .ok (.bipush (-6), 2) := by decide +kernel
theorem dX10_readsOrder_95 : decode cX10_readsOrder 95 = .ok (.if_icmp .ne 7, 3) := by decide +kernel
theorem dX10_readsOrder_98 : decode cX10_readsOrder 98 = .ok (.iconst 0, 1) := by decide +kernel
theorem dX10_readsOrder_99 : decode cX10_readsOrder 99 = .ok (.goto 4, 3) := by decide +kernel
theorem dX10_readsOrder_102 : decode cX10_readsOrder 102 = .ok (.iconst 1, 1) := by decide +kernel
theorem dX10_readsOrder_103 : decode cX10_readsOrder 103 = .ok (.iadd, 1) := by decide +kernel
theorem dX10_readsOrder_104 : decode cX10_readsOrder 104 = .ok (.putfield 178, 3) := by decide +kernel
theorem dX10_readsOrder_107 : decode cX10_readsOrder 107 = .ok (.iload_n 1, 1) := by decide +kernel
theorem dX10_readsOrder_108 : decode cX10_readsOrder 108 = .ok (.bipush (-6), 2) := by decide +kernel
theorem dX10_readsOrder_110 : decode cX10_readsOrder 110 = .ok (.if_icmp .eq 12, 3) := by decide +kernel
theorem dX10_readsOrder_113 : decode cX10_readsOrder 113 = .ok (.aload_n 0, 1) := by decide +kernel
theorem dX10_readsOrder_114 : decode cX10_readsOrder 114 = .ok (.bipush 99, 2) := by decide +kernel
theorem dX10_readsOrder_116 : decode cX10_readsOrder 116 = .ok (.invokevirtual 190, 3) := by decide +kernel
theorem dX10_readsOrder_119 : decode cX10_readsOrder 119 = .ok (.ifCond .ne 5, 3) := by decide +kernel
theorem dX10_readsOrder_122 : decode cX10_readsOrder 122 = .ok (.iconst 0, 1) := by decide +kernel
theorem dX10_readsOrder_123 : decode cX10_readsOrder 123 = .ok (.ireturn, 1) := by decide +kernel
theorem dX10_readsOrder_124 : decode cX10_readsOrder 124 = .ok (.aload_n 0, 1) := by decide +kernel
theorem dX10_readsOrder_125 : decode cX10_readsOrder 125 = .ok (.getfield 196, 3) := by decide +kernel
theorem dX10_readsOrder_128 : decode cX10_readsOrder 128 = .ok (.ifCond .eq 66, 3) := by decide +kernel
theorem dX10_readsOrder_131 : decode cX10_readsOrder 131 = .ok (.aload_n 0, 1) := by decide +kernel
theorem dX10_readsOrder_132 : decode cX10_readsOrder 132 = .ok (.iload_n 1, 1) := by decide +kernel
theorem dX10_readsOrder_133 : decode cX10_readsOrder 133 = .ok (.bipush 120, 2) := by decide +kernel
theorem dX10_readsOrder_135 : decode cX10_readsOrder 135 = .ok (.if_icmp .ne 14, 3) := by decide +kernel
theorem dX10_readsOrder_138 : decode cX10_readsOrder 138 = .ok (.aload_n 0, 1) := by decide +kernel
theorem dX10_readsOrder_139 : decode cX10_readsOrder 139 = .ok (.aload_n 0, 1) := by decide +kernel
theorem dX10_readsOrder_140 : decode cX10_readsOrder 140 = .ok (.getfield 184, 3) := by decide +kernel
theorem dX10_readsOrder_143 : decode cX10_readsOrder 143 = .ok (.invokevirtual 135, 3) := by decide +kernel
theorem dX10_readsOrder_146 : decode cX10_readsOrder 146 = .ok (.goto 45, 3) := by decide +kernel
theorem dX10_readsOrder_149 : decode cX10_readsOrder 149 = .ok (.iload_n 1, 1) := by decide +kernel
theorem dX10_readsOrder_150 : decode cX10_readsOrder 150 = .ok (.bipush 119, 2) := by decide +kernel
theorem dX10_readsOrder_152 : decode cX10_readsOrder 152 = .ok (.if_icmp .ne 14, 3) := by decide +kernel
theorem dX10_readsOrder_155 : decode cX10_readsOrder 155 = .ok (.aload_n 0, 1) := by decide +kernel
theorem dX10_readsOrder_156 : decode cX10_readsOrder 156 = .ok (.aload_n 0, 1) := by decide +kernel
theorem dX10_readsOrder_157 : decode cX10_readsOrder 157 = .ok (.getfield 184, 3) := by decide +kernel
theorem dX10_readsOrder_160 : decode cX10_readsOrder 160 = .ok (.invokevirtual 141, 3) := by decide +kernel
theorem dX10_readsOrder_163 : decode cX10_readsOrder 163 = .ok (.goto 28, 3) := by decide +kernel
theorem dX10_readsOrder_166 : decode cX10_readsOrder 166 = .ok (.iload_n 1, 1) := by decide +kernel
theorem dX10_readsOrder_167 : decode cX10_readsOrder 167 = .ok (.bipush 118, 2) := by decide +kernel
theorem dX10_readsOrder_169 : decode cX10_readsOrder 169 = .ok (.if_icmp .ne 14, 3) := by decide +kernel
theorem dX10_readsOrder_172 : decode cX10_readsOrder 172 = .ok (.aload_n 0, 1) := by decide +kernel
theorem dX10_readsOrder_173 : decode cX10_readsOrder 173 = .ok (.aload_n 0, 1) := by decide +kernel
theorem dX10_readsOrder_174 : decode cX10_readsOrder 174 = .ok (.getfield 184, 3) := by decide +kernel
theorem dX10_readsOrder_177 : decode cX10_readsOrder 177 = .ok (.invokevirtual 144, 3) := by decide +kernel
theorem dX10_readsOrder_180 : decode cX10_readsOrder 180 = .ok (.goto 11, 3) := by decide +kernel
theorem dX10_readsOrder_183 : decode cX10_readsOrder 183 = .ok (.aload_n 0, 1) := by decide +kernel
theorem dX10_readsOrder_184 : decode cX10_readsOrder 184 = .ok (.aload_n 0, 1) := by decide +kernel
theorem dX10_readsOrder_185 : decode cX10_readsOrder 185 = .ok (.getfield 184, 3) := by decide +kernel
theorem dX10_readsOrder_188 : decode cX10_readsOrder 188 = .ok (.invokevirtual 147, 3) := by decide +kernel
theorem dX10_readsOrder_191 : decode cX10_readsOrder 191 = .ok (.invokevirtual 200, 3) := by decide +kernel
theorem dX10_readsOrder_194 : decode cX10_readsOrder 194 = .ok (.iconst 1, 1) := by decide +kernel
theorem dX10_readsOrder_195 : decode cX10_readsOrder 195 = .ok (.ireturn, 1) := by decide +kernel
theorem dX10_fault_0 : decode cX10_fault 0 = .ok (.aload_n 0, 1) := by decide +kernel
theorem dX10_fault_1 : decode cX10_fault 1 = .ok (.iconst 0, 1) := by decide +kernel
theorem dX10_fault_2 : decode cX10_fault 2 = .ok (.putfield 178, 3) := by decide +kernel
theorem dX10_fault_5 : decode cX10_fault 5 = .ok (.aload_n 0, 1) := by decide +kernel
theorem dX10_fault_6 : decode cX10_fault 6 = .ok (.iconst 0, 1) := by decide +kernel
theorem dX10_fault_7 : decode cX10_fault 7 = .ok (.putfield 196, 3) := by decide +kernel
theorem dX10_fault_10 : decode cX10_fault 10 = .ok (.iconst 1, 1) := by decide +kernel
theorem dX10_fault_11 : decode cX10_fault 11 = .ok (.istore_n 1, 1) := by decide +kernel
theorem dX10_fault_12 : decode cX10_fault 12 = .ok (.iload_n 1, 1) := by decide +kernel
theorem dX10_fault_13 : decode cX10_fault 13 = .ok (.ifCond .eq 25, 3) := by decide +kernel
theorem dX10_fault_16 : decode cX10_fault 16 = .ok (.aload_n 0, 1) := by decide +kernel
theorem dX10_fault_17 : decode cX10_fault 17 = .ok (.invokevirtual 209, 3) := by decide +kernel
theorem dX10_fault_20 : decode cX10_fault 20 = .ok (.ifCond .ne 8, 3) := by decide +kernel
theorem dX10_fault_23 : decode cX10_fault 23 = .ok (.aload_n 0, 1) := by decide +kernel
theorem dX10_fault_24 : decode cX10_fault 24 = .ok (.getfield 178, 3) := by decide +kernel
theorem dX10_fault_27 : decode cX10_fault 27 = .ok (.ireturn, 1) := by decide +kernel
theorem dX10_fault_28 : decode cX10_fault 28 = .ok (.aload_n 0, 1) := by decide +kernel
theorem dX10_fault_29 : decode cX10_fault 29 = .ok (.bipush 59, 2) := by decide +kernel
theorem dX10_fault_31 : decode cX10_fault 31 = .ok (.invokevirtual 193, 3) := by decide +kernel
theorem dX10_fault_34 : decode cX10_fault 34 = .ok (.istore_n 1, 1) := by decide +kernel
theorem dX10_fault_35 : decode cX10_fault 35 = .ok (.goto (-23), 3) := by decide +kernel
theorem dX10_fault_38 : decode cX10_fault 38 = .ok (.aload_n 0, 1) := by decide +kernel
theorem dX10_fault_39 : decode cX10_fault 39 = .ok (.getfield 178, 3) := by decide +kernel
theorem dX10_fault_42 : decode cX10_fault 42 = .ok (.aload_n 0, 1) := by decide +kernel
theorem dX10_fault_43 : decode cX10_fault 43 = .ok (.getfield 169, 3) := by decide +kernel
theorem dX10_fault_46 : decode cX10_fault 46 = .ok (.if_icmp .ne 8, 3) := by decide +kernel
theorem dX10_fault_49 : decode cX10_fault 49 = .ok (.bipush (-6), 2) := by decide +kernel
theorem dX10_fault_51 : decode cX10_fault 51 = .ok (.goto 7, 3) := by decide +kernel
theorem dX10_fault_54 : decode cX10_fault 54 = .ok (.aload_n 0, 1) := by decide +kernel
theorem dX10_fault_55 : decode cX10_fault 55 = .ok (.getfield 178, 3) := by decide +kernel
theorem dX10_fault_58 : decode cX10_fault 58 = .ok (.ireturn, 1) := by decide +kernel
theorem dX10_carryOut_0 : decode cX10_carryOut 0 = .ok (.aload_n 0, 1) := by decide +kernel
theorem dX10_carryOut_1 : decode cX10_carryOut 1 = .ok (.invokevirtual 212, 3) := by decide +kernel
theorem dX10_carryOut_4 : decode cX10_carryOut 4 = .ok (.bipush (-6), 2) := by decide +kernel
theorem dX10_carryOut_6 : decode cX10_carryOut 6 = .ok (.if_icmp .eq 6, 3) := by decide +kernel
theorem dX10_carryOut_9 : decode cX10_carryOut 9 = .ok (.bipush (-3), 2) := by decide +kernel
theorem dX10_carryOut_11 : decode cX10_carryOut 11 = .ok (.ireturn, 1) := by decide +kernel
theorem dX10_carryOut_12 : decode cX10_carryOut 12 = .ok (.aload_n 0, 1) := by decide +kernel
theorem dX10_carryOut_13 : decode cX10_carryOut 13 = .ok (.getfield 7, 3) := by decide +kernel
theorem dX10_carryOut_16 : decode cX10_carryOut 16 = .ok (.aload_n 0, 1) := by decide +kernel
theorem dX10_carryOut_17 : decode cX10_carryOut 17 = .ok (.getfield 13, 3) := by decide +kernel
theorem dX10_carryOut_20 : decode cX10_carryOut 20 = .ok (.invokestatic 124, 3) := by decide +kernel
theorem dX10_carryOut_23 : decode cX10_carryOut 23 = .ok (.aload_n 0, 1) := by decide +kernel
theorem dX10_carryOut_24 : decode cX10_carryOut 24 = .ok (.iconst 0, 1) := by decide +kernel
theorem dX10_carryOut_25 : decode cX10_carryOut 25 = .ok (.putfield 178, 3) := by decide +kernel
theorem dX10_carryOut_28 : decode cX10_carryOut 28 = .ok (.aload_n 0, 1) := by decide +kernel
theorem dX10_carryOut_29 : decode cX10_carryOut 29 = .ok (.iconst 1, 1) := by decide +kernel
theorem dX10_carryOut_30 : decode cX10_carryOut 30 = .ok (.putfield 196, 3) := by decide +kernel
theorem dX10_carryOut_33 : decode cX10_carryOut 33 = .ok (.aload_n 0, 1) := by decide +kernel
theorem dX10_carryOut_34 : decode cX10_carryOut 34 = .ok (.iconst 0, 1) := by decide +kernel
theorem dX10_carryOut_35 : decode cX10_carryOut 35 = .ok (.putfield 187, 3) := by decide +kernel
theorem dX10_carryOut_38 : decode cX10_carryOut 38 = .ok (.iconst 0, 1) := by decide +kernel
theorem dX10_carryOut_39 : decode cX10_carryOut 39 = .ok (.istore_n 1, 1) := by decide +kernel
theorem dX10_carryOut_40 : decode cX10_carryOut 40 = .ok (.iconst 1, 1) := by decide +kernel
theorem dX10_carryOut_41 : decode cX10_carryOut 41 = .ok (.istore_n 2, 1) := by decide +kernel
theorem dX10_carryOut_42 : decode cX10_carryOut 42 = .ok (.iload_n 2, 1) := by decide +kernel
theorem dX10_carryOut_43 : decode cX10_carryOut 43 = .ok (.ifCond .eq 48, 3) := by decide +kernel
theorem dX10_carryOut_46 : decode cX10_carryOut 46 = .ok (.aload_n 0, 1) := by decide +kernel
theorem dX10_carryOut_47 : decode cX10_carryOut 47 = .ok (.invokevirtual 209, 3) := by decide +kernel
theorem dX10_carryOut_50 : decode cX10_carryOut 50 = .ok (.istore_n 3, 1) := by decide +kernel
theorem dX10_carryOut_51 : decode cX10_carryOut 51 = .ok (.iload_n 1, 1) := by decide +kernel
theorem dX10_carryOut_52 : decode cX10_carryOut 52 = .ok (.aload_n 0, 1) := by decide +kernel
theorem dX10_carryOut_53 : decode cX10_carryOut 53 = .ok (.getfield 187, 3) := by decide +kernel
theorem dX10_carryOut_56 : decode cX10_carryOut 56 = .ok (.ifCond .ne 7, 3) := by decide +kernel
theorem dX10_carryOut_59 : decode cX10_carryOut 59 = .ok (.iconst 1, 1) := by decide +kernel
theorem dX10_carryOut_60 : decode cX10_carryOut 60 = .ok (.goto 4, 3) := by decide +kernel
theorem dX10_carryOut_63 : decode cX10_carryOut 63 = .ok (.iconst 0, 1) := by decide +kernel
theorem dX10_carryOut_64 : decode cX10_carryOut 64 = .ok (.iadd, 1) := by decide +kernel
theorem dX10_carryOut_65 : decode cX10_carryOut 65 = .ok (.istore_n 1, 1) := by decide +kernel
theorem dX10_carryOut_66 : decode cX10_carryOut 66 = .ok (.aload_n 0, 1) := by decide +kernel
theorem dX10_carryOut_67 : decode cX10_carryOut 67 = .ok (.getfield 187, 3) := by decide +kernel
theorem dX10_carryOut_70 : decode cX10_carryOut 70 = .ok (.ifCond .ne 16, 3) := by decide +kernel
theorem dX10_carryOut_73 : decode cX10_carryOut 73 = .ok (.aload_n 0, 1) := by decide +kernel
theorem dX10_carryOut_74 : decode cX10_carryOut 74 = .ok (.bipush 59, 2) := by decide +kernel
theorem dX10_carryOut_76 : decode cX10_carryOut 76 = .ok (.invokevirtual 193, 3) := by decide +kernel
theorem dX10_carryOut_79 : decode cX10_carryOut 79 = .ok (.ifCond .eq 7, 3) := by decide +kernel
theorem dX10_carryOut_82 : decode cX10_carryOut 82 = .ok (.iconst 1, 1) := by decide +kernel
theorem dX10_carryOut_83 : decode cX10_carryOut 83 = .ok (.goto 4, 3) := by decide +kernel
theorem dX10_carryOut_86 : decode cX10_carryOut 86 = .ok (.iconst 0, 1) := by decide +kernel
theorem dX10_carryOut_87 : decode cX10_carryOut 87 = .ok (.istore_n 2, 1) := by decide +kernel
theorem dX10_carryOut_88 : decode cX10_carryOut 88 = .ok (.goto (-46), 3) := by decide +kernel
theorem dX10_carryOut_91 : decode cX10_carryOut 91 = .ok (.aload_n 0, 1) := by decide +kernel
theorem dX10_carryOut_92 : decode cX10_carryOut 92 = .ok (.iconst 0, 1) := by decide +kernel
theorem dX10_carryOut_93 : decode cX10_carryOut 93 = .ok (.putfield 169, 3) := by decide +kernel
theorem dX10_carryOut_96 : decode cX10_carryOut 96 = .ok (.aload_n 0, 1) := by decide +kernel
theorem dX10_carryOut_97 : decode cX10_carryOut 97 = .ok (.iload_n 1, 1) := by decide +kernel
theorem dX10_carryOut_98 : decode cX10_carryOut 98 = .ok (.invokevirtual 118, 3) := by decide +kernel
theorem dX10_carryOut_101 : decode cX10_carryOut 101 = .ok (.ireturn, 1) := by decide +kernel
theorem dX10_undo_0 : decode cX10_undo 0 = .ok (.aload_n 0, 1) := by decide +kernel
theorem dX10_undo_1 : decode cX10_undo 1 = .ok (.getfield 43, 3) := by decide +kernel
theorem dX10_undo_4 : decode cX10_undo 4 = .ok (.ifCond .ne 6, 3) := by decide +kernel
theorem dX10_undo_7 : decode cX10_undo 7 = .ok (.bipush (-5), 2) := by decide +kernel
theorem dX10_undo_9 : decode cX10_undo 9 = .ok (.ireturn, 1) := by decide +kernel
theorem dX10_undo_10 : decode cX10_undo 10 = .ok (.aload_n 0, 1) := by decide +kernel
theorem dX10_undo_11 : decode cX10_undo 11 = .ok (.dup, 1) := by decide +kernel
theorem dX10_undo_12 : decode cX10_undo 12 = .ok (.getfield 43, 3) := by decide +kernel
theorem dX10_undo_15 : decode cX10_undo 15 = .ok (.iconst 1, 1) := by decide +kernel
theorem dX10_undo_16 : decode cX10_undo 16 = .ok (.isub, 1) := by decide +kernel
theorem dX10_undo_17 : decode cX10_undo 17 = .ok (.putfield 43, 3) := by decide +kernel
theorem dX10_undo_20 : decode cX10_undo 20 = .ok (.iconst 0, 1) := by decide +kernel
theorem dX10_undo_21 : decode cX10_undo 21 = .ok (.istore_n 1, 1) := by decide +kernel
theorem dX10_undo_22 : decode cX10_undo 22 = .ok (.iload_n 1, 1) := by decide +kernel
theorem dX10_undo_23 : decode cX10_undo 23 = .ok (.sipush 132, 3) := by decide +kernel
theorem dX10_undo_26 : decode cX10_undo 26 = .ok (.if_icmp .ge 30, 3) := by decide +kernel
theorem dX10_undo_29 : decode cX10_undo 29 = .ok (.aload_n 0, 1) := by decide +kernel
theorem dX10_undo_30 : decode cX10_undo 30 = .ok (.getfield 7, 3) := by decide +kernel
theorem dX10_undo_33 : decode cX10_undo 33 = .ok (.iload_n 1, 1) := by decide +kernel
theorem dX10_undo_34 : decode cX10_undo 34 = .ok (.aload_n 0, 1) := by decide +kernel
theorem dX10_undo_35 : decode cX10_undo 35 = .ok (.getfield 19, 3) := by decide +kernel
theorem dX10_undo_38 : decode cX10_undo 38 = .ok (.sipush 132, 3) := by decide +kernel
theorem dX10_undo_41 : decode cX10_undo 41 = .ok (.aload_n 0, 1) := by decide +kernel
theorem dX10_undo_42 : decode cX10_undo 42 = .ok (.getfield 43, 3) := by decide +kernel
theorem dX10_undo_45 : decode cX10_undo 45 = .ok (.imul, 1) := by decide +kernel
theorem dX10_undo_46 : decode cX10_undo 46 = .ok (.iload_n 1, 1) := by decide +kernel
theorem dX10_undo_47 : decode cX10_undo 47 = .ok (.iadd, 1) := by decide +kernel
theorem dX10_undo_48 : decode cX10_undo 48 = .ok (.iaload, 1) := by decide +kernel
theorem dX10_undo_49 : decode cX10_undo 49 = .ok (.iastore, 1) := by decide +kernel
theorem dX10_undo_50 : decode cX10_undo 50 = .ok (.iinc 1 1, 3) := by decide +kernel
theorem dX10_undo_53 : decode cX10_undo 53 = .ok (.goto (-31), 3) := by decide +kernel
theorem dX10_undo_56 : decode cX10_undo 56 = .ok (.aload_n 0, 1) := by decide +kernel
theorem dX10_undo_57 : decode cX10_undo 57 = .ok (.getfield 43, 3) := by decide +kernel
theorem dX10_undo_60 : decode cX10_undo 60 = .ok (.ireturn, 1) := by decide +kernel
theorem dX10_save_0 : decode cX10_save 0 = .ok (.iload_n 1, 1) := by decide +kernel
theorem dX10_save_1 : decode cX10_save 1 = .ok (.i2l, 1) := by decide +kernel
theorem dX10_save_2 : decode cX10_save 2 = .ok (.lconst 0, 1) := by decide +kernel
theorem dX10_save_3 : decode cX10_save 3 = .ok (.lconst 1, 1) := by decide +kernel
theorem dX10_save_4 : decode cX10_save 4 = .ok (.invokestatic 51, 3) := by decide +kernel
theorem dX10_save_7 : decode cX10_save 7 = .ok (.ifCond .ne 6, 3) := by decide +kernel
theorem dX10_save_10 : decode cX10_save 10 = .ok (.bipush (-2), 2) := by decide +kernel
theorem dX10_save_12 : decode cX10_save 12 = .ok (.ireturn, 1) := by decide +kernel
theorem dX10_save_13 : decode cX10_save 13 = .ok (.iconst 0, 1) := by decide +kernel
theorem dX10_save_14 : decode cX10_save 14 = .ok (.istore_n 2, 1) := by decide +kernel
theorem dX10_save_15 : decode cX10_save 15 = .ok (.iload_n 2, 1) := by decide +kernel
theorem dX10_save_16 : decode cX10_save 16 = .ok (.sipush 132, 3) := by decide +kernel
theorem dX10_save_19 : decode cX10_save 19 = .ok (.if_icmp .ge 27, 3) := by decide +kernel
theorem dX10_save_22 : decode cX10_save 22 = .ok (.aload_n 0, 1) := by decide +kernel
theorem dX10_save_23 : decode cX10_save 23 = .ok (.getfield 22, 3) := by decide +kernel
theorem dX10_save_26 : decode cX10_save 26 = .ok (.sipush 132, 3) := by decide +kernel
theorem dX10_save_29 : decode cX10_save 29 = .ok (.iload_n 1, 1) := by decide +kernel
theorem dX10_save_30 : decode cX10_save 30 = .ok (.imul, 1) := by decide +kernel
theorem dX10_save_31 : decode cX10_save 31 = .ok (.iload_n 2, 1) := by decide +kernel
theorem dX10_save_32 : decode cX10_save 32 = .ok (.iadd, 1) := by decide +kernel
theorem dX10_save_33 : decode cX10_save 33 = .ok (.aload_n 0, 1) := by decide +kernel
theorem dX10_save_34 : decode cX10_save 34 = .ok (.getfield 7, 3) := by decide +kernel
theorem dX10_save_37 : decode cX10_save 37 = .ok (.iload_n 2, 1) := by decide +kernel
theorem dX10_save_38 : decode cX10_save 38 = .ok (.iaload, 1) := by decide +kernel
theorem dX10_save_39 : decode cX10_save 39 = .ok (.iastore, 1) := by decide +kernel
theorem dX10_save_40 : decode cX10_save 40 = .ok (.iinc 2 1, 3) := by decide +kernel
theorem dX10_save_43 : decode cX10_save 43 = .ok (.goto (-28), 3) := by decide +kernel
theorem dX10_save_46 : decode cX10_save 46 = .ok (.aload_n 0, 1) := by decide +kernel
theorem dX10_save_47 : decode cX10_save 47 = .ok (.getfield 25, 3) := by decide +kernel
theorem dX10_save_50 : decode cX10_save 50 = .ok (.iload_n 1, 1) := by decide +kernel
theorem dX10_save_51 : decode cX10_save 51 = .ok (.iconst 1, 1) := by decide +kernel
theorem dX10_save_52 : decode cX10_save 52 = .ok (.iastore, 1) := by decide +kernel
theorem dX10_save_53 : decode cX10_save 53 = .ok (.aload_n 0, 1) := by decide +kernel
theorem dX10_save_54 : decode cX10_save 54 = .ok (.getfield 7, 3) := by decide +kernel
theorem dX10_save_57 : decode cX10_save 57 = .ok (.bipush 6, 2) := by decide +kernel
theorem dX10_save_59 : decode cX10_save 59 = .ok (.iaload, 1) := by decide +kernel
theorem dX10_save_60 : decode cX10_save 60 = .ok (.ireturn, 1) := by decide +kernel
theorem dX10_restore_0 : decode cX10_restore 0 = .ok (.iload_n 1, 1) := by decide +kernel
theorem dX10_restore_1 : decode cX10_restore 1 = .ok (.i2l, 1) := by decide +kernel
theorem dX10_restore_2 : decode cX10_restore 2 = .ok (.lconst 0, 1) := by decide +kernel
theorem dX10_restore_3 : decode cX10_restore 3 = .ok (.lconst 1, 1) := by decide +kernel
theorem dX10_restore_4 : decode cX10_restore 4 = .ok (.invokestatic 51, 3) := by decide +kernel
theorem dX10_restore_7 : decode cX10_restore 7 = .ok (.ifCond .ne 6, 3) := by decide +kernel
theorem dX10_restore_10 : decode cX10_restore 10 = .ok (.bipush (-2), 2) := by decide +kernel
theorem dX10_restore_12 : decode cX10_restore 12 = .ok (.ireturn, 1) := by decide +kernel
theorem dX10_restore_13 : decode cX10_restore 13 = .ok (.aload_n 0, 1) := by decide +kernel
theorem dX10_restore_14 : decode cX10_restore 14 = .ok (.getfield 25, 3) := by decide +kernel
theorem dX10_restore_17 : decode cX10_restore 17 = .ok (.iload_n 1, 1) := by decide +kernel
theorem dX10_restore_18 : decode cX10_restore 18 = .ok (.iaload, 1) := by decide +kernel
theorem dX10_restore_19 : decode cX10_restore 19 = .ok (.ifCond .ne 6, 3) := by decide +kernel
theorem dX10_restore_22 : decode cX10_restore 22 = .ok (.bipush (-5), 2) := by decide +kernel
theorem dX10_restore_24 : decode cX10_restore 24 = .ok (.ireturn, 1) := by decide +kernel
theorem dX10_restore_25 : decode cX10_restore 25 = .ok (.aload_n 0, 1) := by decide +kernel
theorem dX10_restore_26 : decode cX10_restore 26 = .ok (.getfield 7, 3) := by decide +kernel
theorem dX10_restore_29 : decode cX10_restore 29 = .ok (.aload_n 0, 1) := by decide +kernel
theorem dX10_restore_30 : decode cX10_restore 30 = .ok (.getfield 13, 3) := by decide +kernel
theorem dX10_restore_33 : decode cX10_restore 33 = .ok (.invokestatic 124, 3) := by decide +kernel
theorem dX10_restore_36 : decode cX10_restore 36 = .ok (.iconst 0, 1) := by decide +kernel
theorem dX10_restore_37 : decode cX10_restore 37 = .ok (.istore_n 2, 1) := by decide +kernel
theorem dX10_restore_38 : decode cX10_restore 38 = .ok (.iload_n 2, 1) := by decide +kernel
theorem dX10_restore_39 : decode cX10_restore 39 = .ok (.sipush 132, 3) := by decide +kernel
theorem dX10_restore_42 : decode cX10_restore 42 = .ok (.if_icmp .ge 27, 3) := by decide +kernel
theorem dX10_restore_45 : decode cX10_restore 45 = .ok (.aload_n 0, 1) := by decide +kernel
theorem dX10_restore_46 : decode cX10_restore 46 = .ok (.getfield 7, 3) := by decide +kernel
theorem dX10_restore_49 : decode cX10_restore 49 = .ok (.iload_n 2, 1) := by decide +kernel
theorem dX10_restore_50 : decode cX10_restore 50 = .ok (.aload_n 0, 1) := by decide +kernel
theorem dX10_restore_51 : decode cX10_restore 51 = .ok (.getfield 22, 3) := by decide +kernel
theorem dX10_restore_54 : decode cX10_restore 54 = .ok (.sipush 132, 3) := by decide +kernel
theorem dX10_restore_57 : decode cX10_restore 57 = .ok (.iload_n 1, 1) := by decide +kernel
theorem dX10_restore_58 : decode cX10_restore 58 = .ok (.imul, 1) := by decide +kernel
theorem dX10_restore_59 : decode cX10_restore 59 = .ok (.iload_n 2, 1) := by decide +kernel
theorem dX10_restore_60 : decode cX10_restore 60 = .ok (.iadd, 1) := by decide +kernel
theorem dX10_restore_61 : decode cX10_restore 61 = .ok (.iaload, 1) := by decide +kernel
theorem dX10_restore_62 : decode cX10_restore 62 = .ok (.iastore, 1) := by decide +kernel
theorem dX10_restore_63 : decode cX10_restore 63 = .ok (.iinc 2 1, 3) := by decide +kernel
theorem dX10_restore_66 : decode cX10_restore 66 = .ok (.goto (-28), 3) := by decide +kernel
theorem dX10_restore_69 : decode cX10_restore 69 = .ok (.aload_n 0, 1) := by decide +kernel
theorem dX10_restore_70 : decode cX10_restore 70 = .ok (.aload_n 0, 1) := by decide +kernel
theorem dX10_restore_71 : decode cX10_restore 71 = .ok (.getfield 7, 3) := by decide +kernel
theorem dX10_restore_74 : decode cX10_restore 74 = .ok (.bipush 6, 2) := by decide +kernel
theorem dX10_restore_76 : decode cX10_restore 76 = .ok (.iaload, 1) := by decide +kernel
theorem dX10_restore_77 : decode cX10_restore 77 = .ok (.invokevirtual 118, 3) := by decide +kernel
theorem dX10_restore_80 : decode cX10_restore 80 = .ok (.ireturn, 1) := by decide +kernel
theorem dJ9_abs_0f7a4_0 : decode cJ9_abs_0f7a4 0 = .ok (.iload_n 0, 1) := by decide +kernel
theorem dJ9_abs_0f7a4_1 : decode cJ9_abs_0f7a4 1 = .ok (.ifCond .ge 8, 3) := by decide +kernel
theorem dJ9_abs_0f7a4_4 : decode cJ9_abs_0f7a4 4 = .ok (.iload_n 0, 1) := by decide +kernel
theorem dJ9_abs_0f7a4_5 : decode cJ9_abs_0f7a4 5 = .ok (.ineg, 1) := by decide +kernel
theorem dJ9_abs_0f7a4_6 : decode cJ9_abs_0f7a4 6 = .ok (.goto 4, 3) := by decide +kernel
theorem dJ9_abs_0f7a4_9 : decode cJ9_abs_0f7a4 9 = .ok (.iload_n 0, 1) := by decide +kernel
theorem dJ9_abs_0f7a4_10 : decode cJ9_abs_0f7a4 10 = .ok (.ireturn, 1) := by decide +kernel
theorem dJ9_max_7cf53_0 : decode cJ9_max_7cf53 0 = .ok (.iload_n 0, 1) := by decide +kernel
theorem dJ9_max_7cf53_1 : decode cJ9_max_7cf53 1 = .ok (.iload_n 1, 1) := by decide +kernel
theorem dJ9_max_7cf53_2 : decode cJ9_max_7cf53 2 = .ok (.if_icmp .lt 7, 3) := by decide +kernel
theorem dJ9_max_7cf53_5 : decode cJ9_max_7cf53 5 = .ok (.iload_n 0, 1) := by decide +kernel
theorem dJ9_max_7cf53_6 : decode cJ9_max_7cf53 6 = .ok (.goto 4, 3) := by decide +kernel
theorem dJ9_max_7cf53_9 : decode cJ9_max_7cf53 9 = .ok (.iload_n 1, 1) := by decide +kernel
theorem dJ9_max_7cf53_10 : decode cJ9_max_7cf53 10 = .ok (.ireturn, 1) := by decide +kernel
theorem dJ9_min_7cf53_0 : decode cJ9_min_7cf53 0 = .ok (.iload_n 0, 1) := by decide +kernel
theorem dJ9_min_7cf53_1 : decode cJ9_min_7cf53 1 = .ok (.iload_n 1, 1) := by decide +kernel
theorem dJ9_min_7cf53_2 : decode cJ9_min_7cf53 2 = .ok (.if_icmp .gt 7, 3) := by decide +kernel
theorem dJ9_min_7cf53_5 : decode cJ9_min_7cf53 5 = .ok (.iload_n 0, 1) := by decide +kernel
theorem dJ9_min_7cf53_6 : decode cJ9_min_7cf53 6 = .ok (.goto 4, 3) := by decide +kernel
theorem dJ9_min_7cf53_9 : decode cJ9_min_7cf53 9 = .ok (.iload_n 1, 1) := by decide +kernel
theorem dJ9_min_7cf53_10 : decode cJ9_min_7cf53 10 = .ok (.ireturn, 1) := by decide +kernel
theorem dJ7_fill_53178_0 : decode cJ7_fill_53178 0 = .ok (.iconst 0, 1) := by decide +kernel
theorem dJ7_fill_53178_1 : decode cJ7_fill_53178 1 = .ok (.istore_n 2, 1) := by decide +kernel
theorem dJ7_fill_53178_2 : decode cJ7_fill_53178 2 = .ok (.aload_n 0, 1) := by decide +kernel
theorem dJ7_fill_53178_3 : decode cJ7_fill_53178 3 = .ok (.arraylength, 1) := by decide +kernel
theorem dJ7_fill_53178_4 : decode cJ7_fill_53178 4 = .ok (.istore_n 3, 1) := by decide +kernel
theorem dJ7_fill_53178_5 : decode cJ7_fill_53178 5 = .ok (.iload_n 2, 1) := by decide +kernel
theorem dJ7_fill_53178_6 : decode cJ7_fill_53178 6 = .ok (.iload_n 3, 1) := by decide +kernel
theorem dJ7_fill_53178_7 : decode cJ7_fill_53178 7 = .ok (.if_icmp .ge 13, 3) := by decide +kernel
theorem dJ7_fill_53178_10 : decode cJ7_fill_53178 10 = .ok (.aload_n 0, 1) := by decide +kernel
theorem dJ7_fill_53178_11 : decode cJ7_fill_53178 11 = .ok (.iload_n 2, 1) := by decide +kernel
theorem dJ7_fill_53178_12 : decode cJ7_fill_53178 12 = .ok (.iload_n 1, 1) := by decide +kernel
theorem dJ7_fill_53178_13 : decode cJ7_fill_53178 13 = .ok (.iastore, 1) := by decide +kernel
theorem dJ7_fill_53178_14 : decode cJ7_fill_53178 14 = .ok (.iinc 2 1, 3) := by decide +kernel
theorem dJ7_fill_53178_17 : decode cJ7_fill_53178 17 = .ok (.goto (-12), 3) := by decide +kernel
theorem dJ7_fill_53178_20 : decode cJ7_fill_53178 20 = .ok (.return_, 1) := by decide +kernel
theorem dL_law_0 : decode cL_law 0 = .ok (.new 7, 3) := by decide +kernel
theorem dL_law_3 : decode cL_law 3 = .ok (.dup, 1) := by decide +kernel
theorem dL_law_4 : decode cL_law 4 = .ok (.invokespecial 9, 3) := by decide +kernel
theorem dL_law_7 : decode cL_law 7 = .ok (.astore_n 1, 1) := by decide +kernel
theorem dL_law_8 : decode cL_law 8 = .ok (.new 10, 3) := by decide +kernel
theorem dL_law_11 : decode cL_law 11 = .ok (.dup, 1) := by decide +kernel
theorem dL_law_12 : decode cL_law 12 = .ok (.invokespecial 12, 3) := by decide +kernel
theorem dL_law_15 : decode cL_law 15 = .ok (.astore_n 2, 1) := by decide +kernel
theorem dL_law_16 : decode cL_law 16 = .ok (.iconst 0, 1) := by decide +kernel
theorem dL_law_17 : decode cL_law 17 = .ok (.istore_n 3, 1) := by decide +kernel
theorem dL_law_18 : decode cL_law 18 = .ok (.iload_n 3, 1) := by decide +kernel
theorem dL_law_19 : decode cL_law 19 = .ok (.aload_n 0, 1) := by decide +kernel
theorem dL_law_20 : decode cL_law 20 = .ok (.arraylength, 1) := by decide +kernel
theorem dL_law_21 : decode cL_law 21 = .ok (.iconst 4, 1) := by decide +kernel
theorem dL_law_22 : decode cL_law 22 = .ok (.isub, 1) := by decide +kernel
theorem dL_law_23 : decode cL_law 23 = .ok (.if_icmp .gt 742, 3) := by decide +kernel
theorem dL_law_26 : decode cL_law 26 = .ok (.aload_n 0, 1) := by decide +kernel
theorem dL_law_27 : decode cL_law 27 = .ok (.iload_n 3, 1) := by decide +kernel
theorem dL_law_28 : decode cL_law 28 = .ok (.iaload, 1) := by decide +kernel
theorem dL_law_29 : decode cL_law 29 = .ok (.bipush 31, 2) := by decide +kernel
theorem dL_law_31 : decode cL_law 31 = .ok (.iand, 1) := by decide +kernel
theorem dL_law_32 : decode cL_law 32 = .ok (.tableswitch 727 0 22 #[108, 141, 184, 207, 240, 263, 286, 309, 342, 385, 428, 451, 484, 507, 550, 563, 576, 629, 642, 655, 668, 681, 704], 108) := by decide +kernel
theorem dL_law_140 : decode cL_law 140 = .ok (.aload_n 1, 1) := by decide +kernel
theorem dL_law_141 : decode cL_law 141 = .ok (.aload_n 0, 1) := by decide +kernel
theorem dL_law_142 : decode cL_law 142 = .ok (.iload_n 3, 1) := by decide +kernel
theorem dL_law_143 : decode cL_law 143 = .ok (.iconst 1, 1) := by decide +kernel
theorem dL_law_144 : decode cL_law 144 = .ok (.iadd, 1) := by decide +kernel
theorem dL_law_145 : decode cL_law 145 = .ok (.iaload, 1) := by decide +kernel
theorem dL_law_146 : decode cL_law 146 = .ok (.aload_n 0, 1) := by decide +kernel
theorem dL_law_147 : decode cL_law 147 = .ok (.iload_n 3, 1) := by decide +kernel
theorem dL_law_148 : decode cL_law 148 = .ok (.iconst 2, 1) := by decide +kernel
theorem dL_law_149 : decode cL_law 149 = .ok (.iadd, 1) := by decide +kernel
theorem dL_law_150 : decode cL_law 150 = .ok (.iaload, 1) := by decide +kernel
theorem dL_law_151 : decode cL_law 151 = .ok (.invokevirtual 13, 3) := by decide +kernel
theorem dL_law_154 : decode cL_law 154 = .ok (.aload_n 2, 1) := by decide +kernel
theorem dL_law_155 : decode cL_law 155 = .ok (.aload_n 0, 1) := by decide +kernel
theorem dL_law_156 : decode cL_law 156 = .ok (.iload_n 3, 1) := by decide +kernel
theorem dL_law_157 : decode cL_law 157 = .ok (.iconst 1, 1) := by decide +kernel
theorem dL_law_158 : decode cL_law 158 = .ok (.iadd, 1) := by decide +kernel
theorem dL_law_159 : decode cL_law 159 = .ok (.iaload, 1) := by decide +kernel
theorem dL_law_160 : decode cL_law 160 = .ok (.aload_n 0, 1) := by decide +kernel
theorem dL_law_161 : decode cL_law 161 = .ok (.iload_n 3, 1) := by decide +kernel
theorem dL_law_162 : decode cL_law 162 = .ok (.iconst 2, 1) := by decide +kernel
theorem dL_law_163 : decode cL_law 163 = .ok (.iadd, 1) := by decide +kernel
theorem dL_law_164 : decode cL_law 164 = .ok (.iaload, 1) := by decide +kernel
theorem dL_law_165 : decode cL_law 165 = .ok (.invokevirtual 17, 3) := by decide +kernel
theorem dL_law_168 : decode cL_law 168 = .ok (.if_icmp .eq 591, 3) := by decide +kernel
theorem dL_law_171 : decode cL_law 171 = .ok (.iconst 0, 1) := by decide +kernel
theorem dL_law_172 : decode cL_law 172 = .ok (.ireturn, 1) := by decide +kernel
theorem dL_law_173 : decode cL_law 173 = .ok (.aload_n 1, 1) := by decide +kernel
theorem dL_law_174 : decode cL_law 174 = .ok (.aload_n 0, 1) := by decide +kernel
theorem dL_law_175 : decode cL_law 175 = .ok (.iload_n 3, 1) := by decide +kernel
theorem dL_law_176 : decode cL_law 176 = .ok (.iconst 1, 1) := by decide +kernel
theorem dL_law_177 : decode cL_law 177 = .ok (.iadd, 1) := by decide +kernel
theorem dL_law_178 : decode cL_law 178 = .ok (.iaload, 1) := by decide +kernel
theorem dL_law_179 : decode cL_law 179 = .ok (.aload_n 0, 1) := by decide +kernel
theorem dL_law_180 : decode cL_law 180 = .ok (.iload_n 3, 1) := by decide +kernel
theorem dL_law_181 : decode cL_law 181 = .ok (.iconst 2, 1) := by decide +kernel
theorem dL_law_182 : decode cL_law 182 = .ok (.iadd, 1) := by decide +kernel
theorem dL_law_183 : decode cL_law 183 = .ok (.iaload, 1) := by decide +kernel
theorem dL_law_184 : decode cL_law 184 = .ok (.aload_n 0, 1) := by decide +kernel
theorem dL_law_185 : decode cL_law 185 = .ok (.iload_n 3, 1) := by decide +kernel
theorem dL_law_186 : decode cL_law 186 = .ok (.iconst 3, 1) := by decide +kernel
theorem dL_law_187 : decode cL_law 187 = .ok (.iadd, 1) := by decide +kernel
theorem dL_law_188 : decode cL_law 188 = .ok (.iaload, 1) := by decide +kernel
theorem dL_law_189 : decode cL_law 189 = .ok (.invokevirtual 18, 3) := by decide +kernel
theorem dL_law_192 : decode cL_law 192 = .ok (.aload_n 2, 1) := by decide +kernel
theorem dL_law_193 : decode cL_law 193 = .ok (.aload_n 0, 1) := by decide +kernel
theorem dL_law_194 : decode cL_law 194 = .ok (.iload_n 3, 1) := by decide +kernel
theorem dL_law_195 : decode cL_law 195 = .ok (.iconst 1, 1) := by decide +kernel
theorem dL_law_196 : decode cL_law 196 = .ok (.iadd, 1) := by decide +kernel
theorem dL_law_197 : decode cL_law 197 = .ok (.iaload, 1) := by decide +kernel
theorem dL_law_198 : decode cL_law 198 = .ok (.aload_n 0, 1) := by decide +kernel
theorem dL_law_199 : decode cL_law 199 = .ok (.iload_n 3, 1) := by decide +kernel
theorem dL_law_200 : decode cL_law 200 = .ok (.iconst 2, 1) := by decide +kernel
theorem dL_law_201 : decode cL_law 201 = .ok (.iadd, 1) := by decide +kernel
theorem dL_law_202 : decode cL_law 202 = .ok (.iaload, 1) := by decide +kernel
theorem dL_law_203 : decode cL_law 203 = .ok (.aload_n 0, 1) := by decide +kernel
theorem dL_law_204 : decode cL_law 204 = .ok (.iload_n 3, 1) := by decide +kernel
theorem dL_law_205 : decode cL_law 205 = .ok (.iconst 3, 1) := by decide +kernel
theorem dL_law_206 : decode cL_law 206 = .ok (.iadd, 1) := by decide +kernel
theorem dL_law_207 : decode cL_law 207 = .ok (.iaload, 1) := by decide +kernel
theorem dL_law_208 : decode cL_law 208 = .ok (.invokevirtual 22, 3) := by decide +kernel
theorem dL_law_211 : decode cL_law 211 = .ok (.if_icmp .eq 548, 3) := by decide +kernel
theorem dL_law_214 : decode cL_law 214 = .ok (.iconst 0, 1) := by decide +kernel
theorem dL_law_215 : decode cL_law 215 = .ok (.ireturn, 1) := by decide +kernel
theorem dL_law_216 : decode cL_law 216 = .ok (.aload_n 1, 1) := by decide +kernel
theorem dL_law_217 : decode cL_law 217 = .ok (.aload_n 0, 1) := by decide +kernel
theorem dL_law_218 : decode cL_law 218 = .ok (.iload_n 3, 1) := by decide +kernel
theorem dL_law_219 : decode cL_law 219 = .ok (.iconst 1, 1) := by decide +kernel
theorem dL_law_220 : decode cL_law 220 = .ok (.iadd, 1) := by decide +kernel
theorem dL_law_221 : decode cL_law 221 = .ok (.iaload, 1) := by decide +kernel
theorem dL_law_222 : decode cL_law 222 = .ok (.invokevirtual 23, 3) := by decide +kernel
theorem dL_law_225 : decode cL_law 225 = .ok (.aload_n 2, 1) := by decide +kernel
theorem dL_law_226 : decode cL_law 226 = .ok (.aload_n 0, 1) := by decide +kernel
theorem dL_law_227 : decode cL_law 227 = .ok (.iload_n 3, 1) := by decide +kernel
theorem dL_law_228 : decode cL_law 228 = .ok (.iconst 1, 1) := by decide +kernel
theorem dL_law_229 : decode cL_law 229 = .ok (.iadd, 1) := by decide +kernel
theorem dL_law_230 : decode cL_law 230 = .ok (.iaload, 1) := by decide +kernel
theorem dL_law_231 : decode cL_law 231 = .ok (.invokevirtual 27, 3) := by decide +kernel
theorem dL_law_234 : decode cL_law 234 = .ok (.if_icmp .eq 525, 3) := by decide +kernel
theorem dL_law_237 : decode cL_law 237 = .ok (.iconst 0, 1) := by decide +kernel
theorem dL_law_238 : decode cL_law 238 = .ok (.ireturn, 1) := by decide +kernel
theorem dL_law_239 : decode cL_law 239 = .ok (.aload_n 1, 1) := by decide +kernel
theorem dL_law_240 : decode cL_law 240 = .ok (.aload_n 0, 1) := by decide +kernel
theorem dL_law_241 : decode cL_law 241 = .ok (.iload_n 3, 1) := by decide +kernel
theorem dL_law_242 : decode cL_law 242 = .ok (.iconst 1, 1) := by decide +kernel
theorem dL_law_243 : decode cL_law 243 = .ok (.iadd, 1) := by decide +kernel
theorem dL_law_244 : decode cL_law 244 = .ok (.iaload, 1) := by decide +kernel
theorem dL_law_245 : decode cL_law 245 = .ok (.aload_n 0, 1) := by decide +kernel
theorem dL_law_246 : decode cL_law 246 = .ok (.iload_n 3, 1) := by decide +kernel
theorem dL_law_247 : decode cL_law 247 = .ok (.iconst 2, 1) := by decide +kernel
theorem dL_law_248 : decode cL_law 248 = .ok (.iadd, 1) := by decide +kernel
theorem dL_law_249 : decode cL_law 249 = .ok (.iaload, 1) := by decide +kernel
theorem dL_law_250 : decode cL_law 250 = .ok (.invokevirtual 28, 3) := by decide +kernel
theorem dL_law_253 : decode cL_law 253 = .ok (.aload_n 2, 1) := by decide +kernel
theorem dL_law_254 : decode cL_law 254 = .ok (.aload_n 0, 1) := by decide +kernel
theorem dL_law_255 : decode cL_law 255 = .ok (.iload_n 3, 1) := by decide +kernel
theorem dL_law_256 : decode cL_law 256 = .ok (.iconst 1, 1) := by decide +kernel
theorem dL_law_257 : decode cL_law 257 = .ok (.iadd, 1) := by decide +kernel
theorem dL_law_258 : decode cL_law 258 = .ok (.iaload, 1) := by decide +kernel
theorem dL_law_259 : decode cL_law 259 = .ok (.aload_n 0, 1) := by decide +kernel
theorem dL_law_260 : decode cL_law 260 = .ok (.iload_n 3, 1) := by decide +kernel
theorem dL_law_261 : decode cL_law 261 = .ok (.iconst 2, 1) := by decide +kernel
theorem dL_law_262 : decode cL_law 262 = .ok (.iadd, 1) := by decide +kernel
theorem dL_law_263 : decode cL_law 263 = .ok (.iaload, 1) := by decide +kernel
theorem dL_law_264 : decode cL_law 264 = .ok (.invokevirtual 31, 3) := by decide +kernel
theorem dL_law_267 : decode cL_law 267 = .ok (.if_icmp .eq 492, 3) := by decide +kernel
theorem dL_law_270 : decode cL_law 270 = .ok (.iconst 0, 1) := by decide +kernel
theorem dL_law_271 : decode cL_law 271 = .ok (.ireturn, 1) := by decide +kernel
theorem dL_law_272 : decode cL_law 272 = .ok (.aload_n 1, 1) := by decide +kernel
theorem dL_law_273 : decode cL_law 273 = .ok (.aload_n 0, 1) := by decide +kernel
theorem dL_law_274 : decode cL_law 274 = .ok (.iload_n 3, 1) := by decide +kernel
theorem dL_law_275 : decode cL_law 275 = .ok (.iconst 1, 1) := by decide +kernel
theorem dL_law_276 : decode cL_law 276 = .ok (.iadd, 1) := by decide +kernel
theorem dL_law_277 : decode cL_law 277 = .ok (.iaload, 1) := by decide +kernel
theorem dL_law_278 : decode cL_law 278 = .ok (.invokevirtual 32, 3) := by decide +kernel
theorem dL_law_281 : decode cL_law 281 = .ok (.aload_n 2, 1) := by decide +kernel
theorem dL_law_282 : decode cL_law 282 = .ok (.aload_n 0, 1) := by decide +kernel
theorem dL_law_283 : decode cL_law 283 = .ok (.iload_n 3, 1) := by decide +kernel
theorem dL_law_284 : decode cL_law 284 = .ok (.iconst 1, 1) := by decide +kernel
theorem dL_law_285 : decode cL_law 285 = .ok (.iadd, 1) := by decide +kernel
theorem dL_law_286 : decode cL_law 286 = .ok (.iaload, 1) := by decide +kernel
theorem dL_law_287 : decode cL_law 287 = .ok (.invokevirtual 35, 3) := by decide +kernel
theorem dL_law_290 : decode cL_law 290 = .ok (.if_icmp .eq 469, 3) := by decide +kernel
theorem dL_law_293 : decode cL_law 293 = .ok (.iconst 0, 1) := by decide +kernel
theorem dL_law_294 : decode cL_law 294 = .ok (.ireturn, 1) := by decide +kernel
theorem dL_law_295 : decode cL_law 295 = .ok (.aload_n 1, 1) := by decide +kernel
theorem dL_law_296 : decode cL_law 296 = .ok (.aload_n 0, 1) := by decide +kernel
theorem dL_law_297 : decode cL_law 297 = .ok (.iload_n 3, 1) := by decide +kernel
theorem dL_law_298 : decode cL_law 298 = .ok (.iconst 1, 1) := by decide +kernel
theorem dL_law_299 : decode cL_law 299 = .ok (.iadd, 1) := by decide +kernel
theorem dL_law_300 : decode cL_law 300 = .ok (.iaload, 1) := by decide +kernel
theorem dL_law_301 : decode cL_law 301 = .ok (.invokevirtual 36, 3) := by decide +kernel
theorem dL_law_304 : decode cL_law 304 = .ok (.aload_n 2, 1) := by decide +kernel
theorem dL_law_305 : decode cL_law 305 = .ok (.aload_n 0, 1) := by decide +kernel
theorem dL_law_306 : decode cL_law 306 = .ok (.iload_n 3, 1) := by decide +kernel
theorem dL_law_307 : decode cL_law 307 = .ok (.iconst 1, 1) := by decide +kernel
theorem dL_law_308 : decode cL_law 308 = .ok (.iadd, 1) := by decide +kernel
theorem dL_law_309 : decode cL_law 309 = .ok (.iaload, 1) := by decide +kernel
theorem dL_law_310 : decode cL_law 310 = .ok (.invokevirtual 39, 3) := by decide +kernel
theorem dL_law_313 : decode cL_law 313 = .ok (.if_icmp .eq 446, 3) := by decide +kernel
theorem dL_law_316 : decode cL_law 316 = .ok (.iconst 0, 1) := by decide +kernel
theorem dL_law_317 : decode cL_law 317 = .ok (.ireturn, 1) := by decide +kernel
theorem dL_law_318 : decode cL_law 318 = .ok (.aload_n 1, 1) := by decide +kernel
theorem dL_law_319 : decode cL_law 319 = .ok (.aload_n 0, 1) := by decide +kernel
theorem dL_law_320 : decode cL_law 320 = .ok (.iload_n 3, 1) := by decide +kernel
theorem dL_law_321 : decode cL_law 321 = .ok (.iconst 1, 1) := by decide +kernel
theorem dL_law_322 : decode cL_law 322 = .ok (.iadd, 1) := by decide +kernel
theorem dL_law_323 : decode cL_law 323 = .ok (.iaload, 1) := by decide +kernel
theorem dL_law_324 : decode cL_law 324 = .ok (.invokevirtual 40, 3) := by decide +kernel
theorem dL_law_327 : decode cL_law 327 = .ok (.aload_n 2, 1) := by decide +kernel
theorem dL_law_328 : decode cL_law 328 = .ok (.aload_n 0, 1) := by decide +kernel
theorem dL_law_329 : decode cL_law 329 = .ok (.iload_n 3, 1) := by decide +kernel
theorem dL_law_330 : decode cL_law 330 = .ok (.iconst 1, 1) := by decide +kernel
theorem dL_law_331 : decode cL_law 331 = .ok (.iadd, 1) := by decide +kernel
theorem dL_law_332 : decode cL_law 332 = .ok (.iaload, 1) := by decide +kernel
theorem dL_law_333 : decode cL_law 333 = .ok (.invokevirtual 43, 3) := by decide +kernel
theorem dL_law_336 : decode cL_law 336 = .ok (.if_icmp .eq 423, 3) := by decide +kernel
theorem dL_law_339 : decode cL_law 339 = .ok (.iconst 0, 1) := by decide +kernel
theorem dL_law_340 : decode cL_law 340 = .ok (.ireturn, 1) := by decide +kernel
theorem dL_law_341 : decode cL_law 341 = .ok (.aload_n 1, 1) := by decide +kernel
theorem dL_law_342 : decode cL_law 342 = .ok (.aload_n 0, 1) := by decide +kernel
theorem dL_law_343 : decode cL_law 343 = .ok (.iload_n 3, 1) := by decide +kernel
theorem dL_law_344 : decode cL_law 344 = .ok (.iconst 1, 1) := by decide +kernel
theorem dL_law_345 : decode cL_law 345 = .ok (.iadd, 1) := by decide +kernel
theorem dL_law_346 : decode cL_law 346 = .ok (.iaload, 1) := by decide +kernel
theorem dL_law_347 : decode cL_law 347 = .ok (.aload_n 0, 1) := by decide +kernel
theorem dL_law_348 : decode cL_law 348 = .ok (.iload_n 3, 1) := by decide +kernel
theorem dL_law_349 : decode cL_law 349 = .ok (.iconst 2, 1) := by decide +kernel
theorem dL_law_350 : decode cL_law 350 = .ok (.iadd, 1) := by decide +kernel
theorem dL_law_351 : decode cL_law 351 = .ok (.iaload, 1) := by decide +kernel
theorem dL_law_352 : decode cL_law 352 = .ok (.invokevirtual 44, 3) := by decide +kernel
theorem dL_law_355 : decode cL_law 355 = .ok (.aload_n 2, 1) := by decide +kernel
theorem dL_law_356 : decode cL_law 356 = .ok (.aload_n 0, 1) := by decide +kernel
theorem dL_law_357 : decode cL_law 357 = .ok (.iload_n 3, 1) := by decide +kernel
theorem dL_law_358 : decode cL_law 358 = .ok (.iconst 1, 1) := by decide +kernel
theorem dL_law_359 : decode cL_law 359 = .ok (.iadd, 1) := by decide +kernel
theorem dL_law_360 : decode cL_law 360 = .ok (.iaload, 1) := by decide +kernel
theorem dL_law_361 : decode cL_law 361 = .ok (.aload_n 0, 1) := by decide +kernel
theorem dL_law_362 : decode cL_law 362 = .ok (.iload_n 3, 1) := by decide +kernel
theorem dL_law_363 : decode cL_law 363 = .ok (.iconst 2, 1) := by decide +kernel
theorem dL_law_364 : decode cL_law 364 = .ok (.iadd, 1) := by decide +kernel
theorem dL_law_365 : decode cL_law 365 = .ok (.iaload, 1) := by decide +kernel
theorem dL_law_366 : decode cL_law 366 = .ok (.invokevirtual 47, 3) := by decide +kernel
theorem dL_law_369 : decode cL_law 369 = .ok (.if_icmp .eq 390, 3) := by decide +kernel
theorem dL_law_372 : decode cL_law 372 = .ok (.iconst 0, 1) := by decide +kernel
theorem dL_law_373 : decode cL_law 373 = .ok (.ireturn, 1) := by decide +kernel
theorem dL_law_374 : decode cL_law 374 = .ok (.aload_n 1, 1) := by decide +kernel
theorem dL_law_375 : decode cL_law 375 = .ok (.aload_n 0, 1) := by decide +kernel
theorem dL_law_376 : decode cL_law 376 = .ok (.iload_n 3, 1) := by decide +kernel
theorem dL_law_377 : decode cL_law 377 = .ok (.iconst 1, 1) := by decide +kernel
theorem dL_law_378 : decode cL_law 378 = .ok (.iadd, 1) := by decide +kernel
theorem dL_law_379 : decode cL_law 379 = .ok (.iaload, 1) := by decide +kernel
theorem dL_law_380 : decode cL_law 380 = .ok (.aload_n 0, 1) := by decide +kernel
theorem dL_law_381 : decode cL_law 381 = .ok (.iload_n 3, 1) := by decide +kernel
theorem dL_law_382 : decode cL_law 382 = .ok (.iconst 2, 1) := by decide +kernel
theorem dL_law_383 : decode cL_law 383 = .ok (.iadd, 1) := by decide +kernel
theorem dL_law_384 : decode cL_law 384 = .ok (.iaload, 1) := by decide +kernel
theorem dL_law_385 : decode cL_law 385 = .ok (.aload_n 0, 1) := by decide +kernel
theorem dL_law_386 : decode cL_law 386 = .ok (.iload_n 3, 1) := by decide +kernel
theorem dL_law_387 : decode cL_law 387 = .ok (.iconst 3, 1) := by decide +kernel
theorem dL_law_388 : decode cL_law 388 = .ok (.iadd, 1) := by decide +kernel
theorem dL_law_389 : decode cL_law 389 = .ok (.iaload, 1) := by decide +kernel
theorem dL_law_390 : decode cL_law 390 = .ok (.invokevirtual 48, 3) := by decide +kernel
theorem dL_law_393 : decode cL_law 393 = .ok (.aload_n 2, 1) := by decide +kernel
theorem dL_law_394 : decode cL_law 394 = .ok (.aload_n 0, 1) := by decide +kernel
theorem dL_law_395 : decode cL_law 395 = .ok (.iload_n 3, 1) := by decide +kernel
theorem dL_law_396 : decode cL_law 396 = .ok (.iconst 1, 1) := by decide +kernel
theorem dL_law_397 : decode cL_law 397 = .ok (.iadd, 1) := by decide +kernel
theorem dL_law_398 : decode cL_law 398 = .ok (.iaload, 1) := by decide +kernel
theorem dL_law_399 : decode cL_law 399 = .ok (.aload_n 0, 1) := by decide +kernel
theorem dL_law_400 : decode cL_law 400 = .ok (.iload_n 3, 1) := by decide +kernel
theorem dL_law_401 : decode cL_law 401 = .ok (.iconst 2, 1) := by decide +kernel
theorem dL_law_402 : decode cL_law 402 = .ok (.iadd, 1) := by decide +kernel
theorem dL_law_403 : decode cL_law 403 = .ok (.iaload, 1) := by decide +kernel
theorem dL_law_404 : decode cL_law 404 = .ok (.aload_n 0, 1) := by decide +kernel
theorem dL_law_405 : decode cL_law 405 = .ok (.iload_n 3, 1) := by decide +kernel
theorem dL_law_406 : decode cL_law 406 = .ok (.iconst 3, 1) := by decide +kernel
theorem dL_law_407 : decode cL_law 407 = .ok (.iadd, 1) := by decide +kernel
theorem dL_law_408 : decode cL_law 408 = .ok (.iaload, 1) := by decide +kernel
theorem dL_law_409 : decode cL_law 409 = .ok (.invokevirtual 51, 3) := by decide +kernel
theorem dL_law_412 : decode cL_law 412 = .ok (.if_icmp .eq 347, 3) := by decide +kernel
theorem dL_law_415 : decode cL_law 415 = .ok (.iconst 0, 1) := by decide +kernel
theorem dL_law_416 : decode cL_law 416 = .ok (.ireturn, 1) := by decide +kernel
theorem dL_law_417 : decode cL_law 417 = .ok (.aload_n 1, 1) := by decide +kernel
theorem dL_law_418 : decode cL_law 418 = .ok (.aload_n 0, 1) := by decide +kernel
theorem dL_law_419 : decode cL_law 419 = .ok (.iload_n 3, 1) := by decide +kernel
theorem dL_law_420 : decode cL_law 420 = .ok (.iconst 1, 1) := by decide +kernel
theorem dL_law_421 : decode cL_law 421 = .ok (.iadd, 1) := by decide +kernel
theorem dL_law_422 : decode cL_law 422 = .ok (.iaload, 1) := by decide +kernel
theorem dL_law_423 : decode cL_law 423 = .ok (.aload_n 0, 1) := by decide +kernel
theorem dL_law_424 : decode cL_law 424 = .ok (.iload_n 3, 1) := by decide +kernel
theorem dL_law_425 : decode cL_law 425 = .ok (.iconst 2, 1) := by decide +kernel
theorem dL_law_426 : decode cL_law 426 = .ok (.iadd, 1) := by decide +kernel
theorem dL_law_427 : decode cL_law 427 = .ok (.iaload, 1) := by decide +kernel
theorem dL_law_428 : decode cL_law 428 = .ok (.aload_n 0, 1) := by decide +kernel
theorem dL_law_429 : decode cL_law 429 = .ok (.iload_n 3, 1) := by decide +kernel
theorem dL_law_430 : decode cL_law 430 = .ok (.iconst 3, 1) := by decide +kernel
theorem dL_law_431 : decode cL_law 431 = .ok (.iadd, 1) := by decide +kernel
theorem dL_law_432 : decode cL_law 432 = .ok (.iaload, 1) := by decide +kernel
theorem dL_law_433 : decode cL_law 433 = .ok (.invokevirtual 52, 3) := by decide +kernel
theorem dL_law_436 : decode cL_law 436 = .ok (.aload_n 2, 1) := by decide +kernel
theorem dL_law_437 : decode cL_law 437 = .ok (.aload_n 0, 1) := by decide +kernel
theorem dL_law_438 : decode cL_law 438 = .ok (.iload_n 3, 1) := by decide +kernel
theorem dL_law_439 : decode cL_law 439 = .ok (.iconst 1, 1) := by decide +kernel
theorem dL_law_440 : decode cL_law 440 = .ok (.iadd, 1) := by decide +kernel
theorem dL_law_441 : decode cL_law 441 = .ok (.iaload, 1) := by decide +kernel
theorem dL_law_442 : decode cL_law 442 = .ok (.aload_n 0, 1) := by decide +kernel
theorem dL_law_443 : decode cL_law 443 = .ok (.iload_n 3, 1) := by decide +kernel
theorem dL_law_444 : decode cL_law 444 = .ok (.iconst 2, 1) := by decide +kernel
theorem dL_law_445 : decode cL_law 445 = .ok (.iadd, 1) := by decide +kernel
theorem dL_law_446 : decode cL_law 446 = .ok (.iaload, 1) := by decide +kernel
theorem dL_law_447 : decode cL_law 447 = .ok (.aload_n 0, 1) := by decide +kernel
theorem dL_law_448 : decode cL_law 448 = .ok (.iload_n 3, 1) := by decide +kernel
theorem dL_law_449 : decode cL_law 449 = .ok (.iconst 3, 1) := by decide +kernel
theorem dL_law_450 : decode cL_law 450 = .ok (.iadd, 1) := by decide +kernel
theorem dL_law_451 : decode cL_law 451 = .ok (.iaload, 1) := by decide +kernel
theorem dL_law_452 : decode cL_law 452 = .ok (.invokevirtual 55, 3) := by decide +kernel
theorem dL_law_455 : decode cL_law 455 = .ok (.if_icmp .eq 304, 3) := by decide +kernel
theorem dL_law_458 : decode cL_law 458 = .ok (.iconst 0, 1) := by decide +kernel
theorem dL_law_459 : decode cL_law 459 = .ok (.ireturn, 1) := by decide +kernel
theorem dL_law_460 : decode cL_law 460 = .ok (.aload_n 1, 1) := by decide +kernel
theorem dL_law_461 : decode cL_law 461 = .ok (.aload_n 0, 1) := by decide +kernel
theorem dL_law_462 : decode cL_law 462 = .ok (.iload_n 3, 1) := by decide +kernel
theorem dL_law_463 : decode cL_law 463 = .ok (.iconst 1, 1) := by decide +kernel
theorem dL_law_464 : decode cL_law 464 = .ok (.iadd, 1) := by decide +kernel
theorem dL_law_465 : decode cL_law 465 = .ok (.iaload, 1) := by decide +kernel
theorem dL_law_466 : decode cL_law 466 = .ok (.invokevirtual 56, 3) := by decide +kernel
theorem dL_law_469 : decode cL_law 469 = .ok (.aload_n 2, 1) := by decide +kernel
theorem dL_law_470 : decode cL_law 470 = .ok (.aload_n 0, 1) := by decide +kernel
theorem dL_law_471 : decode cL_law 471 = .ok (.iload_n 3, 1) := by decide +kernel
theorem dL_law_472 : decode cL_law 472 = .ok (.iconst 1, 1) := by decide +kernel
theorem dL_law_473 : decode cL_law 473 = .ok (.iadd, 1) := by decide +kernel
theorem dL_law_474 : decode cL_law 474 = .ok (.iaload, 1) := by decide +kernel
theorem dL_law_475 : decode cL_law 475 = .ok (.invokevirtual 59, 3) := by decide +kernel
theorem dL_law_478 : decode cL_law 478 = .ok (.if_icmp .eq 281, 3) := by decide +kernel
theorem dL_law_481 : decode cL_law 481 = .ok (.iconst 0, 1) := by decide +kernel
theorem dL_law_482 : decode cL_law 482 = .ok (.ireturn, 1) := by decide +kernel
theorem dL_law_483 : decode cL_law 483 = .ok (.aload_n 1, 1) := by decide +kernel
theorem dL_law_484 : decode cL_law 484 = .ok (.aload_n 0, 1) := by decide +kernel
theorem dL_law_485 : decode cL_law 485 = .ok (.iload_n 3, 1) := by decide +kernel
theorem dL_law_486 : decode cL_law 486 = .ok (.iconst 1, 1) := by decide +kernel
theorem dL_law_487 : decode cL_law 487 = .ok (.iadd, 1) := by decide +kernel
theorem dL_law_488 : decode cL_law 488 = .ok (.iaload, 1) := by decide +kernel
theorem dL_law_489 : decode cL_law 489 = .ok (.aload_n 0, 1) := by decide +kernel
theorem dL_law_490 : decode cL_law 490 = .ok (.iload_n 3, 1) := by decide +kernel
theorem dL_law_491 : decode cL_law 491 = .ok (.iconst 2, 1) := by decide +kernel
theorem dL_law_492 : decode cL_law 492 = .ok (.iadd, 1) := by decide +kernel
theorem dL_law_493 : decode cL_law 493 = .ok (.iaload, 1) := by decide +kernel
theorem dL_law_494 : decode cL_law 494 = .ok (.invokevirtual 60, 3) := by decide +kernel
theorem dL_law_497 : decode cL_law 497 = .ok (.aload_n 2, 1) := by decide +kernel
theorem dL_law_498 : decode cL_law 498 = .ok (.aload_n 0, 1) := by decide +kernel
theorem dL_law_499 : decode cL_law 499 = .ok (.iload_n 3, 1) := by decide +kernel
theorem dL_law_500 : decode cL_law 500 = .ok (.iconst 1, 1) := by decide +kernel
theorem dL_law_501 : decode cL_law 501 = .ok (.iadd, 1) := by decide +kernel
theorem dL_law_502 : decode cL_law 502 = .ok (.iaload, 1) := by decide +kernel
theorem dL_law_503 : decode cL_law 503 = .ok (.aload_n 0, 1) := by decide +kernel
theorem dL_law_504 : decode cL_law 504 = .ok (.iload_n 3, 1) := by decide +kernel
theorem dL_law_505 : decode cL_law 505 = .ok (.iconst 2, 1) := by decide +kernel
theorem dL_law_506 : decode cL_law 506 = .ok (.iadd, 1) := by decide +kernel
theorem dL_law_507 : decode cL_law 507 = .ok (.iaload, 1) := by decide +kernel
theorem dL_law_508 : decode cL_law 508 = .ok (.invokevirtual 63, 3) := by decide +kernel
theorem dL_law_511 : decode cL_law 511 = .ok (.if_icmp .eq 248, 3) := by decide +kernel
theorem dL_law_514 : decode cL_law 514 = .ok (.iconst 0, 1) := by decide +kernel
theorem dL_law_515 : decode cL_law 515 = .ok (.ireturn, 1) := by decide +kernel
theorem dL_law_516 : decode cL_law 516 = .ok (.aload_n 1, 1) := by decide +kernel
theorem dL_law_517 : decode cL_law 517 = .ok (.aload_n 0, 1) := by decide +kernel
theorem dL_law_518 : decode cL_law 518 = .ok (.iload_n 3, 1) := by decide +kernel
theorem dL_law_519 : decode cL_law 519 = .ok (.iconst 1, 1) := by decide +kernel
theorem dL_law_520 : decode cL_law 520 = .ok (.iadd, 1) := by decide +kernel
theorem dL_law_521 : decode cL_law 521 = .ok (.iaload, 1) := by decide +kernel
theorem dL_law_522 : decode cL_law 522 = .ok (.invokevirtual 64, 3) := by decide +kernel
theorem dL_law_525 : decode cL_law 525 = .ok (.aload_n 2, 1) := by decide +kernel
theorem dL_law_526 : decode cL_law 526 = .ok (.aload_n 0, 1) := by decide +kernel
theorem dL_law_527 : decode cL_law 527 = .ok (.iload_n 3, 1) := by decide +kernel
theorem dL_law_528 : decode cL_law 528 = .ok (.iconst 1, 1) := by decide +kernel
theorem dL_law_529 : decode cL_law 529 = .ok (.iadd, 1) := by decide +kernel
theorem dL_law_530 : decode cL_law 530 = .ok (.iaload, 1) := by decide +kernel
theorem dL_law_531 : decode cL_law 531 = .ok (.invokevirtual 67, 3) := by decide +kernel
theorem dL_law_534 : decode cL_law 534 = .ok (.if_icmp .eq 225, 3) := by decide +kernel
theorem dL_law_537 : decode cL_law 537 = .ok (.iconst 0, 1) := by decide +kernel
theorem dL_law_538 : decode cL_law 538 = .ok (.ireturn, 1) := by decide +kernel
theorem dL_law_539 : decode cL_law 539 = .ok (.aload_n 1, 1) := by decide +kernel
theorem dL_law_540 : decode cL_law 540 = .ok (.aload_n 0, 1) := by decide +kernel
theorem dL_law_541 : decode cL_law 541 = .ok (.iload_n 3, 1) := by decide +kernel
theorem dL_law_542 : decode cL_law 542 = .ok (.iconst 1, 1) := by decide +kernel
theorem dL_law_543 : decode cL_law 543 = .ok (.iadd, 1) := by decide +kernel
theorem dL_law_544 : decode cL_law 544 = .ok (.iaload, 1) := by decide +kernel
theorem dL_law_545 : decode cL_law 545 = .ok (.aload_n 0, 1) := by decide +kernel
theorem dL_law_546 : decode cL_law 546 = .ok (.iload_n 3, 1) := by decide +kernel
theorem dL_law_547 : decode cL_law 547 = .ok (.iconst 2, 1) := by decide +kernel
theorem dL_law_548 : decode cL_law 548 = .ok (.iadd, 1) := by decide +kernel
theorem dL_law_549 : decode cL_law 549 = .ok (.iaload, 1) := by decide +kernel
theorem dL_law_550 : decode cL_law 550 = .ok (.aload_n 0, 1) := by decide +kernel
theorem dL_law_551 : decode cL_law 551 = .ok (.iload_n 3, 1) := by decide +kernel
theorem dL_law_552 : decode cL_law 552 = .ok (.iconst 3, 1) := by decide +kernel
theorem dL_law_553 : decode cL_law 553 = .ok (.iadd, 1) := by decide +kernel
theorem dL_law_554 : decode cL_law 554 = .ok (.iaload, 1) := by decide +kernel
theorem dL_law_555 : decode cL_law 555 = .ok (.invokevirtual 68, 3) := by decide +kernel
theorem dL_law_558 : decode cL_law 558 = .ok (.aload_n 2, 1) := by decide +kernel
theorem dL_law_559 : decode cL_law 559 = .ok (.aload_n 0, 1) := by decide +kernel
theorem dL_law_560 : decode cL_law 560 = .ok (.iload_n 3, 1) := by decide +kernel
theorem dL_law_561 : decode cL_law 561 = .ok (.iconst 1, 1) := by decide +kernel
theorem dL_law_562 : decode cL_law 562 = .ok (.iadd, 1) := by decide +kernel
theorem dL_law_563 : decode cL_law 563 = .ok (.iaload, 1) := by decide +kernel
theorem dL_law_564 : decode cL_law 564 = .ok (.aload_n 0, 1) := by decide +kernel
theorem dL_law_565 : decode cL_law 565 = .ok (.iload_n 3, 1) := by decide +kernel
theorem dL_law_566 : decode cL_law 566 = .ok (.iconst 2, 1) := by decide +kernel
theorem dL_law_567 : decode cL_law 567 = .ok (.iadd, 1) := by decide +kernel
theorem dL_law_568 : decode cL_law 568 = .ok (.iaload, 1) := by decide +kernel
theorem dL_law_569 : decode cL_law 569 = .ok (.aload_n 0, 1) := by decide +kernel
theorem dL_law_570 : decode cL_law 570 = .ok (.iload_n 3, 1) := by decide +kernel
theorem dL_law_571 : decode cL_law 571 = .ok (.iconst 3, 1) := by decide +kernel
theorem dL_law_572 : decode cL_law 572 = .ok (.iadd, 1) := by decide +kernel
theorem dL_law_573 : decode cL_law 573 = .ok (.iaload, 1) := by decide +kernel
theorem dL_law_574 : decode cL_law 574 = .ok (.invokevirtual 71, 3) := by decide +kernel
theorem dL_law_577 : decode cL_law 577 = .ok (.if_icmp .eq 182, 3) := by decide +kernel
theorem dL_law_580 : decode cL_law 580 = .ok (.iconst 0, 1) := by decide +kernel
theorem dL_law_581 : decode cL_law 581 = .ok (.ireturn, 1) := by decide +kernel
theorem dL_law_582 : decode cL_law 582 = .ok (.aload_n 1, 1) := by decide +kernel
theorem dL_law_583 : decode cL_law 583 = .ok (.invokevirtual 72, 3) := by decide +kernel
theorem dL_law_586 : decode cL_law 586 = .ok (.aload_n 2, 1) := by decide +kernel
theorem dL_law_587 : decode cL_law 587 = .ok (.invokevirtual 76, 3) := by decide +kernel
theorem dL_law_590 : decode cL_law 590 = .ok (.if_icmp .eq 169, 3) := by decide +kernel
theorem dL_law_593 : decode cL_law 593 = .ok (.iconst 0, 1) := by decide +kernel
theorem dL_law_594 : decode cL_law 594 = .ok (.ireturn, 1) := by decide +kernel
theorem dL_law_595 : decode cL_law 595 = .ok (.aload_n 1, 1) := by decide +kernel
theorem dL_law_596 : decode cL_law 596 = .ok (.invokevirtual 77, 3) := by decide +kernel
theorem dL_law_599 : decode cL_law 599 = .ok (.aload_n 2, 1) := by decide +kernel
theorem dL_law_600 : decode cL_law 600 = .ok (.invokevirtual 80, 3) := by decide +kernel
theorem dL_law_603 : decode cL_law 603 = .ok (.if_icmp .eq 156, 3) := by decide +kernel
theorem dL_law_606 : decode cL_law 606 = .ok (.iconst 0, 1) := by decide +kernel
theorem dL_law_607 : decode cL_law 607 = .ok (.ireturn, 1) := by decide +kernel
theorem dL_law_608 : decode cL_law 608 = .ok (.aload_n 1, 1) := by decide +kernel
theorem dL_law_609 : decode cL_law 609 = .ok (.aload_n 0, 1) := by decide +kernel
theorem dL_law_610 : decode cL_law 610 = .ok (.iload_n 3, 1) := by decide +kernel
theorem dL_law_611 : decode cL_law 611 = .ok (.iconst 1, 1) := by decide +kernel
theorem dL_law_612 : decode cL_law 612 = .ok (.iadd, 1) := by decide +kernel
theorem dL_law_613 : decode cL_law 613 = .ok (.iaload, 1) := by decide +kernel
theorem dL_law_614 : decode cL_law 614 = .ok (.i2l, 1) := by decide +kernel
theorem dL_law_615 : decode cL_law 615 = .ok (.bipush 32, 2) := by decide +kernel
theorem dL_law_617 : decode cL_law 617 = .ok (.lshl, 1) := by decide +kernel
theorem dL_law_618 : decode cL_law 618 = .ok (.aload_n 0, 1) := by decide +kernel
theorem dL_law_619 : decode cL_law 619 = .ok (.iload_n 3, 1) := by decide +kernel
theorem dL_law_620 : decode cL_law 620 = .ok (.iconst 2, 1) := by decide +kernel
theorem dL_law_621 : decode cL_law 621 = .ok (.iadd, 1) := by decide +kernel
theorem dL_law_622 : decode cL_law 622 = .ok (.iaload, 1) := by decide +kernel
theorem dL_law_623 : decode cL_law 623 = .ok (.i2l, 1) := by decide +kernel
theorem dL_law_624 : decode cL_law 624 = .ok (.ldc2_w 81, 3) := by decide +kernel
theorem dL_law_627 : decode cL_law 627 = .ok (.land, 1) := by decide +kernel
theorem dL_law_628 : decode cL_law 628 = .ok (.lor, 1) := by decide +kernel
theorem dL_law_629 : decode cL_law 629 = .ok (.invokevirtual 83, 3) := by decide +kernel
theorem dL_law_632 : decode cL_law 632 = .ok (.aload_n 2, 1) := by decide +kernel
theorem dL_law_633 : decode cL_law 633 = .ok (.aload_n 0, 1) := by decide +kernel
theorem dL_law_634 : decode cL_law 634 = .ok (.iload_n 3, 1) := by decide +kernel
theorem dL_law_635 : decode cL_law 635 = .ok (.iconst 1, 1) := by decide +kernel
theorem dL_law_636 : decode cL_law 636 = .ok (.iadd, 1) := by decide +kernel
theorem dL_law_637 : decode cL_law 637 = .ok (.iaload, 1) := by decide +kernel
theorem dL_law_638 : decode cL_law 638 = .ok (.i2l, 1) := by decide +kernel
theorem dL_law_639 : decode cL_law 639 = .ok (.bipush 32, 2) := by decide +kernel
theorem dL_law_641 : decode cL_law 641 = .ok (.lshl, 1) := by decide +kernel
theorem dL_law_642 : decode cL_law 642 = .ok (.aload_n 0, 1) := by decide +kernel
theorem dL_law_643 : decode cL_law 643 = .ok (.iload_n 3, 1) := by decide +kernel
theorem dL_law_644 : decode cL_law 644 = .ok (.iconst 2, 1) := by decide +kernel
theorem dL_law_645 : decode cL_law 645 = .ok (.iadd, 1) := by decide +kernel
theorem dL_law_646 : decode cL_law 646 = .ok (.iaload, 1) := by decide +kernel
theorem dL_law_647 : decode cL_law 647 = .ok (.i2l, 1) := by decide +kernel
theorem dL_law_648 : decode cL_law 648 = .ok (.ldc2_w 81, 3) := by decide +kernel
theorem dL_law_651 : decode cL_law 651 = .ok (.land, 1) := by decide +kernel
theorem dL_law_652 : decode cL_law 652 = .ok (.lor, 1) := by decide +kernel
theorem dL_law_653 : decode cL_law 653 = .ok (.invokevirtual 87, 3) := by decide +kernel
theorem dL_law_656 : decode cL_law 656 = .ok (.if_icmp .eq 103, 3) := by decide +kernel
theorem dL_law_659 : decode cL_law 659 = .ok (.iconst 0, 1) := by decide +kernel
theorem dL_law_660 : decode cL_law 660 = .ok (.ireturn, 1) := by decide +kernel
theorem dL_law_661 : decode cL_law 661 = .ok (.aload_n 1, 1) := by decide +kernel
theorem dL_law_662 : decode cL_law 662 = .ok (.invokevirtual 88, 3) := by decide +kernel
theorem dL_law_665 : decode cL_law 665 = .ok (.aload_n 2, 1) := by decide +kernel
theorem dL_law_666 : decode cL_law 666 = .ok (.invokevirtual 91, 3) := by decide +kernel
theorem dL_law_669 : decode cL_law 669 = .ok (.if_icmp .eq 90, 3) := by decide +kernel
theorem dL_law_672 : decode cL_law 672 = .ok (.iconst 0, 1) := by decide +kernel
theorem dL_law_673 : decode cL_law 673 = .ok (.ireturn, 1) := by decide +kernel
theorem dL_law_674 : decode cL_law 674 = .ok (.aload_n 1, 1) := by decide +kernel
theorem dL_law_675 : decode cL_law 675 = .ok (.invokevirtual 92, 3) := by decide +kernel
theorem dL_law_678 : decode cL_law 678 = .ok (.aload_n 2, 1) := by decide +kernel
theorem dL_law_679 : decode cL_law 679 = .ok (.invokevirtual 95, 3) := by decide +kernel
theorem dL_law_682 : decode cL_law 682 = .ok (.if_icmp .eq 77, 3) := by decide +kernel
theorem dL_law_685 : decode cL_law 685 = .ok (.iconst 0, 1) := by decide +kernel
theorem dL_law_686 : decode cL_law 686 = .ok (.ireturn, 1) := by decide +kernel
theorem dL_law_687 : decode cL_law 687 = .ok (.aload_n 1, 1) := by decide +kernel
theorem dL_law_688 : decode cL_law 688 = .ok (.invokevirtual 96, 3) := by decide +kernel
theorem dL_law_691 : decode cL_law 691 = .ok (.aload_n 2, 1) := by decide +kernel
theorem dL_law_692 : decode cL_law 692 = .ok (.invokevirtual 99, 3) := by decide +kernel
theorem dL_law_695 : decode cL_law 695 = .ok (.if_icmp .eq 64, 3) := by decide +kernel
theorem dL_law_698 : decode cL_law 698 = .ok (.iconst 0, 1) := by decide +kernel
theorem dL_law_699 : decode cL_law 699 = .ok (.ireturn, 1) := by decide +kernel
theorem dL_law_700 : decode cL_law 700 = .ok (.aload_n 1, 1) := by decide +kernel
theorem dL_law_701 : decode cL_law 701 = .ok (.invokevirtual 100, 3) := by decide +kernel
theorem dL_law_704 : decode cL_law 704 = .ok (.aload_n 2, 1) := by decide +kernel
theorem dL_law_705 : decode cL_law 705 = .ok (.invokevirtual 103, 3) := by decide +kernel
theorem dL_law_708 : decode cL_law 708 = .ok (.if_icmp .eq 51, 3) := by decide +kernel
theorem dL_law_711 : decode cL_law 711 = .ok (.iconst 0, 1) := by decide +kernel
theorem dL_law_712 : decode cL_law 712 = .ok (.ireturn, 1) := by decide +kernel
theorem dL_law_713 : decode cL_law 713 = .ok (.aload_n 1, 1) := by decide +kernel
theorem dL_law_714 : decode cL_law 714 = .ok (.aload_n 0, 1) := by decide +kernel
theorem dL_law_715 : decode cL_law 715 = .ok (.iload_n 3, 1) := by decide +kernel
theorem dL_law_716 : decode cL_law 716 = .ok (.iconst 1, 1) := by decide +kernel
theorem dL_law_717 : decode cL_law 717 = .ok (.iadd, 1) := by decide +kernel
theorem dL_law_718 : decode cL_law 718 = .ok (.iaload, 1) := by decide +kernel
theorem dL_law_719 : decode cL_law 719 = .ok (.invokevirtual 104, 3) := by decide +kernel
theorem dL_law_722 : decode cL_law 722 = .ok (.aload_n 2, 1) := by decide +kernel
theorem dL_law_723 : decode cL_law 723 = .ok (.aload_n 0, 1) := by decide +kernel
theorem dL_law_724 : decode cL_law 724 = .ok (.iload_n 3, 1) := by decide +kernel
theorem dL_law_725 : decode cL_law 725 = .ok (.iconst 1, 1) := by decide +kernel
theorem dL_law_726 : decode cL_law 726 = .ok (.iadd, 1) := by decide +kernel
theorem dL_law_727 : decode cL_law 727 = .ok (.iaload, 1) := by decide +kernel
theorem dL_law_728 : decode cL_law 728 = .ok (.invokevirtual 107, 3) := by decide +kernel
theorem dL_law_731 : decode cL_law 731 = .ok (.if_icmp .eq 28, 3) := by decide +kernel
theorem dL_law_734 : decode cL_law 734 = .ok (.iconst 0, 1) := by decide +kernel
theorem dL_law_735 : decode cL_law 735 = .ok (.ireturn, 1) := by decide +kernel
theorem dL_law_736 : decode cL_law 736 = .ok (.aload_n 1, 1) := by decide +kernel
theorem dL_law_737 : decode cL_law 737 = .ok (.aload_n 0, 1) := by decide +kernel
theorem dL_law_738 : decode cL_law 738 = .ok (.iload_n 3, 1) := by decide +kernel
theorem dL_law_739 : decode cL_law 739 = .ok (.iconst 1, 1) := by decide +kernel
theorem dL_law_740 : decode cL_law 740 = .ok (.iadd, 1) := by decide +kernel
theorem dL_law_741 : decode cL_law 741 = .ok (.iaload, 1) := by decide +kernel
theorem dL_law_742 : decode cL_law 742 = .ok (.invokevirtual 108, 3) := by decide +kernel
theorem dL_law_745 : decode cL_law 745 = .ok (.aload_n 2, 1) := by decide +kernel
theorem dL_law_746 : decode cL_law 746 = .ok (.aload_n 0, 1) := by decide +kernel
theorem dL_law_747 : decode cL_law 747 = .ok (.iload_n 3, 1) := by decide +kernel
theorem dL_law_748 : decode cL_law 748 = .ok (.iconst 1, 1) := by decide +kernel
theorem dL_law_749 : decode cL_law 749 = .ok (.iadd, 1) := by decide +kernel
theorem dL_law_750 : decode cL_law 750 = .ok (.iaload, 1) := by decide +kernel
theorem dL_law_751 : decode cL_law 751 = .ok (.invokevirtual 111, 3) := by decide +kernel
theorem dL_law_754 : decode cL_law 754 = .ok (.if_icmp .eq 5, 3) := by decide +kernel
theorem dL_law_757 : decode cL_law 757 = .ok (.iconst 0, 1) := by decide +kernel
theorem dL_law_758 : decode cL_law 758 = .ok (.ireturn, 1) := by decide +kernel
theorem dL_law_759 : decode cL_law 759 = .ok (.iinc 3 4, 3) := by decide +kernel
theorem dL_law_762 : decode cL_law 762 = .ok (.goto (-744), 3) := by decide +kernel
theorem dL_law_765 : decode cL_law 765 = .ok (.iconst 1, 1) := by decide +kernel
theorem dL_law_766 : decode cL_law 766 = .ok (.ireturn, 1) := by decide +kernel
end
section
/-! THE LAYER: an abstract heap (a function from addresses to cells), its tie to the machine's heap, the judgement T: a frame at pc with locals lv, stack st and abstract heap σ comes to an end with P. One row an instruction. Rows that may fail take h : OK inj (the decompiled rest) P along. -/
/-- a cell: a row of ints, a row of references, an object (its class by its place in vwCl, its fields) -/
abbrev HC : Type := (Nat × (Nat → Int32)) ⊕ ((Nat × (Nat → Option Nat)) ⊕ (Nat × List Value))
/-- the abstract heap: the next free address, the cells -/
abbrev Hp : Type := Nat × (Nat → Option HC)
abbrev smG : Type := va_G × ClassId × ClassId × Nat
def sm_tr (G : smG) : HC → va_E
  | .inl a => .inl (G.2.1, (a.1, .inl a.2))
  | .inr (.inl a) => .inl (G.2.2.1, (a.1, .inr (.inr (.inr (.inr a.2)))))
  | .inr (.inr o) => .inr o
def sm_Rel (G : smG) (σ : Hp) (H : Heap) : Prop := H.size = σ.1 ∧ G.2.2.2 ≤ σ.1 ∧ ∀ q x, σ.2 q = some x → G.2.2.2 ≤ q ∧ va_at G.1 vwCl (q, sm_tr G x) H
def sm_nest : List Cond := [.methodLinkNest RX9 34 yX5_init "SunMirrors", .methodLinkNest RX9 50 yX3_init "SunMirrors", .methodLinkNest RX2 64 yX9_isPlace "SunMirrors", .methodLinkNest RX2 67 yX9_isAimPoint "SunMirrors", .methodLinkNest RX4 83 yX9_isPlace "SunMirrors"]
def sm_K (G : smG) (U : State) : Prop := va_K G.1 vwCl [(G.2.1, .int), (G.2.2.1, .object "SunMirrors$Field")] U ∧ va_AO "SunMirrors$Field" U ∧ ∀ w ∈ sm_nest, va_Nw w U
set_option maxHeartbeats 1000000 in
theorem sm_K.warm {G : smG} {s U : State} (hW : s.WarmedH U.vm) (h : sm_K G s) : sm_K G U := by
  refine ⟨va_K.moved hW.alike h.1, va_AO.moved hW.alike h.2.1, fun w hw => ?_⟩
  have h3 := h.2.2
  simp only [sm_nest, List.mem_cons, List.not_mem_nil, or_false] at hw h3
  rcases hw with rfl | rfl | rfl | rfl | rfl
  all_goals exact va_Nw.warmM hW (h3 _ (by simp))
set_option maxHeartbeats 1000000 in
theorem sm_K.blind {G : smG} {U V : State} (e : U.vm = V.vm) (h : sm_K G U) : sm_K G V := by
  have ha : U.vm.Alike V.vm := by rw [e]; exact Vm.Alike.refl _
  refine ⟨va_K.moved ha h.1, va_AO.moved ha h.2.1, fun w hw => ?_⟩
  have h3 := h.2.2
  simp only [sm_nest, List.mem_cons, List.not_mem_nil, or_false] at hw h3
  rcases hw with rfl | rfl | rfl | rfl | rfl
  all_goals exact va_Nw.same rfl e (h3 _ (by simp))
def sm_S (G : smG) (H0 H : Heap) (locs : List Loc) : Prop := (∀ q : Nat, q < G.2.2.2 → H[q]? = H0[q]?) ∧ ∀ x ∈ locs, G.2.2.2 ≤ x.base
set_option maxHeartbeats 1000000 in
theorem sm_S.put {G : smG} {H0 H H1 : Heap} {locs : List Loc} {a k : Nat} (h : sm_S G H0 H locs) (ha : G.2.2.2 ≤ a) (oq : ∀ q : Nat, q ≠ a → H1[q]? = H[q]?) : sm_S G H0 H1 (locs ++ [⟨a, k⟩]) := by
  refine ⟨fun q hq => ?_, fun x hx => ?_⟩
  · rw [oq q (by omega)]; exact h.1 q hq
  · rcases List.mem_append.mp hx with h1 | h1
    · exact h.2 x h1
    · rw [List.mem_singleton.mp h1]; exact ha
/-- a cell of the abstract heap is set -/
def setC (σ : Hp) (a : Nat) (x : HC) : Hp := (σ.1, fun q => if q = a then some x else σ.2 q)
set_option maxHeartbeats 1000000 in
theorem sm_Rel.set {G : smG} {σ : Hp} {H H1 : Heap} {a : Nat} {x y : HC} (h : sm_Rel G σ H) (ha : σ.2 a = some y) (z : H1.size = H.size) (oq : ∀ q : Nat, q ≠ a → H1[q]? = H[q]?) (hx : va_at G.1 vwCl (a, sm_tr G x) H1) : sm_Rel G (setC σ a x) H1 := by
  refine ⟨z.trans h.1, h.2.1, fun q v hv => ?_⟩
  by_cases e : q = a
  · subst e
    have hv : some x = some v := by simpa [setC] using hv
    cases hv
    exact ⟨(h.2.2 q y ha).1, hx⟩
  · have hv : σ.2 q = some v := by simpa [setC, e] using hv
    obtain ⟨h1, h2⟩ := h.2.2 q v hv
    exact ⟨h1, h2.kept (oq q e)⟩
/-- a new cell -/
def addC (σ : Hp) (x : HC) : Hp := (σ.1 + 1, fun q => if q = σ.1 then some x else σ.2 q)
set_option maxHeartbeats 1000000 in
theorem sm_Rel.add {G : smG} {σ : Hp} {H H1 : Heap} {x : HC} (h : sm_Rel G σ H) (z : H1.size = H.size + 1) (oq : ∀ q : Nat, q < H.size → H1[q]? = H[q]?) (hx : va_at G.1 vwCl (H.size, sm_tr G x) H1) : sm_Rel G (addC σ x) H1 := by
  refine ⟨by rw [z, h.1]; rfl, Nat.le_succ_of_le h.2.1, fun q v hv => ?_⟩
  by_cases e : q = σ.1
  · subst e
    have hv : some x = some v := by simpa [addC] using hv
    cases hv
    exact ⟨h.2.1, by rw [← h.1]; exact hx⟩
  · have hv : σ.2 q = some v := by simpa [addC, e] using hv
    obtain ⟨h1, h2⟩ := h.2.2 q v hv
    exact ⟨h1, h2.kept (oq q h2.lt)⟩
/-! what the decompiled functions may do with the abstract heap -/
def getV (σ : Hp) (a c k : Nat) : Option Value := match σ.2 a with
  | some (.inr (.inr o)) => if o.1 = c then o.2[k]? else none
  | _ => none
def getI (σ : Hp) (a c k : Nat) : Option Int32 := match getV σ a c k with
  | some (.int x) => some x
  | _ => none
def getR (σ : Hp) (a c k : Nat) : Option Nat := match getV σ a c k with
  | some (.ref x) => some x
  | _ => none
def putV (σ : Hp) (a c k : Nat) (v : Value) : Option Hp := match σ.2 a with
  | some (.inr (.inr o)) => if o.1 = c ∧ k < o.2.length then some (setC σ a (.inr (.inr (c, o.2.set k v)))) else none
  | _ => none
def putI (σ : Hp) (a c k : Nat) (x : Int32) : Option Hp := putV σ a c k (.int x)
def putZ (σ : Hp) (a c k : Nat) (x : Int32) : Option Hp := if x = 0 ∨ x = 1 then putV σ a c k (.int x) else none
def putR (σ : Hp) (a c k : Nat) (x : Nat) : Option Hp := putV σ a c k (.ref x)
def isO (σ : Hp) (a c : Nat) : Option Unit := match σ.2 a with
  | some (.inr (.inr o)) => if o.1 = c then some () else none
  | _ => none
def ldI (σ : Hp) (a : Nat) (i : Int32) : Option Int32 := match σ.2 a with
  | some (.inl x) => if 0 ≤ i.toInt ∧ i.toInt < x.1 then some (x.2 i.toNatClampNeg) else none
  | _ => none
def stI (σ : Hp) (a : Nat) (i x : Int32) : Option Hp := match σ.2 a with
  | some (.inl y) => if 0 ≤ i.toInt ∧ i.toInt < y.1 then some (setC σ a (.inl (y.1, upd y.2 i.toNatClampNeg x))) else none
  | _ => none
def ldR (σ : Hp) (a : Nat) (i : Int32) : Option (Option Nat) := match σ.2 a with
  | some (.inr (.inl x)) => if 0 ≤ i.toInt ∧ i.toInt < x.1 then some (x.2 i.toNatClampNeg) else none
  | _ => none
/-- a reference to a Field is stored in a row of references -/
def stR (σ : Hp) (a : Nat) (i : Int32) (v : Nat) : Option Hp := match σ.2 a, isO σ v 2 with
  | some (.inr (.inl y)), some _ => if 0 ≤ i.toInt ∧ i.toInt < y.1 then some (setC σ a (.inr (.inl (y.1, va_up y.2 i.toNatClampNeg (some v))))) else none
  | _, _ => none
def alen (σ : Hp) (a : Nat) : Option Int32 := match σ.2 a with
  | some (.inl x) => some (Int32.ofNat x.1)
  | some (.inr (.inl x)) => some (Int32.ofNat x.1)
  | _ => none
def newI (σ : Hp) (n : Int32) : Option Hp := if 0 ≤ n.toInt ∧ n.toInt ≤ 800 then some (addC σ (.inl (n.toNatClampNeg, fun _ => 0))) else none
def newR (σ : Hp) (n : Int32) : Option Hp := if 0 ≤ n.toInt ∧ n.toInt ≤ 800 then some (addC σ (.inr (.inl (n.toNatClampNeg, fun _ => none)))) else none
def newO (σ : Hp) (c : Nat) (fs : List Value) : Hp := addC σ (.inr (.inr (c, fs)))
def cpyI (σ : Hp) (a0 : Nat) (sp : Int32) (a : Nat) (dp n : Int32) : Option Hp := match σ.2 a0, σ.2 a with
  | some (.inl x), some (.inl y) => if (¬ sp < 0 ∧ ¬ dp < 0 ∧ ¬ n < 0) ∧ sp.toNatClampNeg + n.toNatClampNeg ≤ x.1 ∧ dp.toNatClampNeg + n.toNatClampNeg ≤ y.1 then some (setC σ a (.inl (y.1, va_cpy x.2 y.2 sp.toNatClampNeg dp.toNatClampNeg n.toNatClampNeg))) else none
  | _, _ => none
def divI (x y : Int32) : Option Int32 := if y = 0 then none else some (x / y)
def remI (x y : Int32) : Option Int32 := if y = 0 then none else some (x - x / y * y)
def retZ {α : Type} (x : Int32) (r : α) : Option α := if x = 0 ∨ x = 1 then some r else none
/-- a call that gives a number or a reference, and a heap -/
def bd {α β : Type} (d : Option (α × Hp)) (f : α → Hp → Option β) : Option β := d.bind fun q => f q.1 q.2
/-- a value is named -/
def nm {α β : Type} (x : α) (f : α → β) : β := f x
/-- the end of a decompiled piece: it gives something, and P holds of it -/
def OK {α : Type} (inj : α → Option Value × Hp) (d : Option α) (P : Option Value → Hp → Prop) : Prop := ∃ a, d = some a ∧ P (inj a).1 (inj a).2
def jI : Int32 × Hp → Option Value × Hp := fun q => (some (.int q.1), q.2)
def jV : Hp → Option Value × Hp := fun σ => (none, σ)
def jR : Option Nat × Hp → Option Value × Hp := fun q => (some (va_rf q.1), q.2)
set_option maxHeartbeats 1000000 in
theorem OK.bind {α β : Type} {inj : α → Option Value × Hp} {d : Option β} {f : β → Option α} {P : Option Value → Hp → Prop} (h : OK inj (d.bind f) P) : ∃ x, d = some x ∧ OK inj (f x) P := by
  obtain ⟨a, h1, h2⟩ := h
  cases d with
  | none => cases h1
  | some x => exact ⟨x, rfl, a, h1, h2⟩
/-- the frame's context -/
def sm_Cx (p : Program) (s : State) (m : MethodId) (args : Array Value) (c : Code) (own : String) (cc : ByteArray) (nL : Nat) (G : smG) : Prop :=
  p.tables.exec = Jvm.exec ∧ c.code = cc ∧ c.maxLocals = nL ∧ s.vm.findClass own = some m.cls ∧ (∀ w ∈ wsL_law, w.before args s = true) ∧ sm_K G s
abbrev smE : Type := State → Array Value → Method → Prop
def T (l : Launch) (G : smG) (own : String) (cc : ByteArray) (nL : Nat) (rm : Room) (E : smE) (Qs : List Frame → Array Value → State → State → Prop) (cs sl pc : Nat) (lv : List (Nat × Value)) (st : List Value) (σ : Hp) : Prop :=
  ∀ (p : Program) (e : Env) (s : State) (m : MethodId) (args : Array Value) (below : List Frame) (meth : Method) (c : Code) (H : Heap) (locs : List Loc) (ls : Array Slot), sm_Cx p s m args c own cc nL G → E s args meth → sm_Rel G σ H → sm_S G s.heap H locs → lv_has ls nL lv → W p l e rm s m args below meth c H locs cs sl (Qs below args s) (F0 m pc ls st)
def sm_E (rt : Option FieldType) (nme : String) : smE := fun _ _ meth => meth.sig.returnType = rt ∧ meth.locks = false ∧ meth.name = nme
def sm_Qm (G : smG) (P : Option Value → Hp → Prop) : Array Value → State → Outcome → State → Prop := fun _ st oc t => (∃ v σ', oc = .returned v ∧ P v σ' ∧ sm_Rel G σ' t.heap) ∧ ∀ q : Nat, q < G.2.2.2 → t.heap[q]? = st.heap[q]?
def sm_Qs (G : smG) (P : Option Value → Hp → Prop) (mc ms : Nat) : List Frame → Array Value → State → State → Prop := fun below args s => MQ below (sm_Qm G P) args s mc ms (fun q => G.2.2.2 ≤ q)
def sm_rm (d mc ms : Nat) : Room := { frames := d, cells := mc, slots := ms, locals := 40 * d }
/-- a method's contract at given arguments and a given abstract heap -/
def sm_Ct (l : Launch) (y : MethodName) (cc : ByteArray) (nL : Nat) (rt : Option FieldType) (d mc ms : Nat) (args : List Value) (σ : Hp) (P : Option Value → Hp → Prop) : Prop :=
  ∀ G : smG, Met l y (.code y cc nL rt :: wsL_law) (sm_rm d mc ms) (va_Pc args (fun U => sm_Rel G σ U.heap ∧ sm_K G U)) (sm_Qm G P) mc ms (fun q => G.2.2.2 ≤ q)
set_option maxHeartbeats 1000000 in
theorem sm_enter {l : Launch} {y : MethodName} {own : String} {cc : ByteArray} {nL : Nat} {rt : Option FieldType} {d mc ms : Nat} {args : List Value} {σ : Hp} {P : Option Value → Hp → Prop} {lv : List (Nat × Value)} (hy : plainName y.cls = true) (hown : y.cls = own) (hsl : (lg_sl args).length ≤ nL) (hlv : lv_args 0 args = lv)
    (k : ∀ G, T l G own cc nL (sm_rm d mc ms) (sm_E rt y.name) (sm_Qs G P mc ms) 0 0 0 lv [] σ) : sm_Ct l y cc nL rt d mc ms args σ P := by
  intro G
  refine Met.ofW (cc := cc) (maxL := nL) (ret := rt) hy rfl ?_
  intro p e s m av below meth c s₁ B hml hv
  obtain ⟨rfl, hR, hK⟩ := hv
  have hx := B.exec
  have hb := B.bytes
  have hr := B.returns
  have hts := atoms_spec (ws := Cond.code y cc nL rt :: wsL_law) B.pre
  have hw : s.vm.findClass own = some m.cls := by rw [← hown]; exact findClass_of_methodNamed B.named
  have hlocks := B.notSynchronized
  have hin : meth.name = y.name := (name_of_methodNamed B.named B.method).1
  have hl := lv_entry args (n := nL) hsl
  rw [lg_entry_eq]
  rw [hlv] at hl
  exact k G p e s m args.toArray below meth c s.heap [] _ ⟨hx, hb, hml, hw, fun w h => hts w (List.mem_cons_of_mem _ h), hK⟩ ⟨hr, hlocks, hin⟩ hR ⟨fun _ _ => rfl, fun _ h => by cases h⟩ hl
section ROWS
variable {l : Launch} {G : smG} {own : String} {cc : ByteArray} {nL : Nat} {rm : Room} {E : smE} {Qs : List Frame → Array Value → State → State → Prop} {cs sl pc : Nat} {lv : List (Nat × Value)} {st : List Value} {σ : Hp}
set_option maxHeartbeats 1000000 in
theorem T_lv {lv' : List (Nat × Value)} (ks : List Nat) (h : lv_pick lv ks = lv') (k : T l G own cc nL rm E Qs cs sl pc lv' st σ) : T l G own cc nL rm E Qs cs sl pc lv st σ :=
  fun p e s m args below meth c H locs ls C0 he hR hS hl => k p e s m args below meth c H locs ls C0 he hR hS (lv_sub hl ks h)
set_option maxHeartbeats 1000000 in
theorem T_cs {cs' sl' : Nat} (h1 : cs ≤ cs') (h2 : sl ≤ sl') (k : T l G own cc nL rm E Qs cs' sl' pc lv st σ) : T l G own cc nL rm E Qs cs sl pc lv st σ :=
  fun p e s m args below meth c H locs ls C0 he hR hS hl => W.widen h1 h2 (k p e s m args below meth c H locs ls C0 he hR hS hl)
set_option maxHeartbeats 1000000 in
theorem T_nm {α : Type} {inj : α → Option Value × Hp} {P : Option Value → Hp → Prop} {x : Int32} {f : Int32 → Option α} (h : OK inj (nm x f) P) (k : ∀ y : Int32, OK inj (f y) P → T l G own cc nL rm E Qs cs sl pc lv (.int y :: st) σ) : T l G own cc nL rm E Qs cs sl pc lv (.int x :: st) σ := k x h
set_option maxHeartbeats 1000000 in
theorem T_nmL {α : Type} {inj : α → Option Value × Hp} {P : Option Value → Hp → Prop} {x : Int64} {f : Int64 → Option α} (h : OK inj (nm x f) P) (k : ∀ y : Int64, OK inj (f y) P → T l G own cc nL rm E Qs cs sl pc lv (.long y :: st) σ) : T l G own cc nL rm E Qs cs sl pc lv (.long x :: st) σ := k x h
set_option maxHeartbeats 1000000 in
theorem T_ite {α : Type} {inj : α → Option Value × Hp} {P : Option Value → Hp → Prop} {c : Prop} [Decidable c] {A B : Option α} {X : Prop} (h : OK inj (if c then A else B) P) (kt : c → OK inj A P → X) (kf : ¬ c → OK inj B P → X) : X := by
  by_cases hc : c
  · rw [if_pos hc] at h; exact kt hc h
  · rw [if_neg hc] at h; exact kf hc h

set_option maxHeartbeats 1000000 in
theorem T_iconst {n : Int} (v : Int32) (hd : decode cc pc = .ok (.iconst n, 1)) (hv : Int32.ofInt n = v)
    (k : T l G own cc nL rm E Qs cs sl (pc + 1) lv (.int v :: st) σ) : T l G own cc nL rm E Qs cs sl pc lv st σ := by
  intro p e s m args below meth c H locs ls C0 he hR hS hl
  obtain ⟨hx, hb, -⟩ := id C0
  exact lv_iconst hx hb hd hv (k p e s m args below meth c H locs ls C0 he hR hS hl)

set_option maxHeartbeats 1000000 in
theorem T_bipush {n : Int} (v : Int32) (hd : decode cc pc = .ok (.bipush n, 2)) (hv : (Int8.ofInt n).toInt32 = v)
    (k : T l G own cc nL rm E Qs cs sl (pc + 2) lv (.int v :: st) σ) : T l G own cc nL rm E Qs cs sl pc lv st σ := by
  intro p e s m args below meth c H locs ls C0 he hR hS hl
  obtain ⟨hx, hb, -⟩ := id C0
  exact lv_bipush hx hb hd hv (k p e s m args below meth c H locs ls C0 he hR hS hl)

set_option maxHeartbeats 1000000 in
theorem T_sipush {n : Int} (v : Int32) (hd : decode cc pc = .ok (.sipush n, 3)) (hv : (Int16.ofInt n).toInt32 = v)
    (k : T l G own cc nL rm E Qs cs sl (pc + 3) lv (.int v :: st) σ) : T l G own cc nL rm E Qs cs sl pc lv st σ := by
  intro p e s m args below meth c H locs ls C0 he hR hS hl
  obtain ⟨hx, hb, -⟩ := id C0
  exact lv_sipush hx hb hd hv (k p e s m args below meth c H locs ls C0 he hR hS hl)

set_option maxHeartbeats 1000000 in
theorem T_lconst {n : Fin 2} (v : Int64) (hd : decode cc pc = .ok (.lconst n, 1)) (hv : Int64.ofNat (n : Nat) = v)
    (k : T l G own cc nL rm E Qs cs sl (pc + 1) lv (.long v :: st) σ) : T l G own cc nL rm E Qs cs sl pc lv st σ := by
  intro p e s m args below meth c H locs ls C0 he hR hS hl
  obtain ⟨hx, hb, -⟩ := id C0
  exact lv_lconst hx hb hd hv (k p e s m args below meth c H locs ls C0 he hR hS hl)

set_option maxHeartbeats 1000000 in
theorem T_ldc2 {index : Nat} (v : Int64) (hd : decode cc pc = .ok (.ldc2_w index, 3)) (hw : Cond.constantLong own index v ∈ wsL_law)
    (k : T l G own cc nL rm E Qs cs sl (pc + 3) lv (.long v :: st) σ) : T l G own cc nL rm E Qs cs sl pc lv st σ := by
  intro p e s m args below meth c H locs ls C0 he hR hS hl
  obtain ⟨hx, hb, -⟩ := id C0
  exact lv_ldc2 hx hb C0.2.2.2.1 (C0.2.2.2.2.1 _ hw) hd (k p e s m args below meth c H locs ls C0 he hR hS hl)

set_option maxHeartbeats 1000000 in
theorem T_null (hd : decode cc pc = .ok (.aconst_null, 1))
    (k : T l G own cc nL rm E Qs cs sl (pc + 1) lv (.null :: st) σ) : T l G own cc nL rm E Qs cs sl pc lv st σ := by
  intro p e s m args below meth c H locs ls C0 he hR hS hl
  obtain ⟨hx, hb, -⟩ := id C0
  exact lv_null hx hb hd (k p e s m args below meth c H locs ls C0 he hR hS hl)

set_option maxHeartbeats 1000000 in
theorem T_iload_n {kf : Fin 4} {i : Nat} {x : Int32} (hd : decode cc pc = .ok (.iload_n kf, 1)) (hi : (kf : Nat) = i) (j : Nat) (hj : lv[j]? = some (i, .int x))
    (k : T l G own cc nL rm E Qs cs sl (pc + 1) lv (.int x :: st) σ) : T l G own cc nL rm E Qs cs sl pc lv st σ := by
  intro p e s m args below meth c H locs ls C0 he hR hS hl
  obtain ⟨hx, hb, -⟩ := id C0
  exact lv_iload_n hx hb hd hi (lv_at hl j hj) (k p e s m args below meth c H locs ls C0 he hR hS hl)

set_option maxHeartbeats 1000000 in
theorem T_iload {i : Nat} {x : Int32} (hd : decode cc pc = .ok (.iload i, 2)) (j : Nat) (hj : lv[j]? = some (i, .int x))
    (k : T l G own cc nL rm E Qs cs sl (pc + 2) lv (.int x :: st) σ) : T l G own cc nL rm E Qs cs sl pc lv st σ := by
  intro p e s m args below meth c H locs ls C0 he hR hS hl
  obtain ⟨hx, hb, -⟩ := id C0
  exact lv_iload hx hb hd (lv_at hl j hj) (k p e s m args below meth c H locs ls C0 he hR hS hl)

set_option maxHeartbeats 1000000 in
theorem T_istore_n {kf : Fin 4} {i : Nat} {x : Int32} {lv' : List (Nat × Value)} (hd : decode cc pc = .ok (.istore_n kf, 1)) (hi : (kf : Nat) = i) (hn : i < nL) (hl' : (i, Value.int x) :: lv.filter (fun q => !(q.1 == i) && !(q.1 + 1 == i && q.2.category == 2)) = lv')
    (k : T l G own cc nL rm E Qs cs sl (pc + 1) lv' st σ) : T l G own cc nL rm E Qs cs sl pc lv (.int x :: st) σ := by
  intro p e s m args below meth c H locs ls C0 he hR hS hl
  obtain ⟨hx, hb, -⟩ := id C0
  exact lv_istore_n hx hb hd hi hl hn hl' (fun ls hl => (k p e s m args below meth c H locs ls C0 he hR hS hl))

set_option maxHeartbeats 1000000 in
theorem T_istore {i : Nat} {x : Int32} {lv' : List (Nat × Value)} (hd : decode cc pc = .ok (.istore i, 2)) (hn : i < nL) (hl' : (i, Value.int x) :: lv.filter (fun q => !(q.1 == i) && !(q.1 + 1 == i && q.2.category == 2)) = lv')
    (k : T l G own cc nL rm E Qs cs sl (pc + 2) lv' st σ) : T l G own cc nL rm E Qs cs sl pc lv (.int x :: st) σ := by
  intro p e s m args below meth c H locs ls C0 he hR hS hl
  obtain ⟨hx, hb, -⟩ := id C0
  exact lv_istore hx hb hd hl hn hl' (fun ls hl => (k p e s m args below meth c H locs ls C0 he hR hS hl))

set_option maxHeartbeats 1000000 in
theorem T_lload_n {kf : Fin 4} {i : Nat} {x : Int64} (hd : decode cc pc = .ok (.lload_n kf, 1)) (hi : (kf : Nat) = i) (j : Nat) (hj : lv[j]? = some (i, .long x))
    (k : T l G own cc nL rm E Qs cs sl (pc + 1) lv (.long x :: st) σ) : T l G own cc nL rm E Qs cs sl pc lv st σ := by
  intro p e s m args below meth c H locs ls C0 he hR hS hl
  obtain ⟨hx, hb, -⟩ := id C0
  exact lv_lload_n hx hb hd hi (lv_at hl j hj) (k p e s m args below meth c H locs ls C0 he hR hS hl)

set_option maxHeartbeats 1000000 in
theorem T_lload {i : Nat} {x : Int64} (hd : decode cc pc = .ok (.lload i, 2)) (j : Nat) (hj : lv[j]? = some (i, .long x))
    (k : T l G own cc nL rm E Qs cs sl (pc + 2) lv (.long x :: st) σ) : T l G own cc nL rm E Qs cs sl pc lv st σ := by
  intro p e s m args below meth c H locs ls C0 he hR hS hl
  obtain ⟨hx, hb, -⟩ := id C0
  exact lv_lload hx hb hd (lv_at hl j hj) (k p e s m args below meth c H locs ls C0 he hR hS hl)

set_option maxHeartbeats 1000000 in
theorem T_lstore_n {kf : Fin 4} {i : Nat} {x : Int64} {lv' : List (Nat × Value)} (hd : decode cc pc = .ok (.lstore_n kf, 1)) (hi : (kf : Nat) = i) (hn : i + 1 < nL) (hl' : (i, Value.long x) :: lv.filter (fun q => !(q.1 == i) && (!(q.1 == i + 1) && !(q.1 + 1 == i && q.2.category == 2))) = lv')
    (k : T l G own cc nL rm E Qs cs sl (pc + 1) lv' st σ) : T l G own cc nL rm E Qs cs sl pc lv (.long x :: st) σ := by
  intro p e s m args below meth c H locs ls C0 he hR hS hl
  obtain ⟨hx, hb, -⟩ := id C0
  exact lv_lstore_n hx hb hd hi hl hn hl' (fun ls hl => (k p e s m args below meth c H locs ls C0 he hR hS hl))

set_option maxHeartbeats 1000000 in
theorem T_lstore {i : Nat} {x : Int64} {lv' : List (Nat × Value)} (hd : decode cc pc = .ok (.lstore i, 2)) (hn : i + 1 < nL) (hl' : (i, Value.long x) :: lv.filter (fun q => !(q.1 == i) && (!(q.1 == i + 1) && !(q.1 + 1 == i && q.2.category == 2))) = lv')
    (k : T l G own cc nL rm E Qs cs sl (pc + 2) lv' st σ) : T l G own cc nL rm E Qs cs sl pc lv (.long x :: st) σ := by
  intro p e s m args below meth c H locs ls C0 he hR hS hl
  obtain ⟨hx, hb, -⟩ := id C0
  exact lv_lstore hx hb hd hl hn hl' (fun ls hl => (k p e s m args below meth c H locs ls C0 he hR hS hl))

set_option maxHeartbeats 1000000 in
theorem T_aload_n {kf : Fin 4} {i : Nat} {x : Nat} (hd : decode cc pc = .ok (.aload_n kf, 1)) (hi : (kf : Nat) = i) (j : Nat) (hj : lv[j]? = some (i, .ref x))
    (k : T l G own cc nL rm E Qs cs sl (pc + 1) lv (.ref x :: st) σ) : T l G own cc nL rm E Qs cs sl pc lv st σ := by
  intro p e s m args below meth c H locs ls C0 he hR hS hl
  obtain ⟨hx, hb, -⟩ := id C0
  exact lv_aload_n hx hb hd hi (lv_at hl j hj) (k p e s m args below meth c H locs ls C0 he hR hS hl)

set_option maxHeartbeats 1000000 in
theorem T_aload {i : Nat} {x : Nat} (hd : decode cc pc = .ok (.aload i, 2)) (j : Nat) (hj : lv[j]? = some (i, .ref x))
    (k : T l G own cc nL rm E Qs cs sl (pc + 2) lv (.ref x :: st) σ) : T l G own cc nL rm E Qs cs sl pc lv st σ := by
  intro p e s m args below meth c H locs ls C0 he hR hS hl
  obtain ⟨hx, hb, -⟩ := id C0
  exact lv_aload hx hb hd (lv_at hl j hj) (k p e s m args below meth c H locs ls C0 he hR hS hl)

set_option maxHeartbeats 1000000 in
theorem T_astore_n {kf : Fin 4} {i : Nat} {x : Nat} {lv' : List (Nat × Value)} (hd : decode cc pc = .ok (.astore_n kf, 1)) (hi : (kf : Nat) = i) (hn : i < nL) (hl' : (i, Value.ref x) :: lv.filter (fun q => !(q.1 == i) && !(q.1 + 1 == i && q.2.category == 2)) = lv')
    (k : T l G own cc nL rm E Qs cs sl (pc + 1) lv' st σ) : T l G own cc nL rm E Qs cs sl pc lv (.ref x :: st) σ := by
  intro p e s m args below meth c H locs ls C0 he hR hS hl
  obtain ⟨hx, hb, -⟩ := id C0
  exact lv_astore_n hx hb hd hi hl hn hl' (fun ls hl => (k p e s m args below meth c H locs ls C0 he hR hS hl))

set_option maxHeartbeats 1000000 in
theorem T_astore {i : Nat} {x : Nat} {lv' : List (Nat × Value)} (hd : decode cc pc = .ok (.astore i, 2)) (hn : i < nL) (hl' : (i, Value.ref x) :: lv.filter (fun q => !(q.1 == i) && !(q.1 + 1 == i && q.2.category == 2)) = lv')
    (k : T l G own cc nL rm E Qs cs sl (pc + 2) lv' st σ) : T l G own cc nL rm E Qs cs sl pc lv (.ref x :: st) σ := by
  intro p e s m args below meth c H locs ls C0 he hR hS hl
  obtain ⟨hx, hb, -⟩ := id C0
  exact lv_astore hx hb hd hl hn hl' (fun ls hl => (k p e s m args below meth c H locs ls C0 he hR hS hl))

set_option maxHeartbeats 1000000 in
theorem T_iinc {i j : Nat} {n : Int} {x : Int32} (v : Int32) {lv' : List (Nat × Value)} (hd : decode cc pc = .ok (.iinc i n, 3)) (hj : lv[j]? = some (i, .int x)) (hv : x + Int32.ofInt n = v) (hn : i < nL) (hl' : (i, Value.int v) :: lv.filter (fun q => !(q.1 == i) && !(q.1 + 1 == i && q.2.category == 2)) = lv')
    (k : T l G own cc nL rm E Qs cs sl (pc + 3) lv' st σ) : T l G own cc nL rm E Qs cs sl pc lv st σ := by
  intro p e s m args below meth c H locs ls C0 he hR hS hl
  obtain ⟨hx, hb, -⟩ := id C0
  exact lv_iinc hx hb hd hl hj hv hn hl' (fun ls hl => (k p e s m args below meth c H locs ls C0 he hR hS hl))

set_option maxHeartbeats 1000000 in
theorem T_astore_nN {kf : Fin 4} {i : Nat} {lv' : List (Nat × Value)} (hd : decode cc pc = .ok (.astore_n kf, 1)) (hi : (kf : Nat) = i) (hn : i < nL) (hl' : (i, Value.null) :: lv.filter (fun q => !(q.1 == i) && !(q.1 + 1 == i && q.2.category == 2)) = lv')
    (k : T l G own cc nL rm E Qs cs sl (pc + 1) lv' st σ) : T l G own cc nL rm E Qs cs sl pc lv (.null :: st) σ := by
  intro p e s m args below meth c H locs ls C0 he hR hS hl
  obtain ⟨hx, hb, -⟩ := id C0
  exact lv_astore_nN hx hb hd hi hl hn hl' (fun ls hl => (k p e s m args below meth c H locs ls C0 he hR hS hl))

set_option maxHeartbeats 1000000 in
theorem T_aload_nN {kf : Fin 4} {i : Nat} (hd : decode cc pc = .ok (.aload_n kf, 1)) (hi : (kf : Nat) = i) (j : Nat) (hj : lv[j]? = some (i, .null))
    (k : T l G own cc nL rm E Qs cs sl (pc + 1) lv (.null :: st) σ) : T l G own cc nL rm E Qs cs sl pc lv st σ := by
  intro p e s m args below meth c H locs ls C0 he hR hS hl
  obtain ⟨hx, hb, -⟩ := id C0
  exact lv_aload_nN hx hb hd hi (lv_at hl j hj) (k p e s m args below meth c H locs ls C0 he hR hS hl)

set_option maxHeartbeats 1000000 in
theorem T_iadd {x y : Int32} (hd : decode cc pc = .ok (.iadd, 1))
    (k : T l G own cc nL rm E Qs cs sl (pc + 1) lv (.int (x + y) :: st) σ) : T l G own cc nL rm E Qs cs sl pc lv (.int y :: .int x :: st) σ := by
  intro p e s m args below meth c H locs ls C0 he hR hS hl
  obtain ⟨hx, hb, -⟩ := id C0
  exact lv_iadd hx hb hd (k p e s m args below meth c H locs ls C0 he hR hS hl)

set_option maxHeartbeats 1000000 in
theorem T_isub {x y : Int32} (hd : decode cc pc = .ok (.isub, 1))
    (k : T l G own cc nL rm E Qs cs sl (pc + 1) lv (.int (x - y) :: st) σ) : T l G own cc nL rm E Qs cs sl pc lv (.int y :: .int x :: st) σ := by
  intro p e s m args below meth c H locs ls C0 he hR hS hl
  obtain ⟨hx, hb, -⟩ := id C0
  exact lv_isub hx hb hd (k p e s m args below meth c H locs ls C0 he hR hS hl)

set_option maxHeartbeats 1000000 in
theorem T_imul {x y : Int32} (hd : decode cc pc = .ok (.imul, 1))
    (k : T l G own cc nL rm E Qs cs sl (pc + 1) lv (.int (x * y) :: st) σ) : T l G own cc nL rm E Qs cs sl pc lv (.int y :: .int x :: st) σ := by
  intro p e s m args below meth c H locs ls C0 he hR hS hl
  obtain ⟨hx, hb, -⟩ := id C0
  exact lv_imul hx hb hd (k p e s m args below meth c H locs ls C0 he hR hS hl)

set_option maxHeartbeats 1000000 in
theorem T_iand {x y : Int32} (hd : decode cc pc = .ok (.iand, 1))
    (k : T l G own cc nL rm E Qs cs sl (pc + 1) lv (.int (x &&& y) :: st) σ) : T l G own cc nL rm E Qs cs sl pc lv (.int y :: .int x :: st) σ := by
  intro p e s m args below meth c H locs ls C0 he hR hS hl
  obtain ⟨hx, hb, -⟩ := id C0
  exact lv_iand hx hb hd (k p e s m args below meth c H locs ls C0 he hR hS hl)

set_option maxHeartbeats 1000000 in
theorem T_ior {x y : Int32} (hd : decode cc pc = .ok (.ior, 1))
    (k : T l G own cc nL rm E Qs cs sl (pc + 1) lv (.int (x ||| y) :: st) σ) : T l G own cc nL rm E Qs cs sl pc lv (.int y :: .int x :: st) σ := by
  intro p e s m args below meth c H locs ls C0 he hR hS hl
  obtain ⟨hx, hb, -⟩ := id C0
  exact lv_ior hx hb hd (k p e s m args below meth c H locs ls C0 he hR hS hl)

set_option maxHeartbeats 1000000 in
theorem T_ixor {x y : Int32} (hd : decode cc pc = .ok (.ixor, 1))
    (k : T l G own cc nL rm E Qs cs sl (pc + 1) lv (.int (x ^^^ y) :: st) σ) : T l G own cc nL rm E Qs cs sl pc lv (.int y :: .int x :: st) σ := by
  intro p e s m args below meth c H locs ls C0 he hR hS hl
  obtain ⟨hx, hb, -⟩ := id C0
  exact lv_ixor hx hb hd (k p e s m args below meth c H locs ls C0 he hR hS hl)

set_option maxHeartbeats 1000000 in
theorem T_ishl {x y : Int32} (hd : decode cc pc = .ok (.ishl, 1))
    (k : T l G own cc nL rm E Qs cs sl (pc + 1) lv (.int (x <<< (y &&& 31)) :: st) σ) : T l G own cc nL rm E Qs cs sl pc lv (.int y :: .int x :: st) σ := by
  intro p e s m args below meth c H locs ls C0 he hR hS hl
  obtain ⟨hx, hb, -⟩ := id C0
  exact lv_ishl hx hb hd (k p e s m args below meth c H locs ls C0 he hR hS hl)

set_option maxHeartbeats 1000000 in
theorem T_ishr {x y : Int32} (hd : decode cc pc = .ok (.ishr, 1))
    (k : T l G own cc nL rm E Qs cs sl (pc + 1) lv (.int (x >>> (y &&& 31)) :: st) σ) : T l G own cc nL rm E Qs cs sl pc lv (.int y :: .int x :: st) σ := by
  intro p e s m args below meth c H locs ls C0 he hR hS hl
  obtain ⟨hx, hb, -⟩ := id C0
  exact lv_ishr hx hb hd (k p e s m args below meth c H locs ls C0 he hR hS hl)

set_option maxHeartbeats 1000000 in
theorem T_ladd {x y : Int64} (hd : decode cc pc = .ok (.ladd, 1))
    (k : T l G own cc nL rm E Qs cs sl (pc + 1) lv (.long (x + y) :: st) σ) : T l G own cc nL rm E Qs cs sl pc lv (.long y :: .long x :: st) σ := by
  intro p e s m args below meth c H locs ls C0 he hR hS hl
  obtain ⟨hx, hb, -⟩ := id C0
  exact lv_ladd hx hb hd (k p e s m args below meth c H locs ls C0 he hR hS hl)

set_option maxHeartbeats 1000000 in
theorem T_lsub {x y : Int64} (hd : decode cc pc = .ok (.lsub, 1))
    (k : T l G own cc nL rm E Qs cs sl (pc + 1) lv (.long (x - y) :: st) σ) : T l G own cc nL rm E Qs cs sl pc lv (.long y :: .long x :: st) σ := by
  intro p e s m args below meth c H locs ls C0 he hR hS hl
  obtain ⟨hx, hb, -⟩ := id C0
  exact lv_lsub hx hb hd (k p e s m args below meth c H locs ls C0 he hR hS hl)

set_option maxHeartbeats 1000000 in
theorem T_land {x y : Int64} (hd : decode cc pc = .ok (.land, 1))
    (k : T l G own cc nL rm E Qs cs sl (pc + 1) lv (.long (x &&& y) :: st) σ) : T l G own cc nL rm E Qs cs sl pc lv (.long y :: .long x :: st) σ := by
  intro p e s m args below meth c H locs ls C0 he hR hS hl
  obtain ⟨hx, hb, -⟩ := id C0
  exact lv_land hx hb hd (k p e s m args below meth c H locs ls C0 he hR hS hl)

set_option maxHeartbeats 1000000 in
theorem T_lor {x y : Int64} (hd : decode cc pc = .ok (.lor, 1))
    (k : T l G own cc nL rm E Qs cs sl (pc + 1) lv (.long (x ||| y) :: st) σ) : T l G own cc nL rm E Qs cs sl pc lv (.long y :: .long x :: st) σ := by
  intro p e s m args below meth c H locs ls C0 he hR hS hl
  obtain ⟨hx, hb, -⟩ := id C0
  exact lv_lor hx hb hd (k p e s m args below meth c H locs ls C0 he hR hS hl)

set_option maxHeartbeats 1000000 in
theorem T_ineg {x : Int32} (hd : decode cc pc = .ok (.ineg, 1))
    (k : T l G own cc nL rm E Qs cs sl (pc + 1) lv (.int (-x) :: st) σ) : T l G own cc nL rm E Qs cs sl pc lv (.int x :: st) σ := by
  intro p e s m args below meth c H locs ls C0 he hR hS hl
  obtain ⟨hx, hb, -⟩ := id C0
  exact lv_ineg hx hb hd (k p e s m args below meth c H locs ls C0 he hR hS hl)

set_option maxHeartbeats 1000000 in
theorem T_i2l {x : Int32} (hd : decode cc pc = .ok (.i2l, 1))
    (k : T l G own cc nL rm E Qs cs sl (pc + 1) lv (.long x.toInt64 :: st) σ) : T l G own cc nL rm E Qs cs sl pc lv (.int x :: st) σ := by
  intro p e s m args below meth c H locs ls C0 he hR hS hl
  obtain ⟨hx, hb, -⟩ := id C0
  exact lv_i2l hx hb hd rfl (k p e s m args below meth c H locs ls C0 he hR hS hl)

set_option maxHeartbeats 1000000 in
theorem T_l2i {x : Int64} (hd : decode cc pc = .ok (.l2i, 1))
    (k : T l G own cc nL rm E Qs cs sl (pc + 1) lv (.int x.toInt32 :: st) σ) : T l G own cc nL rm E Qs cs sl pc lv (.long x :: st) σ := by
  intro p e s m args below meth c H locs ls C0 he hR hS hl
  obtain ⟨hx, hb, -⟩ := id C0
  exact lv_l2i hx hb hd rfl (k p e s m args below meth c H locs ls C0 he hR hS hl)

set_option maxHeartbeats 1000000 in
theorem T_lushr {x : Int64} {y : Int32} (hd : decode cc pc = .ok (.lushr, 1))
    (k : T l G own cc nL rm E Qs cs sl (pc + 1) lv (.long (x.toUInt64 >>> (y.toInt64.toUInt64 &&& Int64.toUInt64 63)).toInt64 :: st) σ) : T l G own cc nL rm E Qs cs sl pc lv (.int y :: .long x :: st) σ := by
  intro p e s m args below meth c H locs ls C0 he hR hS hl
  obtain ⟨hx, hb, -⟩ := id C0
  exact lv_lushr hx hb hd rfl (k p e s m args below meth c H locs ls C0 he hR hS hl)

set_option maxHeartbeats 1000000 in
theorem T_lshl {x : Int64} {y : Int32} (hd : decode cc pc = .ok (.lshl, 1))
    (k : T l G own cc nL rm E Qs cs sl (pc + 1) lv (.long (x <<< (y.toInt64 &&& 63)) :: st) σ) : T l G own cc nL rm E Qs cs sl pc lv (.int y :: .long x :: st) σ := by
  intro p e s m args below meth c H locs ls C0 he hR hS hl
  obtain ⟨hx, hb, -⟩ := id C0
  exact lv_lshl hx hb hd rfl (k p e s m args below meth c H locs ls C0 he hR hS hl)

set_option maxHeartbeats 1000000 in
theorem T_lcmp {x y : Int64} (hd : decode cc pc = .ok (.lcmp, 1))
    (k : T l G own cc nL rm E Qs cs sl (pc + 1) lv (.int (lg_cmp x y) :: st) σ) : T l G own cc nL rm E Qs cs sl pc lv (.long y :: .long x :: st) σ := by
  intro p e s m args below meth c H locs ls C0 he hR hS hl
  obtain ⟨hx, hb, -⟩ := id C0
  exact W.lcmp hx hb hd (k p e s m args below meth c H locs ls C0 he hR hS hl)

set_option maxHeartbeats 1000000 in
theorem T_dup {va : Value} (hd : decode cc pc = .ok (.dup, 1)) (hva : va.category = 1)
    (k : T l G own cc nL rm E Qs cs sl (pc + 1) lv (va :: va :: st) σ) : T l G own cc nL rm E Qs cs sl pc lv (va :: st) σ := by
  intro p e s m args below meth c H locs ls C0 he hR hS hl
  obtain ⟨hx, hb, -⟩ := id C0
  exact lv_dup hx hb hd hva (k p e s m args below meth c H locs ls C0 he hR hS hl)

set_option maxHeartbeats 1000000 in
theorem T_pop {va : Value} (hd : decode cc pc = .ok (.pop, 1)) (hva : va.category = 1)
    (k : T l G own cc nL rm E Qs cs sl (pc + 1) lv st σ) : T l G own cc nL rm E Qs cs sl pc lv (va :: st) σ := by
  intro p e s m args below meth c H locs ls C0 he hR hS hl
  obtain ⟨hx, hb, -⟩ := id C0
  exact lv_pop hx hb hd hva (k p e s m args below meth c H locs ls C0 he hR hS hl)

set_option maxHeartbeats 1000000 in
theorem T_dup2 {va vb : Value} (hd : decode cc pc = .ok (.dup2, 1)) (hva : va.category = 1) (hvb : vb.category = 1)
    (k : T l G own cc nL rm E Qs cs sl (pc + 1) lv (va :: vb :: va :: vb :: st) σ) : T l G own cc nL rm E Qs cs sl pc lv (va :: vb :: st) σ := by
  intro p e s m args below meth c H locs ls C0 he hR hS hl
  obtain ⟨hx, hb, -⟩ := id C0
  exact lv_dup2_11 hx hb hd hva hvb (k p e s m args below meth c H locs ls C0 he hR hS hl)

set_option maxHeartbeats 1000000 in
theorem T_idiv {α : Type} {inj : α → Option Value × Hp} {P : Option Value → Hp → Prop} {x y : Int32} {f : Int32 → Option α} (hd : decode cc pc = .ok (.idiv, 1)) (h : OK inj ((divI x y).bind f) P)
    (k : ∀ z : Int32, OK inj (f z) P → T l G own cc nL rm E Qs cs sl (pc + 1) lv (.int z :: st) σ) : T l G own cc nL rm E Qs cs sl pc lv (.int y :: .int x :: st) σ := by
  obtain ⟨z, hz, h⟩ := h.bind
  have hne : ¬ y = 0 := fun q => by simp [divI, q] at hz
  have hz : z = x / y := by simpa [divI, hne] using hz.symm
  intro p e s m args below meth c H locs ls C0 he hR hS hl
  obtain ⟨hx, hb, -⟩ := id C0
  subst hz
  exact lv_idiv hx hb hd hne ((k _ h) p e s m args below meth c H locs ls C0 he hR hS hl)

set_option maxHeartbeats 1000000 in
theorem T_irem {α : Type} {inj : α → Option Value × Hp} {P : Option Value → Hp → Prop} {x y : Int32} {f : Int32 → Option α} (hd : decode cc pc = .ok (.irem, 1)) (h : OK inj ((remI x y).bind f) P)
    (k : ∀ z : Int32, OK inj (f z) P → T l G own cc nL rm E Qs cs sl (pc + 1) lv (.int z :: st) σ) : T l G own cc nL rm E Qs cs sl pc lv (.int y :: .int x :: st) σ := by
  obtain ⟨z, hz, h⟩ := h.bind
  have hne : ¬ y = 0 := fun q => by simp [remI, q] at hz
  have hz : z = x - x / y * y := by simpa [remI, hne] using hz.symm
  intro p e s m args below meth c H locs ls C0 he hR hS hl
  obtain ⟨hx, hb, -⟩ := id C0
  subst hz
  exact lv_irem hx hb hd hne ((k _ h) p e s m args below meth c H locs ls C0 he hR hS hl)

set_option maxHeartbeats 1000000 in
theorem T_if_eq {α : Type} {inj : α → Option Value × Hp} {P : Option Value → Hp → Prop} {x : Int32} {A B : Option α} {off : Int} (tgt : Nat) (hd : decode cc pc = .ok (.ifCond .eq off, 3)) (ht : (pc : Int) + off = (tgt : Int)) (h : OK inj (if x = 0 then A else B) P)
    (kt : x = 0 → OK inj A P → T l G own cc nL rm E Qs cs sl tgt lv st σ) (kf : ¬ (x = 0) → OK inj B P → T l G own cc nL rm E Qs cs sl (pc + 3) lv st σ) : T l G own cc nL rm E Qs cs sl pc lv (.int x :: st) σ := by
  intro p e s m args below meth c H locs ls C0 he hR hS hl
  obtain ⟨hx, hb, -⟩ := id C0
  exact lv_if_eq hx hb hd ht (fun z => kt z (by rwa [if_pos z] at h) p e s m args below meth c H locs ls C0 he hR hS hl) (fun z => kf z (by rwa [if_neg z] at h) p e s m args below meth c H locs ls C0 he hR hS hl)

set_option maxHeartbeats 1000000 in
theorem T_icmp_eq {α : Type} {inj : α → Option Value × Hp} {P : Option Value → Hp → Prop} {x y : Int32} {A B : Option α} {off : Int} (tgt : Nat) (hd : decode cc pc = .ok (.if_icmp .eq off, 3)) (ht : (pc : Int) + off = (tgt : Int)) (h : OK inj (if x = y then A else B) P)
    (kt : x = y → OK inj A P → T l G own cc nL rm E Qs cs sl tgt lv st σ) (kf : ¬ (x = y) → OK inj B P → T l G own cc nL rm E Qs cs sl (pc + 3) lv st σ) : T l G own cc nL rm E Qs cs sl pc lv (.int y :: .int x :: st) σ := by
  intro p e s m args below meth c H locs ls C0 he hR hS hl
  obtain ⟨hx, hb, -⟩ := id C0
  exact lv_icmp_eq hx hb hd ht (fun z => kt z (by rwa [if_pos z] at h) p e s m args below meth c H locs ls C0 he hR hS hl) (fun z => kf z (by rwa [if_neg z] at h) p e s m args below meth c H locs ls C0 he hR hS hl)

set_option maxHeartbeats 1000000 in
theorem T_if_ne {α : Type} {inj : α → Option Value × Hp} {P : Option Value → Hp → Prop} {x : Int32} {A B : Option α} {off : Int} (tgt : Nat) (hd : decode cc pc = .ok (.ifCond .ne off, 3)) (ht : (pc : Int) + off = (tgt : Int)) (h : OK inj (if x = 0 then B else A) P)
    (kt : ¬ (x = 0) → OK inj A P → T l G own cc nL rm E Qs cs sl tgt lv st σ) (kf : x = 0 → OK inj B P → T l G own cc nL rm E Qs cs sl (pc + 3) lv st σ) : T l G own cc nL rm E Qs cs sl pc lv (.int x :: st) σ := by
  intro p e s m args below meth c H locs ls C0 he hR hS hl
  obtain ⟨hx, hb, -⟩ := id C0
  exact lv_if_ne hx hb hd ht (fun z => kt z (by rwa [if_neg z] at h) p e s m args below meth c H locs ls C0 he hR hS hl) (fun z => kf z (by rwa [if_pos z] at h) p e s m args below meth c H locs ls C0 he hR hS hl)

set_option maxHeartbeats 1000000 in
theorem T_icmp_ne {α : Type} {inj : α → Option Value × Hp} {P : Option Value → Hp → Prop} {x y : Int32} {A B : Option α} {off : Int} (tgt : Nat) (hd : decode cc pc = .ok (.if_icmp .ne off, 3)) (ht : (pc : Int) + off = (tgt : Int)) (h : OK inj (if x = y then B else A) P)
    (kt : ¬ (x = y) → OK inj A P → T l G own cc nL rm E Qs cs sl tgt lv st σ) (kf : x = y → OK inj B P → T l G own cc nL rm E Qs cs sl (pc + 3) lv st σ) : T l G own cc nL rm E Qs cs sl pc lv (.int y :: .int x :: st) σ := by
  intro p e s m args below meth c H locs ls C0 he hR hS hl
  obtain ⟨hx, hb, -⟩ := id C0
  exact lv_icmp_ne hx hb hd ht (fun z => kt z (by rwa [if_neg z] at h) p e s m args below meth c H locs ls C0 he hR hS hl) (fun z => kf z (by rwa [if_pos z] at h) p e s m args below meth c H locs ls C0 he hR hS hl)

set_option maxHeartbeats 1000000 in
theorem T_if_lt {α : Type} {inj : α → Option Value × Hp} {P : Option Value → Hp → Prop} {x : Int32} {A B : Option α} {off : Int} (tgt : Nat) (hd : decode cc pc = .ok (.ifCond .lt off, 3)) (ht : (pc : Int) + off = (tgt : Int)) (h : OK inj (if x < 0 then A else B) P)
    (kt : x < 0 → OK inj A P → T l G own cc nL rm E Qs cs sl tgt lv st σ) (kf : ¬ (x < 0) → OK inj B P → T l G own cc nL rm E Qs cs sl (pc + 3) lv st σ) : T l G own cc nL rm E Qs cs sl pc lv (.int x :: st) σ := by
  intro p e s m args below meth c H locs ls C0 he hR hS hl
  obtain ⟨hx, hb, -⟩ := id C0
  exact lv_if_lt hx hb hd ht (fun z => kt z (by rwa [if_pos z] at h) p e s m args below meth c H locs ls C0 he hR hS hl) (fun z => kf z (by rwa [if_neg z] at h) p e s m args below meth c H locs ls C0 he hR hS hl)

set_option maxHeartbeats 1000000 in
theorem T_icmp_lt {α : Type} {inj : α → Option Value × Hp} {P : Option Value → Hp → Prop} {x y : Int32} {A B : Option α} {off : Int} (tgt : Nat) (hd : decode cc pc = .ok (.if_icmp .lt off, 3)) (ht : (pc : Int) + off = (tgt : Int)) (h : OK inj (if x < y then A else B) P)
    (kt : x < y → OK inj A P → T l G own cc nL rm E Qs cs sl tgt lv st σ) (kf : ¬ (x < y) → OK inj B P → T l G own cc nL rm E Qs cs sl (pc + 3) lv st σ) : T l G own cc nL rm E Qs cs sl pc lv (.int y :: .int x :: st) σ := by
  intro p e s m args below meth c H locs ls C0 he hR hS hl
  obtain ⟨hx, hb, -⟩ := id C0
  exact lv_icmp_lt hx hb hd ht (fun z => kt z (by rwa [if_pos z] at h) p e s m args below meth c H locs ls C0 he hR hS hl) (fun z => kf z (by rwa [if_neg z] at h) p e s m args below meth c H locs ls C0 he hR hS hl)

set_option maxHeartbeats 1000000 in
theorem T_if_ge {α : Type} {inj : α → Option Value × Hp} {P : Option Value → Hp → Prop} {x : Int32} {A B : Option α} {off : Int} (tgt : Nat) (hd : decode cc pc = .ok (.ifCond .ge off, 3)) (ht : (pc : Int) + off = (tgt : Int)) (h : OK inj (if 0 ≤ x then A else B) P)
    (kt : 0 ≤ x → OK inj A P → T l G own cc nL rm E Qs cs sl tgt lv st σ) (kf : ¬ (0 ≤ x) → OK inj B P → T l G own cc nL rm E Qs cs sl (pc + 3) lv st σ) : T l G own cc nL rm E Qs cs sl pc lv (.int x :: st) σ := by
  intro p e s m args below meth c H locs ls C0 he hR hS hl
  obtain ⟨hx, hb, -⟩ := id C0
  exact lv_if_ge hx hb hd ht (fun z => kt z (by rwa [if_pos z] at h) p e s m args below meth c H locs ls C0 he hR hS hl) (fun z => kf z (by rwa [if_neg z] at h) p e s m args below meth c H locs ls C0 he hR hS hl)

set_option maxHeartbeats 1000000 in
theorem T_icmp_ge {α : Type} {inj : α → Option Value × Hp} {P : Option Value → Hp → Prop} {x y : Int32} {A B : Option α} {off : Int} (tgt : Nat) (hd : decode cc pc = .ok (.if_icmp .ge off, 3)) (ht : (pc : Int) + off = (tgt : Int)) (h : OK inj (if y ≤ x then A else B) P)
    (kt : y ≤ x → OK inj A P → T l G own cc nL rm E Qs cs sl tgt lv st σ) (kf : ¬ (y ≤ x) → OK inj B P → T l G own cc nL rm E Qs cs sl (pc + 3) lv st σ) : T l G own cc nL rm E Qs cs sl pc lv (.int y :: .int x :: st) σ := by
  intro p e s m args below meth c H locs ls C0 he hR hS hl
  obtain ⟨hx, hb, -⟩ := id C0
  exact lv_icmp_ge hx hb hd ht (fun z => kt z (by rwa [if_pos z] at h) p e s m args below meth c H locs ls C0 he hR hS hl) (fun z => kf z (by rwa [if_neg z] at h) p e s m args below meth c H locs ls C0 he hR hS hl)

set_option maxHeartbeats 1000000 in
theorem T_if_gt {α : Type} {inj : α → Option Value × Hp} {P : Option Value → Hp → Prop} {x : Int32} {A B : Option α} {off : Int} (tgt : Nat) (hd : decode cc pc = .ok (.ifCond .gt off, 3)) (ht : (pc : Int) + off = (tgt : Int)) (h : OK inj (if 0 < x then A else B) P)
    (kt : 0 < x → OK inj A P → T l G own cc nL rm E Qs cs sl tgt lv st σ) (kf : ¬ (0 < x) → OK inj B P → T l G own cc nL rm E Qs cs sl (pc + 3) lv st σ) : T l G own cc nL rm E Qs cs sl pc lv (.int x :: st) σ := by
  intro p e s m args below meth c H locs ls C0 he hR hS hl
  obtain ⟨hx, hb, -⟩ := id C0
  exact lv_if_gt hx hb hd ht (fun z => kt z (by rwa [if_pos z] at h) p e s m args below meth c H locs ls C0 he hR hS hl) (fun z => kf z (by rwa [if_neg z] at h) p e s m args below meth c H locs ls C0 he hR hS hl)

set_option maxHeartbeats 1000000 in
theorem T_icmp_gt {α : Type} {inj : α → Option Value × Hp} {P : Option Value → Hp → Prop} {x y : Int32} {A B : Option α} {off : Int} (tgt : Nat) (hd : decode cc pc = .ok (.if_icmp .gt off, 3)) (ht : (pc : Int) + off = (tgt : Int)) (h : OK inj (if y < x then A else B) P)
    (kt : y < x → OK inj A P → T l G own cc nL rm E Qs cs sl tgt lv st σ) (kf : ¬ (y < x) → OK inj B P → T l G own cc nL rm E Qs cs sl (pc + 3) lv st σ) : T l G own cc nL rm E Qs cs sl pc lv (.int y :: .int x :: st) σ := by
  intro p e s m args below meth c H locs ls C0 he hR hS hl
  obtain ⟨hx, hb, -⟩ := id C0
  exact lv_icmp_gt hx hb hd ht (fun z => kt z (by rwa [if_pos z] at h) p e s m args below meth c H locs ls C0 he hR hS hl) (fun z => kf z (by rwa [if_neg z] at h) p e s m args below meth c H locs ls C0 he hR hS hl)

set_option maxHeartbeats 1000000 in
theorem T_if_le {α : Type} {inj : α → Option Value × Hp} {P : Option Value → Hp → Prop} {x : Int32} {A B : Option α} {off : Int} (tgt : Nat) (hd : decode cc pc = .ok (.ifCond .le off, 3)) (ht : (pc : Int) + off = (tgt : Int)) (h : OK inj (if x ≤ 0 then A else B) P)
    (kt : x ≤ 0 → OK inj A P → T l G own cc nL rm E Qs cs sl tgt lv st σ) (kf : ¬ (x ≤ 0) → OK inj B P → T l G own cc nL rm E Qs cs sl (pc + 3) lv st σ) : T l G own cc nL rm E Qs cs sl pc lv (.int x :: st) σ := by
  intro p e s m args below meth c H locs ls C0 he hR hS hl
  obtain ⟨hx, hb, -⟩ := id C0
  exact lv_if_le hx hb hd ht (fun z => kt z (by rwa [if_pos z] at h) p e s m args below meth c H locs ls C0 he hR hS hl) (fun z => kf z (by rwa [if_neg z] at h) p e s m args below meth c H locs ls C0 he hR hS hl)

set_option maxHeartbeats 1000000 in
theorem T_icmp_le {α : Type} {inj : α → Option Value × Hp} {P : Option Value → Hp → Prop} {x y : Int32} {A B : Option α} {off : Int} (tgt : Nat) (hd : decode cc pc = .ok (.if_icmp .le off, 3)) (ht : (pc : Int) + off = (tgt : Int)) (h : OK inj (if x ≤ y then A else B) P)
    (kt : x ≤ y → OK inj A P → T l G own cc nL rm E Qs cs sl tgt lv st σ) (kf : ¬ (x ≤ y) → OK inj B P → T l G own cc nL rm E Qs cs sl (pc + 3) lv st σ) : T l G own cc nL rm E Qs cs sl pc lv (.int y :: .int x :: st) σ := by
  intro p e s m args below meth c H locs ls C0 he hR hS hl
  obtain ⟨hx, hb, -⟩ := id C0
  exact lv_icmp_le hx hb hd ht (fun z => kt z (by rwa [if_pos z] at h) p e s m args below meth c H locs ls C0 he hR hS hl) (fun z => kf z (by rwa [if_neg z] at h) p e s m args below meth c H locs ls C0 he hR hS hl)

set_option maxHeartbeats 1000000 in
theorem T_goto {off : Int} (tgt : Nat) (hd : decode cc pc = .ok (.goto off, 3)) (ht : (pc : Int) + off = (tgt : Int))
    (k : T l G own cc nL rm E Qs cs sl tgt lv st σ) : T l G own cc nL rm E Qs cs sl pc lv st σ := by
  intro p e s m args below meth c H locs ls C0 he hR hS hl
  obtain ⟨hx, hb, -⟩ := id C0
  exact lv_goto hx hb hd ht (k p e s m args below meth c H locs ls C0 he hR hS hl)

set_option maxHeartbeats 1000000 in
theorem T_ifnull {x : Nat} {off : Int} (hd : decode cc pc = .ok (.ifnull off, 3))
    (k : T l G own cc nL rm E Qs cs sl (pc + 3) lv st σ) : T l G own cc nL rm E Qs cs sl pc lv (.ref x :: st) σ := by
  intro p e s m args below meth c H locs ls C0 he hR hS hl
  obtain ⟨hx, hb, -⟩ := id C0
  exact lv_ifnull hx hb hd (k p e s m args below meth c H locs ls C0 he hR hS hl)

set_option maxHeartbeats 1000000 in
theorem T_ifnullN {off : Int} (tgt : Nat) (hd : decode cc pc = .ok (.ifnull off, 3)) (ht : (pc : Int) + off = (tgt : Int))
    (k : T l G own cc nL rm E Qs cs sl tgt lv st σ) : T l G own cc nL rm E Qs cs sl pc lv (.null :: st) σ := by
  intro p e s m args below meth c H locs ls C0 he hR hS hl
  obtain ⟨hx, hb, -⟩ := id C0
  exact lv_ifnullN hx hb hd ht (k p e s m args below meth c H locs ls C0 he hR hS hl)

set_option maxHeartbeats 1000000 in
theorem T_tableIn {x : Int32} {dflt lo hi off : Int} {offs : Array Int} {len : Nat} (tgt : Nat) (hd : decode cc pc = .ok (.tableswitch dflt lo hi offs, len)) (h1 : ¬ x.toInt < lo) (h2 : ¬ hi < x.toInt) (ho : offs[(x.toInt - lo).toNat]? = some off) (ht : (pc : Int) + off = (tgt : Int))
    (k : T l G own cc nL rm E Qs cs sl tgt lv st σ) : T l G own cc nL rm E Qs cs sl pc lv (.int x :: st) σ := by
  intro p e s m args below meth c H locs ls C0 he hR hS hl
  obtain ⟨hx, hb, -⟩ := id C0
  exact lv_tableIn hx hb hd h1 h2 ho ht (k p e s m args below meth c H locs ls C0 he hR hS hl)

set_option maxHeartbeats 1000000 in
theorem T_tableOut {x : Int32} {dflt lo hi : Int} {offs : Array Int} {len : Nat} (tgt : Nat) (hd : decode cc pc = .ok (.tableswitch dflt lo hi offs, len)) (h : x.toInt < lo ∨ hi < x.toInt) (ht : (pc : Int) + dflt = (tgt : Int))
    (k : T l G own cc nL rm E Qs cs sl tgt lv st σ) : T l G own cc nL rm E Qs cs sl pc lv (.int x :: st) σ := by
  intro p e s m args below meth c H locs ls C0 he hR hS hl
  obtain ⟨hx, hb, -⟩ := id C0
  exact lv_tableOut hx hb hd h ht (k p e s m args below meth c H locs ls C0 he hR hS hl)

set_option maxHeartbeats 1000000 in
theorem T_lookup {x : Int32} {dflt off : Int} {ps : Array (Int × Int)} {len : Nat} (tgt : Nat) (hd : decode cc pc = .ok (.lookupswitch dflt ps, len)) (hp : (ps.toList.zip (ps.toList.drop 1)).all (fun (a, next) => a.1 < next.1) = true) (ho : Op.lookupswitch.offset ps.toList dflt x.toInt = off) (ht : (pc : Int) + off = (tgt : Int))
    (k : T l G own cc nL rm E Qs cs sl tgt lv st σ) : T l G own cc nL rm E Qs cs sl pc lv (.int x :: st) σ := by
  intro p e s m args below meth c H locs ls C0 he hR hS hl
  obtain ⟨hx, hb, -⟩ := id C0
  exact lv_lookup hx hb hd hp ho ht (k p e s m args below meth c H locs ls C0 he hR hS hl)

/-! fields -/
def sm_FL (own : String) (index ci k : Nat) : Prop := ∃ q : vw_C, vwCl[ci]? = some q ∧ k < q.2.2 ∧ (∀ w ∈ u_ws q.1 q.2.1 q.2.2, w ∈ wsL_law) ∧ Cond.fieldLink own index (q.2.1 k).1 (q.2.1 k).2.1 (q.2.1 k).2.2.1 ∈ wsL_law
def sm_FT (ci k : Nat) (ty : FieldType) (fin : Bool) : Prop := ∃ (q : vw_C) (tyf : Nat → FieldType), vwCl[ci]? = some q ∧ (∀ k, k < q.2.2 → parseFieldDescriptor (q.2.1 k).2.2.1 = some (tyf k)) ∧ (∀ a, a < q.2.2 → ∀ b, b < q.2.2 → a ≠ b → (q.2.1 a).2.1 ≠ (q.2.1 b).2.1) ∧ tyf k = ty ∧ (q.2.1 k).2.2.2 = fin
set_option maxHeartbeats 1000000 in
theorem getV_spec {a c k : Nat} {v : Value} (h : getV σ a c k = some v) : ∃ fs, σ.2 a = some (.inr (.inr (c, fs))) ∧ fs[k]? = some v := by
  unfold getV at h
  split at h
  · rename_i o ho
    split at h
    · rename_i hc
      subst hc
      exact ⟨o.2, ho, h⟩
    · cases h
  · cases h
set_option maxHeartbeats 1000000 in
theorem getI_spec {a c k : Nat} {x : Int32} (h : getI σ a c k = some x) : getV σ a c k = some (.int x) := by
  unfold getI at h
  split at h
  · rename_i y hy
    cases h
    exact hy
  · cases h
set_option maxHeartbeats 1000000 in
theorem getR_spec {a c k : Nat} {x : Nat} (h : getR σ a c k = some x) : getV σ a c k = some (.ref x) := by
  unfold getR at h
  split at h
  · rename_i y hy
    cases h
    exact hy
  · cases h
set_option maxHeartbeats 1000000 in
theorem putV_spec {a c k : Nat} {v : Value} {σ' : Hp} (h : putV σ a c k v = some σ') : ∃ fs, σ.2 a = some (.inr (.inr (c, fs))) ∧ k < fs.length ∧ σ' = setC σ a (.inr (.inr (c, fs.set k v))) := by
  unfold putV at h
  split at h
  · rename_i o ho
    split at h
    · rename_i hc
      obtain ⟨hc, hk⟩ := hc
      subst hc
      exact ⟨o.2, ho, hk, (Option.some.inj h).symm⟩
    · cases h
  · cases h
set_option maxHeartbeats 1000000 in
theorem isO_spec {a c : Nat} {u : Unit} (h : isO σ a c = some u) : ∃ fs, σ.2 a = some (.inr (.inr (c, fs))) := by
  unfold isO at h
  split at h
  · rename_i o ho
    split at h
    · rename_i hc
      subst hc
      exact ⟨o.2, ho⟩
    · cases h
  · cases h
set_option maxHeartbeats 1000000 in
theorem T_getV {a ci k index : Nat} {v : Value} (hd : decode cc pc = .ok (.getfield index, 3)) (hF : sm_FL own index ci k) (hv : getV σ a ci k = some v)
    (kk : T l G own cc nL rm E Qs cs sl (pc + 3) lv (v :: st) σ) : T l G own cc nL rm E Qs cs sl pc lv (.ref a :: st) σ := by
  intro p e s m args below meth c H locs ls C0 he hR hS hl
  obtain ⟨hx, hb, hml, hown, hts, hK⟩ := id C0
  obtain ⟨q, hq, hk, hin, hlk⟩ := hF
  obtain ⟨fs, hfs, hv⟩ := getV_spec hv
  have hP : va_P G.1 vwCl [(a, .inr (ci, fs))] H := fun j z hz => by
    have hj : j < 1 := (List.getElem?_eq_some_iff.mp hz).1
    rw [show j = 0 by omega] at hz
    cases hz
    exact (hR.2.2 a _ hfs).2
  exact va_get (ci := ci) hx hb hts hin hown hK.1 hP 0 rfl hq k hk (hts _ hlk) (fun _ h9 => h9) hv hd (kk p e s m args below meth c H locs ls C0 he hR hS hl)
set_option maxHeartbeats 1000000 in
theorem T_getI {α : Type} {inj : α → Option Value × Hp} {P : Option Value → Hp → Prop} {a ci k index : Nat} {f : Int32 → Option α} (hd : decode cc pc = .ok (.getfield index, 3)) (hF : sm_FL own index ci k) (h : OK inj ((getI σ a ci k).bind f) P)
    (kk : ∀ x : Int32, OK inj (f x) P → T l G own cc nL rm E Qs cs sl (pc + 3) lv (.int x :: st) σ) : T l G own cc nL rm E Qs cs sl pc lv (.ref a :: st) σ := by
  obtain ⟨x, hx, h⟩ := h.bind
  exact T_getV hd hF (getI_spec hx) (kk x h)
set_option maxHeartbeats 1000000 in
theorem T_getR {α : Type} {inj : α → Option Value × Hp} {P : Option Value → Hp → Prop} {a ci k index : Nat} {f : Nat → Option α} (hd : decode cc pc = .ok (.getfield index, 3)) (hF : sm_FL own index ci k) (h : OK inj ((getR σ a ci k).bind f) P)
    (kk : ∀ x : Nat, OK inj (f x) P → T l G own cc nL rm E Qs cs sl (pc + 3) lv (.ref x :: st) σ) : T l G own cc nL rm E Qs cs sl pc lv (.ref a :: st) σ := by
  obtain ⟨x, hx, h⟩ := h.bind
  exact T_getV hd hF (getR_spec hx) (kk x h)
set_option maxHeartbeats 1000000 in
theorem sm_apart {s : State} {args : Array Value} {q : vw_C} {ci : Nat} {tyf : Nat → FieldType} (hts : ∀ w ∈ wsL_law, w.before args s = true) (hK : sm_K G s) (hq : vwCl[ci]? = some q) (hin : ∀ w ∈ u_ws q.1 q.2.1 q.2.2, w ∈ wsL_law) (hty : ∀ k, k < q.2.2 → parseFieldDescriptor (q.2.1 k).2.2.1 = some (tyf k)) (hnm : ∀ a, a < q.2.2 → ∀ b, b < q.2.2 → a ≠ b → (q.2.1 a).2.1 ≠ (q.2.1 b).2.1) : ∀ x y, x < q.2.2 → y < q.2.2 → x ≠ y → (G.1.2 ci) x ≠ (G.1.2 ci) y :=
  va_apart (own := "") hts hin tyf hty hnm hK.1 hq
set_option maxHeartbeats 1000000 in
theorem T_putV {a ci k index : Nat} {v : Value} {ty : FieldType} {σ' : Hp} (hd : decode cc pc = .ok (.putfield index, 3)) (hF : sm_FL own index ci k) (hT : sm_FT ci k ty false) (hn : narrow ty v = v) (hfit : fits ty v = true) (hv : putV σ a ci k v = some σ')
    (kk : T l G own cc nL rm E Qs cs sl (pc + 3) lv st σ') : T l G own cc nL rm E Qs cs sl pc lv (v :: .ref a :: st) σ := by
  intro p e s m args below meth c H locs ls C0 he hR hS hl
  obtain ⟨hx, hb, hml, hown, hts, hK⟩ := id C0
  obtain ⟨q, hq, hk, hin, hlk⟩ := hF
  obtain ⟨q', tyf, hq', hty, hnm, hte, hfin⟩ := hT
  cases hq.symm.trans hq'
  obtain ⟨fs, hfs, hlen, rfl⟩ := putV_spec hv
  have hap := sm_apart hts hK hq hin hty hnm
  have hat := hR.2.2 a _ hfs
  obtain ⟨hoa, r, h1, cell, q1, q2, q3, q4⟩ := hat
  cases h1.symm.trans hq
  obtain ⟨hSl, hfc, kC, hkC, hkind⟩ := hK.1.1 ci _ hq
  obtain ⟨cf, kf, fi, fd, hi, hsl⟩ := hSl k hk
  have hlay := hts _ (hin _ (u_in_lay hk))
  unfold u_lay at hlay
  rw [if_neg (by rw [hfin]; decide)] at hlay
  have hst := (u_facts hfc hkC (u_lays hts hin hk) hi).1
  have h6 := u_store hfc hkC hkind hlay hi (by rw [← hte]; exact hty k hk) hn hfit
  refine W.putK hx hb (f := fd) ⟨hown, hts _ hlk, ⟨_, _, _, hi⟩, hst⟩ (by rw [q2]; exact h6) q1 q3 (by rw [hsl]; exact k2_hasslot (q4 k hk)) rfl rfl hd fun H' e1 e2 e3 => ?_
  rw [hsl] at e1 ⊢
  exact kk p e s m args below meth c H' _ ls C0 he (hR.set hfs e2 e3 ⟨_, hq, t_OB.to (V := updV (vp_V fs) k v) ⟨_, e1, q2, q3, t_set q4 hap hk v⟩ (fun j _ => vp_updV_set hlen v j)⟩) (hS.put hoa e3) hl
set_option maxHeartbeats 1000000 in
theorem T_putI {α : Type} {inj : α → Option Value × Hp} {P : Option Value → Hp → Prop} {a ci k index : Nat} {x : Int32} {f : Hp → Option α} (hd : decode cc pc = .ok (.putfield index, 3)) (hF : sm_FL own index ci k) (hT : sm_FT ci k .int false) (h : OK inj ((putI σ a ci k x).bind f) P)
    (kk : ∀ σ' : Hp, OK inj (f σ') P → T l G own cc nL rm E Qs cs sl (pc + 3) lv st σ') : T l G own cc nL rm E Qs cs sl pc lv (.int x :: .ref a :: st) σ := by
  obtain ⟨σ', hx, h⟩ := h.bind
  exact T_putV hd hF hT rfl rfl hx (kk σ' h)
set_option maxHeartbeats 1000000 in
theorem T_putZ {α : Type} {inj : α → Option Value × Hp} {P : Option Value → Hp → Prop} {a ci k index : Nat} {x : Int32} {f : Hp → Option α} (hd : decode cc pc = .ok (.putfield index, 3)) (hF : sm_FL own index ci k) (hT : sm_FT ci k .boolean false) (h : OK inj ((putZ σ a ci k x).bind f) P)
    (kk : ∀ σ' : Hp, OK inj (f σ') P → T l G own cc nL rm E Qs cs sl (pc + 3) lv st σ') : T l G own cc nL rm E Qs cs sl pc lv (.int x :: .ref a :: st) σ := by
  obtain ⟨σ', hx, hok⟩ := h.bind
  clear h
  unfold putZ at hx
  split at hx
  · rename_i hz
    have hn : narrow .boolean (.int x) = .int x := by rcases hz with rfl | rfl <;> decide
    have hf : fits .boolean (.int x) = true := by rcases hz with rfl | rfl <;> decide
    exact T_putV hd hF hT hn hf hx (kk σ' hok)
  · cases hx

set_option maxHeartbeats 1000000 in
theorem T_putF {a ci k index : Nat} {v : Value} {ty : FieldType} {rt : Option FieldType} {σ' : Hp} {α : Type} {inj : α → Option Value × Hp} {P : Option Value → Hp → Prop} {f : Hp → Option α} (hE : E = sm_E rt "<init>") (hd : decode cc pc = .ok (.putfield index, 3)) (hF : sm_FL own index ci k) (hT : sm_FT ci k ty true) (hown1 : ((vwCl[ci]?).map fun q => (q.2.1 k).1) = some own) (hn : narrow ty v = v) (hfit : fits ty v = true) (h : OK inj ((putV σ a ci k v).bind f) P)
    (kk : ∀ σ' : Hp, OK inj (f σ') P → T l G own cc nL rm E Qs cs sl (pc + 3) lv st σ') : T l G own cc nL rm E Qs cs sl pc lv (v :: .ref a :: st) σ := by
  obtain ⟨σ', hv, h⟩ := h.bind
  intro p e s m args below meth c H locs ls C0 he hR hS hl
  obtain ⟨hx, hb, hml, hown, hts, hK⟩ := id C0
  have hin2 : meth.name = "<init>" := by
    have he2 := he
    rw [hE] at he2
    exact he2.2.2
  obtain ⟨q, hq, hk, hin, hlk⟩ := hF
  obtain ⟨q', tyf, hq', hty, hnm, hte, hfin⟩ := hT
  cases hq.symm.trans hq'
  obtain ⟨fs, hfs, hlen, rfl⟩ := putV_spec hv
  have hdecl : (q.2.1 k).1 = own := by
    rw [hq] at hown1
    exact Option.some.inj hown1
  have hap := sm_apart hts hK hq hin hty hnm
  have hat := hR.2.2 a _ hfs
  obtain ⟨hoa, r, h1, cell, q1, q2, q3, q4⟩ := hat
  cases h1.symm.trans hq
  obtain ⟨hSl, hfc, kC, hkC, hkind⟩ := hK.1.1 ci _ hq
  obtain ⟨cf, kf, fi, fd, hi, hsl⟩ := hSl k hk
  have hlay := hts _ (hin _ (u_in_lay hk))
  unfold u_lay at hlay
  rw [if_pos hfin] at hlay
  have hst := (u_facts hfc hkC (u_lays hts hin hk) hi).1
  have hcf : m.cls = cf := by
    obtain ⟨_, _, c', _, _, _, -, -, hf', -, -, -, hown2, -⟩ := Cond.laysFinal_spec hlay
    have e1 : c' = cf := by have := hi.symm.trans hf'; simp at this; exact this.1.symm
    rw [hdecl] at hown2
    rw [← e1]; exact Option.some.inj (hown.symm.trans hown2)
  have h6 := u_fits hfc hkC hkind (Or.inr hlay) hi (by rw [← hte]; exact hty k hk) hn hfit
  refine W.putFinK hx hb hown (hts _ hlk) hi hst hcf hin2 (by rw [q2]; exact h6) q1 q3 (by rw [hsl]; exact k2_hasslot (q4 k hk)) rfl rfl hd fun H' e1 e2 e3 => ?_
  rw [hsl] at e1 ⊢
  exact kk _ h p e s m args below meth c H' _ ls C0 he (hR.set hfs e2 e3 ⟨_, hq, t_OB.to (V := updV (vp_V fs) k v) ⟨_, e1, q2, q3, t_set q4 hap hk v⟩ (fun j _ => vp_updV_set hlen v j)⟩) (hS.put hoa e3) hl
/-! arrays -/
set_option maxHeartbeats 1000000 in
theorem sm_in {i : Int32} {n : Nat} (h : 0 ≤ i.toInt ∧ i.toInt < n) : vp_in i n := vp_in_iff.mpr h
set_option maxHeartbeats 1000000 in
theorem ldI_spec {a : Nat} {i x : Int32} (h : ldI σ a i = some x) : ∃ n f, σ.2 a = some (.inl (n, f)) ∧ vp_in i n ∧ x = f i.toNatClampNeg := by
  unfold ldI at h
  split at h
  · rename_i y hy
    split at h
    · rename_i hc
      exact ⟨y.1, y.2, hy, sm_in hc, (Option.some.inj h).symm⟩
    · cases h
  · cases h
set_option maxHeartbeats 1000000 in
theorem T_iaload {α : Type} {inj : α → Option Value × Hp} {P : Option Value → Hp → Prop} {a : Nat} {i : Int32} {f : Int32 → Option α} (hd : decode cc pc = .ok (.iaload, 1)) (h : OK inj ((ldI σ a i).bind f) P)
    (kk : ∀ x : Int32, OK inj (f x) P → T l G own cc nL rm E Qs cs sl (pc + 1) lv (.int x :: st) σ) : T l G own cc nL rm E Qs cs sl pc lv (.int i :: .ref a :: st) σ := by
  obtain ⟨x, hx1, h⟩ := h.bind
  obtain ⟨n, g, hg, hin, rfl⟩ := ldI_spec hx1
  intro p e s m args below meth c H locs ls C0 he hR hS hl
  obtain ⟨hx, hb, hml, hown, hts, hK⟩ := id C0
  have hP : va_P G.1 vwCl [(a, .inl (G.2.1, n, .inl g))] H := fun j z hz => by
    have hj : j < 1 := (List.getElem?_eq_some_iff.mp hz).1
    rw [show j = 0 by omega] at hz
    cases hz
    exact (hR.2.2 a _ hg).2
  exact va_iald hx hb hK.1 hP 0 0 rfl rfl hin hd (kk _ h p e s m args below meth c H locs ls C0 he hR hS hl)
set_option maxHeartbeats 1000000 in
theorem ldR_spec {a : Nat} {i : Int32} {x : Option Nat} (h : ldR σ a i = some x) : ∃ n f, σ.2 a = some (.inr (.inl (n, f))) ∧ vp_in i n ∧ x = f i.toNatClampNeg := by
  unfold ldR at h
  split at h
  · rename_i y hy
    split at h
    · rename_i hc
      exact ⟨y.1, y.2, hy, sm_in hc, (Option.some.inj h).symm⟩
    · cases h
  · cases h
set_option maxHeartbeats 1000000 in
theorem T_aaload {α : Type} {inj : α → Option Value × Hp} {P : Option Value → Hp → Prop} {a : Nat} {i : Int32} {f : Option Nat → Option α} (hd : decode cc pc = .ok (.aaload, 1)) (h : OK inj ((ldR σ a i).bind f) P)
    (kk : ∀ x : Option Nat, OK inj (f x) P → T l G own cc nL rm E Qs cs sl (pc + 1) lv (va_rf x :: st) σ) : T l G own cc nL rm E Qs cs sl pc lv (.int i :: .ref a :: st) σ := by
  obtain ⟨x, hx1, h⟩ := h.bind
  obtain ⟨n, g, hg, hin, rfl⟩ := ldR_spec hx1
  intro p e s m args below meth c H locs ls C0 he hR hS hl
  obtain ⟨hx, hb, hml, hown, hts, hK⟩ := id C0
  have hP : va_P G.1 vwCl [(a, .inl (G.2.2.1, n, .inr (.inr (.inr (.inr g)))))] H := fun j z hz => by
    have hj : j < 1 := (List.getElem?_eq_some_iff.mp hz).1
    rw [show j = 0 by omega] at hz
    cases hz
    exact (hR.2.2 a _ hg).2
  exact va_aldq hx hb hK.1 hP 0 1 rfl rfl hin hd (kk _ h p e s m args below meth c H locs ls C0 he hR hS hl)
set_option maxHeartbeats 1000000 in
theorem stI_spec {a : Nat} {i x : Int32} {σ' : Hp} (h : stI σ a i x = some σ') : ∃ n f, σ.2 a = some (.inl (n, f)) ∧ vp_in i n ∧ σ' = setC σ a (.inl (n, upd f i.toNatClampNeg x)) := by
  unfold stI at h
  split at h
  · rename_i y hy
    split at h
    · rename_i hc
      exact ⟨y.1, y.2, hy, sm_in hc, (Option.some.inj h).symm⟩
    · cases h
  · cases h
set_option maxHeartbeats 1000000 in
theorem T_iastore {α : Type} {inj : α → Option Value × Hp} {P : Option Value → Hp → Prop} {a : Nat} {i x : Int32} {f : Hp → Option α} (hd : decode cc pc = .ok (.iastore, 1)) (h : OK inj ((stI σ a i x).bind f) P)
    (kk : ∀ σ' : Hp, OK inj (f σ') P → T l G own cc nL rm E Qs cs sl (pc + 1) lv st σ') : T l G own cc nL rm E Qs cs sl pc lv (.int x :: .int i :: .ref a :: st) σ := by
  obtain ⟨σ', hx1, h⟩ := h.bind
  obtain ⟨n, g, hg, hin, rfl⟩ := stI_spec hx1
  intro p e s m args below meth c H locs ls C0 he hR hS hl
  obtain ⟨hx, hb, hml, hown, hts, hK⟩ := id C0
  obtain ⟨hoa, hat⟩ := hR.2.2 a _ hg
  have hat : H[a]? = some (vp_cell G.2.1 (n, .inl g)) := hat
  refine W.iast hx hb hat ((hK.1.2 0 _ rfl).1 n (fun j => .int (g j))) (fun q => by cases q) (by show ¬ (i < 0 ∨ (arrV _ _ _).slots.size ≤ _); rw [arrV_size]; exact hin) rfl rfl hd fun H1 e1 z oq => ?_
  refine kk _ h p e s m args below meth c H1 _ ls C0 he (hR.set hg z oq ?_) (hS.put hoa oq) hl
  show H1[a]? = some (vp_cell _ _)
  rw [e1]
  show some ((vp_cell G.2.1 (n, .inl g)).setSlot _ _) = _
  rw [vp_cell_i, vp_cell_i, arrV_store]
  congr 2
  funext q
  by_cases hq : q = i.toNatClampNeg
  · subst hq
    simp [updV, upd]
  · simp [updV, upd, hq]
set_option maxHeartbeats 1000000 in
theorem stR_spec {a v : Nat} {i : Int32} {σ' : Hp} (h : stR σ a i v = some σ') : ∃ n f fs, σ.2 a = some (.inr (.inl (n, f))) ∧ σ.2 v = some (.inr (.inr (2, fs))) ∧ vp_in i n ∧ σ' = setC σ a (.inr (.inl (n, va_up f i.toNatClampNeg (some v)))) := by
  unfold stR at h
  split at h
  · rename_i y u hy hu
    obtain ⟨fs, hfs⟩ := isO_spec hu
    split at h
    · rename_i hc
      exact ⟨y.1, y.2, fs, hy, hfs, sm_in hc, (Option.some.inj h).symm⟩
    · cases h
  · cases h
set_option maxHeartbeats 1000000 in
theorem T_aastore {α : Type} {inj : α → Option Value × Hp} {P : Option Value → Hp → Prop} {a v : Nat} {i : Int32} {f : Hp → Option α} (hd : decode cc pc = .ok (.aastore, 1)) (h : OK inj ((stR σ a i v).bind f) P)
    (kk : ∀ σ' : Hp, OK inj (f σ') P → T l G own cc nL rm E Qs cs sl (pc + 1) lv st σ') : T l G own cc nL rm E Qs cs sl pc lv (.ref v :: .int i :: .ref a :: st) σ := by
  obtain ⟨σ', hx1, h⟩ := h.bind
  obtain ⟨n, g, fs, hg, hv, hin, rfl⟩ := stR_spec hx1
  intro p e s m args below meth c H locs ls C0 he hR hS hl
  obtain ⟨hx, hb, hml, hown, hts, hK⟩ := id C0
  obtain ⟨hoa, hat⟩ := hR.2.2 a _ hg
  have hat : H[a]? = some (vp_cell G.2.2.1 (n, .inr (.inr (.inr (.inr g))))) := hat
  have hlt : i.toNatClampNeg < n := Nat.not_le.mp fun q => hin (Or.inr q)
  have h0 : ¬ i < 0 := fun q => hin (Or.inl q)
  obtain ⟨-, r', hr', cellV, g1, g2, g3, -⟩ := hR.2.2 v _ hv
  have hr2 : vwCl[2]? = some (RX2, TX2, 10) := rfl
  cases hr'.symm.trans hr2
  have hcls := (hK.1.1 2 _ hr2).2
  obtain ⟨kA, comp, k1, k2, k3, -⟩ := (hK.1.2 1 _ rfl).2
  have hcomp : comp = G.1.1 2 := Option.some.inj (k3.symm.trans hcls.1)
  subst hcomp
  obtain ⟨kC, hkC, -⟩ := hcls.2
  refine W.aast hx hb hat (fun q h => by cases h) (fun h => by cases h) k1 k2 rfl hkC ⟨h0, by show _ < (arrV _ _ _).slots.size; rw [arrV_size]; exact hlt⟩ g1 (fun q h => by rw [g3] at h; cases h) (by rw [g2]; exact hkC) (by rw [g2]; exact va_assign hcls) rfl rfl hd fun H1 e1 z oq => ?_
  refine kk _ h p e s m args below meth c H1 _ ls C0 he (hR.set hg z oq ?_) (hS.put hoa oq) hl
  show H1[a]? = some (vp_cell _ _)
  rw [e1]
  show some ((vp_cell G.2.2.1 (n, .inr (.inr (.inr (.inr g))))).setSlot _ _) = _
  rw [vp_cell_q, vp_cell_q, arrV_store]
  congr 2
  funext q
  by_cases hq : q = i.toNatClampNeg
  · subst hq
    simp [updV, va_up, va_rf]
  · simp [updV, va_up, hq]
set_option maxHeartbeats 1000000 in
theorem T_alen {α : Type} {inj : α → Option Value × Hp} {P : Option Value → Hp → Prop} {a : Nat} {f : Int32 → Option α} (hd : decode cc pc = .ok (.arraylength, 1)) (h : OK inj ((alen σ a).bind f) P)
    (kk : ∀ x : Int32, OK inj (f x) P → T l G own cc nL rm E Qs cs sl (pc + 1) lv (.int x :: st) σ) : T l G own cc nL rm E Qs cs sl pc lv (.ref a :: st) σ := by
  obtain ⟨x, hx1, h⟩ := h.bind
  intro p e s m args below meth c H locs ls C0 he hR hS hl
  obtain ⟨hx, hb, hml, hown, hts, hK⟩ := id C0
  unfold alen at hx1
  split at hx1
  · rename_i y hy
    have hP : va_P G.1 vwCl [(a, .inl (G.2.1, y.1, .inl y.2))] H := fun j z hz => by
      have hj : j < 1 := (List.getElem?_eq_some_iff.mp hz).1
      rw [show j = 0 by omega] at hz
      cases hz
      exact (hR.2.2 a _ hy).2
    exact va_alen hx hb hK.1 hP 0 0 rfl rfl (Option.some.inj hx1) hd (kk _ h p e s m args below meth c H locs ls C0 he hR hS hl)
  · rename_i y hy
    have hP : va_P G.1 vwCl [(a, .inl (G.2.2.1, y.1, .inr (.inr (.inr (.inr y.2)))))] H := fun j z hz => by
      have hj : j < 1 := (List.getElem?_eq_some_iff.mp hz).1
      rw [show j = 0 by omega] at hz
      cases hz
      exact (hR.2.2 a _ hy).2
    exact va_alen hx hb hK.1 hP 0 1 rfl rfl (Option.some.inj hx1) hd (kk _ h p e s m args below meth c H locs ls C0 he hR hS hl)
  · cases hx1
set_option maxHeartbeats 1000000 in
theorem sm_nn {z : Int32} (h : 0 ≤ z.toInt) : ¬ z < 0 := by
  intro q
  have := Int32.lt_iff_toInt_lt.mp q
  simp at this
  omega
set_option maxHeartbeats 1000000 in
theorem T_newI {α : Type} {inj : α → Option Value × Hp} {P : Option Value → Hp → Prop} {n : Int32} {f : Hp → Option α} (hd : decode cc pc = .ok (.newarray .int, 2)) (hw : Cond.arrayClass .int ∈ wsL_law) (hc : cs + 1 ≤ rm.cells) (hs : sl + 800 ≤ rm.slots) (h : OK inj ((newI σ n).bind f) P)
    (kk : ∀ σ' : Hp, OK inj (f σ') P → T l G own cc nL rm E Qs (cs + 1) (sl + 800) (pc + 2) lv (.ref σ.1 :: st) σ') : T l G own cc nL rm E Qs cs sl pc lv (.int n :: st) σ := by
  obtain ⟨σ', hx1, h⟩ := h.bind
  unfold newI at hx1
  split at hx1
  · rename_i hn
    cases hx1
    intro p e s m args below meth c H locs ls C0 he hR hS hl
    obtain ⟨hx, hb, hml, hown, hts, hK⟩ := id C0
    have hle : n.toNatClampNeg ≤ 800 := by
      have : n.toNatClampNeg = n.toInt.toNat := rfl
      omega
    refine va_newaK (atype := .int) hx hb (hts _ hw) rfl hd rfl (sm_nn hn.1) rfl (by show n.toNatClampNeg * 4 ≤ _; omega) hc (by omega) hR.1 fun H1 cA e1 z1 o1 hAr hNm => ?_
    have hca : cA = G.2.1 := Option.some.inj (hNm.symm.trans (hK.1.2 0 _ rfl).2)
    subst hca
    refine W.widen (k := cs + 1) (n := sl + 800) (Nat.le_refl _) (by omega) ?_
    refine kk _ h p e s m args below meth c H1 locs ls C0 he (hR.add (by rw [z1, hR.1]) (fun q hq => o1 q (by rw [← hR.1]; exact hq)) ?_) ⟨fun q hq => ?_, hS.2⟩ hl
    · show H1[H.size]? = some (vp_cell _ _)
      rw [hR.1, e1]
      rfl
    · rw [o1 q (Nat.lt_of_lt_of_le hq hR.2.1)]
      exact hS.1 q hq
  · cases hx1
set_option maxHeartbeats 1000000 in
theorem T_newR {α : Type} {inj : α → Option Value × Hp} {P : Option Value → Hp → Prop} {n : Int32} {index : Nat} {f : Hp → Option α} (hd : decode cc pc = .ok (.anewarray index, 3)) (hw : Cond.classLink own index "SunMirrors$Field" ∈ wsL_law) (hc : cs + 1 ≤ rm.cells) (hs : sl + 800 ≤ rm.slots) (h : OK inj ((newR σ n).bind f) P)
    (kk : ∀ σ' : Hp, OK inj (f σ') P → T l G own cc nL rm E Qs (cs + 1) (sl + 800) (pc + 3) lv (.ref σ.1 :: st) σ') : T l G own cc nL rm E Qs cs sl pc lv (.int n :: st) σ := by
  obtain ⟨σ', hx1, h⟩ := h.bind
  unfold newR at hx1
  split at hx1
  · rename_i hn
    cases hx1
    intro p e s m args below meth c H locs ls C0 he hR hS hl
    obtain ⟨hx, hb, hml, hown, hts, hK⟩ := id C0
    have hle : n.toNatClampNeg ≤ 800 := by
      have : n.toNatClampNeg = n.toInt.toNat := rfl
      omega
    refine W.anew (C := "SunMirrors$Field") hx hb hown (hts _ hw) (va_AO.use hK.2.1) rfl hd rfl (sm_nn hn.1) (by omega) hc (by omega) fun cA kA comp f1 f2 f3 f4 => ?_
    obtain ⟨kA', comp', k1, k2, k3, k4⟩ := (hK.1.2 1 _ rfl).2
    have hca : cA = G.2.2.1 := Option.some.inj (f1.symm.trans k4)
    subst hca
    refine W.widen (k := cs + 1) (n := sl + 800) (Nat.le_refl _) (by omega) ?_
    have e1 : (H.push { cls := G.2.2.1, slots := Array.replicate n.toNatClampNeg .null, vm := .none })[H.size]? = some (vp_cell G.2.2.1 (n.toNatClampNeg, .inr (.inr (.inr (.inr (fun _ => none)))))) := by
      rw [vp_cell_q, ← arrV_new]; simp [va_rf]
    have o1 : ∀ q, q < H.size → (H.push { cls := G.2.2.1, slots := Array.replicate n.toNatClampNeg .null, vm := .none })[q]? = H[q]? := fun q hq => by
      rw [Array.getElem?_push, if_neg (Nat.ne_of_lt hq)]
    have z1 : (H.push { cls := G.2.2.1, slots := Array.replicate n.toNatClampNeg .null, vm := .none }).size = H.size + 1 := by simp
    have g1 := kk _ h p e s m args below meth c _ locs ls C0 he (hR.add z1 o1 e1) ⟨fun q hq => by
      rw [o1 q (Nat.lt_of_lt_of_le hq (by rw [hR.1]; exact hR.2.1))]
      exact hS.1 q hq, hS.2⟩ hl
    rw [← hR.1] at g1
    exact g1
  · cases hx1
set_option maxHeartbeats 1000000 in
theorem T_newO {ci index N : Nat} {C : String} {fs : List Value} (hd : decode cc pc = .ok (.new index, 3)) (hw : Cond.classLink own index C ∈ wsL_law) (hw2 : Cond.instantiable C N ∈ wsL_law) (hw3 : Cond.initialized C ∈ wsL_law) (hq : ∃ (Tf : u_T) (tyf : Nat → FieldType), vwCl[ci]? = some (C, Tf, N) ∧ (∀ w ∈ u_ws C Tf N, w ∈ wsL_law) ∧ (∀ k, k < N → parseFieldDescriptor (Tf k).2.2.1 = some (tyf k)) ∧ (List.range N).all (fun j => decide (defaultValue (tyf j) = vp_V fs j)) = true) (hc : cs + 1 ≤ rm.cells) (hs : sl + N ≤ rm.slots)
    (kk : T l G own cc nL rm E Qs (cs + 1) (sl + N) (pc + 3) lv (.ref σ.1 :: st) (newO σ ci fs)) : T l G own cc nL rm E Qs cs sl pc lv st σ := by
  intro p e s m args below meth c H locs ls C0 he hR hS hl
  obtain ⟨hx, hb, hml, hown, hts, hK⟩ := id C0
  obtain ⟨Tf, tyf, hq, hin, hty, hfs⟩ := hq
  have hKn := hK.1.1 ci _ hq
  refine W.newcK hx hb hown (hts _ hw) (hts _ hw2) (hts _ hw3) rfl hd hc hs hKn.2.1 hR.1 fun H1 kC hkC e1 z1 o1 => ?_
  refine kk p e s m args below meth c H1 locs ls C0 he (hR.add (by rw [z1, hR.1]) (fun q hq => o1 q (by rw [← hR.1]; exact hq)) ?_) ⟨fun q hq => ?_, hS.2⟩ hl
  · rw [hR.1]
    exact ⟨_, hq, (u_born tyf hts hin hKn hkC e1 hty).to fun j hj => by
      have := List.all_eq_true.mp hfs j (List.mem_range.mpr hj)
      exact of_decide_eq_true this⟩
  · rw [o1 q (Nat.lt_of_lt_of_le hq hR.2.1)]
    exact hS.1 q hq
set_option maxHeartbeats 1000000 in
theorem T_nh {α : Type} {inj : α → Option Value × Hp} {P : Option Value → Hp → Prop} {σ' : Hp} {f : Hp → Option α} (h : OK inj (nm σ' f) P) (k : ∀ y : Hp, OK inj (f y) P → T l G own cc nL rm E Qs cs sl pc lv st y) : T l G own cc nL rm E Qs cs sl pc lv st σ' := k σ' h
set_option maxHeartbeats 1000000 in
theorem cpyI_spec {a0 a : Nat} {sp dp n : Int32} {σ' : Hp} (h : cpyI σ a0 sp a dp n = some σ') : ∃ n0 f n1 g, σ.2 a0 = some (.inl (n0, f)) ∧ σ.2 a = some (.inl (n1, g)) ∧ ¬ sp < 0 ∧ ¬ dp < 0 ∧ ¬ n < 0 ∧ sp.toNatClampNeg + n.toNatClampNeg ≤ n0 ∧ dp.toNatClampNeg + n.toNatClampNeg ≤ n1 ∧ σ' = setC σ a (.inl (n1, va_cpy f g sp.toNatClampNeg dp.toNatClampNeg n.toNatClampNeg)) := by
  unfold cpyI at h
  split at h
  · rename_i x y hx hy
    split at h
    · rename_i hc
      exact ⟨x.1, x.2, y.1, y.2, hx, hy, hc.1.1, hc.1.2.1, hc.1.2.2, hc.2.1, hc.2.2, (Option.some.inj h).symm⟩
    · cases h
  · cases h

set_option maxHeartbeats 1000000 in
theorem T_acopy {α : Type} {inj : α → Option Value × Hp} {P : Option Value → Hp → Prop} {a0 a index : Nat} {sp dp n : Int32} {f : Hp → Option α} (hd : decode cc pc = .ok (.invokestatic index, 3)) (hl1 : Cond.methodLink own index arraycopyName ∈ wsL_law) (hl2 : Cond.native arraycopyName ∈ wsL_law) (hl3 : Cond.static arraycopyName ∈ wsL_law) (hl4 : Cond.initialized "java/lang/System" ∈ wsL_law) (hroom : 1 ≤ rm.frames ∧ (st.map fun v => v.category).sum + (nativeFrameWords "java/lang/System" "arraycopy" 5 + 11) ≤ rm.locals) (h : OK inj ((cpyI σ a0 sp a dp n).bind f) P)
    (kk : ∀ σ' : Hp, OK inj (f σ') P → T l G own cc nL rm E Qs cs sl (pc + 3) lv st σ') : T l G own cc nL rm E Qs cs sl pc lv (.int n :: .int dp :: .ref a :: .int sp :: .ref a0 :: st) σ := by
  obtain ⟨σ', hx1, h⟩ := h.bind
  obtain ⟨n0, f0, n1, g, hs0, hd0, h1, h2, h3, h4, h5, rfl⟩ := cpyI_spec hx1
  intro p e s m args below meth c H locs ls C0 he hR hS hl
  obtain ⟨hx, hb, hml, hown, hts, hK⟩ := id C0
  have nn : ∀ z : Int32, ¬ z < 0 → z.toInt = (z.toNatClampNeg : Int) := by
    intro z hz
    have hz0 : (0 : Int) ≤ z.toInt := by
      have := Int32.not_lt.mp hz
      simpa using Int32.le_iff_toInt_le.mp this
    show z.toInt = ((z.toInt.toNat : Nat) : Int)
    omega
  intro T0 hT X
  have hc0 : H[a0]? = some (vp_cell G.2.1 (n0, .inl f0)) := (hR.2.2 a0 _ hs0).2
  have hc1 : H[a]? = some (vp_cell G.2.1 (n1, .inl g)) := (hR.2.2 a _ hd0).2
  have hoa := (hR.2.2 a _ hd0).1
  obtain ⟨-, k0, hk0, cm0, hkk0⟩ := (hK.1.2 0 _ rfl).1 n0 (fun j => .int (f0 j))
  obtain ⟨-, k1, hk1, cm1, hkk1⟩ := (hK.1.2 0 _ rfl).1 n1 (fun j => .int (g j))
  obtain ⟨vm', X', step⟩ := X.arraycopy hx hown (hts _ hl1) (hts _ hl2) (hts _ hl3) (hts _ hl4) (src := a0) (dst := a) (cs := vp_cell G.2.1 (n0, .inl f0)) (cd := vp_cell G.2.1 (n1, .inl g)) (srcPos := sp) (destPos := dp) (n := n) (by rw [hT]; exact hc0) (by rw [hT]; exact hc1)
    (fun _ h => by cases h) (fun _ h => by cases h) (fun h => by cases h) (fun h => by cases h) hk0 hk1 hkk0 hkk1 (by simp [show refKind FieldType.int = false from rfl]) h1 h2 h3
    (by rw [nn sp h1, nn n h3]; show ¬ _ > ((arrV G.2.1 n0 (fun j => .int (f0 j))).slots.size : Int); rw [arrV_size]; omega)
    (by rw [nn dp h2, nn n h3]; show ¬ _ > ((arrV G.2.1 n1 (fun j => .int (g j))).slots.size : Int); rw [arrV_size]; omega)
    (fun vm₁ _ i hi => by
      have e : (vp_cell G.2.1 (n0, .inl f0)).slots.getD (sp.toNatClampNeg + i) .null = .int (f0 (sp.toNatClampNeg + i)) := by
        show (arrV G.2.1 n0 (fun j => .int (f0 j))).slots.getD _ _ = _
        rw [Array.getD_eq_getD_getElem?, arrV_read _ _ (by omega)]
        rfl
      refine ⟨?_, ?_⟩
      · rw [e]
        rfl
      · rw [e]
        exact trivial)
    (g := F0 m pc ls (.int n :: .int dp :: .ref a :: .int sp :: .ref a0 :: st)) rfl (by rw [hml]; exact hl.1) (rest := st) rfl (by rw [hb]; exact hd) hroom.1 (by show 2 * 0 + _ + _ ≤ _; have := hroom.2; omega)
  have e1 : copied (vp_cell G.2.1 (n0, .inl f0)) (vp_cell G.2.1 (n1, .inl g)) sp dp n = vp_cell G.2.1 (n1, .inl (va_cpy f0 g sp.toNatClampNeg dp.toNatClampNeg n.toNatClampNeg)) := va_copied (fun z => .int z) G.2.1 G.2.1 f0 g h4
  rw [e1] at X' step
  have hlt : a < H.size := (Array.getElem?_eq_some_iff.mp hc1).1
  have hheap : ((T0.setVm vm').setCell a (vp_cell G.2.1 (n1, .inl (va_cpy f0 g sp.toNatClampNeg dp.toNatClampNeg n.toNatClampNeg)))).heap = H.setIfInBounds a (vp_cell G.2.1 (n1, .inl (va_cpy f0 g sp.toNatClampNeg dp.toNatClampNeg n.toNatClampNeg))) := by rw [← hT]; rfl
  have oq : ∀ q : Nat, q ≠ a → (H.setIfInBounds a (vp_cell G.2.1 (n1, .inl (va_cpy f0 g sp.toNatClampNeg dp.toNatClampNeg n.toNatClampNeg))))[q]? = H[q]? := fun q hq => by simp [Array.getElem?_setIfInBounds, Ne.symm hq]
  obtain ⟨t, a1, b1⟩ := kk _ h p e s m args below meth c _ _ ls C0 he (hR.set hd0 (by simp) oq (show (H.setIfInBounds a _)[a]? = some _ by simp [Array.getElem?_setIfInBounds, hlt])) ⟨fun q g1 => by
      rw [oq q (by omega)]
      exact hS.1 q g1, fun q hq => by
      rcases List.mem_append.mp hq with h | h
      · exact hS.2 q h
      · obtain ⟨z, -, hz⟩ := List.mem_map.mp h
        rw [← hz]
        exact hoa⟩ hl _ hheap X'
  exact ⟨t, step t a1, b1⟩
/-! Math -/
set_option maxHeartbeats 1000000 in
theorem T_mmax {x y : Int32} {index : Nat} (hd : decode cc pc = .ok (.invokestatic index, 3)) (hl1 : Cond.methodLink own index Lib.Math.max.name ∈ wsL_law) (hl2 : Cond.static Lib.Math.max.name ∈ wsL_law) (hl3 : Cond.initialized "java/lang/Math" ∈ wsL_law) (hl4 : Cond.code Lib.Math.max.name Lib.Math.max.code 2 (some .int) ∈ wsL_law) (hroom : 1 ≤ rm.frames ∧ (st.map fun v => v.category).sum + 13 ≤ rm.locals ∧ cs ≤ rm.cells ∧ sl ≤ rm.slots)
    (k : T l G own cc nL rm E Qs cs sl (pc + 3) lv (.int (if x < y then y else x) :: st) σ) : T l G own cc nL rm E Qs cs sl pc lv (.int y :: .int x :: st) σ := by
  intro p e s m args below meth c H locs ls C0 he hR hS hl
  obtain ⟨hx, hb, hml, hown, hts, hK⟩ := id C0
  exact va_mmax hx hb (by rw [hml]; exact hl.1.symm) hown (hts _ hl1) (hts _ hl2) (hts _ hl3) (hts _ hl4) hroom.1 hroom.2.1 hroom.2.2.1 hroom.2.2.2 hd (k p e s m args below meth c H locs ls C0 he hR hS hl)
set_option maxHeartbeats 1000000 in
theorem T_mmin {x y : Int32} {index : Nat} (hd : decode cc pc = .ok (.invokestatic index, 3)) (hl1 : Cond.methodLink own index Lib.Math.min.name ∈ wsL_law) (hl2 : Cond.static Lib.Math.min.name ∈ wsL_law) (hl3 : Cond.initialized "java/lang/Math" ∈ wsL_law) (hl4 : Cond.code Lib.Math.min.name Lib.Math.min.code 2 (some .int) ∈ wsL_law) (hroom : 1 ≤ rm.frames ∧ (st.map fun v => v.category).sum + 13 ≤ rm.locals ∧ cs ≤ rm.cells ∧ sl ≤ rm.slots)
    (k : T l G own cc nL rm E Qs cs sl (pc + 3) lv (.int (if y < x then y else x) :: st) σ) : T l G own cc nL rm E Qs cs sl pc lv (.int y :: .int x :: st) σ := by
  intro p e s m args below meth c H locs ls C0 he hR hS hl
  obtain ⟨hx, hb, hml, hown, hts, hK⟩ := id C0
  exact va_mmin hx hb (by rw [hml]; exact hl.1.symm) hown (hts _ hl1) (hts _ hl2) (hts _ hl3) (hts _ hl4) hroom.1 hroom.2.1 hroom.2.2.1 hroom.2.2.2 hd (k p e s m args below meth c H locs ls C0 he hR hS hl)
set_option maxHeartbeats 1000000 in
theorem T_mabs {x : Int32} {index : Nat} (hd : decode cc pc = .ok (.invokestatic index, 3)) (hl1 : Cond.methodLink own index Lib.Math.abs.name ∈ wsL_law) (hl2 : Cond.static Lib.Math.abs.name ∈ wsL_law) (hl3 : Cond.initialized "java/lang/Math" ∈ wsL_law) (hl4 : Cond.code Lib.Math.abs.name Lib.Math.abs.code 1 (some .int) ∈ wsL_law) (hroom : 1 ≤ rm.frames ∧ (st.map fun v => v.category).sum + 13 ≤ rm.locals ∧ cs ≤ rm.cells ∧ sl ≤ rm.slots)
    (k : T l G own cc nL rm E Qs cs sl (pc + 3) lv (.int (if 0 ≤ x then x else 0 - x) :: st) σ) : T l G own cc nL rm E Qs cs sl pc lv (.int x :: st) σ := by
  intro p e s m args below meth c H locs ls C0 he hR hS hl
  obtain ⟨hx, hb, hml, hown, hts, hK⟩ := id C0
  exact va_mabs hx hb (by rw [hml]; exact hl.1.symm) hown (hts _ hl1) (hts _ hl2) (hts _ hl3) (hts _ hl4) hroom.1 hroom.2.1 hroom.2.2.1 hroom.2.2.2 hd (k p e s m args below meth c H locs ls C0 he hR hS hl)
set_option maxHeartbeats 1000000 in
theorem T_objInit {a index : Nat} (hd : decode cc pc = .ok (.invokespecial index, 3)) (hl1 : Cond.methodLink own index objectInit ∈ wsL_law) (hl2 : Cond.instanceMethod objectInit ∈ wsL_law) (hl3 : Cond.code objectInit ⟨#[0xb1]⟩ 1 none ∈ wsL_law) (hroom : 1 ≤ rm.frames ∧ (st.map fun v => v.category).sum + 12 ≤ rm.locals)
    (k : T l G own cc nL rm E Qs cs sl (pc + 3) lv st σ) : T l G own cc nL rm E Qs cs sl pc lv (.ref a :: st) σ := by
  intro p e s m args below meth c H locs ls C0 he hR hS hl
  obtain ⟨hx, hb, hml, hown, hts, hK⟩ := id C0
  refine W.objInit hx hb hown (hts _ hl1) (hts _ hl2) (hts _ hl3) rfl (by rw [hml]; exact hl.1) rfl hd hroom.1 (by show 2 * 0 + _ + 12 ≤ _; have := hroom.2; omega) ?_
  exact k p e s m args below meth c H locs ls C0 he hR hS hl
/-! calls -/
def sm_MC (y : MethodName) (cc : ByteArray) (nL : Nat) (rt : Option FieldType) (n : Nat) : Prop := Cond.code y cc nL rt ∈ wsL_law ∧ Cond.initialized y.cls ∈ wsL_law ∧ (y.cls ≠ "java/lang/invoke/MethodHandle" ∧ y.cls ≠ "java/lang/invoke/VarHandle" ∧ (parseMethodDescriptor y.desc).map (fun d => d.parameters.length) = some n) ∧ nL ≤ 21
set_option maxHeartbeats 1000000 in
theorem sm_goodAll {y : MethodName} {cc : ByteArray} {nL : Nat} {rt : Option FieldType} (h : Cond.code y cc nL rt ∈ wsL_law) : GoodIn wsL_law (.code y cc nL rt :: wsL_law) := by
  intro w hw
  rcases List.mem_cons.mp hw with rfl | hw
  · exact ⟨h, good_of_word (wsL_law_good _ h)⟩
  · exact ⟨hw, good_of_word (wsL_law_good w hw)⟩
set_option maxHeartbeats 1000000 in
theorem sm_callB {R : Room} {s : State} {args : Array Value} {index n d' mc' ms' nL' : Nat} {y : MethodName} {cc' : ByteArray} {rt' : Option FieldType} (hM : sm_MC y cc' nL' rt' n) (hl : Cond.methodLink own index y ∈ wsL_law) (hd : d' + 1 ≤ R.frames ∧ 40 * d' + 40 ≤ R.locals) (hts : ∀ w ∈ wsL_law, w.before args s = true) : CallB R s args own index y cc' nL' rt' (.code y cc' nL' rt' :: wsL_law) (sm_rm d' mc' ms') mc' ms' n :=
  callB_of n hts (sm_goodAll hM.1) rfl rfl rfl (hts _ hM.2.1) (hts _ hl) hM.2.2.1 ⟨hd.1, by show 8 + (nL' + 11) + 40 * d' ≤ _; have := hM.2.2.2; have := hd.2; omega⟩
set_option maxHeartbeats 1000000 in
theorem sm_callN {R : Room} {s : State} {args : Array Value} {index n d' mc' ms' nL' : Nat} {y : MethodName} {host : String} {cc' : ByteArray} {rt' : Option FieldType} (hM : sm_MC y cc' nL' rt' n) (hl : Cond.methodLinkNest own index y host ∈ sm_nest) (hK : sm_K G s) (hd : d' + 1 ≤ R.frames ∧ 40 * d' + 40 ≤ R.locals) (hts : ∀ w ∈ wsL_law, w.before args s = true) : va_CN R s args own index y host cc' nL' rt' (.code y cc' nL' rt' :: wsL_law) (sm_rm d' mc' ms') mc' ms' n :=
  va_cnB n hts (sm_goodAll hM.1) rfl rfl rfl (hK.2.2 _ hl) (hts _ hM.2.1) hM.2.2.1 ⟨hd.1, by show 8 + (nL' + 11) + 40 * d' ≤ _; have := hM.2.2.2; have := hd.2; omega⟩
abbrev sm_Pc (G : smG) (args : List Value) (σ : Hp) : Array Value → State → Prop := va_Pc args (fun U => sm_Rel G σ U.heap ∧ sm_K G U)
set_option maxHeartbeats 1000000 in
theorem sm_blind {args : List Value} : FrameBlind (sm_Pc G args σ) := fun _ U g mk q => ⟨q.1, q.2.1, q.2.2.blind (U := U) (V := U.calling g mk _) rfl⟩
set_option maxHeartbeats 1000000 in
theorem sm_run {p : Program} {e : Env} {s : State} {m : MethodId} {args : Array Value} {below : List Frame} {meth : Method} {c : Code} {H : Heap} {locs : List Loc} {ls : Array Slot} {mc' ms' : Nat} {st0 rest : List Value} {a : Array Value} {P' : Option Value → Hp → Prop}
    (hr : va_Run p l e rm s m args below meth c H locs cs sl mc' ms' (F0 m pc ls st0) rest (sm_Qm G P' a) (fun q => G.2.2.2 ≤ q)) (C0 : sm_Cx p s m args c own cc nL G) (he : E s args meth) (hS : sm_S G s.heap H locs) (hl : lv_has ls nL lv)
    (kk : ∀ v σ', P' v σ' → T l G own cc nL rm E Qs (cs + mc') (sl + ms') (pc + 3) lv (v.toList ++ rest) σ') : W p l e rm s m args below meth c H locs cs sl (Qs below args s) (F0 m pc ls st0) := by
  intro T0 hT X
  obtain ⟨v, st₀, t, T', L, h0, X', hL, e1, e2, ⟨⟨v', σ', hv, hp, hRel⟩, hk⟩, stp⟩ := hr T0 hT X
  cases hv
  obtain ⟨t2, a1, b1⟩ := kk v σ' hp p e s m args below meth c T'.heap (locs ++ L) ls C0 he (by rw [e1]; exact hRel) ⟨fun q hq => by rw [e1, hk q hq, h0]; exact hS.1 q hq, fun x hx => by
    rcases List.mem_append.mp hx with h | h
    · exact hS.2 x h
    · exact hL x h⟩ hl T' rfl X'
  exact ⟨t2, stp t2 a1, b1⟩
section CALLS
variable {y : MethodName} {cc' : ByteArray} {nL' d' mc' ms' n index ci b : Nat} {rt' : Option FieldType} {As rest st0 : List Value} {P' : Option Value → Hp → Prop} {host : String}
set_option maxHeartbeats 1000000 in
theorem T_callV (hd : decode cc pc = .ok (.invokevirtual index, 3)) (hM : sm_MC y cc' nL' rt' n) (hi : Cond.instanceMethod y ∈ wsL_law ∧ Cond.selects y.cls y y ∈ wsL_law) (hln : Cond.methodLink own index y ∈ wsL_law) (hcl : (vwCl[ci]?).map (fun q => q.1) = some y.cls) (hbo : isO σ b ci = some ()) (hn : As.length = n) (hst : st0 = As.reverse ++ .ref b :: rest) (hW : (rest.map fun v => v.category).sum ≤ 8) (hroom : (d' + 1 ≤ rm.frames ∧ 40 * d' + 40 ≤ rm.locals) ∧ cs + mc' ≤ rm.cells ∧ sl + ms' ≤ rm.slots) (hC : sm_Ct l y cc' nL' rt' d' mc' ms' (.ref b :: As) σ P')
    (kk : ∀ v σ', P' v σ' → T l G own cc nL rm E Qs (cs + mc') (sl + ms') (pc + 3) lv (v.toList ++ rest) σ') : T l G own cc nL rm E Qs cs sl pc lv st0 σ := by
  intro p e s m args below meth c H locs ls C0 he hR hS hl
  obtain ⟨hx, hb, hml, hown, hts, hK⟩ := id C0
  obtain ⟨fs, hfs⟩ := isO_spec hbo
  obtain ⟨hoa, r, h1, cell, g1, g2, g3, -⟩ := hR.2.2 b _ hfs
  have hrc : s.vm.findClass y.cls = some cell.cls := by
    have h1 : vwCl[ci]? = some r := h1
    rw [h1] at hcl
    rw [← Option.some.inj hcl, g2]
    exact (hK.1.1 ci r h1).2.1
  have hb1 := sm_callB (mc' := mc') (ms' := ms') (s := s) (args := args) hM hln hroom.1 hts
  exact sm_run (va_runV (As := As) (rest := rest) ⟨hx, hb, hml, hown, hts⟩ (hC G) ⟨hb1, hts _ hi.1, hts _ hi.2⟩ ⟨sm_blind, ⟨cell, g1, by rw [g3]; rfl, hrc⟩, fun U hU hW => ⟨rfl, by rw [hU]; exact hR, hK.warm hW⟩⟩ rfl hn hl.1 hst (lv_room (pc := pc) (ls := ls) (rest := st0) hW) hd hroom.2) C0 he hS hl kk
set_option maxHeartbeats 1000000 in
theorem T_callS (hd : decode cc pc = .ok (.invokestatic index, 3)) (hM : sm_MC y cc' nL' rt' n) (hi : Cond.static y ∈ wsL_law) (hln : Cond.methodLink own index y ∈ wsL_law) (hn : As.length = n) (hst : st0 = As.reverse ++ rest) (hW : (rest.map fun v => v.category).sum ≤ 8) (hroom : (d' + 1 ≤ rm.frames ∧ 40 * d' + 40 ≤ rm.locals) ∧ cs + mc' ≤ rm.cells ∧ sl + ms' ≤ rm.slots) (hC : sm_Ct l y cc' nL' rt' d' mc' ms' As σ P')
    (kk : ∀ v σ', P' v σ' → T l G own cc nL rm E Qs (cs + mc') (sl + ms') (pc + 3) lv (v.toList ++ rest) σ') : T l G own cc nL rm E Qs cs sl pc lv st0 σ := by
  intro p e s m args below meth c H locs ls C0 he hR hS hl
  obtain ⟨hx, hb, hml, hown, hts, hK⟩ := id C0
  have hb1 := sm_callB (mc' := mc') (ms' := ms') (s := s) (args := args) hM hln hroom.1 hts
  exact sm_run (va_runS (As := As) (rest := rest) ⟨hx, hb, hml, hown, hts⟩ (hC G) ⟨hb1, hts _ hi⟩ ⟨sm_blind, fun U hU hW => ⟨rfl, by rw [hU]; exact hR, hK.warm hW⟩⟩ rfl hn hl.1 hst (lv_room (pc := pc) (ls := ls) (rest := st0) hW) hd hroom.2) C0 he hS hl kk
set_option maxHeartbeats 1000000 in
theorem T_callSN (hd : decode cc pc = .ok (.invokestatic index, 3)) (hM : sm_MC y cc' nL' rt' n) (hi : Cond.static y ∈ wsL_law) (hln : Cond.methodLinkNest own index y host ∈ sm_nest) (hn : As.length = n) (hst : st0 = As.reverse ++ rest) (hW : (rest.map fun v => v.category).sum ≤ 8) (hroom : (d' + 1 ≤ rm.frames ∧ 40 * d' + 40 ≤ rm.locals) ∧ cs + mc' ≤ rm.cells ∧ sl + ms' ≤ rm.slots) (hC : sm_Ct l y cc' nL' rt' d' mc' ms' As σ P')
    (kk : ∀ v σ', P' v σ' → T l G own cc nL rm E Qs (cs + mc') (sl + ms') (pc + 3) lv (v.toList ++ rest) σ') : T l G own cc nL rm E Qs cs sl pc lv st0 σ := by
  intro p e s m args below meth c H locs ls C0 he hR hS hl
  obtain ⟨hx, hb, hml, hown, hts, hK⟩ := id C0
  have hb1 := sm_callN (mc' := mc') (ms' := ms') (s := s) (args := args) hM hln hK hroom.1 hts
  exact sm_run (va_runSN (As := As) (rest := rest) ⟨hx, hb, hml, hown, hts⟩ (hC G) ⟨hb1, hts _ hi, trivial⟩ ⟨sm_blind, fun U hU hW => ⟨rfl, by rw [hU]; exact hR, hK.warm hW⟩⟩ rfl hn hl.1 hst (lv_room (pc := pc) (ls := ls) (rest := st0) hW) hd hroom.2) C0 he hS hl kk
set_option maxHeartbeats 1000000 in
theorem T_callI (hd : decode cc pc = .ok (.invokespecial index, 3)) (hM : sm_MC y cc' nL' none n) (hi : Cond.instanceMethod y ∈ wsL_law ∧ y.name = "<init>") (hln : Cond.methodLink own index y ∈ wsL_law) (hn : As.length = n) (hst : st0 = As.reverse ++ .ref b :: rest) (hW : (rest.map fun v => v.category).sum ≤ 8) (hroom : (d' + 1 ≤ rm.frames ∧ 40 * d' + 40 ≤ rm.locals) ∧ cs + mc' ≤ rm.cells ∧ sl + ms' ≤ rm.slots) (hC : sm_Ct l y cc' nL' none d' mc' ms' (.ref b :: As) σ P')
    (kk : ∀ v σ', P' v σ' → T l G own cc nL rm E Qs (cs + mc') (sl + ms') (pc + 3) lv (v.toList ++ rest) σ') : T l G own cc nL rm E Qs cs sl pc lv st0 σ := by
  intro p e s m args below meth c H locs ls C0 he hR hS hl
  obtain ⟨hx, hb, hml, hown, hts, hK⟩ := id C0
  have hb1 := sm_callB (mc' := mc') (ms' := ms') (s := s) (args := args) hM hln hroom.1 hts
  exact sm_run (va_runI (As := As) (rest := rest) ⟨hx, hb, hml, hown, hts⟩ (hC G) ⟨hb1, hi.2, hts _ hi.1⟩ ⟨sm_blind, fun U hU hW => ⟨rfl, by rw [hU]; exact hR, hK.warm hW⟩⟩ rfl hn hl.1 hst (lv_room (pc := pc) (ls := ls) (rest := st0) hW) hd hroom.2) C0 he hS hl kk
set_option maxHeartbeats 1000000 in
theorem T_callIN (hd : decode cc pc = .ok (.invokespecial index, 3)) (hM : sm_MC y cc' nL' none n) (hi : Cond.instanceMethod y ∈ wsL_law ∧ y.name = "<init>") (hln : Cond.methodLinkNest own index y host ∈ sm_nest) (hn : As.length = n) (hst : st0 = As.reverse ++ .ref b :: rest) (hW : (rest.map fun v => v.category).sum ≤ 8) (hroom : (d' + 1 ≤ rm.frames ∧ 40 * d' + 40 ≤ rm.locals) ∧ cs + mc' ≤ rm.cells ∧ sl + ms' ≤ rm.slots) (hC : sm_Ct l y cc' nL' none d' mc' ms' (.ref b :: As) σ P')
    (kk : ∀ v σ', P' v σ' → T l G own cc nL rm E Qs (cs + mc') (sl + ms') (pc + 3) lv (v.toList ++ rest) σ') : T l G own cc nL rm E Qs cs sl pc lv st0 σ := by
  intro p e s m args below meth c H locs ls C0 he hR hS hl
  obtain ⟨hx, hb, hml, hown, hts, hK⟩ := id C0
  have hb1 := sm_callN (mc' := mc') (ms' := ms') (s := s) (args := args) hM hln hK hroom.1 hts
  exact sm_run (va_runIN (As := As) (rest := rest) ⟨hx, hb, hml, hown, hts⟩ (hC G) ⟨hb1, hi.2, hts _ hi.1⟩ ⟨sm_blind, fun U hU hW => ⟨rfl, by rw [hU]; exact hR, hK.warm hW⟩⟩ rfl hn hl.1 hst (lv_room (pc := pc) (ls := ls) (rest := st0) hW) hd hroom.2) C0 he hS hl kk
set_option maxHeartbeats 1000000 in
theorem T_callVI {α : Type} {inj : α → Option Value × Hp} {P : Option Value → Hp → Prop} {d : Option (Int32 × Hp)} {f : Int32 → Hp → Option α} (hd : decode cc pc = .ok (.invokevirtual index, 3)) (hM : sm_MC y cc' nL' rt' n) (hi : Cond.instanceMethod y ∈ wsL_law ∧ Cond.selects y.cls y y ∈ wsL_law) (hln : Cond.methodLink own index y ∈ wsL_law) (hcl : (vwCl[ci]?).map (fun q => q.1) = some y.cls) (hbo : ∀ r, d = some r → isO σ b ci = some ()) (hn : As.length = n) (hst : st0 = As.reverse ++ .ref b :: rest) (hW : (rest.map fun v => v.category).sum ≤ 8) (hroom : (d' + 1 ≤ rm.frames ∧ 40 * d' + 40 ≤ rm.locals) ∧ cs + mc' ≤ rm.cells ∧ sl + ms' ≤ rm.slots) (hC : ∀ P', OK jI d P' → sm_Ct l y cc' nL' rt' d' mc' ms' (.ref b :: As) σ P') (h : OK inj (bd d f) P)
    (kk : ∀ (r : Int32) (σ2 : Hp), OK inj (f r σ2) P → T l G own cc nL rm E Qs (cs + mc') (sl + ms') (pc + 3) lv (.int r :: rest) σ2) : T l G own cc nL rm E Qs cs sl pc lv st0 σ := by
  obtain ⟨r, hr, h⟩ := OK.bind h
  refine T_callV hd hM hi hln hcl (hbo r hr) hn hst hW hroom (hC (fun v t => v = (some (.int r.1)) ∧ t = r.2) ⟨r, hr, rfl, rfl⟩) ?_
  rintro _ t9 ⟨rfl, e9⟩
  rw [e9]
  exact kk r.1 r.2 h
set_option maxHeartbeats 1000000 in
theorem T_callVR {α : Type} {inj : α → Option Value × Hp} {P : Option Value → Hp → Prop} {d : Option (Option Nat × Hp)} {f : Option Nat → Hp → Option α} (hd : decode cc pc = .ok (.invokevirtual index, 3)) (hM : sm_MC y cc' nL' rt' n) (hi : Cond.instanceMethod y ∈ wsL_law ∧ Cond.selects y.cls y y ∈ wsL_law) (hln : Cond.methodLink own index y ∈ wsL_law) (hcl : (vwCl[ci]?).map (fun q => q.1) = some y.cls) (hbo : ∀ r, d = some r → isO σ b ci = some ()) (hn : As.length = n) (hst : st0 = As.reverse ++ .ref b :: rest) (hW : (rest.map fun v => v.category).sum ≤ 8) (hroom : (d' + 1 ≤ rm.frames ∧ 40 * d' + 40 ≤ rm.locals) ∧ cs + mc' ≤ rm.cells ∧ sl + ms' ≤ rm.slots) (hC : ∀ P', OK jR d P' → sm_Ct l y cc' nL' rt' d' mc' ms' (.ref b :: As) σ P') (h : OK inj (bd d f) P)
    (kk : ∀ (r : Option Nat) (σ2 : Hp), OK inj (f r σ2) P → T l G own cc nL rm E Qs (cs + mc') (sl + ms') (pc + 3) lv (va_rf r :: rest) σ2) : T l G own cc nL rm E Qs cs sl pc lv st0 σ := by
  obtain ⟨r, hr, h⟩ := OK.bind h
  refine T_callV hd hM hi hln hcl (hbo r hr) hn hst hW hroom (hC (fun v t => v = (some (va_rf r.1)) ∧ t = r.2) ⟨r, hr, rfl, rfl⟩) ?_
  rintro _ t9 ⟨rfl, e9⟩
  rw [e9]
  exact kk r.1 r.2 h
set_option maxHeartbeats 1000000 in
theorem T_callVV {α : Type} {inj : α → Option Value × Hp} {P : Option Value → Hp → Prop} {d : Option (Hp)} {f : Hp → Option α} (hd : decode cc pc = .ok (.invokevirtual index, 3)) (hM : sm_MC y cc' nL' rt' n) (hi : Cond.instanceMethod y ∈ wsL_law ∧ Cond.selects y.cls y y ∈ wsL_law) (hln : Cond.methodLink own index y ∈ wsL_law) (hcl : (vwCl[ci]?).map (fun q => q.1) = some y.cls) (hbo : ∀ r, d = some r → isO σ b ci = some ()) (hn : As.length = n) (hst : st0 = As.reverse ++ .ref b :: rest) (hW : (rest.map fun v => v.category).sum ≤ 8) (hroom : (d' + 1 ≤ rm.frames ∧ 40 * d' + 40 ≤ rm.locals) ∧ cs + mc' ≤ rm.cells ∧ sl + ms' ≤ rm.slots) (hC : ∀ P', OK jV d P' → sm_Ct l y cc' nL' rt' d' mc' ms' (.ref b :: As) σ P') (h : OK inj (d.bind f) P)
    (kk : ∀ (σ2 : Hp), OK inj (f σ2) P → T l G own cc nL rm E Qs (cs + mc') (sl + ms') (pc + 3) lv rest σ2) : T l G own cc nL rm E Qs cs sl pc lv st0 σ := by
  obtain ⟨r, hr, h⟩ := OK.bind h
  refine T_callV hd hM hi hln hcl (hbo r hr) hn hst hW hroom (hC (fun v t => v = none ∧ t = r) ⟨r, hr, rfl, rfl⟩) ?_
  rintro _ t9 ⟨rfl, e9⟩
  rw [e9]
  exact kk r h
set_option maxHeartbeats 1000000 in
theorem T_callSI {α : Type} {inj : α → Option Value × Hp} {P : Option Value → Hp → Prop} {d : Option (Int32 × Hp)} {f : Int32 → Hp → Option α} (hd : decode cc pc = .ok (.invokestatic index, 3)) (hM : sm_MC y cc' nL' rt' n) (hi : Cond.static y ∈ wsL_law) (hln : Cond.methodLink own index y ∈ wsL_law) (hn : As.length = n) (hst : st0 = As.reverse ++ rest) (hW : (rest.map fun v => v.category).sum ≤ 8) (hroom : (d' + 1 ≤ rm.frames ∧ 40 * d' + 40 ≤ rm.locals) ∧ cs + mc' ≤ rm.cells ∧ sl + ms' ≤ rm.slots) (hC : ∀ P', OK jI d P' → sm_Ct l y cc' nL' rt' d' mc' ms' (As) σ P') (h : OK inj (bd d f) P)
    (kk : ∀ (r : Int32) (σ2 : Hp), OK inj (f r σ2) P → T l G own cc nL rm E Qs (cs + mc') (sl + ms') (pc + 3) lv (.int r :: rest) σ2) : T l G own cc nL rm E Qs cs sl pc lv st0 σ := by
  obtain ⟨r, hr, h⟩ := OK.bind h
  refine T_callS hd hM hi hln hn hst hW hroom (hC (fun v t => v = (some (.int r.1)) ∧ t = r.2) ⟨r, hr, rfl, rfl⟩) ?_
  rintro _ t9 ⟨rfl, e9⟩
  rw [e9]
  exact kk r.1 r.2 h
set_option maxHeartbeats 1000000 in
theorem T_callSR {α : Type} {inj : α → Option Value × Hp} {P : Option Value → Hp → Prop} {d : Option (Option Nat × Hp)} {f : Option Nat → Hp → Option α} (hd : decode cc pc = .ok (.invokestatic index, 3)) (hM : sm_MC y cc' nL' rt' n) (hi : Cond.static y ∈ wsL_law) (hln : Cond.methodLink own index y ∈ wsL_law) (hn : As.length = n) (hst : st0 = As.reverse ++ rest) (hW : (rest.map fun v => v.category).sum ≤ 8) (hroom : (d' + 1 ≤ rm.frames ∧ 40 * d' + 40 ≤ rm.locals) ∧ cs + mc' ≤ rm.cells ∧ sl + ms' ≤ rm.slots) (hC : ∀ P', OK jR d P' → sm_Ct l y cc' nL' rt' d' mc' ms' (As) σ P') (h : OK inj (bd d f) P)
    (kk : ∀ (r : Option Nat) (σ2 : Hp), OK inj (f r σ2) P → T l G own cc nL rm E Qs (cs + mc') (sl + ms') (pc + 3) lv (va_rf r :: rest) σ2) : T l G own cc nL rm E Qs cs sl pc lv st0 σ := by
  obtain ⟨r, hr, h⟩ := OK.bind h
  refine T_callS hd hM hi hln hn hst hW hroom (hC (fun v t => v = (some (va_rf r.1)) ∧ t = r.2) ⟨r, hr, rfl, rfl⟩) ?_
  rintro _ t9 ⟨rfl, e9⟩
  rw [e9]
  exact kk r.1 r.2 h
set_option maxHeartbeats 1000000 in
theorem T_callSV {α : Type} {inj : α → Option Value × Hp} {P : Option Value → Hp → Prop} {d : Option (Hp)} {f : Hp → Option α} (hd : decode cc pc = .ok (.invokestatic index, 3)) (hM : sm_MC y cc' nL' rt' n) (hi : Cond.static y ∈ wsL_law) (hln : Cond.methodLink own index y ∈ wsL_law) (hn : As.length = n) (hst : st0 = As.reverse ++ rest) (hW : (rest.map fun v => v.category).sum ≤ 8) (hroom : (d' + 1 ≤ rm.frames ∧ 40 * d' + 40 ≤ rm.locals) ∧ cs + mc' ≤ rm.cells ∧ sl + ms' ≤ rm.slots) (hC : ∀ P', OK jV d P' → sm_Ct l y cc' nL' rt' d' mc' ms' (As) σ P') (h : OK inj (d.bind f) P)
    (kk : ∀ (σ2 : Hp), OK inj (f σ2) P → T l G own cc nL rm E Qs (cs + mc') (sl + ms') (pc + 3) lv rest σ2) : T l G own cc nL rm E Qs cs sl pc lv st0 σ := by
  obtain ⟨r, hr, h⟩ := OK.bind h
  refine T_callS hd hM hi hln hn hst hW hroom (hC (fun v t => v = none ∧ t = r) ⟨r, hr, rfl, rfl⟩) ?_
  rintro _ t9 ⟨rfl, e9⟩
  rw [e9]
  exact kk r h
set_option maxHeartbeats 1000000 in
theorem T_callSNI {α : Type} {inj : α → Option Value × Hp} {P : Option Value → Hp → Prop} {d : Option (Int32 × Hp)} {f : Int32 → Hp → Option α} (hd : decode cc pc = .ok (.invokestatic index, 3)) (hM : sm_MC y cc' nL' rt' n) (hi : Cond.static y ∈ wsL_law) (hln : Cond.methodLinkNest own index y host ∈ sm_nest) (hn : As.length = n) (hst : st0 = As.reverse ++ rest) (hW : (rest.map fun v => v.category).sum ≤ 8) (hroom : (d' + 1 ≤ rm.frames ∧ 40 * d' + 40 ≤ rm.locals) ∧ cs + mc' ≤ rm.cells ∧ sl + ms' ≤ rm.slots) (hC : ∀ P', OK jI d P' → sm_Ct l y cc' nL' rt' d' mc' ms' (As) σ P') (h : OK inj (bd d f) P)
    (kk : ∀ (r : Int32) (σ2 : Hp), OK inj (f r σ2) P → T l G own cc nL rm E Qs (cs + mc') (sl + ms') (pc + 3) lv (.int r :: rest) σ2) : T l G own cc nL rm E Qs cs sl pc lv st0 σ := by
  obtain ⟨r, hr, h⟩ := OK.bind h
  refine T_callSN hd hM hi hln hn hst hW hroom (hC (fun v t => v = (some (.int r.1)) ∧ t = r.2) ⟨r, hr, rfl, rfl⟩) ?_
  rintro _ t9 ⟨rfl, e9⟩
  rw [e9]
  exact kk r.1 r.2 h
set_option maxHeartbeats 1000000 in
theorem T_callSNR {α : Type} {inj : α → Option Value × Hp} {P : Option Value → Hp → Prop} {d : Option (Option Nat × Hp)} {f : Option Nat → Hp → Option α} (hd : decode cc pc = .ok (.invokestatic index, 3)) (hM : sm_MC y cc' nL' rt' n) (hi : Cond.static y ∈ wsL_law) (hln : Cond.methodLinkNest own index y host ∈ sm_nest) (hn : As.length = n) (hst : st0 = As.reverse ++ rest) (hW : (rest.map fun v => v.category).sum ≤ 8) (hroom : (d' + 1 ≤ rm.frames ∧ 40 * d' + 40 ≤ rm.locals) ∧ cs + mc' ≤ rm.cells ∧ sl + ms' ≤ rm.slots) (hC : ∀ P', OK jR d P' → sm_Ct l y cc' nL' rt' d' mc' ms' (As) σ P') (h : OK inj (bd d f) P)
    (kk : ∀ (r : Option Nat) (σ2 : Hp), OK inj (f r σ2) P → T l G own cc nL rm E Qs (cs + mc') (sl + ms') (pc + 3) lv (va_rf r :: rest) σ2) : T l G own cc nL rm E Qs cs sl pc lv st0 σ := by
  obtain ⟨r, hr, h⟩ := OK.bind h
  refine T_callSN hd hM hi hln hn hst hW hroom (hC (fun v t => v = (some (va_rf r.1)) ∧ t = r.2) ⟨r, hr, rfl, rfl⟩) ?_
  rintro _ t9 ⟨rfl, e9⟩
  rw [e9]
  exact kk r.1 r.2 h
set_option maxHeartbeats 1000000 in
theorem T_callSNV {α : Type} {inj : α → Option Value × Hp} {P : Option Value → Hp → Prop} {d : Option (Hp)} {f : Hp → Option α} (hd : decode cc pc = .ok (.invokestatic index, 3)) (hM : sm_MC y cc' nL' rt' n) (hi : Cond.static y ∈ wsL_law) (hln : Cond.methodLinkNest own index y host ∈ sm_nest) (hn : As.length = n) (hst : st0 = As.reverse ++ rest) (hW : (rest.map fun v => v.category).sum ≤ 8) (hroom : (d' + 1 ≤ rm.frames ∧ 40 * d' + 40 ≤ rm.locals) ∧ cs + mc' ≤ rm.cells ∧ sl + ms' ≤ rm.slots) (hC : ∀ P', OK jV d P' → sm_Ct l y cc' nL' rt' d' mc' ms' (As) σ P') (h : OK inj (d.bind f) P)
    (kk : ∀ (σ2 : Hp), OK inj (f σ2) P → T l G own cc nL rm E Qs (cs + mc') (sl + ms') (pc + 3) lv rest σ2) : T l G own cc nL rm E Qs cs sl pc lv st0 σ := by
  obtain ⟨r, hr, h⟩ := OK.bind h
  refine T_callSN hd hM hi hln hn hst hW hroom (hC (fun v t => v = none ∧ t = r) ⟨r, hr, rfl, rfl⟩) ?_
  rintro _ t9 ⟨rfl, e9⟩
  rw [e9]
  exact kk r h
set_option maxHeartbeats 1000000 in
theorem T_callIV {α : Type} {inj : α → Option Value × Hp} {P : Option Value → Hp → Prop} {d : Option (Hp)} {f : Hp → Option α} (hd : decode cc pc = .ok (.invokespecial index, 3)) (hM : sm_MC y cc' nL' none n) (hi : Cond.instanceMethod y ∈ wsL_law ∧ y.name = "<init>") (hln : Cond.methodLink own index y ∈ wsL_law) (hn : As.length = n) (hst : st0 = As.reverse ++ .ref b :: rest) (hW : (rest.map fun v => v.category).sum ≤ 8) (hroom : (d' + 1 ≤ rm.frames ∧ 40 * d' + 40 ≤ rm.locals) ∧ cs + mc' ≤ rm.cells ∧ sl + ms' ≤ rm.slots) (hC : ∀ P', OK jV d P' → sm_Ct l y cc' nL' none d' mc' ms' (.ref b :: As) σ P') (h : OK inj (d.bind f) P)
    (kk : ∀ (σ2 : Hp), OK inj (f σ2) P → T l G own cc nL rm E Qs (cs + mc') (sl + ms') (pc + 3) lv rest σ2) : T l G own cc nL rm E Qs cs sl pc lv st0 σ := by
  obtain ⟨r, hr, h⟩ := OK.bind h
  refine T_callI hd hM hi hln hn hst hW hroom (hC (fun v t => v = none ∧ t = r) ⟨r, hr, rfl, rfl⟩) ?_
  rintro _ t9 ⟨rfl, e9⟩
  rw [e9]
  exact kk r h
set_option maxHeartbeats 1000000 in
theorem T_callINV {α : Type} {inj : α → Option Value × Hp} {P : Option Value → Hp → Prop} {d : Option (Hp)} {f : Hp → Option α} (hd : decode cc pc = .ok (.invokespecial index, 3)) (hM : sm_MC y cc' nL' none n) (hi : Cond.instanceMethod y ∈ wsL_law ∧ y.name = "<init>") (hln : Cond.methodLinkNest own index y host ∈ sm_nest) (hn : As.length = n) (hst : st0 = As.reverse ++ .ref b :: rest) (hW : (rest.map fun v => v.category).sum ≤ 8) (hroom : (d' + 1 ≤ rm.frames ∧ 40 * d' + 40 ≤ rm.locals) ∧ cs + mc' ≤ rm.cells ∧ sl + ms' ≤ rm.slots) (hC : ∀ P', OK jV d P' → sm_Ct l y cc' nL' none d' mc' ms' (.ref b :: As) σ P') (h : OK inj (d.bind f) P)
    (kk : ∀ (σ2 : Hp), OK inj (f σ2) P → T l G own cc nL rm E Qs (cs + mc') (sl + ms') (pc + 3) lv rest σ2) : T l G own cc nL rm E Qs cs sl pc lv st0 σ := by
  obtain ⟨r, hr, h⟩ := OK.bind h
  refine T_callIN hd hM hi hln hn hst hW hroom (hC (fun v t => v = none ∧ t = r) ⟨r, hr, rfl, rfl⟩) ?_
  rintro _ t9 ⟨rfl, e9⟩
  rw [e9]
  exact kk r h
end CALLS
/-! ends -/
section ENDS
variable {P : Option Value → Hp → Prop} {mc ms : Nat} {nme : String}
set_option maxHeartbeats 1000000 in
theorem T_ireturn {v : Int32} (hd : decode cc pc = .ok (.ireturn, 1)) (hc : cs ≤ mc) (hs : sl ≤ ms) (h : OK jI (some (v, σ)) P) : T l G own cc nL rm (sm_E (some .int) nme) (sm_Qs G P mc ms) cs sl pc lv [.int v] σ := by
  intro p e s m args below meth c H locs ls C0 he hR hS hl
  obtain ⟨hx, hb, -⟩ := id C0
  obtain ⟨r, hr, hp⟩ := h
  cases hr
  exact W.widen hc hs (W.iret (Qc := sm_Qm G P) hx hb he.1 (fun t ht hW => ⟨⟨_, σ, rfl, hp, by rw [ht]; exact hR⟩, fun q hq => by rw [ht]; exact hS.1 q hq⟩) hS.2 hd he.2.1)
set_option maxHeartbeats 1000000 in
theorem T_zreturn {v : Int32} (hd : decode cc pc = .ok (.ireturn, 1)) (hc : cs ≤ mc) (hs : sl ≤ ms) (h : OK jI (retZ v (v, σ)) P) : T l G own cc nL rm (sm_E (some .boolean) nme) (sm_Qs G P mc ms) cs sl pc lv [.int v] σ := by
  intro p e s m args below meth c H locs ls C0 he hR hS hl
  obtain ⟨hx, hb, -⟩ := id C0
  obtain ⟨r, hr, hp⟩ := h
  unfold retZ at hr
  split at hr
  · rename_i hz
    cases hr
    have hn : narrow .boolean (.int v) = .int v := by rcases hz with rfl | rfl <;> decide
    exact W.widen hc hs (W.zret (Qc := sm_Qm G P) hx hb he.1 hn (fun t ht hW => ⟨⟨_, σ, rfl, hp, by rw [ht]; exact hR⟩, fun q hq => by rw [ht]; exact hS.1 q hq⟩) hS.2 hd he.2.1)
  · cases hr
set_option maxHeartbeats 1000000 in
theorem T_vreturn (hd : decode cc pc = .ok (.return_, 1)) (hc : cs ≤ mc) (hs : sl ≤ ms) (h : OK jV (some σ) P) : T l G own cc nL rm (sm_E none nme) (sm_Qs G P mc ms) cs sl pc lv [] σ := by
  intro p e s m args below meth c H locs ls C0 he hR hS hl
  obtain ⟨hx, hb, -⟩ := id C0
  obtain ⟨r, hr, hp⟩ := h
  cases hr
  exact W.widen hc hs (W.vret (Qc := sm_Qm G P) hx hb he.1 (fun t ht hW => ⟨⟨_, σ, rfl, hp, by rw [ht]; exact hR⟩, fun q hq => by rw [ht]; exact hS.1 q hq⟩) hS.2 hd he.2.1)
set_option maxHeartbeats 1000000 in
theorem T_areturn {v : Option Nat} {C : String} (hd : decode cc pc = .ok (.areturn, 1)) (hc : cs ≤ mc) (hs : sl ≤ ms) (h : OK jR (some (v, σ)) P) : T l G own cc nL rm (sm_E (some (.object C)) nme) (sm_Qs G P mc ms) cs sl pc lv [va_rf v] σ := by
  intro p e s m args below meth c H locs ls C0 he hR hS hl
  obtain ⟨hx, hb, -⟩ := id C0
  obtain ⟨r, hr, hp⟩ := h
  cases hr
  exact W.widen hc hs (W.aret (Qc := sm_Qm G P) hx hb he.1 (Or.inl ⟨C, rfl⟩) (by cases v with | none => exact Or.inl rfl | some a => exact Or.inr ⟨a, rfl⟩) (fun t ht hW => ⟨⟨_, σ, rfl, hp, by rw [ht]; exact hR⟩, fun q hq => by rw [ht]; exact hS.1 q hq⟩) hS.2 hd he.2.1)
end ENDS
end ROWS
end
