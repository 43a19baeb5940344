section
-- ===== PART A: goes FIRST, ahead of the names: the tables' words, and 'selects' of the private methods out of them =====
/-- a private method of a class that the tables say can be made, by its rows of tables_1 -/
def lw_okq (q : MethodName × Nat) : Prop := (q.1.cls ≠ "java/lang/invoke/MethodHandle" ∧ q.1.cls ≠ "java/lang/invoke/VarHandle") ∧ Cond.instantiable q.1.cls q.2 ∈ tables_1 ∧ Cond.privateMethod q.1 ∈ tables_1 ∧ Cond.instanceMethod q.1 ∈ tables_1
theorem lw_p0 : lw_okq (⟨"HandedLens", "scenesOfAll", "()I"⟩, 12) := ⟨⟨by decide +kernel, by decide +kernel⟩, List.mem_of_getElem? (i := 16) (by decide +kernel), List.mem_of_getElem? (i := 385) (by decide +kernel), List.mem_of_getElem? (i := 386) (by decide +kernel)⟩
theorem lw_p1 : lw_okq (⟨"HandedLens", "scenesTakenFor", "(I)I"⟩, 12) := ⟨⟨by decide +kernel, by decide +kernel⟩, List.mem_of_getElem? (i := 16) (by decide +kernel), List.mem_of_getElem? (i := 431) (by decide +kernel), List.mem_of_getElem? (i := 432) (by decide +kernel)⟩
theorem lw_p2 : lw_okq (⟨"HandedLens", "takenNow", "(I)I"⟩, 12) := ⟨⟨by decide +kernel, by decide +kernel⟩, List.mem_of_getElem? (i := 16) (by decide +kernel), List.mem_of_getElem? (i := 435) (by decide +kernel), List.mem_of_getElem? (i := 436) (by decide +kernel)⟩
theorem lw_p3 : lw_okq (⟨"HandedLens", "kinOf", "(I)I"⟩, 12) := ⟨⟨by decide +kernel, by decide +kernel⟩, List.mem_of_getElem? (i := 16) (by decide +kernel), List.mem_of_getElem? (i := 462) (by decide +kernel), List.mem_of_getElem? (i := 463) (by decide +kernel)⟩
theorem lw_p4 : lw_okq (⟨"HandedLens", "refusalOfYears", "(I)I"⟩, 12) := ⟨⟨by decide +kernel, by decide +kernel⟩, List.mem_of_getElem? (i := 16) (by decide +kernel), List.mem_of_getElem? (i := 494) (by decide +kernel), List.mem_of_getElem? (i := 495) (by decide +kernel)⟩
theorem lw_p5 : lw_okq (⟨"HandedLens", "doByDraw", "()V"⟩, 12) := ⟨⟨by decide +kernel, by decide +kernel⟩, List.mem_of_getElem? (i := 16) (by decide +kernel), List.mem_of_getElem? (i := 589) (by decide +kernel), List.mem_of_getElem? (i := 590) (by decide +kernel)⟩
theorem lw_p6 : lw_okq (⟨"HandedLens", "drawOf", "(I)I"⟩, 12) := ⟨⟨by decide +kernel, by decide +kernel⟩, List.mem_of_getElem? (i := 16) (by decide +kernel), List.mem_of_getElem? (i := 593) (by decide +kernel), List.mem_of_getElem? (i := 594) (by decide +kernel)⟩
theorem lw_p7 : lw_okq (⟨"HandedLens", "tryYears", "(I)V"⟩, 12) := ⟨⟨by decide +kernel, by decide +kernel⟩, List.mem_of_getElem? (i := 16) (by decide +kernel), List.mem_of_getElem? (i := 617) (by decide +kernel), List.mem_of_getElem? (i := 618) (by decide +kernel)⟩
theorem lw_p8 : lw_okq (⟨"HandedLens", "areSeenWithout", "(II)Z"⟩, 12) := ⟨⟨by decide +kernel, by decide +kernel⟩, List.mem_of_getElem? (i := 16) (by decide +kernel), List.mem_of_getElem? (i := 641) (by decide +kernel), List.mem_of_getElem? (i := 642) (by decide +kernel)⟩
theorem lw_p9 : lw_okq (⟨"HandedLens", "darkBehindTurns", "()I"⟩, 12) := ⟨⟨by decide +kernel, by decide +kernel⟩, List.mem_of_getElem? (i := 16) (by decide +kernel), List.mem_of_getElem? (i := 661) (by decide +kernel), List.mem_of_getElem? (i := 662) (by decide +kernel)⟩
theorem lw_p10 : lw_okq (⟨"HandedLensModel", "step", "()V"⟩, 23) := ⟨⟨by decide +kernel, by decide +kernel⟩, List.mem_of_getElem? (i := 742) (by decide +kernel), List.mem_of_getElem? (i := 832) (by decide +kernel), List.mem_of_getElem? (i := 833) (by decide +kernel)⟩
theorem lw_p11 : lw_okq (⟨"HandedLensModel", "here", "()I"⟩, 23) := ⟨⟨by decide +kernel, by decide +kernel⟩, List.mem_of_getElem? (i := 742) (by decide +kernel), List.mem_of_getElem? (i := 836) (by decide +kernel), List.mem_of_getElem? (i := 837) (by decide +kernel)⟩
theorem lw_p12 : lw_okq (⟨"HandedLensModel", "readsClause", "()Z"⟩, 23) := ⟨⟨by decide +kernel, by decide +kernel⟩, List.mem_of_getElem? (i := 742) (by decide +kernel), List.mem_of_getElem? (i := 842) (by decide +kernel), List.mem_of_getElem? (i := 843) (by decide +kernel)⟩
theorem lw_p13 : lw_okq (⟨"HandedLensModel", "fails", "(I)Z"⟩, 23) := ⟨⟨by decide +kernel, by decide +kernel⟩, List.mem_of_getElem? (i := 742) (by decide +kernel), List.mem_of_getElem? (i := 846) (by decide +kernel), List.mem_of_getElem? (i := 847) (by decide +kernel)⟩
theorem lw_p14 : lw_okq (⟨"HandedLensModel", "number", "(III)Z"⟩, 23) := ⟨⟨by decide +kernel, by decide +kernel⟩, List.mem_of_getElem? (i := 742) (by decide +kernel), List.mem_of_getElem? (i := 850) (by decide +kernel), List.mem_of_getElem? (i := 851) (by decide +kernel)⟩
theorem lw_p15 : lw_okq (⟨"HandedLensModel", "ends", "()Z"⟩, 23) := ⟨⟨by decide +kernel, by decide +kernel⟩, List.mem_of_getElem? (i := 742) (by decide +kernel), List.mem_of_getElem? (i := 854) (by decide +kernel), List.mem_of_getElem? (i := 855) (by decide +kernel)⟩
def lw_privs_1 : List (MethodName × Nat) := [(⟨"HandedLens", "scenesOfAll", "()I"⟩, 12), (⟨"HandedLens", "scenesTakenFor", "(I)I"⟩, 12), (⟨"HandedLens", "takenNow", "(I)I"⟩, 12), (⟨"HandedLens", "kinOf", "(I)I"⟩, 12), (⟨"HandedLens", "refusalOfYears", "(I)I"⟩, 12), (⟨"HandedLens", "doByDraw", "()V"⟩, 12), (⟨"HandedLens", "drawOf", "(I)I"⟩, 12), (⟨"HandedLens", "tryYears", "(I)V"⟩, 12), (⟨"HandedLens", "areSeenWithout", "(II)Z"⟩, 12), (⟨"HandedLens", "darkBehindTurns", "()I"⟩, 12), (⟨"HandedLensModel", "step", "()V"⟩, 23), (⟨"HandedLensModel", "here", "()I"⟩, 23), (⟨"HandedLensModel", "readsClause", "()Z"⟩, 23), (⟨"HandedLensModel", "fails", "(I)Z"⟩, 23), (⟨"HandedLensModel", "number", "(III)Z"⟩, 23), (⟨"HandedLensModel", "ends", "()Z"⟩, 23)]
theorem lw_r1 : ∀ q ∈ lw_privs_1, lw_okq q := List.forall_mem_cons.mpr ⟨lw_p0, List.forall_mem_cons.mpr ⟨lw_p1, List.forall_mem_cons.mpr ⟨lw_p2, List.forall_mem_cons.mpr ⟨lw_p3, List.forall_mem_cons.mpr ⟨lw_p4, List.forall_mem_cons.mpr ⟨lw_p5, List.forall_mem_cons.mpr ⟨lw_p6, List.forall_mem_cons.mpr ⟨lw_p7, List.forall_mem_cons.mpr ⟨lw_p8, List.forall_mem_cons.mpr ⟨lw_p9, List.forall_mem_cons.mpr ⟨lw_p10, List.forall_mem_cons.mpr ⟨lw_p11, List.forall_mem_cons.mpr ⟨lw_p12, List.forall_mem_cons.mpr ⟨lw_p13, List.forall_mem_cons.mpr ⟨lw_p14, List.forall_mem_cons.mpr ⟨lw_p15, fun _ h => absurd h List.not_mem_nil⟩⟩⟩⟩⟩⟩⟩⟩⟩⟩⟩⟩⟩⟩⟩⟩
theorem lw_p16 : lw_okq (⟨"HandedLensModel", "readsScene", "()Z"⟩, 23) := ⟨⟨by decide +kernel, by decide +kernel⟩, List.mem_of_getElem? (i := 742) (by decide +kernel), List.mem_of_getElem? (i := 858) (by decide +kernel), List.mem_of_getElem? (i := 859) (by decide +kernel)⟩
theorem lw_p17 : lw_okq (⟨"HandedLensModel", "readsWearer", "()Z"⟩, 23) := ⟨⟨by decide +kernel, by decide +kernel⟩, List.mem_of_getElem? (i := 742) (by decide +kernel), List.mem_of_getElem? (i := 862) (by decide +kernel), List.mem_of_getElem? (i := 863) (by decide +kernel)⟩
theorem lw_p18 : lw_okq (⟨"HandedLensModel", "begins", "()V"⟩, 23) := ⟨⟨by decide +kernel, by decide +kernel⟩, List.mem_of_getElem? (i := 742) (by decide +kernel), List.mem_of_getElem? (i := 869) (by decide +kernel), List.mem_of_getElem? (i := 870) (by decide +kernel)⟩
theorem lw_p19 : lw_okq (⟨"HandedLensModel", "darkOn", "([I)I"⟩, 23) := ⟨⟨by decide +kernel, by decide +kernel⟩, List.mem_of_getElem? (i := 742) (by decide +kernel), List.mem_of_getElem? (i := 881) (by decide +kernel), List.mem_of_getElem? (i := 882) (by decide +kernel)⟩
theorem lw_p20 : lw_okq (⟨"HandedLensModel", "strengthOn", "([II)I"⟩, 23) := ⟨⟨by decide +kernel, by decide +kernel⟩, List.mem_of_getElem? (i := 742) (by decide +kernel), List.mem_of_getElem? (i := 885) (by decide +kernel), List.mem_of_getElem? (i := 886) (by decide +kernel)⟩
theorem lw_p21 : lw_okq (⟨"HandedLensModel", "seenByAll", "()I"⟩, 23) := ⟨⟨by decide +kernel, by decide +kernel⟩, List.mem_of_getElem? (i := 742) (by decide +kernel), List.mem_of_getElem? (i := 889) (by decide +kernel), List.mem_of_getElem? (i := 890) (by decide +kernel)⟩
theorem lw_p22 : lw_okq (⟨"HandedLensModel", "sawBy", "(I)I"⟩, 23) := ⟨⟨by decide +kernel, by decide +kernel⟩, List.mem_of_getElem? (i := 742) (by decide +kernel), List.mem_of_getElem? (i := 893) (by decide +kernel), List.mem_of_getElem? (i := 894) (by decide +kernel)⟩
theorem lw_p23 : lw_okq (⟨"HandedLensModel", "eyes", "()I"⟩, 23) := ⟨⟨by decide +kernel, by decide +kernel⟩, List.mem_of_getElem? (i := 742) (by decide +kernel), List.mem_of_getElem? (i := 897) (by decide +kernel), List.mem_of_getElem? (i := 898) (by decide +kernel)⟩
theorem lw_p24 : lw_okq (⟨"HandedLensModel", "strongest", "()I"⟩, 23) := ⟨⟨by decide +kernel, by decide +kernel⟩, List.mem_of_getElem? (i := 742) (by decide +kernel), List.mem_of_getElem? (i := 901) (by decide +kernel), List.mem_of_getElem? (i := 902) (by decide +kernel)⟩
theorem lw_p25 : lw_okq (⟨"HandedLensModel", "thick", "()I"⟩, 23) := ⟨⟨by decide +kernel, by decide +kernel⟩, List.mem_of_getElem? (i := 742) (by decide +kernel), List.mem_of_getElem? (i := 905) (by decide +kernel), List.mem_of_getElem? (i := 906) (by decide +kernel)⟩
theorem lw_p26 : lw_okq (⟨"HandedLensModel", "isScene", "(I)Z"⟩, 23) := ⟨⟨by decide +kernel, by decide +kernel⟩, List.mem_of_getElem? (i := 742) (by decide +kernel), List.mem_of_getElem? (i := 916) (by decide +kernel), List.mem_of_getElem? (i := 917) (by decide +kernel)⟩
theorem lw_p27 : lw_okq (⟨"HandedLensModel", "half", "(II)I"⟩, 23) := ⟨⟨by decide +kernel, by decide +kernel⟩, List.mem_of_getElem? (i := 742) (by decide +kernel), List.mem_of_getElem? (i := 921) (by decide +kernel), List.mem_of_getElem? (i := 922) (by decide +kernel)⟩
theorem lw_p28 : lw_okq (⟨"HandedLensModel", "lookFor", "(I)I"⟩, 23) := ⟨⟨by decide +kernel, by decide +kernel⟩, List.mem_of_getElem? (i := 742) (by decide +kernel), List.mem_of_getElem? (i := 925) (by decide +kernel), List.mem_of_getElem? (i := 926) (by decide +kernel)⟩
theorem lw_p29 : lw_okq (⟨"HandedLensModel", "takesNow", "(I)I"⟩, 23) := ⟨⟨by decide +kernel, by decide +kernel⟩, List.mem_of_getElem? (i := 742) (by decide +kernel), List.mem_of_getElem? (i := 929) (by decide +kernel), List.mem_of_getElem? (i := 930) (by decide +kernel)⟩
theorem lw_p30 : lw_okq (⟨"HandedLensModel", "takesBy", "([IIII)I"⟩, 23) := ⟨⟨by decide +kernel, by decide +kernel⟩, List.mem_of_getElem? (i := 742) (by decide +kernel), List.mem_of_getElem? (i := 933) (by decide +kernel), List.mem_of_getElem? (i := 934) (by decide +kernel)⟩
theorem lw_p31 : lw_okq (⟨"HandedLensModel", "isWearer", "(I)Z"⟩, 23) := ⟨⟨by decide +kernel, by decide +kernel⟩, List.mem_of_getElem? (i := 742) (by decide +kernel), List.mem_of_getElem? (i := 944) (by decide +kernel), List.mem_of_getElem? (i := 945) (by decide +kernel)⟩
def lw_privs_2 : List (MethodName × Nat) := [(⟨"HandedLensModel", "readsScene", "()Z"⟩, 23), (⟨"HandedLensModel", "readsWearer", "()Z"⟩, 23), (⟨"HandedLensModel", "begins", "()V"⟩, 23), (⟨"HandedLensModel", "darkOn", "([I)I"⟩, 23), (⟨"HandedLensModel", "strengthOn", "([II)I"⟩, 23), (⟨"HandedLensModel", "seenByAll", "()I"⟩, 23), (⟨"HandedLensModel", "sawBy", "(I)I"⟩, 23), (⟨"HandedLensModel", "eyes", "()I"⟩, 23), (⟨"HandedLensModel", "strongest", "()I"⟩, 23), (⟨"HandedLensModel", "thick", "()I"⟩, 23), (⟨"HandedLensModel", "isScene", "(I)Z"⟩, 23), (⟨"HandedLensModel", "half", "(II)I"⟩, 23), (⟨"HandedLensModel", "lookFor", "(I)I"⟩, 23), (⟨"HandedLensModel", "takesNow", "(I)I"⟩, 23), (⟨"HandedLensModel", "takesBy", "([IIII)I"⟩, 23), (⟨"HandedLensModel", "isWearer", "(I)Z"⟩, 23)]
theorem lw_r2 : ∀ q ∈ lw_privs_2, lw_okq q := List.forall_mem_cons.mpr ⟨lw_p16, List.forall_mem_cons.mpr ⟨lw_p17, List.forall_mem_cons.mpr ⟨lw_p18, List.forall_mem_cons.mpr ⟨lw_p19, List.forall_mem_cons.mpr ⟨lw_p20, List.forall_mem_cons.mpr ⟨lw_p21, List.forall_mem_cons.mpr ⟨lw_p22, List.forall_mem_cons.mpr ⟨lw_p23, List.forall_mem_cons.mpr ⟨lw_p24, List.forall_mem_cons.mpr ⟨lw_p25, List.forall_mem_cons.mpr ⟨lw_p26, List.forall_mem_cons.mpr ⟨lw_p27, List.forall_mem_cons.mpr ⟨lw_p28, List.forall_mem_cons.mpr ⟨lw_p29, List.forall_mem_cons.mpr ⟨lw_p30, List.forall_mem_cons.mpr ⟨lw_p31, fun _ h => absurd h List.not_mem_nil⟩⟩⟩⟩⟩⟩⟩⟩⟩⟩⟩⟩⟩⟩⟩⟩
theorem lw_p32 : lw_okq (⟨"HandedLensModel", "kin", "(I)I"⟩, 23) := ⟨⟨by decide +kernel, by decide +kernel⟩, List.mem_of_getElem? (i := 742) (by decide +kernel), List.mem_of_getElem? (i := 948) (by decide +kernel), List.mem_of_getElem? (i := 949) (by decide +kernel)⟩
theorem lw_p33 : lw_okq (⟨"HandedLensModel", "nextScene", "([II)I"⟩, 23) := ⟨⟨by decide +kernel, by decide +kernel⟩, List.mem_of_getElem? (i := 742) (by decide +kernel), List.mem_of_getElem? (i := 955) (by decide +kernel), List.mem_of_getElem? (i := 956) (by decide +kernel)⟩
theorem lw_p34 : lw_okq (⟨"HandedLensModel", "isLayer", "(I)Z"⟩, 23) := ⟨⟨by decide +kernel, by decide +kernel⟩, List.mem_of_getElem? (i := 742) (by decide +kernel), List.mem_of_getElem? (i := 963) (by decide +kernel), List.mem_of_getElem? (i := 964) (by decide +kernel)⟩
theorem lw_p35 : lw_okq (⟨"HandedLensModel", "refuses", "(I)I"⟩, 23) := ⟨⟨by decide +kernel, by decide +kernel⟩, List.mem_of_getElem? (i := 742) (by decide +kernel), List.mem_of_getElem? (i := 977) (by decide +kernel), List.mem_of_getElem? (i := 978) (by decide +kernel)⟩
theorem lw_p36 : lw_okq (⟨"HandedLensModel", "remember", "()V"⟩, 23) := ⟨⟨by decide +kernel, by decide +kernel⟩, List.mem_of_getElem? (i := 742) (by decide +kernel), List.mem_of_getElem? (i := 984) (by decide +kernel), List.mem_of_getElem? (i := 985) (by decide +kernel)⟩
theorem lw_p37 : lw_okq (⟨"HandedLensModel", "yearGoes", "([I)V"⟩, 23) := ⟨⟨by decide +kernel, by decide +kernel⟩, List.mem_of_getElem? (i := 742) (by decide +kernel), List.mem_of_getElem? (i := 988) (by decide +kernel), List.mem_of_getElem? (i := 989) (by decide +kernel)⟩
theorem lw_p38 : lw_okq (⟨"HandedLensModel", "looks", "([II)I"⟩, 23) := ⟨⟨by decide +kernel, by decide +kernel⟩, List.mem_of_getElem? (i := 742) (by decide +kernel), List.mem_of_getElem? (i := 992) (by decide +kernel), List.mem_of_getElem? (i := 993) (by decide +kernel)⟩
theorem lw_p39 : lw_okq (⟨"HandedLensModel", "fading", "(IIZ)I"⟩, 23) := ⟨⟨by decide +kernel, by decide +kernel⟩, List.mem_of_getElem? (i := 742) (by decide +kernel), List.mem_of_getElem? (i := 1008) (by decide +kernel), List.mem_of_getElem? (i := 1009) (by decide +kernel)⟩
theorem lw_p40 : lw_okq (⟨"HandedLensModel", "draws", "()V"⟩, 23) := ⟨⟨by decide +kernel, by decide +kernel⟩, List.mem_of_getElem? (i := 742) (by decide +kernel), List.mem_of_getElem? (i := 1033) (by decide +kernel), List.mem_of_getElem? (i := 1034) (by decide +kernel)⟩
theorem lw_p41 : lw_okq (⟨"HandedLensModel", "draw", "(I)I"⟩, 23) := ⟨⟨by decide +kernel, by decide +kernel⟩, List.mem_of_getElem? (i := 742) (by decide +kernel), List.mem_of_getElem? (i := 1037) (by decide +kernel), List.mem_of_getElem? (i := 1038) (by decide +kernel)⟩
theorem lw_p42 : lw_okq (⟨"HandedLensModel", "layAside", "()V"⟩, 23) := ⟨⟨by decide +kernel, by decide +kernel⟩, List.mem_of_getElem? (i := 742) (by decide +kernel), List.mem_of_getElem? (i := 1058) (by decide +kernel), List.mem_of_getElem? (i := 1059) (by decide +kernel)⟩
theorem lw_p43 : lw_okq (⟨"HandedLensModel", "loss", "(I)I"⟩, 23) := ⟨⟨by decide +kernel, by decide +kernel⟩, List.mem_of_getElem? (i := 742) (by decide +kernel), List.mem_of_getElem? (i := 1074) (by decide +kernel), List.mem_of_getElem? (i := 1075) (by decide +kernel)⟩
theorem lw_p44 : lw_okq (⟨"HandedLensModel", "areThemselves", "(II)Z"⟩, 23) := ⟨⟨by decide +kernel, by decide +kernel⟩, List.mem_of_getElem? (i := 742) (by decide +kernel), List.mem_of_getElem? (i := 1078) (by decide +kernel), List.mem_of_getElem? (i := 1079) (by decide +kernel)⟩
theorem lw_p45 : lw_okq (⟨"HandedLensModel", "nextOrder", "(I)Z"⟩, 23) := ⟨⟨by decide +kernel, by decide +kernel⟩, List.mem_of_getElem? (i := 742) (by decide +kernel), List.mem_of_getElem? (i := 1092) (by decide +kernel), List.mem_of_getElem? (i := 1093) (by decide +kernel)⟩
def lw_privs_3 : List (MethodName × Nat) := [(⟨"HandedLensModel", "kin", "(I)I"⟩, 23), (⟨"HandedLensModel", "nextScene", "([II)I"⟩, 23), (⟨"HandedLensModel", "isLayer", "(I)Z"⟩, 23), (⟨"HandedLensModel", "refuses", "(I)I"⟩, 23), (⟨"HandedLensModel", "remember", "()V"⟩, 23), (⟨"HandedLensModel", "yearGoes", "([I)V"⟩, 23), (⟨"HandedLensModel", "looks", "([II)I"⟩, 23), (⟨"HandedLensModel", "fading", "(IIZ)I"⟩, 23), (⟨"HandedLensModel", "draws", "()V"⟩, 23), (⟨"HandedLensModel", "draw", "(I)I"⟩, 23), (⟨"HandedLensModel", "layAside", "()V"⟩, 23), (⟨"HandedLensModel", "loss", "(I)I"⟩, 23), (⟨"HandedLensModel", "areThemselves", "(II)Z"⟩, 23), (⟨"HandedLensModel", "nextOrder", "(I)Z"⟩, 23)]
theorem lw_r3 : ∀ q ∈ lw_privs_3, lw_okq q := List.forall_mem_cons.mpr ⟨lw_p32, List.forall_mem_cons.mpr ⟨lw_p33, List.forall_mem_cons.mpr ⟨lw_p34, List.forall_mem_cons.mpr ⟨lw_p35, List.forall_mem_cons.mpr ⟨lw_p36, List.forall_mem_cons.mpr ⟨lw_p37, List.forall_mem_cons.mpr ⟨lw_p38, List.forall_mem_cons.mpr ⟨lw_p39, List.forall_mem_cons.mpr ⟨lw_p40, List.forall_mem_cons.mpr ⟨lw_p41, List.forall_mem_cons.mpr ⟨lw_p42, List.forall_mem_cons.mpr ⟨lw_p43, List.forall_mem_cons.mpr ⟨lw_p44, List.forall_mem_cons.mpr ⟨lw_p45, fun _ h => absurd h List.not_mem_nil⟩⟩⟩⟩⟩⟩⟩⟩⟩⟩⟩⟩⟩⟩
def lw_privs : List (MethodName × Nat) := lw_privs_1 ++ (lw_privs_2 ++ (lw_privs_3))
def lw_tbl : List Cond := k2_sels lw_privs ++ tables_1
theorem lw_privs_ok : ∀ q ∈ lw_privs, lw_okq q := by
  show ∀ q ∈ lw_privs_1 ++ (lw_privs_2 ++ (lw_privs_3)), lw_okq q
  exact List.forall_mem_append.mpr ⟨lw_r1, List.forall_mem_append.mpr ⟨lw_r2, lw_r3⟩⟩
def RX0 : String := "HandedLens$Book"
def TX0 : u_T := fun k => match k with
  | 0 => ("HandedLens$Book", "scenes", "[I", true)
  | 1 => ("HandedLens$Book", "takings", "[I", true)
  | _ => ("HandedLens$Book", "size", "I", false)
def tyX0 : Nat → FieldType := fun k => match k with
  | 0 => .array .int
  | 1 => .array .int
  | _ => .int
theorem nmX0 : ∀ a, a < 3 → ∀ b, b < 3 → a ≠ b → (TX0 a).2.1 ≠ (TX0 b).2.1 := by decide +kernel
theorem tyX0_ok : ∀ k, k < 3 → parseFieldDescriptor (TX0 k).2.2.1 = some (tyX0 k) := by decide +kernel
abbrev cX0_init : ByteArray := prog_2_method_1_code
def yX0_init : MethodName := ⟨RX0, "<init>", "()V"⟩
abbrev cX0_forget : ByteArray := prog_2_method_2_code
def yX0_forget : MethodName := ⟨RX0, "forget", "()V"⟩
abbrev cX0_add : ByteArray := prog_2_method_3_code
def yX0_add : MethodName := ⟨RX0, "add", "(II)V"⟩
def RX1 : String := "HandedLens$History"
def TX1 : u_T := fun k => match k with
  | 0 => ("HandedLens$History", "rows", "[LHandedLens$Pair;", true)
  | 1 => ("HandedLens$History", "first", "I", false)
  | _ => ("HandedLens$History", "size", "I", false)
def tyX1 : Nat → FieldType := fun k => match k with
  | 0 => .array (.object "HandedLens$Pair")
  | 1 => .int
  | _ => .int
theorem nmX1 : ∀ a, a < 3 → ∀ b, b < 3 → a ≠ b → (TX1 a).2.1 ≠ (TX1 b).2.1 := by decide +kernel
theorem tyX1_ok : ∀ k, k < 3 → parseFieldDescriptor (TX1 k).2.2.1 = some (tyX1 k) := by decide +kernel
abbrev cX1_init : ByteArray := prog_3_method_1_code
def yX1_init : MethodName := ⟨RX1, "<init>", "()V"⟩
abbrev cX1_forget : ByteArray := prog_3_method_2_code
def yX1_forget : MethodName := ⟨RX1, "forget", "()V"⟩
abbrev cX1_remember : ByteArray := prog_3_method_3_code
def yX1_remember : MethodName := ⟨RX1, "remember", "(LHandedLens$Pair;)V"⟩
abbrev cX1_restore : ByteArray := prog_3_method_4_code
def yX1_restore : MethodName := ⟨RX1, "restore", "(LHandedLens$Pair;I)V"⟩
def RX2 : String := "HandedLens$Image"
def TX2 : u_T := fun k => match k with
  | 0 => ("HandedLens$Image", "pair", "LHandedLens$Pair;", true)
  | 1 => ("HandedLens$Image", "seed", "I", false)
  | _ => ("HandedLens$Image", "kept", "Z", false)
def tyX2 : Nat → FieldType := fun k => match k with
  | 0 => .object "HandedLens$Pair"
  | 1 => .int
  | _ => .boolean
theorem nmX2 : ∀ a, a < 3 → ∀ b, b < 3 → a ≠ b → (TX2 a).2.1 ≠ (TX2 b).2.1 := by decide +kernel
theorem tyX2_ok : ∀ k, k < 3 → parseFieldDescriptor (TX2 k).2.2.1 = some (tyX2 k) := by decide +kernel
abbrev cX2_init : ByteArray := prog_4_method_1_code
def yX2_init : MethodName := ⟨RX2, "<init>", "()V"⟩
def RX3 : String := "HandedLens$Line"
def TX3 : u_T := fun k => match k with
  | 0 => ("HandedLens$Line", "kinds", "[I", true)
  | 1 => ("HandedLens$Line", "brights", "[I", true)
  | 2 => ("HandedLens$Line", "lookCounts", "[I", true)
  | 3 => ("HandedLens$Line", "looks", "[[I", true)
  | 4 => ("HandedLens$Line", "clear", "I", false)
  | 5 => ("HandedLens$Line", "scenes", "I", false)
  | _ => ("HandedLens$Line", "wearers", "I", false)
def tyX3 : Nat → FieldType := fun k => match k with
  | 0 => .array .int
  | 1 => .array .int
  | 2 => .array .int
  | 3 => .array (.array .int)
  | 4 => .int
  | 5 => .int
  | _ => .int
theorem nmX3 : ∀ a, a < 7 → ∀ b, b < 7 → a ≠ b → (TX3 a).2.1 ≠ (TX3 b).2.1 := by decide +kernel
theorem tyX3_ok : ∀ k, k < 7 → parseFieldDescriptor (TX3 k).2.2.1 = some (tyX3 k) := by decide +kernel
abbrev cX3_init : ByteArray := prog_5_method_1_code
def yX3_init : MethodName := ⟨RX3, "<init>", "()V"⟩
abbrev cX3_forget : ByteArray := prog_5_method_2_code
def yX3_forget : MethodName := ⟨RX3, "forget", "()V"⟩
abbrev cX3_addScene : ByteArray := prog_5_method_3_code
def yX3_addScene : MethodName := ⟨RX3, "addScene", "(II)V"⟩
abbrev cX3_addWearer : ByteArray := prog_5_method_4_code
def yX3_addWearer : MethodName := ⟨RX3, "addWearer", "()V"⟩
abbrev cX3_addLook : ByteArray := prog_5_method_5_code
def yX3_addLook : MethodName := ⟨RX3, "addLook", "(I)V"⟩
abbrev cX3_hasScene : ByteArray := prog_5_method_6_code
def yX3_hasScene : MethodName := ⟨RX3, "hasScene", "(I)Z"⟩
abbrev cX3_hasWearer : ByteArray := prog_5_method_7_code
def yX3_hasWearer : MethodName := ⟨RX3, "hasWearer", "(I)Z"⟩
abbrev cX3_kindOf : ByteArray := prog_5_method_8_code
def yX3_kindOf : MethodName := ⟨RX3, "kindOf", "(I)I"⟩
abbrev cX3_brightOf : ByteArray := prog_5_method_9_code
def yX3_brightOf : MethodName := ⟨RX3, "brightOf", "(I)I"⟩
abbrev cX3_looksOf : ByteArray := prog_5_method_10_code
def yX3_looksOf : MethodName := ⟨RX3, "looksOf", "(I)I"⟩
abbrev cX3_sceneInYear : ByteArray := prog_5_method_11_code
def yX3_sceneInYear : MethodName := ⟨RX3, "sceneInYear", "(II)I"⟩
abbrev cX3_veil : ByteArray := prog_5_method_12_code
def yX3_veil : MethodName := ⟨RX3, "veil", "(II)I"⟩
abbrev cX3_gain : ByteArray := prog_5_method_13_code
def yX3_gain : MethodName := ⟨RX3, "gain", "(I)I"⟩
def RX4 : String := "HandedLens$Log"
def TX4 : u_T := fun k => match k with
  | 0 => ("HandedLens$Log", "rows", "[I", true)
  | 1 => ("HandedLens$Log", "first", "I", false)
  | _ => ("HandedLens$Log", "size", "I", false)
def tyX4 : Nat → FieldType := fun k => match k with
  | 0 => .array .int
  | 1 => .int
  | _ => .int
theorem nmX4 : ∀ a, a < 3 → ∀ b, b < 3 → a ≠ b → (TX4 a).2.1 ≠ (TX4 b).2.1 := by decide +kernel
theorem tyX4_ok : ∀ k, k < 3 → parseFieldDescriptor (TX4 k).2.2.1 = some (tyX4 k) := by decide +kernel
abbrev cX4_init : ByteArray := prog_6_method_1_code
def yX4_init : MethodName := ⟨RX4, "<init>", "()V"⟩
abbrev cX4_forget : ByteArray := prog_6_method_2_code
def yX4_forget : MethodName := ⟨RX4, "forget", "()V"⟩
abbrev cX4_add : ByteArray := prog_6_method_3_code
def yX4_add : MethodName := ⟨RX4, "add", "(IIII)V"⟩
abbrev cX4_at : ByteArray := prog_6_method_4_code
def yX4_at : MethodName := ⟨RX4, "at", "(II)I"⟩
abbrev cX4_copyAll : ByteArray := prog_6_method_5_code
def yX4_copyAll : MethodName := ⟨RX4, "copyAll", "(LHandedLens$Log;)V"⟩
def RX5 : String := "HandedLens$Met"
def TX5 : u_T := fun k => match k with
  | 0 => ("HandedLens$Met", "scenes", "[I", true)
  | 1 => ("HandedLens$Met", "so", "[Z", true)
  | _ => ("HandedLens$Met", "size", "I", false)
def tyX5 : Nat → FieldType := fun k => match k with
  | 0 => .array .int
  | 1 => .array .boolean
  | _ => .int
theorem nmX5 : ∀ a, a < 3 → ∀ b, b < 3 → a ≠ b → (TX5 a).2.1 ≠ (TX5 b).2.1 := by decide +kernel
theorem tyX5_ok : ∀ k, k < 3 → parseFieldDescriptor (TX5 k).2.2.1 = some (tyX5 k) := by decide +kernel
abbrev cX5_init : ByteArray := prog_7_method_1_code
def yX5_init : MethodName := ⟨RX5, "<init>", "()V"⟩
abbrev cX5_forget : ByteArray := prog_7_method_2_code
def yX5_forget : MethodName := ⟨RX5, "forget", "()V"⟩
abbrev cX5_add : ByteArray := prog_7_method_3_code
def yX5_add : MethodName := ⟨RX5, "add", "(IZ)V"⟩
abbrev cX5_fits : ByteArray := prog_7_method_4_code
def yX5_fits : MethodName := ⟨RX5, "fits", "(I)Z"⟩
def RX6 : String := "HandedLens$Pair"
def TX6 : u_T := fun k => match k with
  | 0 => ("HandedLens$Pair", "sceneOf", "[I", true)
  | 1 => ("HandedLens$Pair", "wearerOf", "[I", true)
  | 2 => ("HandedLens$Pair", "strengthOf", "[I", true)
  | 3 => ("HandedLens$Pair", "worns", "[I", true)
  | 4 => ("HandedLens$Pair", "log", "LHandedLens$Log;", true)
  | 5 => ("HandedLens$Pair", "layers", "I", false)
  | 6 => ("HandedLens$Pair", "worn", "I", false)
  | _ => ("HandedLens$Pair", "years", "I", false)
def tyX6 : Nat → FieldType := fun k => match k with
  | 0 => .array .int
  | 1 => .array .int
  | 2 => .array .int
  | 3 => .array .int
  | 4 => .object "HandedLens$Log"
  | 5 => .int
  | 6 => .int
  | _ => .int
theorem nmX6 : ∀ a, a < 8 → ∀ b, b < 8 → a ≠ b → (TX6 a).2.1 ≠ (TX6 b).2.1 := by decide +kernel
theorem tyX6_ok : ∀ k, k < 8 → parseFieldDescriptor (TX6 k).2.2.1 = some (tyX6 k) := by decide +kernel
abbrev cX6_init : ByteArray := prog_8_method_1_code
def yX6_init : MethodName := ⟨RX6, "<init>", "()V"⟩
abbrev cX6_reset : ByteArray := prog_8_method_2_code
def yX6_reset : MethodName := ⟨RX6, "reset", "()V"⟩
abbrev cX6_copyAll : ByteArray := prog_8_method_3_code
def yX6_copyAll : MethodName := ⟨RX6, "copyAll", "(LHandedLens$Pair;)V"⟩
abbrev cX6_copyGlass : ByteArray := prog_8_method_4_code
def yX6_copyGlass : MethodName := ⟨RX6, "copyGlass", "(LHandedLens$Pair;)V"⟩
abbrev cX6_hasLayer : ByteArray := prog_8_method_5_code
def yX6_hasLayer : MethodName := ⟨RX6, "hasLayer", "(I)Z"⟩
abbrev cX6_yearsOf : ByteArray := prog_8_method_6_code
def yX6_yearsOf : MethodName := ⟨RX6, "yearsOf", "(I)I"⟩
abbrev cX6_passYear : ByteArray := prog_8_method_7_code
def yX6_passYear : MethodName := ⟨RX6, "passYear", "(LHandedLens$Line;)V"⟩
abbrev cX6_deepen : ByteArray := prog_8_method_8_code
def yX6_deepen : MethodName := ⟨RX6, "deepen", "(II)I"⟩
abbrev cX6_lay : ByteArray := prog_8_method_9_code
def yX6_lay : MethodName := ⟨RX6, "lay", "(III)V"⟩
abbrev cX6_remove : ByteArray := prog_8_method_10_code
def yX6_remove : MethodName := ⟨RX6, "remove", "(I)V"⟩
abbrev cX6_fadeBut : ByteArray := prog_8_method_11_code
def yX6_fadeBut : MethodName := ⟨RX6, "fadeBut", "(ILHandedLens$Line;)V"⟩
abbrev cX6_fading : ByteArray := prog_8_method_12_code
def yX6_fading : MethodName := ⟨RX6, "fading", "(II)I"⟩
abbrev cX6_takenFor : ByteArray := prog_8_method_13_code
def yX6_takenFor : MethodName := ⟨RX6, "takenFor", "(LHandedLens$Line;III)I"⟩
abbrev cX6_strongestBut : ByteArray := prog_8_method_14_code
def yX6_strongestBut : MethodName := ⟨RX6, "strongestBut", "(I)I"⟩
abbrev cX6_weakest : ByteArray := prog_8_method_15_code
def yX6_weakest : MethodName := ⟨RX6, "weakest", "()I"⟩
abbrev cX6_layersBefore : ByteArray := prog_8_method_16_code
def yX6_layersBefore : MethodName := ⟨RX6, "layersBefore", "(I)I"⟩
abbrev cX6_find : ByteArray := prog_8_method_17_code
def yX6_find : MethodName := ⟨RX6, "find", "(II)I"⟩
abbrev cX6_darkness : ByteArray := prog_8_method_18_code
def yX6_darkness : MethodName := ⟨RX6, "darkness", "()I"⟩
abbrev cX6_strengthOfScene : ByteArray := prog_8_method_19_code
def yX6_strengthOfScene : MethodName := ⟨RX6, "strengthOfScene", "(I)I"⟩
abbrev cX6_scenesOf : ByteArray := prog_8_method_20_code
def yX6_scenesOf : MethodName := ⟨RX6, "scenesOf", "(I)I"⟩
abbrev cX6_lowestOfWearers : ByteArray := prog_8_method_21_code
def yX6_lowestOfWearers : MethodName := ⟨RX6, "lowestOfWearers", "()I"⟩
abbrev cX6_thickest : ByteArray := prog_8_method_22_code
def yX6_thickest : MethodName := ⟨RX6, "thickest", "()I"⟩
def RX7 : String := "HandedLens$Reader"
def TX7 : u_T := fun k => match k with
  | 0 => ("HandedLens$Reader", "text", "[I", true)
  | 1 => ("HandedLens$Reader", "length", "I", false)
  | 2 => ("HandedLens$Reader", "at", "I", false)
  | 3 => ("HandedLens$Reader", "fault", "I", false)
  | _ => ("HandedLens$Reader", "faultAt", "I", false)
def tyX7 : Nat → FieldType := fun k => match k with
  | 0 => .array .int
  | 1 => .int
  | 2 => .int
  | 3 => .int
  | _ => .int
theorem nmX7 : ∀ a, a < 5 → ∀ b, b < 5 → a ≠ b → (TX7 a).2.1 ≠ (TX7 b).2.1 := by decide +kernel
theorem tyX7_ok : ∀ k, k < 5 → parseFieldDescriptor (TX7 k).2.2.1 = some (tyX7 k) := by decide +kernel
abbrev cX7_init : ByteArray := prog_9_method_1_code
def yX7_init : MethodName := ⟨RX7, "<init>", "()V"⟩
abbrev cX7_append : ByteArray := prog_9_method_2_code
def yX7_append : MethodName := ⟨RX7, "append", "(I)V"⟩
abbrev cX7_empty : ByteArray := prog_9_method_3_code
def yX7_empty : MethodName := ⟨RX7, "empty", "()V"⟩
abbrev cX7_readInto : ByteArray := prog_9_method_4_code
def yX7_readInto : MethodName := ⟨RX7, "readInto", "(LHandedLens$Line;)I"⟩
abbrev cX7_readClause : ByteArray := prog_9_method_5_code
def yX7_readClause : MethodName := ⟨RX7, "readClause", "(LHandedLens$Line;)V"⟩
abbrev cX7_readClear : ByteArray := prog_9_method_6_code
def yX7_readClear : MethodName := ⟨RX7, "readClear", "(LHandedLens$Line;)V"⟩
abbrev cX7_readScene : ByteArray := prog_9_method_7_code
def yX7_readScene : MethodName := ⟨RX7, "readScene", "(LHandedLens$Line;)V"⟩
abbrev cX7_readWearer : ByteArray := prog_9_method_8_code
def yX7_readWearer : MethodName := ⟨RX7, "readWearer", "(LHandedLens$Line;)V"⟩
abbrev cX7_readNumber : ByteArray := prog_9_method_9_code
def yX7_readNumber : MethodName := ⟨RX7, "readNumber", "(II)I"⟩
abbrev cX7_accept : ByteArray := prog_9_method_10_code
def yX7_accept : MethodName := ⟨RX7, "accept", "(IZ)Z"⟩
abbrev cX7_letterHere : ByteArray := prog_9_method_11_code
def yX7_letterHere : MethodName := ⟨RX7, "letterHere", "()I"⟩
abbrev cX7_skipBlanks : ByteArray := prog_9_method_12_code
def yX7_skipBlanks : MethodName := ⟨RX7, "skipBlanks", "()V"⟩
abbrev cX7_isFigure : ByteArray := prog_9_method_13_code
def yX7_isFigure : MethodName := ⟨RX7, "isFigure", "(I)Z"⟩
abbrev cX7_blame : ByteArray := prog_9_method_14_code
def yX7_blame : MethodName := ⟨RX7, "blame", "(II)V"⟩
def RX8 : String := "HandedLens$Turns"
def TX8 : u_T := fun k => match k with
  | 0 => ("HandedLens$Turns", "row", "[I", true)
  | _ => ("HandedLens$Turns", "size", "I", false)
def tyX8 : Nat → FieldType := fun k => match k with
  | 0 => .array .int
  | _ => .int
theorem nmX8 : ∀ a, a < 2 → ∀ b, b < 2 → a ≠ b → (TX8 a).2.1 ≠ (TX8 b).2.1 := by decide +kernel
theorem tyX8_ok : ∀ k, k < 2 → parseFieldDescriptor (TX8 k).2.2.1 = some (tyX8 k) := by decide +kernel
abbrev cX8_init : ByteArray := prog_10_method_1_code
def yX8_init : MethodName := ⟨RX8, "<init>", "()V"⟩
abbrev cX8_begin : ByteArray := prog_10_method_2_code
def yX8_begin : MethodName := ⟨RX8, "begin", "(I)V"⟩
abbrev cX8_figures : ByteArray := prog_10_method_3_code
def yX8_figures : MethodName := ⟨RX8, "figures", "()I"⟩
abbrev cX8_advance : ByteArray := prog_10_method_4_code
def yX8_advance : MethodName := ⟨RX8, "advance", "()Z"⟩
abbrev cX8_lastRise : ByteArray := prog_10_method_5_code
def yX8_lastRise : MethodName := ⟨RX8, "lastRise", "()I"⟩
abbrev cX8_swap : ByteArray := prog_10_method_6_code
def yX8_swap : MethodName := ⟨RX8, "swap", "(II)V"⟩
def RX9 : String := "HandedLens"
def TX9 : u_T := fun k => match k with
  | 0 => ("HandedLens", "reader", "LHandedLens$Reader;", true)
  | 1 => ("HandedLens", "history", "LHandedLens$History;", true)
  | 2 => ("HandedLens", "images", "[LHandedLens$Image;", true)
  | 3 => ("HandedLens", "pair", "LHandedLens$Pair;", true)
  | 4 => ("HandedLens", "tried", "LHandedLens$Pair;", true)
  | 5 => ("HandedLens", "turns", "LHandedLens$Turns;", true)
  | 6 => ("HandedLens", "met", "LHandedLens$Met;", true)
  | 7 => ("HandedLens", "book", "LHandedLens$Book;", true)
  | 8 => ("HandedLens", "line", "LHandedLens$Line;", false)
  | 9 => ("HandedLens", "spare", "LHandedLens$Line;", false)
  | 10 => ("HandedLens", "faultAt", "I", false)
  | _ => ("HandedLens", "seed", "I", false)
def tyX9 : Nat → FieldType := fun k => match k with
  | 0 => .object "HandedLens$Reader"
  | 1 => .object "HandedLens$History"
  | 2 => .array (.object "HandedLens$Image")
  | 3 => .object "HandedLens$Pair"
  | 4 => .object "HandedLens$Pair"
  | 5 => .object "HandedLens$Turns"
  | 6 => .object "HandedLens$Met"
  | 7 => .object "HandedLens$Book"
  | 8 => .object "HandedLens$Line"
  | 9 => .object "HandedLens$Line"
  | 10 => .int
  | _ => .int
theorem nmX9 : ∀ a, a < 12 → ∀ b, b < 12 → a ≠ b → (TX9 a).2.1 ≠ (TX9 b).2.1 := by decide +kernel
theorem tyX9_ok : ∀ k, k < 12 → parseFieldDescriptor (TX9 k).2.2.1 = some (tyX9 k) := by decide +kernel
abbrev cX9_init : ByteArray := prog_1_method_1_code
def yX9_init : MethodName := ⟨RX9, "<init>", "()V"⟩
abbrev cX9_feed : ByteArray := prog_1_method_2_code
def yX9_feed : MethodName := ⟨RX9, "feed", "(I)I"⟩
abbrev cX9_line : ByteArray := prog_1_method_3_code
def yX9_line : MethodName := ⟨RX9, "line", "()I"⟩
abbrev cX9_fault : ByteArray := prog_1_method_4_code
def yX9_fault : MethodName := ⟨RX9, "fault", "()I"⟩
abbrev cX9_told : ByteArray := prog_1_method_5_code
def yX9_told : MethodName := ⟨RX9, "told", "(I)I"⟩
abbrev cX9_scene : ByteArray := prog_1_method_6_code
def yX9_scene : MethodName := ⟨RX9, "scene", "(II)I"⟩
abbrev cX9_wearer : ByteArray := prog_1_method_7_code
def yX9_wearer : MethodName := ⟨RX9, "wearer", "(II)I"⟩
abbrev cX9_layer : ByteArray := prog_1_method_8_code
def yX9_layer : MethodName := ⟨RX9, "layer", "(II)I"⟩
abbrev cX9_logged : ByteArray := prog_1_method_9_code
def yX9_logged : MethodName := ⟨RX9, "logged", "(II)I"⟩
abbrev cX9_year : ByteArray := prog_1_method_10_code
def yX9_year : MethodName := ⟨RX9, "year", "(I)I"⟩
abbrev cX9_wear : ByteArray := prog_1_method_11_code
def yX9_wear : MethodName := ⟨RX9, "wear", "(I)I"⟩
abbrev cX9_takeOff : ByteArray := prog_1_method_12_code
def yX9_takeOff : MethodName := ⟨RX9, "takeOff", "()I"⟩
abbrev cX9_wipe : ByteArray := prog_1_method_13_code
def yX9_wipe : MethodName := ⟨RX9, "wipe", "(I)I"⟩
abbrev cX9_chip : ByteArray := prog_1_method_14_code
def yX9_chip : MethodName := ⟨RX9, "chip", "(II)I"⟩
abbrev cX9_drift : ByteArray := prog_1_method_15_code
def yX9_drift : MethodName := ⟨RX9, "drift", "(I)I"⟩
abbrev cX9_undo : ByteArray := prog_1_method_16_code
def yX9_undo : MethodName := ⟨RX9, "undo", "(I)I"⟩
abbrev cX9_takes : ByteArray := prog_1_method_17_code
def yX9_takes : MethodName := ⟨RX9, "takes", "(I)I"⟩
abbrev cX9_dark : ByteArray := prog_1_method_18_code
def yX9_dark : MethodName := ⟨RX9, "dark", "(I)I"⟩
abbrev cX9_tooDark : ByteArray := prog_1_method_19_code
def yX9_tooDark : MethodName := ⟨RX9, "tooDark", "(I)I"⟩
abbrev cX9_willShow : ByteArray := prog_1_method_20_code
def yX9_willShow : MethodName := ⟨RX9, "willShow", "(II)I"⟩
abbrev cX9_toWipe : ByteArray := prog_1_method_21_code
def yX9_toWipe : MethodName := ⟨RX9, "toWipe", "(II)I"⟩
abbrev cX9_only : ByteArray := prog_1_method_22_code
def yX9_only : MethodName := ⟨RX9, "only", "(II)I"⟩
abbrev cX9_order : ByteArray := prog_1_method_23_code
def yX9_order : MethodName := ⟨RX9, "order", "(II)I"⟩
abbrev cX9_ground : ByteArray := prog_1_method_24_code
def yX9_ground : MethodName := ⟨RX9, "ground", "(I)I"⟩
abbrev cX9_mist : ByteArray := prog_1_method_25_code
def yX9_mist : MethodName := ⟨RX9, "mist", "(II)I"⟩
abbrev cX9_meet : ByteArray := prog_1_method_26_code
def yX9_meet : MethodName := ⟨RX9, "meet", "(IZ)I"⟩
abbrev cX9_couldBe : ByteArray := prog_1_method_27_code
def yX9_couldBe : MethodName := ⟨RX9, "couldBe", "()I"⟩
abbrev cX9_ask : ByteArray := prog_1_method_28_code
def yX9_ask : MethodName := ⟨RX9, "ask", "()I"⟩
abbrev cX9_write : ByteArray := prog_1_method_29_code
def yX9_write : MethodName := ⟨RX9, "write", "(II)I"⟩
abbrev cX9_judge : ByteArray := prog_1_method_30_code
def yX9_judge : MethodName := ⟨RX9, "judge", "()I"⟩
abbrev cX9_tear : ByteArray := prog_1_method_31_code
def yX9_tear : MethodName := ⟨RX9, "tear", "()I"⟩
abbrev cX9_seed : ByteArray := prog_1_method_32_code
def yX9_seed : MethodName := ⟨RX9, "seed", "(I)I"⟩
abbrev cX9_keep : ByteArray := prog_1_method_33_code
def yX9_keep : MethodName := ⟨RX9, "keep", "(I)I"⟩
abbrev cX9_goBack : ByteArray := prog_1_method_34_code
def yX9_goBack : MethodName := ⟨RX9, "goBack", "(I)I"⟩
abbrev cX9_isSetOf : ByteArray := prog_1_method_35_code
def yX9_isSetOf : MethodName := ⟨RX9, "isSetOf", "(II)Z"⟩
abbrev cX9_refusalOfYears : ByteArray := prog_1_method_36_code
def yX9_refusalOfYears : MethodName := ⟨RX9, "refusalOfYears", "(I)I"⟩
abbrev cX9_takenNow : ByteArray := prog_1_method_37_code
def yX9_takenNow : MethodName := ⟨RX9, "takenNow", "(I)I"⟩
abbrev cX9_scenesTakenFor : ByteArray := prog_1_method_38_code
def yX9_scenesTakenFor : MethodName := ⟨RX9, "scenesTakenFor", "(I)I"⟩
abbrev cX9_scenesOfAll : ByteArray := prog_1_method_39_code
def yX9_scenesOfAll : MethodName := ⟨RX9, "scenesOfAll", "()I"⟩
abbrev cX9_kinOf : ByteArray := prog_1_method_40_code
def yX9_kinOf : MethodName := ⟨RX9, "kinOf", "(I)I"⟩
abbrev cX9_areSeenWithout : ByteArray := prog_1_method_41_code
def yX9_areSeenWithout : MethodName := ⟨RX9, "areSeenWithout", "(II)Z"⟩
abbrev cX9_tryYears : ByteArray := prog_1_method_42_code
def yX9_tryYears : MethodName := ⟨RX9, "tryYears", "(I)V"⟩
abbrev cX9_darkBehindTurns : ByteArray := prog_1_method_43_code
def yX9_darkBehindTurns : MethodName := ⟨RX9, "darkBehindTurns", "()I"⟩
abbrev cX9_drawOf : ByteArray := prog_1_method_44_code
def yX9_drawOf : MethodName := ⟨RX9, "drawOf", "(I)I"⟩
abbrev cX9_doByDraw : ByteArray := prog_1_method_45_code
def yX9_doByDraw : MethodName := ⟨RX9, "doByDraw", "()V"⟩
def RX10 : String := "HandedLensModel"
def TX10 : u_T := fun k => match k with
  | 0 => ("HandedLensModel", "line", "[I", true)
  | 1 => ("HandedLensModel", "read", "[I", true)
  | 2 => ("HandedLensModel", "now", "[I", true)
  | 3 => ("HandedLensModel", "aside", "[I", true)
  | 4 => ("HandedLensModel", "past", "[I", true)
  | 5 => ("HandedLensModel", "undos", "I", false)
  | 6 => ("HandedLensModel", "images", "[I", true)
  | 7 => ("HandedLensModel", "kept", "[Z", true)
  | 8 => ("HandedLensModel", "seed", "J", false)
  | 9 => ("HandedLensModel", "text", "[I", true)
  | 10 => ("HandedLensModel", "size", "I", false)
  | 11 => ("HandedLensModel", "fault", "I", false)
  | 12 => ("HandedLensModel", "met", "[I", true)
  | 13 => ("HandedLensModel", "metMany", "I", false)
  | 14 => ("HandedLensModel", "book", "[I", true)
  | 15 => ("HandedLensModel", "bookMany", "I", false)
  | 16 => ("HandedLensModel", "at", "I", false)
  | 17 => ("HandedLensModel", "begin", "I", false)
  | 18 => ("HandedLensModel", "sign", "I", false)
  | 19 => ("HandedLensModel", "figures", "I", false)
  | 20 => ("HandedLensModel", "value", "I", false)
  | 21 => ("HandedLensModel", "wrong", "I", false)
  | _ => ("HandedLensModel", "row", "[I", true)
def tyX10 : Nat → FieldType := fun k => match k with
  | 0 => .array .int
  | 1 => .array .int
  | 2 => .array .int
  | 3 => .array .int
  | 4 => .array .int
  | 5 => .int
  | 6 => .array .int
  | 7 => .array .boolean
  | 8 => .long
  | 9 => .array .int
  | 10 => .int
  | 11 => .int
  | 12 => .array .int
  | 13 => .int
  | 14 => .array .int
  | 15 => .int
  | 16 => .int
  | 17 => .int
  | 18 => .int
  | 19 => .int
  | 20 => .int
  | 21 => .int
  | _ => .array .int
theorem nmX10 : ∀ a, a < 23 → ∀ b, b < 23 → a ≠ b → (TX10 a).2.1 ≠ (TX10 b).2.1 := by decide +kernel
theorem tyX10_ok : ∀ k, k < 23 → parseFieldDescriptor (TX10 k).2.2.1 = some (tyX10 k) := by decide +kernel
abbrev cX10_init : ByteArray := prog_12_method_1_code
def yX10_init : MethodName := ⟨RX10, "<init>", "()V"⟩
abbrev cX10_in : ByteArray := prog_12_method_3_code
def yX10_in : MethodName := ⟨RX10, "in", "(JJJ)Z"⟩
abbrev cX10_has : ByteArray := prog_12_method_4_code
def yX10_has : MethodName := ⟨RX10, "has", "(II)Z"⟩
abbrev cX10_bits : ByteArray := prog_12_method_5_code
def yX10_bits : MethodName := ⟨RX10, "bits", "(I)I"⟩
abbrev cX10_lesser : ByteArray := prog_12_method_6_code
def yX10_lesser : MethodName := ⟨RX10, "lesser", "(II)I"⟩
abbrev cX10_greater : ByteArray := prog_12_method_7_code
def yX10_greater : MethodName := ⟨RX10, "greater", "(II)I"⟩
abbrev cX10_copies : ByteArray := prog_12_method_8_code
def yX10_copies : MethodName := ⟨RX10, "copies", "([II[III)V"⟩
abbrev cX10_begins : ByteArray := prog_12_method_9_code
def yX10_begins : MethodName := ⟨RX10, "begins", "()V"⟩
abbrev cX10_feed : ByteArray := prog_12_method_10_code
def yX10_feed : MethodName := ⟨RX10, "feed", "(I)I"⟩
abbrev cX10_here : ByteArray := prog_12_method_11_code
def yX10_here : MethodName := ⟨RX10, "here", "()I"⟩
abbrev cX10_step : ByteArray := prog_12_method_12_code
def yX10_step : MethodName := ⟨RX10, "step", "()V"⟩
abbrev cX10_fails : ByteArray := prog_12_method_13_code
def yX10_fails : MethodName := ⟨RX10, "fails", "(I)Z"⟩
abbrev cX10_number : ByteArray := prog_12_method_14_code
def yX10_number : MethodName := ⟨RX10, "number", "(III)Z"⟩
abbrev cX10_ends : ByteArray := prog_12_method_15_code
def yX10_ends : MethodName := ⟨RX10, "ends", "()Z"⟩
abbrev cX10_readsScene : ByteArray := prog_12_method_16_code
def yX10_readsScene : MethodName := ⟨RX10, "readsScene", "()Z"⟩
abbrev cX10_readsWearer : ByteArray := prog_12_method_17_code
def yX10_readsWearer : MethodName := ⟨RX10, "readsWearer", "()Z"⟩
abbrev cX10_readsClause : ByteArray := prog_12_method_18_code
def yX10_readsClause : MethodName := ⟨RX10, "readsClause", "()Z"⟩
abbrev cX10_line : ByteArray := prog_12_method_19_code
def yX10_line : MethodName := ⟨RX10, "line", "()I"⟩
abbrev cX10_fault : ByteArray := prog_12_method_20_code
def yX10_fault : MethodName := ⟨RX10, "fault", "()I"⟩
abbrev cX10_isScene : ByteArray := prog_12_method_21_code
def yX10_isScene : MethodName := ⟨RX10, "isScene", "(I)Z"⟩
abbrev cX10_isWearer : ByteArray := prog_12_method_22_code
def yX10_isWearer : MethodName := ⟨RX10, "isWearer", "(I)Z"⟩
abbrev cX10_isLayer : ByteArray := prog_12_method_23_code
def yX10_isLayer : MethodName := ⟨RX10, "isLayer", "(I)Z"⟩
abbrev cX10_half : ByteArray := prog_12_method_24_code
def yX10_half : MethodName := ⟨RX10, "half", "(II)I"⟩
abbrev cX10_takesBy : ByteArray := prog_12_method_25_code
def yX10_takesBy : MethodName := ⟨RX10, "takesBy", "([IIII)I"⟩
abbrev cX10_takesNow : ByteArray := prog_12_method_26_code
def yX10_takesNow : MethodName := ⟨RX10, "takesNow", "(I)I"⟩
abbrev cX10_strengthOn : ByteArray := prog_12_method_27_code
def yX10_strengthOn : MethodName := ⟨RX10, "strengthOn", "([II)I"⟩
abbrev cX10_darkOn : ByteArray := prog_12_method_28_code
def yX10_darkOn : MethodName := ⟨RX10, "darkOn", "([I)I"⟩
abbrev cX10_removes : ByteArray := prog_12_method_29_code
def yX10_removes : MethodName := ⟨RX10, "removes", "([II)V"⟩
abbrev cX10_lays : ByteArray := prog_12_method_30_code
def yX10_lays : MethodName := ⟨RX10, "lays", "([IIII)V"⟩
abbrev cX10_logs : ByteArray := prog_12_method_31_code
def yX10_logs : MethodName := ⟨RX10, "logs", "([IIII)V"⟩
abbrev cX10_nextScene : ByteArray := prog_12_method_32_code
def yX10_nextScene : MethodName := ⟨RX10, "nextScene", "([II)I"⟩
abbrev cX10_looks : ByteArray := prog_12_method_33_code
def yX10_looks : MethodName := ⟨RX10, "looks", "([II)I"⟩
abbrev cX10_fading : ByteArray := prog_12_method_34_code
def yX10_fading : MethodName := ⟨RX10, "fading", "(IIZ)I"⟩
abbrev cX10_yearGoes : ByteArray := prog_12_method_35_code
def yX10_yearGoes : MethodName := ⟨RX10, "yearGoes", "([I)V"⟩
abbrev cX10_remember : ByteArray := prog_12_method_36_code
def yX10_remember : MethodName := ⟨RX10, "remember", "()V"⟩
abbrev cX10_sawBy : ByteArray := prog_12_method_37_code
def yX10_sawBy : MethodName := ⟨RX10, "sawBy", "(I)I"⟩
abbrev cX10_seenByAll : ByteArray := prog_12_method_38_code
def yX10_seenByAll : MethodName := ⟨RX10, "seenByAll", "()I"⟩
abbrev cX10_kin : ByteArray := prog_12_method_39_code
def yX10_kin : MethodName := ⟨RX10, "kin", "(I)I"⟩
abbrev cX10_eyes : ByteArray := prog_12_method_40_code
def yX10_eyes : MethodName := ⟨RX10, "eyes", "()I"⟩
abbrev cX10_strongest : ByteArray := prog_12_method_41_code
def yX10_strongest : MethodName := ⟨RX10, "strongest", "()I"⟩
abbrev cX10_thick : ByteArray := prog_12_method_42_code
def yX10_thick : MethodName := ⟨RX10, "thick", "()I"⟩
abbrev cX10_told : ByteArray := prog_12_method_43_code
def yX10_told : MethodName := ⟨RX10, "told", "(I)I"⟩
abbrev cX10_lookFor : ByteArray := prog_12_method_44_code
def yX10_lookFor : MethodName := ⟨RX10, "lookFor", "(I)I"⟩
abbrev cX10_scene : ByteArray := prog_12_method_45_code
def yX10_scene : MethodName := ⟨RX10, "scene", "(II)I"⟩
abbrev cX10_wearer : ByteArray := prog_12_method_46_code
def yX10_wearer : MethodName := ⟨RX10, "wearer", "(II)I"⟩
abbrev cX10_layer : ByteArray := prog_12_method_47_code
def yX10_layer : MethodName := ⟨RX10, "layer", "(II)I"⟩
abbrev cX10_logged : ByteArray := prog_12_method_48_code
def yX10_logged : MethodName := ⟨RX10, "logged", "(II)I"⟩
abbrev cX10_refuses : ByteArray := prog_12_method_49_code
def yX10_refuses : MethodName := ⟨RX10, "refuses", "(I)I"⟩
abbrev cX10_year : ByteArray := prog_12_method_50_code
def yX10_year : MethodName := ⟨RX10, "year", "(I)I"⟩
abbrev cX10_wear : ByteArray := prog_12_method_51_code
def yX10_wear : MethodName := ⟨RX10, "wear", "(I)I"⟩
abbrev cX10_takeOff : ByteArray := prog_12_method_52_code
def yX10_takeOff : MethodName := ⟨RX10, "takeOff", "()I"⟩
abbrev cX10_wipe : ByteArray := prog_12_method_53_code
def yX10_wipe : MethodName := ⟨RX10, "wipe", "(I)I"⟩
abbrev cX10_chip : ByteArray := prog_12_method_54_code
def yX10_chip : MethodName := ⟨RX10, "chip", "(II)I"⟩
abbrev cX10_draw : ByteArray := prog_12_method_55_code
def yX10_draw : MethodName := ⟨RX10, "draw", "(I)I"⟩
abbrev cX10_draws : ByteArray := prog_12_method_56_code
def yX10_draws : MethodName := ⟨RX10, "draws", "()V"⟩
abbrev cX10_drift : ByteArray := prog_12_method_57_code
def yX10_drift : MethodName := ⟨RX10, "drift", "(I)I"⟩
abbrev cX10_undo : ByteArray := prog_12_method_58_code
def yX10_undo : MethodName := ⟨RX10, "undo", "(I)I"⟩
abbrev cX10_layAside : ByteArray := prog_12_method_59_code
def yX10_layAside : MethodName := ⟨RX10, "layAside", "()V"⟩
abbrev cX10_takes : ByteArray := prog_12_method_60_code
def yX10_takes : MethodName := ⟨RX10, "takes", "(I)I"⟩
abbrev cX10_dark : ByteArray := prog_12_method_61_code
def yX10_dark : MethodName := ⟨RX10, "dark", "(I)I"⟩
abbrev cX10_tooDark : ByteArray := prog_12_method_62_code
def yX10_tooDark : MethodName := ⟨RX10, "tooDark", "(I)I"⟩
abbrev cX10_willShow : ByteArray := prog_12_method_63_code
def yX10_willShow : MethodName := ⟨RX10, "willShow", "(II)I"⟩
abbrev cX10_areThemselves : ByteArray := prog_12_method_64_code
def yX10_areThemselves : MethodName := ⟨RX10, "areThemselves", "(II)Z"⟩
abbrev cX10_loss : ByteArray := prog_12_method_65_code
def yX10_loss : MethodName := ⟨RX10, "loss", "(I)I"⟩
abbrev cX10_toWipe : ByteArray := prog_12_method_66_code
def yX10_toWipe : MethodName := ⟨RX10, "toWipe", "(II)I"⟩
abbrev cX10_only : ByteArray := prog_12_method_67_code
def yX10_only : MethodName := ⟨RX10, "only", "(II)I"⟩
abbrev cX10_nextOrder : ByteArray := prog_12_method_68_code
def yX10_nextOrder : MethodName := ⟨RX10, "nextOrder", "(I)Z"⟩
abbrev cX10_order : ByteArray := prog_12_method_69_code
def yX10_order : MethodName := ⟨RX10, "order", "(II)I"⟩
abbrev cX10_ground : ByteArray := prog_12_method_70_code
def yX10_ground : MethodName := ⟨RX10, "ground", "(I)I"⟩
abbrev cX10_mist : ByteArray := prog_12_method_71_code
def yX10_mist : MethodName := ⟨RX10, "mist", "(II)I"⟩
abbrev cX10_meet : ByteArray := prog_12_method_72_code
def yX10_meet : MethodName := ⟨RX10, "meet", "(IZ)I"⟩
abbrev cX10_couldBe : ByteArray := prog_12_method_73_code
def yX10_couldBe : MethodName := ⟨RX10, "couldBe", "()I"⟩
abbrev cX10_ask : ByteArray := prog_12_method_74_code
def yX10_ask : MethodName := ⟨RX10, "ask", "()I"⟩
abbrev cX10_write : ByteArray := prog_12_method_75_code
def yX10_write : MethodName := ⟨RX10, "write", "(II)I"⟩
abbrev cX10_judge : ByteArray := prog_12_method_76_code
def yX10_judge : MethodName := ⟨RX10, "judge", "()I"⟩
abbrev cX10_tear : ByteArray := prog_12_method_77_code
def yX10_tear : MethodName := ⟨RX10, "tear", "()I"⟩
abbrev cX10_seed : ByteArray := prog_12_method_78_code
def yX10_seed : MethodName := ⟨RX10, "seed", "(I)I"⟩
abbrev cX10_keep : ByteArray := prog_12_method_79_code
def yX10_keep : MethodName := ⟨RX10, "keep", "(I)I"⟩
abbrev cX10_goBack : ByteArray := prog_12_method_80_code
def yX10_goBack : MethodName := ⟨RX10, "goBack", "(I)I"⟩
def RJ6 : String := "java/lang/Integer"
def TJ6 : u_T := fun k => match k with
  | _ => ("", "", "", false)
def tyJ6 : Nat → FieldType := fun k => match k with
  | _ => .int
abbrev wsJ60 : List Cond := u_ws RJ6 TJ6 0
theorem nmJ6 : ∀ a, a < 0 → ∀ b, b < 0 → a ≠ b → (TJ6 a).2.1 ≠ (TJ6 b).2.1 := by decide +kernel
theorem tyJ6_ok : ∀ k, k < 0 → parseFieldDescriptor (TJ6 k).2.2.1 = some (tyJ6 k) := by decide +kernel
abbrev cJ6_bitCount_0f7a4 : ByteArray := prog_13_method_49_code
def yJ6_bitCount_0f7a4 : MethodName := ⟨RJ6, "bitCount", "(I)I"⟩
def RJ9 : String := "java/lang/Math"
def TJ9 : u_T := fun k => match k with
  | _ => ("", "", "", false)
def tyJ9 : Nat → FieldType := fun k => match k with
  | _ => .int
abbrev wsJ90 : List Cond := u_ws RJ9 TJ9 0
theorem nmJ9 : ∀ a, a < 0 → ∀ b, b < 0 → a ≠ b → (TJ9 a).2.1 ≠ (TJ9 b).2.1 := by decide +kernel
theorem tyJ9_ok : ∀ k, k < 0 → parseFieldDescriptor (TJ9 k).2.2.1 = some (tyJ9 k) := by decide +kernel
abbrev cJ9_max_7cf53 : ByteArray := prog_14_method_65_code
def yJ9_max_7cf53 : MethodName := ⟨RJ9, "max", "(II)I"⟩
abbrev cJ9_min_7cf53 : ByteArray := prog_14_method_69_code
def yJ9_min_7cf53 : MethodName := ⟨RJ9, "min", "(II)I"⟩
def RJ10 : String := "java/lang/System"
def TJ10 : u_T := fun k => match k with
  | _ => ("", "", "", false)
def tyJ10 : Nat → FieldType := fun k => match k with
  | _ => .int
abbrev wsJ100 : List Cond := u_ws RJ10 TJ10 0
theorem nmJ10 : ∀ a, a < 0 → ∀ b, b < 0 → a ≠ b → (TJ10 a).2.1 ≠ (TJ10 b).2.1 := by decide +kernel
theorem tyJ10_ok : ∀ k, k < 0 → parseFieldDescriptor (TJ10 k).2.2.1 = some (tyJ10 k) := by decide +kernel
def RL : String := "HandedLensLaw"
abbrev cL_law : ByteArray := code
def yL_law : MethodName := ⟨RL, "law", "([I)Z"⟩
abbrev vwCl : List vw_C := [(RX0, TX0, 3), (RX1, TX1, 3), (RX2, TX2, 3), (RX3, TX3, 7), (RX4, TX4, 3), (RX5, TX5, 3), (RX6, TX6, 8), (RX7, TX7, 5), (RX8, TX8, 2), (RX9, TX9, 12), (RX10, TX10, 23)]
end
section
/-! ===== THE ABSTRACT MACHINE: a state is locals, operand stack, and memory by places; P: from here the method comes to its end with Q; C: a call comes back with Q ===== -/
abbrev AE : Type := (Nat × vp_A) ⊕ (Nat × List Value)
abbrev AM : Type := Nat → Option AE
/-- a method: name, bytes, locals, what it returns, frames and words that it needs, its instructions -/
abbrev MR : Type := MethodName × ByteArray × Nat × Option FieldType × Nat × Nat × List (Nat × Instr × Nat)
abbrev mrY (m : MR) : MethodName := m.1
abbrev mrB (m : MR) : ByteArray := m.2.1
abbrev mrL (m : MR) : Nat := m.2.2.1
abbrev mrR (m : MR) : Option FieldType := m.2.2.2.1
abbrev mrF (m : MR) : Nat := m.2.2.2.2.1
abbrev mrW (m : MR) : Nat := m.2.2.2.2.2.1
abbrev mrT (m : MR) : List (Nat × Instr × Nat) := m.2.2.2.2.2.2
def TabOk (m : MR) : Prop := ∀ q ∈ mrT m, decode (mrB m) q.1 = .ok q.2
/-- the words that a callee keeps -/
def lwg : List Jvm.Cond := lw_tbl.filter goodWord
theorem lwg_of {w : Jvm.Cond} (h : w ∈ lw_tbl) (hg : goodWord w = true) : w ∈ lwg := List.mem_filter.mpr ⟨h, hg⟩
abbrev mrWs (m : MR) : List Jvm.Cond := Jvm.Cond.code (mrY m) (mrB m) (mrL m) (mrR m) :: lwg
abbrev mrRm (m : MR) : Room := { frames := mrF m, cells := 0, slots := 0, locals := mrW m }
/-- abstract values: a reference is a place; retAddr 0 is what nobody reads -/
def cv (ad : Nat → Nat) (v : Value) : Value := match v with
  | .ref k => .ref (ad k)
  | w => w
def wc (cA : Nat → ClassId) (ad : Nat → Nat) (c : Option AE) : va_E := match c with
  | none => .inr (0, [])
  | some (.inr (ci, fs)) => .inr (ci, fs.map (cv ad))
  | some (.inl (t, n, .inr (.inr (.inr (.inr g))))) => .inl (cA t, n, .inr (.inr (.inr (.inr (fun j => (g j).map ad)))))
  | some (.inl (t, x)) => .inl (cA t, x)
def wl (cA : Nat → ClassId) (ad : Nat → Nat) (n : Nat) (M : AM) : va_W := (List.range n).map (fun k => (ad k, wc cA ad (M k)))
def aup (M : AM) (k : Nat) (c : AE) : AM := fun j => if j = k then some c else M j
def FA (ad : Nat → Nat) (n : Nat) : Nat → Prop := fun q => ∃ k, k < n ∧ ad k = q
def Wd (D : va_G) (cA : Nat → ClassId) (ad : Nat → Nat) (n : Nat) (M : AM) (H : Heap) : Prop :=
  va_P D vwCl (wl cA ad n M) H ∧ (∀ i j, i < n → j < n → ad i = ad j → i = j) ∧ ∀ k c, M k = some c → k < n
abbrev tysL (cA : Nat → ClassId) : List (ClassId × FieldType) := [(cA 0, .int), (cA 1, .boolean), (cA 2, .object RX2), (cA 3, .object RX6), (cA 4, .array .int)]
def LV (ad : Nat → Nat) (ls : Array Slot) (nL : Nat) (L : List Value) : Prop :=
  ls.size = nL ∧ lv_wf ls ∧ L.length = nL ∧ ∀ (i : Nat) (v : Value), L[i]? = some v → v ≠ Value.retAddr 0 → ls[i]? = some (Slot.val (cv ad v))
def ScOk (sc : Option (Nat × (Nat → Int32))) (ad : Nat → Nat) (n : Nat) (s : State) (H0 : Heap) : Prop :=
  ∀ q, sc = some q → va_X (ad 1000000) q.1 q.2 s H0 ∧ ad 1000000 < H0.size ∧ ¬ FA ad n (ad 1000000)
def Ctx (p : Program) (R : Room) (s : State) (m : MethodId) (args : Array Value) (c : Code) (D : va_G) (cA : Nat → ClassId) (cells slots : Nat) (mr : MR) : Prop :=
  p.tables.exec = Jvm.exec ∧ c.code = mrB mr ∧ c.maxLocals = mrL mr ∧ s.vm.findClass (mrY mr).cls = some m.cls ∧ (∀ w ∈ lwg, w.before args s = true) ∧ va_K D vwCl (tysL cA) s ∧ mrF mr ≤ R.frames ∧ mrW mr ≤ R.locals ∧ TabOk mr ∧ cells ≤ R.cells ∧ slots ≤ R.slots
def RetAt (mr : MR) (pc : Nat) (r : Option Value) : Prop :=
  (r = none ∧ mrR mr = none ∧ decode (mrB mr) pc = .ok (.return_, 1)) ∨ ∃ v ty, r = some (.int v) ∧ mrR mr = some ty ∧ narrow ty (.int v) = .int v ∧ decode (mrB mr) pc = .ok (.ireturn, 1)
def P (sc : Option (Nat × (Nat → Int32))) (mr : MR) (pc : Nat) (L st : List Value) (M : AM) (Q : Option Value → AM → Prop) : Prop :=
  ∀ (p : Program) (l : Launch) (e : Env) (R : Room) (s : State) (m : MethodId) (args : Array Value) (below : List Frame) (meth : Method) (c : Code) (D : va_G) (cA : Nat → ClassId) (ad : Nat → Nat) (n : Nat) (H0 H : Heap) (locs : List Loc) (cells slots : Nat) (ls : Array Slot) (Z : State → Prop),
    Ctx p R s m args c D cA cells slots mr → ScOk sc ad n s H0 → Wd D cA ad n M H → va_S (FA ad n) H0 H locs → LV ad ls (mrL mr) L →
    (∀ (r : Option Value) (M' : AM) (pcr : Nat) (H' : Heap) (locs' : List Loc) (ls' : Array Slot), RetAt mr pcr r → Q r M' → Wd D cA ad n M' H' → va_S (FA ad n) H0 H' locs' → W p l e R s m args below meth c H' locs' cells slots Z (F0 m pcr ls' (r.toList.map (cv ad)))) →
    W p l e R s m args below meth c H locs cells slots Z (F0 m pc ls (st.map (cv ad)))
def C (mr : MR) (vs : List Value) (M : AM) (Q : Option Value → AM → Prop) : Prop :=
  ∀ (l : Launch) (D : va_G) (cA : Nat → ClassId) (ad : Nat → Nat) (n : Nat),
    Met l (mrY mr) (mrWs mr) (mrRm mr) (va_Pc (vs.map (cv ad)) (fun U : State => va_K D vwCl (tysL cA) U ∧ Wd D cA ad n M U.heap))
      (fun (_ : Array Value) (st : State) (oc : Outcome) (t : State) => ∃ (r : Option Value) (M' : AM), oc = Outcome.returned (r.map (cv ad)) ∧ Q r M' ∧ Wd D cA ad n M' t.heap ∧ va_F (FA ad n) st t) 0 0 (FA ad n)
theorem TabOk.dec {mr : MR} (h : TabOk mr) {i pc k : Nat} {x : Instr} (hi : (mrT mr)[i]? = some (pc, x, k)) : decode (mrB mr) pc = .ok (x, k) := h (pc, x, k) (List.mem_of_getElem? hi)
theorem Ctx.dec {p : Program} {R : Room} {s : State} {m : MethodId} {args : Array Value} {c : Code} {D : va_G} {cA : Nat → ClassId} {cells slots : Nat} {mr : MR} (h : Ctx p R s m args c D cA cells slots mr) {i pc k : Nat} {x : Instr} (hi : (mrT mr)[i]? = some (pc, x, k)) : decode (mrB mr) pc = .ok (x, k) := TabOk.dec h.2.2.2.2.2.2.2.2.1 hi
theorem wl_get {cA : Nat → ClassId} {ad : Nat → Nat} {n k : Nat} {M : AM} (h : k < n) : (wl cA ad n M)[k]? = some (ad k, wc cA ad (M k)) := by
  unfold wl
  rw [List.getElem?_map, List.getElem?_range h]
  rfl
theorem wl_len {cA : Nat → ClassId} {ad : Nat → Nat} {n : Nat} {M : AM} : (wl cA ad n M).length = n := by simp [wl]
theorem wl_at {cA : Nat → ClassId} {ad : Nat → Nat} {n k : Nat} {M : AM} {q : Nat × va_E} (h : (wl cA ad n M)[k]? = some q) : k < n ∧ q = (ad k, wc cA ad (M k)) := by
  have hk : k < n := by
    have := (List.getElem?_eq_some_iff.mp h).1
    rw [wl_len] at this
    exact this
  rw [wl_get hk] at h
  exact ⟨hk, (Option.some.inj h).symm⟩
theorem wl_set {cA : Nat → ClassId} {ad : Nat → Nat} {n k : Nat} {M : AM} (h : k < n) (c : AE) : (wl cA ad n M).set k (ad k, wc cA ad (some c)) = wl cA ad n (aup M k c) := by
  apply List.ext_getElem?
  intro i
  by_cases hi : i < n
  · rw [wl_get hi, List.getElem?_set]
    by_cases e : k = i
    · subst e
      rw [if_pos rfl, if_pos (by rw [wl_len]; exact h)]
      simp [aup]
    · rw [if_neg e, wl_get hi]
      have e2 : ¬ i = k := fun q => e q.symm
      unfold aup
      rw [if_neg e2]
  · rw [List.getElem?_eq_none (by rw [List.length_set, wl_len]; omega), List.getElem?_eq_none (by rw [wl_len]; omega)]
theorem Wd.D {D : va_G} {cA : Nat → ClassId} {ad : Nat → Nat} {n : Nat} {M : AM} {H : Heap} (h : Wd D cA ad n M H) : va_D (FA ad n) (wl cA ad n M) := by
  refine ⟨fun i j p q hi hj e => ?_, fun k q hk => ?_⟩
  · obtain ⟨h1, rfl⟩ := wl_at hi
    obtain ⟨h2, rfl⟩ := wl_at hj
    exact h.2.1 i j h1 h2 e
  · obtain ⟨h1, rfl⟩ := wl_at hk
    exact ⟨k, h1, rfl⟩
theorem Wd.put {D : va_G} {cA : Nat → ClassId} {ad : Nat → Nat} {n : Nat} {M : AM} {H H1 : Heap} {k : Nat} {c : AE} (h : Wd D cA ad n M H) (hk : k < n) (hP : va_P D vwCl ((wl cA ad n M).set k (ad k, wc cA ad (some c))) H1) : Wd D cA ad n (aup M k c) H1 := by
  rw [wl_set hk] at hP
  refine ⟨hP, h.2.1, fun j x hx => ?_⟩
  unfold aup at hx
  by_cases e : j = k
  · rw [e]; exact hk
  · rw [if_neg e] at hx
    exact h.2.2 j x hx
theorem LV.lv {ad : Nat → Nat} {ls : Array Slot} {nL : Nat} {L : List Value} (h : LV ad ls nL L) : lv_has ls nL ((List.range nL).filterMap (fun i => match L[i]? with
    | some v => if v = .retAddr 0 then none else some (i, cv ad v)
    | none => none)) := by
  refine ⟨h.1, h.2.1, fun q hq => ?_⟩
  obtain ⟨i, hi, e⟩ := List.mem_filterMap.mp hq
  cases hv : L[i]? with
  | none => rw [hv] at e; cases e
  | some v =>
    rw [hv] at e
    by_cases hz : v = .retAddr 0
    · simp [hz] at e
    · simp [hz] at e
      subst e
      exact h.2.2.2 i v hv hz
theorem cv_cat (ad : Nat → Nat) (v : Value) : (cv ad v).category = v.category := by cases v <;> rfl
theorem cv_sum (ad : Nat → Nat) (st : List Value) : ((st.map (cv ad)).map fun v => v.category).sum = (st.map fun v => v.category).sum := by
  rw [List.map_map]
  congr 1
  apply List.map_congr_left
  intro v _
  exact cv_cat ad v
/-- a store of one word: what is not the word stays; the word below it is no long -/
theorem LV.store {ad : Nat → Nat} {ls ls' : Array Slot} {nL i : Nat} {L : List Value} {v : Value} (h : LV ad ls nL L) (hi : i < nL)
    (hb : ∀ j w, j + 1 = i → L[j]? = some w → w.category ≠ 2)
    (h' : lv_has ls' nL ((i, cv ad v) :: ((List.range nL).filterMap (fun i => match L[i]? with
    | some v => if v = .retAddr 0 then none else some (i, cv ad v)
    | none => none)).filter (fun q => !(q.1 == i) && !(q.1 + 1 == i && q.2.category == 2)))) : LV ad ls' nL (L.set i v) := by
  refine ⟨h'.1, h'.2.1, by rw [List.length_set]; exact h.2.2.1, fun j w hj hw => ?_⟩
  rw [List.getElem?_set] at hj
  by_cases e : i = j
  · subst e
    rw [if_pos rfl, if_pos (by rw [h.2.2.1]; exact hi)] at hj
    obtain rfl := Option.some.inj hj
    exact h'.2.2 (i, cv ad v) List.mem_cons_self
  · rw [if_neg e] at hj
    have hjn : j < nL := by
      have := (List.getElem?_eq_some_iff.mp hj).1
      rw [h.2.2.1] at this
      exact this
    refine h'.2.2 (j, cv ad w) (List.mem_cons_of_mem _ (List.mem_filter.mpr ⟨List.mem_filterMap.mpr ⟨j, List.mem_range.mpr hjn, by rw [hj]; simp [hw]⟩, ?_⟩))
    have h1 : (j == i) = false := beq_eq_false_iff_ne.mpr (by omega)
    by_cases h2 : j + 1 = i
    · have := hb j w h2 hj
      simp [h1, cv_cat, this]
    · simp [h1, h2]
theorem LV.store2 {ad : Nat → Nat} {ls ls' : Array Slot} {nL i : Nat} {L : List Value} {v : Value} (h : LV ad ls nL L) (hi : i + 1 < nL)
    (hb : ∀ j w, j + 1 = i → L[j]? = some w → w.category ≠ 2)
    (h' : lv_has ls' nL ((i, cv ad v) :: ((List.range nL).filterMap (fun i => match L[i]? with
    | some v => if v = .retAddr 0 then none else some (i, cv ad v)
    | none => none)).filter (fun q => !(q.1 == i) && (!(q.1 == i + 1) && !(q.1 + 1 == i && q.2.category == 2))))) : LV ad ls' nL ((L.set i v).set (i + 1) (.retAddr 0)) := by
  refine ⟨h'.1, h'.2.1, by rw [List.length_set, List.length_set]; exact h.2.2.1, fun j w hj hw => ?_⟩
  rw [List.getElem?_set] at hj
  by_cases e1 : i + 1 = j
  · rw [if_pos e1, if_pos (by rw [List.length_set, h.2.2.1]; omega)] at hj
    exact absurd (Option.some.inj hj).symm hw
  · rw [if_neg e1, List.getElem?_set] at hj
    by_cases e : i = j
    · subst e
      rw [if_pos rfl, if_pos (by rw [h.2.2.1]; omega)] at hj
      obtain rfl := Option.some.inj hj
      exact h'.2.2 (i, cv ad v) List.mem_cons_self
    · rw [if_neg e] at hj
      have hjn : j < nL := by
        have := (List.getElem?_eq_some_iff.mp hj).1
        rw [h.2.2.1] at this
        exact this
      refine h'.2.2 (j, cv ad w) (List.mem_cons_of_mem _ (List.mem_filter.mpr ⟨List.mem_filterMap.mpr ⟨j, List.mem_range.mpr hjn, by rw [hj]; simp [hw]⟩, ?_⟩))
      have h1 : (j == i) = false := beq_eq_false_iff_ne.mpr (by omega)
      have h3 : (j == i + 1) = false := beq_eq_false_iff_ne.mpr (by omega)
      by_cases h2 : j + 1 = i
      · have := hb j w h2 hj
        simp [h1, h3, cv_cat, this]
      · simp [h1, h2, h3]
/-- the locals at a method's start -/
def en : Nat → List Value → List Value
  | n, [] => List.replicate n (.retAddr 0)
  | n, v :: vs => if v.category = 2 then v :: .retAddr 0 :: en (n - 2) vs else v :: en (n - 1) vs
theorem en_len : ∀ (vs : List Value) (n : Nat), (lg_sl vs).length ≤ n → (en n vs).length = n
  | [], n, _ => by simp [en]
  | v :: vs, n, h => by
    have e : lg_sl (v :: vs) = (if v.category = 2 then [Slot.val v, .second] else [Slot.val v]) ++ lg_sl vs := by simp [lg_sl]
    rw [e] at h
    unfold en
    by_cases hc : v.category = 2
    · rw [if_pos hc] at h ⊢
      simp only [List.length_append, List.length_cons, List.length_nil] at h
      rw [List.length_cons, List.length_cons, en_len vs (n - 2) (by omega)]
      omega
    · rw [if_neg hc] at h ⊢
      simp only [List.length_append, List.length_cons, List.length_nil] at h
      rw [List.length_cons, en_len vs (n - 1) (by omega)]
      omega
theorem en_args (ad : Nat → Nat) : ∀ (vs : List Value) (n o i : Nat) (v : Value), (en n vs)[i]? = some v → v ≠ .retAddr 0 → (o + i, cv ad v) ∈ lv_args o (vs.map (cv ad))
  | [], n, o, i, v, h, hv => by
    unfold en at h
    rw [List.getElem?_replicate] at h
    split at h
    · exact absurd (Option.some.inj h).symm hv
    · cases h
  | w :: vs, n, o, i, v, h, hv => by
    unfold en at h
    show (o + i, cv ad v) ∈ (o, cv ad w) :: lv_args (if (cv ad w).category = 2 then o + 2 else o + 1) (vs.map (cv ad))
    rw [cv_cat]
    by_cases hc : w.category = 2
    · rw [if_pos hc] at h ⊢
      match i, h with
      | 0, h => obtain rfl : w = v := Option.some.inj h; exact List.mem_cons_self
      | 1, h => exact absurd (Option.some.inj h).symm hv
      | i + 2, h =>
        have := en_args ad vs (n - 2) (o + 2) i v h hv
        rw [show o + (i + 2) = o + 2 + i by omega]
        exact List.mem_cons_of_mem _ this
    · rw [if_neg hc] at h ⊢
      match i, h with
      | 0, h => obtain rfl : w = v := Option.some.inj h; exact List.mem_cons_self
      | i + 1, h =>
        have := en_args ad vs (n - 1) (o + 1) i v h hv
        rw [show o + (i + 1) = o + 1 + i by omega]
        exact List.mem_cons_of_mem _ this
theorem lg_sl_cv (ad : Nat → Nat) (vs : List Value) : (lg_sl (vs.map (cv ad))).length = (lg_sl vs).length := by
  induction vs with
  | nil => rfl
  | cons v vs ih =>
    have e : ∀ (w : Value) (ws : List Value), lg_sl (w :: ws) = (if w.category = 2 then [Slot.val w, .second] else [Slot.val w]) ++ lg_sl ws := by intro w ws; simp [lg_sl]
    rw [List.map_cons, e, e, List.length_append, List.length_append, ih, cv_cat]
    by_cases hc : v.category = 2 <;> simp [hc]
/-- a contract out of a walk -/
theorem C_of {mr : MR} {vs : List Value} {M : AM} {Q : Option Value → AM → Prop} (ht : TabOk mr) (hpl : plainName (mrY mr).cls = true) (hn : (lg_sl vs).length ≤ mrL mr) (h : P none mr 0 (en (mrL mr) vs) [] M Q) : C mr vs M Q := by
  intro l D cA ad n
  refine Met.ofW (cc := mrB mr) (maxL := mrL mr) (ret := mrR mr) hpl rfl ?_
  intro p e s m args below meth c s₁ B hml hv
  obtain ⟨rfl, hK, hW⟩ := hv
  have hts := atoms_spec (ws := mrWs mr) B.pre
  have hown : s.vm.findClass (mrY mr).cls = some m.cls := findClass_of_methodNamed B.named
  have hlocks := B.notSynchronized
  have hr := B.returns
  have hl := lv_entry (vs.map (cv ad)) (n := mrL mr) (by rw [lg_sl_cv]; exact hn)
  rw [lg_entry_eq]
  refine h p l e (headSpec (mrWs mr) (mrRm mr)).room s m _ below meth c D cA ad n s.heap s.heap [] 0 0 _ _ ⟨B.exec, B.bytes, hml, hown, fun w hw => hts w (List.mem_cons_of_mem _ hw), hK, Nat.le_refl _, Nat.le_refl _, ht, Nat.zero_le _, Nat.zero_le _⟩ (fun q hq => by cases hq) hW va_S.rf ⟨hl.1, hl.2.1, en_len vs _ hn, fun i v hi hv => ?_⟩ ?_
  · have := hl.2.2 _ (en_args ad vs (mrL mr) 0 i v hi hv)
    rw [Nat.zero_add] at this
    exact this
  · intro r M' pcr H' locs' ls' hret hq hW' hS'
    rcases hret with ⟨rfl, hrt, hd⟩ | ⟨v, ty, rfl, hrt, hnar, hd⟩
    · exact W.vret B.exec B.bytes (hr.trans hrt) (fun t ht2 hWm => ⟨none, M', rfl, hq, by rw [ht2]; exact hW', hS'.F ht2⟩) hS'.2.2 hd
    · exact W.zret B.exec B.bytes (hr.trans hrt) hnar (fun t ht2 hWm => ⟨some (.int v), M', rfl, hq, by rw [ht2]; exact hW', hS'.F ht2⟩) hS'.2.2 hd
theorem C_mono {mr : MR} {vs : List Value} {M : AM} {Q Q' : Option Value → AM → Prop} (h : C mr vs M Q) (hq : ∀ r M', Q r M' → Q' r M') : C mr vs M Q' := by
  intro l D cA ad n
  have h1 := h l D cA ad n
  intro p e ha hc hk s m args below hf happ hp hx
  obtain ⟨t, o, a1, a2, a3, ⟨r, M', e1, e2, e3⟩, a4⟩ := h1 p e ha hc hk s m args below hf happ hp hx
  exact ⟨t, o, a1, a2, a3, ⟨r, M', e1, hq r M' e2, e3⟩, a4⟩
end
section
abbrev zI (a : Int) : Value := .int (Int32.ofInt a)
abbrev zJ (a : Int) : Value := .long (Int64.ofInt a)
def okS (L : List Value) (i : Nat) : Bool := Nat.blt i L.length && (match i with
  | 0 => true
  | j + 1 => match L[j]? with
    | some w => !(w.category == 2)
    | none => true)
theorem okS_lt {L : List Value} {i : Nat} (h : okS L i = true) : i < L.length := by
  unfold okS at h
  rw [Bool.and_eq_true] at h
  exact Nat.blt_eq.mp h.1
theorem okS_b {L : List Value} {i : Nat} (h : okS L i = true) : ∀ j w, j + 1 = i → L[j]? = some w → w.category ≠ 2 := by
  intro j w e hj
  subst e
  unfold okS at h
  rw [Bool.and_eq_true] at h
  have h2 := h.2
  simp only [hj] at h2
  intro q
  rw [q] at h2
  cases h2
theorem R_min : Int32.minValue.toInt = -2147483648 := by decide
theorem R_max : Int32.maxValue.toInt = 2147483647 := by decide
theorem R_minL : Int64.minValue.toInt = -9223372036854775808 := by decide
theorem R_maxL : Int64.maxValue.toInt = 9223372036854775807 := by decide
theorem zI_lt {a b : Int} (ha : -2147483648 ≤ a ∧ a ≤ 2147483647) (hb : -2147483648 ≤ b ∧ b ≤ 2147483647) : Int32.ofInt a < Int32.ofInt b ↔ a < b := Int32.ofInt_lt_iff_lt (by rw [R_min]; exact ha.1) (by rw [R_max]; exact ha.2) (by rw [R_min]; exact hb.1) (by rw [R_max]; exact hb.2)
theorem zI_le {a b : Int} (ha : -2147483648 ≤ a ∧ a ≤ 2147483647) (hb : -2147483648 ≤ b ∧ b ≤ 2147483647) : Int32.ofInt a ≤ Int32.ofInt b ↔ a ≤ b := Int32.ofInt_le_iff_le (by rw [R_min]; exact ha.1) (by rw [R_max]; exact ha.2) (by rw [R_min]; exact hb.1) (by rw [R_max]; exact hb.2)
theorem zI_eq {a b : Int} (ha : -2147483648 ≤ a ∧ a ≤ 2147483647) (hb : -2147483648 ≤ b ∧ b ≤ 2147483647) : Int32.ofInt a = Int32.ofInt b ↔ a = b := by
  constructor
  · intro h
    have h1 := (zI_le ha hb).mp (by rw [h]; exact Int32.le_refl _)
    have h2 := (zI_le hb ha).mp (by rw [h]; exact Int32.le_refl _)
    omega
  · intro h; rw [h]
theorem zI_0 : Int32.ofInt 0 = 0 := by decide
theorem zI_T {a : Int} (ha : -2147483648 ≤ a ∧ a ≤ 2147483647) : (Int32.ofInt a).toInt = a := Int32.toInt_ofInt_of_le (by omega) (by omega)
theorem zJ_T {a : Int} (ha : -9223372036854775808 ≤ a ∧ a ≤ 9223372036854775807) : (Int64.ofInt a).toInt = a := Int64.toInt_ofInt_of_le (by omega) (by omega)
theorem zI_in {a : Int} {n : Nat} (h : 0 ≤ a ∧ a < n) (hn : n < 2147483648) : vp_in (Int32.ofInt a) n ∧ (Int32.ofInt a).toNatClampNeg = a.toNat := by
  have e : (Int32.ofInt a).toInt = a := zI_T (by omega)
  refine ⟨vp_in_iff.mpr (by rw [e]; exact h), ?_⟩
  show (Int32.ofInt a).toInt.toNat = a.toNat
  rw [e]
theorem zI_div {a b : Int} (ha : 0 ≤ a ∧ a ≤ 2147483647) (hb : 0 < b ∧ b ≤ 2147483647) : Int32.ofInt a / Int32.ofInt b = Int32.ofInt (a / b) := by
  rw [← Int32.ofInt_tdiv (by rw [R_min]; omega) (by rw [R_max]; omega) (by rw [R_min]; omega) (by rw [R_max]; omega), Int.tdiv_eq_ediv_of_nonneg ha.1]
theorem zI_rem {a b : Int} (ha : 0 ≤ a ∧ a ≤ 2147483647) (hb : 0 < b ∧ b ≤ 2147483647) : Int32.ofInt a - Int32.ofInt a / Int32.ofInt b * Int32.ofInt b = Int32.ofInt (a % b) := by
  rw [zI_div ha hb, ← Int32.ofInt_mul, ← Int32.ofInt_sub, Int.emod_def, Int.mul_comm]
theorem zJ_div {a b : Int} (ha : 0 ≤ a ∧ a ≤ 9223372036854775807) (hb : 0 < b ∧ b ≤ 9223372036854775807) : Int64.ofInt a / Int64.ofInt b = Int64.ofInt (a / b) := by
  rw [← Int64.ofInt_tdiv (by rw [R_minL]; omega) (by rw [R_maxL]; omega) (by rw [R_minL]; omega) (by rw [R_maxL]; omega), Int.tdiv_eq_ediv_of_nonneg ha.1]
theorem zJ_rem {a b : Int} (ha : 0 ≤ a ∧ a ≤ 9223372036854775807) (hb : 0 < b ∧ b ≤ 9223372036854775807) : Int64.ofInt a - Int64.ofInt a / Int64.ofInt b * Int64.ofInt b = Int64.ofInt (a % b) := by
  rw [zJ_div ha hb, ← Int64.ofInt_mul, ← Int64.ofInt_sub, Int.emod_def, Int.mul_comm]
theorem zI_ne0 {a : Int} (h : a ≠ 0) (ha : -2147483648 ≤ a ∧ a ≤ 2147483647) : ¬ Int32.ofInt a = 0 := by
  rw [← zI_0, zI_eq ha (by omega)]; exact h
theorem zJ_ne0 {a : Int} (h : a ≠ 0) (ha : -9223372036854775808 ≤ a ∧ a ≤ 9223372036854775807) : ¬ Int64.ofInt a = 0 := by
  intro q
  have := congrArg Int64.toInt q
  rw [zJ_T ha] at this
  exact h this
theorem zI_2l {a : Int} (ha : -2147483648 ≤ a ∧ a ≤ 2147483647) : (Int32.ofInt a).toInt64 = Int64.ofInt a := by
  apply Int64.toInt_inj.mp
  rw [zJ_T (by omega), Int32.toInt_toInt64, zI_T ha]
theorem zJ_2i {a : Int} : (Int64.ofInt a).toInt32 = Int32.ofInt a := Int64.toInt32_ofInt
def cmpZ (a b : Int) : Int := if b < a then 1 else if a = b then 0 else -1
theorem zJ_cmp {a b : Int} (ha : -9223372036854775808 ≤ a ∧ a ≤ 9223372036854775807) (hb : -9223372036854775808 ≤ b ∧ b ≤ 9223372036854775807) : lg_cmp (Int64.ofInt a) (Int64.ofInt b) = Int32.ofInt (cmpZ a b) := by
  have e1 : (Int64.ofInt b < Int64.ofInt a) ↔ b < a := by rw [Int64.lt_iff_toInt_lt, zJ_T ha, zJ_T hb]
  have e2 : (Int64.ofInt a = Int64.ofInt b) ↔ a = b := by rw [← Int64.toInt_inj, zJ_T ha, zJ_T hb]
  unfold lg_cmp cmpZ
  simp only [gt_iff_lt, e1, e2]
  split
  · rfl
  · split <;> rfl
section PR
variable {sc : Option (Nat × (Nat → Int32))} {mr : MR} {pc : Nat} {L st : List Value} {M : AM} {Q : Option Value → AM → Prop}
theorem p_iconst {i : Nat} {a : Int} (hi : (mrT mr)[i]? = some (pc, .iconst a, 1)) (h : P sc mr (pc + 1) L (zI a :: st) M Q) : P sc mr pc L st M Q := by
  intro p l e R s m args below meth c D cA ad n H0 H locs cells slots ls Z hC hsc hW hS hL hk
  have h1 := h p l e R s m args below meth c D cA ad n H0 H locs cells slots ls Z hC hsc hW hS hL hk
  exact lv_iconst hC.1 hC.2.1 (hC.dec hi) rfl h1
theorem p_bipush {i : Nat} {a : Int} (hi : (mrT mr)[i]? = some (pc, .bipush a, 2)) (ha : (Int8.ofInt a).toInt32 = Int32.ofInt a) (h : P sc mr (pc + 2) L (zI a :: st) M Q) : P sc mr pc L st M Q := by
  intro p l e R s m args below meth c D cA ad n H0 H locs cells slots ls Z hC hsc hW hS hL hk
  have h1 := h p l e R s m args below meth c D cA ad n H0 H locs cells slots ls Z hC hsc hW hS hL hk
  exact lv_bipush hC.1 hC.2.1 (hC.dec hi) ha h1
theorem p_sipush {i : Nat} {a : Int} (hi : (mrT mr)[i]? = some (pc, .sipush a, 3)) (ha : (Int16.ofInt a).toInt32 = Int32.ofInt a) (h : P sc mr (pc + 3) L (zI a :: st) M Q) : P sc mr pc L st M Q := by
  intro p l e R s m args below meth c D cA ad n H0 H locs cells slots ls Z hC hsc hW hS hL hk
  have h1 := h p l e R s m args below meth c D cA ad n H0 H locs cells slots ls Z hC hsc hW hS hL hk
  exact lv_sipush hC.1 hC.2.1 (hC.dec hi) ha h1
theorem p_lconst {i : Nat} {a : Fin 2} (hi : (mrT mr)[i]? = some (pc, .lconst a, 1)) (h : P sc mr (pc + 1) L (zJ ((a : Nat) : Int) :: st) M Q) : P sc mr pc L st M Q := by
  intro p l e R s m args below meth c D cA ad n H0 H locs cells slots ls Z hC hsc hW hS hL hk
  have h1 := h p l e R s m args below meth c D cA ad n H0 H locs cells slots ls Z hC hsc hW hS hL hk
  exact lv_lconst hC.1 hC.2.1 (hC.dec hi) (by rw [Int64.ofInt_eq_ofNat]) h1
theorem p_ldc {i : Nat} {k : Nat} {a : Int} (hi : (mrT mr)[i]? = some (pc, .ldc k, 2)) (hw : Jvm.Cond.constant (mrY mr).cls k (Int32.ofInt a) ∈ lwg) (h : P sc mr (pc + 2) L (zI a :: st) M Q) : P sc mr pc L st M Q := by
  intro p l e R s m args below meth c D cA ad n H0 H locs cells slots ls Z hC hsc hW hS hL hk
  have h1 := h p l e R s m args below meth c D cA ad n H0 H locs cells slots ls Z hC hsc hW hS hL hk
  exact lv_ldc hC.1 hC.2.1 hC.2.2.2.1 (hC.2.2.2.2.1 _ hw) (hC.dec hi) h1
theorem p_ldcw {i : Nat} {k : Nat} {a : Int} (hi : (mrT mr)[i]? = some (pc, .ldc_w k, 3)) (hw : Jvm.Cond.constant (mrY mr).cls k (Int32.ofInt a) ∈ lwg) (h : P sc mr (pc + 3) L (zI a :: st) M Q) : P sc mr pc L st M Q := by
  intro p l e R s m args below meth c D cA ad n H0 H locs cells slots ls Z hC hsc hW hS hL hk
  have h1 := h p l e R s m args below meth c D cA ad n H0 H locs cells slots ls Z hC hsc hW hS hL hk
  exact lv_ldcw hC.1 hC.2.1 hC.2.2.2.1 (hC.2.2.2.2.1 _ hw) (hC.dec hi) h1
theorem p_ldc2 {i : Nat} {k : Nat} {a : Int} (hi : (mrT mr)[i]? = some (pc, .ldc2_w k, 3)) (hw : Jvm.Cond.constantLong (mrY mr).cls k (Int64.ofInt a) ∈ lwg) (h : P sc mr (pc + 3) L (zJ a :: st) M Q) : P sc mr pc L st M Q := by
  intro p l e R s m args below meth c D cA ad n H0 H locs cells slots ls Z hC hsc hW hS hL hk
  have h1 := h p l e R s m args below meth c D cA ad n H0 H locs cells slots ls Z hC hsc hW hS hL hk
  exact lv_ldc2 hC.1 hC.2.1 hC.2.2.2.1 (hC.2.2.2.2.1 _ hw) (hC.dec hi) h1
theorem p_iload {i : Nat} {k : Nat} {x : Int32} (hi : (mrT mr)[i]? = some (pc, .iload k, 2)) (hv : L[k]? = some (.int x)) (h : P sc mr (pc + 2) L (.int x :: st) M Q) : P sc mr pc L st M Q := by
  intro p l e R s m args below meth c D cA ad n H0 H locs cells slots ls Z hC hsc hW hS hL hk
  have h1 := h p l e R s m args below meth c D cA ad n H0 H locs cells slots ls Z hC hsc hW hS hL hk
  exact lv_iload hC.1 hC.2.1 (hC.dec hi) (hL.2.2.2 k (.int x) hv (fun q => by cases q)) h1
theorem p_iload_n {i : Nat} {k : Fin 4} {x : Int32} (hi : (mrT mr)[i]? = some (pc, .iload_n k, 1)) (hv : L[(k : Nat)]? = some (.int x)) (h : P sc mr (pc + 1) L (.int x :: st) M Q) : P sc mr pc L st M Q := by
  intro p l e R s m args below meth c D cA ad n H0 H locs cells slots ls Z hC hsc hW hS hL hk
  have h1 := h p l e R s m args below meth c D cA ad n H0 H locs cells slots ls Z hC hsc hW hS hL hk
  exact lv_iload_n hC.1 hC.2.1 (hC.dec hi) rfl (hL.2.2.2 k (.int x) hv (fun q => by cases q)) h1
theorem p_lload {i : Nat} {k : Nat} {x : Int64} (hi : (mrT mr)[i]? = some (pc, .lload k, 2)) (hv : L[k]? = some (.long x)) (h : P sc mr (pc + 2) L (.long x :: st) M Q) : P sc mr pc L st M Q := by
  intro p l e R s m args below meth c D cA ad n H0 H locs cells slots ls Z hC hsc hW hS hL hk
  have h1 := h p l e R s m args below meth c D cA ad n H0 H locs cells slots ls Z hC hsc hW hS hL hk
  exact lv_lload hC.1 hC.2.1 (hC.dec hi) (hL.2.2.2 k (.long x) hv (fun q => by cases q)) h1
theorem p_lload_n {i : Nat} {k : Fin 4} {x : Int64} (hi : (mrT mr)[i]? = some (pc, .lload_n k, 1)) (hv : L[(k : Nat)]? = some (.long x)) (h : P sc mr (pc + 1) L (.long x :: st) M Q) : P sc mr pc L st M Q := by
  intro p l e R s m args below meth c D cA ad n H0 H locs cells slots ls Z hC hsc hW hS hL hk
  have h1 := h p l e R s m args below meth c D cA ad n H0 H locs cells slots ls Z hC hsc hW hS hL hk
  exact lv_lload_n hC.1 hC.2.1 (hC.dec hi) rfl (hL.2.2.2 k (.long x) hv (fun q => by cases q)) h1
theorem p_aload {i : Nat} {k : Nat} {x : Nat} (hi : (mrT mr)[i]? = some (pc, .aload k, 2)) (hv : L[k]? = some (.ref x)) (h : P sc mr (pc + 2) L (.ref x :: st) M Q) : P sc mr pc L st M Q := by
  intro p l e R s m args below meth c D cA ad n H0 H locs cells slots ls Z hC hsc hW hS hL hk
  have h1 := h p l e R s m args below meth c D cA ad n H0 H locs cells slots ls Z hC hsc hW hS hL hk
  exact lv_aload hC.1 hC.2.1 (hC.dec hi) (hL.2.2.2 k (.ref x) hv (fun q => by cases q)) h1
theorem p_aload_n {i : Nat} {k : Fin 4} {x : Nat} (hi : (mrT mr)[i]? = some (pc, .aload_n k, 1)) (hv : L[(k : Nat)]? = some (.ref x)) (h : P sc mr (pc + 1) L (.ref x :: st) M Q) : P sc mr pc L st M Q := by
  intro p l e R s m args below meth c D cA ad n H0 H locs cells slots ls Z hC hsc hW hS hL hk
  have h1 := h p l e R s m args below meth c D cA ad n H0 H locs cells slots ls Z hC hsc hW hS hL hk
  exact lv_aload_n hC.1 hC.2.1 (hC.dec hi) rfl (hL.2.2.2 k (.ref x) hv (fun q => by cases q)) h1
theorem p_istore {i : Nat} {k : Nat} {x : Int32} (hi : (mrT mr)[i]? = some (pc, .istore k, 2)) (hb : okS L k = true) (h : P sc mr (pc + 2) (L.set k (.int x)) st M Q) : P sc mr pc L (.int x :: st) M Q := by
  intro p l e R s m args below meth c D cA ad n H0 H locs cells slots ls Z hC hsc hW hS hL hk
  exact lv_istore hC.1 hC.2.1 (hC.dec hi) hL.lv (by rw [← hL.2.2.1]; exact okS_lt hb) rfl (fun ls' hl' => h p l e R s m args below meth c D cA ad n H0 H locs cells slots ls' Z hC hsc hW hS (LV.store hL (by rw [← hL.2.2.1]; exact okS_lt hb) (okS_b hb) hl') hk)
theorem p_istore_n {i : Nat} {k : Fin 4} {x : Int32} (hi : (mrT mr)[i]? = some (pc, .istore_n k, 1)) (hb : okS L (k : Nat) = true) (h : P sc mr (pc + 1) (L.set (k : Nat) (.int x)) st M Q) : P sc mr pc L (.int x :: st) M Q := by
  intro p l e R s m args below meth c D cA ad n H0 H locs cells slots ls Z hC hsc hW hS hL hk
  exact lv_istore_n hC.1 hC.2.1 (hC.dec hi) rfl hL.lv (by rw [← hL.2.2.1]; exact okS_lt hb) rfl (fun ls' hl' => h p l e R s m args below meth c D cA ad n H0 H locs cells slots ls' Z hC hsc hW hS (LV.store hL (by rw [← hL.2.2.1]; exact okS_lt hb) (okS_b hb) hl') hk)
theorem p_lstore {i : Nat} {k : Nat} {x : Int64} (hi : (mrT mr)[i]? = some (pc, .lstore k, 2)) (hb : okS L k = true) (hb2 : Nat.blt (k + 1) L.length = true) (h : P sc mr (pc + 2) ((L.set k (.long x)).set (k + 1) (.retAddr 0)) st M Q) : P sc mr pc L (.long x :: st) M Q := by
  intro p l e R s m args below meth c D cA ad n H0 H locs cells slots ls Z hC hsc hW hS hL hk
  exact lv_lstore hC.1 hC.2.1 (hC.dec hi) hL.lv (by rw [← hL.2.2.1]; exact Nat.blt_eq.mp hb2) rfl (fun ls' hl' => h p l e R s m args below meth c D cA ad n H0 H locs cells slots ls' Z hC hsc hW hS (LV.store2 hL (by rw [← hL.2.2.1]; exact Nat.blt_eq.mp hb2) (okS_b hb) hl') hk)
theorem p_lstore_n {i : Nat} {k : Fin 4} {x : Int64} (hi : (mrT mr)[i]? = some (pc, .lstore_n k, 1)) (hb : okS L (k : Nat) = true) (hb2 : Nat.blt ((k : Nat) + 1) L.length = true) (h : P sc mr (pc + 1) ((L.set (k : Nat) (.long x)).set ((k : Nat) + 1) (.retAddr 0)) st M Q) : P sc mr pc L (.long x :: st) M Q := by
  intro p l e R s m args below meth c D cA ad n H0 H locs cells slots ls Z hC hsc hW hS hL hk
  exact lv_lstore_n hC.1 hC.2.1 (hC.dec hi) rfl hL.lv (by rw [← hL.2.2.1]; exact Nat.blt_eq.mp hb2) rfl (fun ls' hl' => h p l e R s m args below meth c D cA ad n H0 H locs cells slots ls' Z hC hsc hW hS (LV.store2 hL (by rw [← hL.2.2.1]; exact Nat.blt_eq.mp hb2) (okS_b hb) hl') hk)
theorem p_astore_n {i : Nat} {k : Fin 4} {x : Nat} (hi : (mrT mr)[i]? = some (pc, .astore_n k, 1)) (hb : okS L (k : Nat) = true) (h : P sc mr (pc + 1) (L.set (k : Nat) (.ref x)) st M Q) : P sc mr pc L (.ref x :: st) M Q := by
  intro p l e R s m args below meth c D cA ad n H0 H locs cells slots ls Z hC hsc hW hS hL hk
  exact lv_astore_n hC.1 hC.2.1 (hC.dec hi) rfl hL.lv (by rw [← hL.2.2.1]; exact okS_lt hb) rfl (fun ls' hl' => h p l e R s m args below meth c D cA ad n H0 H locs cells slots ls' Z hC hsc hW hS (LV.store hL (by rw [← hL.2.2.1]; exact okS_lt hb) (okS_b hb) hl') hk)
theorem LV.pos {ad : Nat → Nat} {ls : Array Slot} {nL k : Nat} {L : List Value} {v : Value} (h : LV ad ls nL L) (hv : L[k]? = some v) (h0 : v ≠ .retAddr 0) : ∃ j : Nat, ((List.range nL).filterMap (fun i => match L[i]? with
    | some v => if v = .retAddr 0 then none else some (i, cv ad v)
    | none => none))[j]? = some (k, cv ad v) := by
  have hk : k < nL := by
    have := (List.getElem?_eq_some_iff.mp hv).1
    rw [h.2.2.1] at this
    exact this
  exact List.getElem?_of_mem (List.mem_filterMap.mpr ⟨k, List.mem_range.mpr hk, by rw [hv]; simp [h0]⟩)
theorem p_iinc {i : Nat} {k : Nat} {d a : Int} (hi : (mrT mr)[i]? = some (pc, .iinc k d, 3)) (hv : L[k]? = some (zI a)) (hb : okS L k = true) (h : P sc mr (pc + 3) (L.set k (zI (a + d))) st M Q) : P sc mr pc L st M Q := by
  intro p l e R s m args below meth c D cA ad n H0 H locs cells slots ls Z hC hsc hW hS hL hk
  obtain ⟨j, hj⟩ := hL.pos hv (fun q => by cases q)
  exact lv_iinc hC.1 hC.2.1 (hC.dec hi) hL.lv hj (Int32.ofInt_add a d).symm (by rw [← hL.2.2.1]; exact okS_lt hb) rfl (fun ls' hl' => h p l e R s m args below meth c D cA ad n H0 H locs cells slots ls' Z hC hsc hW hS (LV.store hL (by rw [← hL.2.2.1]; exact okS_lt hb) (okS_b hb) hl') hk)
theorem p_iadd {i : Nat} {a b : Int} (hi : (mrT mr)[i]? = some (pc, .iadd, 1)) (h : P sc mr (pc + 1) L (zI (a + b) :: st) M Q) : P sc mr pc L (zI b :: zI a :: st) M Q := by
  intro p l e R s m args below meth c D cA ad n H0 H locs cells slots ls Z hC hsc hW hS hL hk
  have h1 := h p l e R s m args below meth c D cA ad n H0 H locs cells slots ls Z hC hsc hW hS hL hk
  exact lv_iadd hC.1 hC.2.1 (hC.dec hi) (by rw [← Int32.ofInt_add a b]; exact h1)
theorem p_isub {i : Nat} {a b : Int} (hi : (mrT mr)[i]? = some (pc, .isub, 1)) (h : P sc mr (pc + 1) L (zI (a - b) :: st) M Q) : P sc mr pc L (zI b :: zI a :: st) M Q := by
  intro p l e R s m args below meth c D cA ad n H0 H locs cells slots ls Z hC hsc hW hS hL hk
  have h1 := h p l e R s m args below meth c D cA ad n H0 H locs cells slots ls Z hC hsc hW hS hL hk
  exact lv_isub hC.1 hC.2.1 (hC.dec hi) (by rw [← Int32.ofInt_sub a b]; exact h1)
theorem p_imul {i : Nat} {a b : Int} (hi : (mrT mr)[i]? = some (pc, .imul, 1)) (h : P sc mr (pc + 1) L (zI (a * b) :: st) M Q) : P sc mr pc L (zI b :: zI a :: st) M Q := by
  intro p l e R s m args below meth c D cA ad n H0 H locs cells slots ls Z hC hsc hW hS hL hk
  have h1 := h p l e R s m args below meth c D cA ad n H0 H locs cells slots ls Z hC hsc hW hS hL hk
  exact lv_imul hC.1 hC.2.1 (hC.dec hi) (by rw [← Int32.ofInt_mul a b]; exact h1)
theorem p_idiv {i : Nat} {a b : Int} (hi : (mrT mr)[i]? = some (pc, .idiv, 1)) (ha : 0 ≤ a ∧ a ≤ 2147483647) (hb : 0 < b ∧ b ≤ 2147483647) (h : P sc mr (pc + 1) L (zI (a / b) :: st) M Q) : P sc mr pc L (zI b :: zI a :: st) M Q := by
  intro p l e R s m args below meth c D cA ad n H0 H locs cells slots ls Z hC hsc hW hS hL hk
  have h1 := h p l e R s m args below meth c D cA ad n H0 H locs cells slots ls Z hC hsc hW hS hL hk
  exact lv_idiv hC.1 hC.2.1 (hC.dec hi) (zI_ne0 (by omega) (by omega)) (by rw [zI_div ha hb]; exact h1)
theorem p_irem {i : Nat} {a b : Int} (hi : (mrT mr)[i]? = some (pc, .irem, 1)) (ha : 0 ≤ a ∧ a ≤ 2147483647) (hb : 0 < b ∧ b ≤ 2147483647) (h : P sc mr (pc + 1) L (zI (a % b) :: st) M Q) : P sc mr pc L (zI b :: zI a :: st) M Q := by
  intro p l e R s m args below meth c D cA ad n H0 H locs cells slots ls Z hC hsc hW hS hL hk
  have h1 := h p l e R s m args below meth c D cA ad n H0 H locs cells slots ls Z hC hsc hW hS hL hk
  exact lv_irem hC.1 hC.2.1 (hC.dec hi) (zI_ne0 (by omega) (by omega)) (by rw [zI_rem ha hb]; exact h1)
theorem p_iand {i : Nat} {x y : Int32} (hi : (mrT mr)[i]? = some (pc, .iand, 1)) (h : P sc mr (pc + 1) L (.int (x &&& y) :: st) M Q) : P sc mr pc L (.int y :: .int x :: st) M Q := by
  intro p l e R s m args below meth c D cA ad n H0 H locs cells slots ls Z hC hsc hW hS hL hk
  have h1 := h p l e R s m args below meth c D cA ad n H0 H locs cells slots ls Z hC hsc hW hS hL hk
  exact lv_iand hC.1 hC.2.1 (hC.dec hi) h1
theorem p_ior {i : Nat} {x y : Int32} (hi : (mrT mr)[i]? = some (pc, .ior, 1)) (h : P sc mr (pc + 1) L (.int (x ||| y) :: st) M Q) : P sc mr pc L (.int y :: .int x :: st) M Q := by
  intro p l e R s m args below meth c D cA ad n H0 H locs cells slots ls Z hC hsc hW hS hL hk
  have h1 := h p l e R s m args below meth c D cA ad n H0 H locs cells slots ls Z hC hsc hW hS hL hk
  exact lv_ior hC.1 hC.2.1 (hC.dec hi) h1
theorem p_ishl {i : Nat} {x y : Int32} (hi : (mrT mr)[i]? = some (pc, .ishl, 1)) (h : P sc mr (pc + 1) L (.int (x <<< (y &&& 31)) :: st) M Q) : P sc mr pc L (.int y :: .int x :: st) M Q := by
  intro p l e R s m args below meth c D cA ad n H0 H locs cells slots ls Z hC hsc hW hS hL hk
  have h1 := h p l e R s m args below meth c D cA ad n H0 H locs cells slots ls Z hC hsc hW hS hL hk
  exact lv_ishl hC.1 hC.2.1 (hC.dec hi) h1
theorem p_ishr {i : Nat} {x y : Int32} (hi : (mrT mr)[i]? = some (pc, .ishr, 1)) (h : P sc mr (pc + 1) L (.int (x >>> (y &&& 31)) :: st) M Q) : P sc mr pc L (.int y :: .int x :: st) M Q := by
  intro p l e R s m args below meth c D cA ad n H0 H locs cells slots ls Z hC hsc hW hS hL hk
  have h1 := h p l e R s m args below meth c D cA ad n H0 H locs cells slots ls Z hC hsc hW hS hL hk
  exact lv_ishr hC.1 hC.2.1 (hC.dec hi) h1
theorem p_iushr {i : Nat} {x y : Int32} (hi : (mrT mr)[i]? = some (pc, .iushr, 1)) (h : P sc mr (pc + 1) L (.int ((x.toUInt32 >>> (y.toUInt32 &&& Int32.toUInt32 31)).toInt32) :: st) M Q) : P sc mr pc L (.int y :: .int x :: st) M Q := by
  intro p l e R s m args below meth c D cA ad n H0 H locs cells slots ls Z hC hsc hW hS hL hk
  have h1 := h p l e R s m args below meth c D cA ad n H0 H locs cells slots ls Z hC hsc hW hS hL hk
  exact lv_iushr hC.1 hC.2.1 (hC.dec hi) rfl h1
theorem p_iadd32 {i : Nat} {x y : Int32} (hi : (mrT mr)[i]? = some (pc, .iadd, 1)) (h : P sc mr (pc + 1) L (.int (x + y) :: st) M Q) : P sc mr pc L (.int y :: .int x :: st) M Q := by
  intro p l e R s m args below meth c D cA ad n H0 H locs cells slots ls Z hC hsc hW hS hL hk
  have h1 := h p l e R s m args below meth c D cA ad n H0 H locs cells slots ls Z hC hsc hW hS hL hk
  exact lv_iadd hC.1 hC.2.1 (hC.dec hi) h1
theorem p_isub32 {i : Nat} {x y : Int32} (hi : (mrT mr)[i]? = some (pc, .isub, 1)) (h : P sc mr (pc + 1) L (.int (x - y) :: st) M Q) : P sc mr pc L (.int y :: .int x :: st) M Q := by
  intro p l e R s m args below meth c D cA ad n H0 H locs cells slots ls Z hC hsc hW hS hL hk
  have h1 := h p l e R s m args below meth c D cA ad n H0 H locs cells slots ls Z hC hsc hW hS hL hk
  exact lv_isub hC.1 hC.2.1 (hC.dec hi) h1
theorem p_ladd {i : Nat} {a b : Int} (hi : (mrT mr)[i]? = some (pc, .ladd, 1)) (h : P sc mr (pc + 1) L (zJ (a + b) :: st) M Q) : P sc mr pc L (zJ b :: zJ a :: st) M Q := by
  intro p l e R s m args below meth c D cA ad n H0 H locs cells slots ls Z hC hsc hW hS hL hk
  have h1 := h p l e R s m args below meth c D cA ad n H0 H locs cells slots ls Z hC hsc hW hS hL hk
  exact lv_ladd hC.1 hC.2.1 (hC.dec hi) (by rw [← Int64.ofInt_add a b]; exact h1)
theorem p_lmul {i : Nat} {a b : Int} (hi : (mrT mr)[i]? = some (pc, .lmul, 1)) (h : P sc mr (pc + 1) L (zJ (a * b) :: st) M Q) : P sc mr pc L (zJ b :: zJ a :: st) M Q := by
  intro p l e R s m args below meth c D cA ad n H0 H locs cells slots ls Z hC hsc hW hS hL hk
  have h1 := h p l e R s m args below meth c D cA ad n H0 H locs cells slots ls Z hC hsc hW hS hL hk
  exact lv_lmul hC.1 hC.2.1 (hC.dec hi) (by rw [← Int64.ofInt_mul a b]; exact h1)
theorem p_ldiv {i : Nat} {a b : Int} (hi : (mrT mr)[i]? = some (pc, .ldiv, 1)) (ha : 0 ≤ a ∧ a ≤ 9223372036854775807) (hb : 0 < b ∧ b ≤ 9223372036854775807) (h : P sc mr (pc + 1) L (zJ (a / b) :: st) M Q) : P sc mr pc L (zJ b :: zJ a :: st) M Q := by
  intro p l e R s m args below meth c D cA ad n H0 H locs cells slots ls Z hC hsc hW hS hL hk
  have h1 := h p l e R s m args below meth c D cA ad n H0 H locs cells slots ls Z hC hsc hW hS hL hk
  exact lv_ldiv hC.1 hC.2.1 (hC.dec hi) (zJ_ne0 (by omega) (by omega)) (by rw [zJ_div ha hb]; exact h1)
theorem p_lrem {i : Nat} {a b : Int} (hi : (mrT mr)[i]? = some (pc, .lrem, 1)) (ha : 0 ≤ a ∧ a ≤ 9223372036854775807) (hb : 0 < b ∧ b ≤ 9223372036854775807) (h : P sc mr (pc + 1) L (zJ (a % b) :: st) M Q) : P sc mr pc L (zJ b :: zJ a :: st) M Q := by
  intro p l e R s m args below meth c D cA ad n H0 H locs cells slots ls Z hC hsc hW hS hL hk
  have h1 := h p l e R s m args below meth c D cA ad n H0 H locs cells slots ls Z hC hsc hW hS hL hk
  exact lv_lrem hC.1 hC.2.1 (hC.dec hi) (zJ_ne0 (by omega) (by omega)) (by rw [zJ_rem ha hb]; exact h1)
theorem p_lcmp {i : Nat} {a b : Int} (hi : (mrT mr)[i]? = some (pc, .lcmp, 1)) (ha : -9223372036854775808 ≤ a ∧ a ≤ 9223372036854775807) (hb : -9223372036854775808 ≤ b ∧ b ≤ 9223372036854775807) (h : P sc mr (pc + 1) L (zI (cmpZ a b) :: st) M Q) : P sc mr pc L (zJ b :: zJ a :: st) M Q := by
  intro p l e R s m args below meth c D cA ad n H0 H locs cells slots ls Z hC hsc hW hS hL hk
  have h1 := h p l e R s m args below meth c D cA ad n H0 H locs cells slots ls Z hC hsc hW hS hL hk
  exact W.lcmp hC.1 hC.2.1 (hC.dec hi) (by rw [zJ_cmp ha hb]; exact h1)
theorem p_i2l {i : Nat} {a : Int} (hi : (mrT mr)[i]? = some (pc, .i2l, 1)) (ha : -2147483648 ≤ a ∧ a ≤ 2147483647) (h : P sc mr (pc + 1) L (zJ a :: st) M Q) : P sc mr pc L (zI a :: st) M Q := by
  intro p l e R s m args below meth c D cA ad n H0 H locs cells slots ls Z hC hsc hW hS hL hk
  have h1 := h p l e R s m args below meth c D cA ad n H0 H locs cells slots ls Z hC hsc hW hS hL hk
  exact lv_i2l hC.1 hC.2.1 (hC.dec hi) (zI_2l ha) h1
theorem p_l2i {i : Nat} {a : Int} (hi : (mrT mr)[i]? = some (pc, .l2i, 1)) (h : P sc mr (pc + 1) L (zI a :: st) M Q) : P sc mr pc L (zJ a :: st) M Q := by
  intro p l e R s m args below meth c D cA ad n H0 H locs cells slots ls Z hC hsc hW hS hL hk
  have h1 := h p l e R s m args below meth c D cA ad n H0 H locs cells slots ls Z hC hsc hW hS hL hk
  exact lv_l2i hC.1 hC.2.1 (hC.dec hi) zJ_2i h1
theorem p_dup {i : Nat} {v : Value} (hi : (mrT mr)[i]? = some (pc, .dup, 1)) (hv : v.category = 1) (h : P sc mr (pc + 1) L (v :: v :: st) M Q) : P sc mr pc L (v :: st) M Q := by
  intro p l e R s m args below meth c D cA ad n H0 H locs cells slots ls Z hC hsc hW hS hL hk
  have h1 := h p l e R s m args below meth c D cA ad n H0 H locs cells slots ls Z hC hsc hW hS hL hk
  exact lv_dup hC.1 hC.2.1 (hC.dec hi) ((cv_cat ad v).trans hv) h1
theorem p_pop {i : Nat} {v : Value} (hi : (mrT mr)[i]? = some (pc, .pop, 1)) (hv : v.category = 1) (h : P sc mr (pc + 1) L st M Q) : P sc mr pc L (v :: st) M Q := by
  intro p l e R s m args below meth c D cA ad n H0 H locs cells slots ls Z hC hsc hW hS hL hk
  have h1 := h p l e R s m args below meth c D cA ad n H0 H locs cells slots ls Z hC hsc hW hS hL hk
  exact lv_pop hC.1 hC.2.1 (hC.dec hi) ((cv_cat ad v).trans hv) h1
theorem p_dup2 {i : Nat} {v w : Value} (hi : (mrT mr)[i]? = some (pc, .dup2, 1)) (hv : v.category = 1) (hw : w.category = 1) (h : P sc mr (pc + 1) L (v :: w :: v :: w :: st) M Q) : P sc mr pc L (v :: w :: st) M Q := by
  intro p l e R s m args below meth c D cA ad n H0 H locs cells slots ls Z hC hsc hW hS hL hk
  have h1 := h p l e R s m args below meth c D cA ad n H0 H locs cells slots ls Z hC hsc hW hS hL hk
  exact lv_dup2_11 hC.1 hC.2.1 (hC.dec hi) ((cv_cat ad v).trans hv) ((cv_cat ad w).trans hw) h1
theorem p_icmp_eq {i : Nat} {a b off : Int} (tgt : Nat) (hi : (mrT mr)[i]? = some (pc, .if_icmp .eq off, 3)) (ht : (pc : Int) + off = (tgt : Int)) (ha : -2147483648 ≤ a ∧ a ≤ 2147483647) (hb : -2147483648 ≤ b ∧ b ≤ 2147483647) (kt : a = b → P sc mr tgt L st M Q) (kf : ¬ (a = b) → P sc mr (pc + 3) L st M Q) : P sc mr pc L (zI b :: zI a :: st) M Q := by
  intro p l e R s m args below meth c D cA ad n H0 H locs cells slots ls Z hC hsc hW hS hL hk
  exact lv_icmp_eq hC.1 hC.2.1 (hC.dec hi) ht (fun q => kt ((zI_eq ha hb).mp q) p l e R s m args below meth c D cA ad n H0 H locs cells slots ls Z hC hsc hW hS hL hk) (fun q => kf (fun w => q ((zI_eq ha hb).mpr w)) p l e R s m args below meth c D cA ad n H0 H locs cells slots ls Z hC hsc hW hS hL hk)
theorem p_icmp_ne {i : Nat} {a b off : Int} (tgt : Nat) (hi : (mrT mr)[i]? = some (pc, .if_icmp .ne off, 3)) (ht : (pc : Int) + off = (tgt : Int)) (ha : -2147483648 ≤ a ∧ a ≤ 2147483647) (hb : -2147483648 ≤ b ∧ b ≤ 2147483647) (kt : ¬ a = b → P sc mr tgt L st M Q) (kf : a = b → P sc mr (pc + 3) L st M Q) : P sc mr pc L (zI b :: zI a :: st) M Q := by
  intro p l e R s m args below meth c D cA ad n H0 H locs cells slots ls Z hC hsc hW hS hL hk
  exact lv_icmp_ne hC.1 hC.2.1 (hC.dec hi) ht (fun q => kt (fun w => q ((zI_eq ha hb).mpr w)) p l e R s m args below meth c D cA ad n H0 H locs cells slots ls Z hC hsc hW hS hL hk) (fun q => kf ((zI_eq ha hb).mp q) p l e R s m args below meth c D cA ad n H0 H locs cells slots ls Z hC hsc hW hS hL hk)
theorem p_icmp_lt {i : Nat} {a b off : Int} (tgt : Nat) (hi : (mrT mr)[i]? = some (pc, .if_icmp .lt off, 3)) (ht : (pc : Int) + off = (tgt : Int)) (ha : -2147483648 ≤ a ∧ a ≤ 2147483647) (hb : -2147483648 ≤ b ∧ b ≤ 2147483647) (kt : a < b → P sc mr tgt L st M Q) (kf : ¬ (a < b) → P sc mr (pc + 3) L st M Q) : P sc mr pc L (zI b :: zI a :: st) M Q := by
  intro p l e R s m args below meth c D cA ad n H0 H locs cells slots ls Z hC hsc hW hS hL hk
  exact lv_icmp_lt hC.1 hC.2.1 (hC.dec hi) ht (fun q => kt ((zI_lt ha hb).mp q) p l e R s m args below meth c D cA ad n H0 H locs cells slots ls Z hC hsc hW hS hL hk) (fun q => kf (fun w => q ((zI_lt ha hb).mpr w)) p l e R s m args below meth c D cA ad n H0 H locs cells slots ls Z hC hsc hW hS hL hk)
theorem p_icmp_ge {i : Nat} {a b off : Int} (tgt : Nat) (hi : (mrT mr)[i]? = some (pc, .if_icmp .ge off, 3)) (ht : (pc : Int) + off = (tgt : Int)) (ha : -2147483648 ≤ a ∧ a ≤ 2147483647) (hb : -2147483648 ≤ b ∧ b ≤ 2147483647) (kt : b ≤ a → P sc mr tgt L st M Q) (kf : ¬ (b ≤ a) → P sc mr (pc + 3) L st M Q) : P sc mr pc L (zI b :: zI a :: st) M Q := by
  intro p l e R s m args below meth c D cA ad n H0 H locs cells slots ls Z hC hsc hW hS hL hk
  exact lv_icmp_ge hC.1 hC.2.1 (hC.dec hi) ht (fun q => kt ((zI_le hb ha).mp q) p l e R s m args below meth c D cA ad n H0 H locs cells slots ls Z hC hsc hW hS hL hk) (fun q => kf (fun w => q ((zI_le hb ha).mpr w)) p l e R s m args below meth c D cA ad n H0 H locs cells slots ls Z hC hsc hW hS hL hk)
theorem p_icmp_gt {i : Nat} {a b off : Int} (tgt : Nat) (hi : (mrT mr)[i]? = some (pc, .if_icmp .gt off, 3)) (ht : (pc : Int) + off = (tgt : Int)) (ha : -2147483648 ≤ a ∧ a ≤ 2147483647) (hb : -2147483648 ≤ b ∧ b ≤ 2147483647) (kt : b < a → P sc mr tgt L st M Q) (kf : ¬ (b < a) → P sc mr (pc + 3) L st M Q) : P sc mr pc L (zI b :: zI a :: st) M Q := by
  intro p l e R s m args below meth c D cA ad n H0 H locs cells slots ls Z hC hsc hW hS hL hk
  exact lv_icmp_gt hC.1 hC.2.1 (hC.dec hi) ht (fun q => kt ((zI_lt hb ha).mp q) p l e R s m args below meth c D cA ad n H0 H locs cells slots ls Z hC hsc hW hS hL hk) (fun q => kf (fun w => q ((zI_lt hb ha).mpr w)) p l e R s m args below meth c D cA ad n H0 H locs cells slots ls Z hC hsc hW hS hL hk)
theorem p_icmp_le {i : Nat} {a b off : Int} (tgt : Nat) (hi : (mrT mr)[i]? = some (pc, .if_icmp .le off, 3)) (ht : (pc : Int) + off = (tgt : Int)) (ha : -2147483648 ≤ a ∧ a ≤ 2147483647) (hb : -2147483648 ≤ b ∧ b ≤ 2147483647) (kt : a ≤ b → P sc mr tgt L st M Q) (kf : ¬ (a ≤ b) → P sc mr (pc + 3) L st M Q) : P sc mr pc L (zI b :: zI a :: st) M Q := by
  intro p l e R s m args below meth c D cA ad n H0 H locs cells slots ls Z hC hsc hW hS hL hk
  exact lv_icmp_le hC.1 hC.2.1 (hC.dec hi) ht (fun q => kt ((zI_le ha hb).mp q) p l e R s m args below meth c D cA ad n H0 H locs cells slots ls Z hC hsc hW hS hL hk) (fun q => kf (fun w => q ((zI_le ha hb).mpr w)) p l e R s m args below meth c D cA ad n H0 H locs cells slots ls Z hC hsc hW hS hL hk)
theorem p_if_eq {i : Nat} {a off : Int} (tgt : Nat) (hi : (mrT mr)[i]? = some (pc, .ifCond .eq off, 3)) (ht : (pc : Int) + off = (tgt : Int)) (ha : -2147483648 ≤ a ∧ a ≤ 2147483647) (kt : a = 0 → P sc mr tgt L st M Q) (kf : ¬ (a = 0) → P sc mr (pc + 3) L st M Q) : P sc mr pc L (zI a :: st) M Q := by
  intro p l e R s m args below meth c D cA ad n H0 H locs cells slots ls Z hC hsc hW hS hL hk
  exact lv_if_eq hC.1 hC.2.1 (hC.dec hi) ht (fun q => kt ((zI_eq ha (by omega)).mp (q.trans zI_0.symm)) p l e R s m args below meth c D cA ad n H0 H locs cells slots ls Z hC hsc hW hS hL hk) (fun q => kf (fun w => q (by rw [w]; exact zI_0)) p l e R s m args below meth c D cA ad n H0 H locs cells slots ls Z hC hsc hW hS hL hk)
theorem p_if_ne {i : Nat} {a off : Int} (tgt : Nat) (hi : (mrT mr)[i]? = some (pc, .ifCond .ne off, 3)) (ht : (pc : Int) + off = (tgt : Int)) (ha : -2147483648 ≤ a ∧ a ≤ 2147483647) (kt : ¬ a = 0 → P sc mr tgt L st M Q) (kf : a = 0 → P sc mr (pc + 3) L st M Q) : P sc mr pc L (zI a :: st) M Q := by
  intro p l e R s m args below meth c D cA ad n H0 H locs cells slots ls Z hC hsc hW hS hL hk
  exact lv_if_ne hC.1 hC.2.1 (hC.dec hi) ht (fun q => kt (fun w => q (by rw [w]; exact zI_0)) p l e R s m args below meth c D cA ad n H0 H locs cells slots ls Z hC hsc hW hS hL hk) (fun q => kf ((zI_eq ha (by omega)).mp (q.trans zI_0.symm)) p l e R s m args below meth c D cA ad n H0 H locs cells slots ls Z hC hsc hW hS hL hk)
theorem p_if_lt {i : Nat} {a off : Int} (tgt : Nat) (hi : (mrT mr)[i]? = some (pc, .ifCond .lt off, 3)) (ht : (pc : Int) + off = (tgt : Int)) (ha : -2147483648 ≤ a ∧ a ≤ 2147483647) (kt : a < 0 → P sc mr tgt L st M Q) (kf : ¬ (a < 0) → P sc mr (pc + 3) L st M Q) : P sc mr pc L (zI a :: st) M Q := by
  intro p l e R s m args below meth c D cA ad n H0 H locs cells slots ls Z hC hsc hW hS hL hk
  exact lv_if_lt hC.1 hC.2.1 (hC.dec hi) ht (fun q => kt ((zI_lt ha (by omega)).mp (by rw [zI_0]; exact q)) p l e R s m args below meth c D cA ad n H0 H locs cells slots ls Z hC hsc hW hS hL hk) (fun q => kf (fun w => q (by rw [← zI_0]; exact (zI_lt ha (by omega)).mpr w)) p l e R s m args below meth c D cA ad n H0 H locs cells slots ls Z hC hsc hW hS hL hk)
theorem p_if_ge {i : Nat} {a off : Int} (tgt : Nat) (hi : (mrT mr)[i]? = some (pc, .ifCond .ge off, 3)) (ht : (pc : Int) + off = (tgt : Int)) (ha : -2147483648 ≤ a ∧ a ≤ 2147483647) (kt : 0 ≤ a → P sc mr tgt L st M Q) (kf : ¬ (0 ≤ a) → P sc mr (pc + 3) L st M Q) : P sc mr pc L (zI a :: st) M Q := by
  intro p l e R s m args below meth c D cA ad n H0 H locs cells slots ls Z hC hsc hW hS hL hk
  exact lv_if_ge hC.1 hC.2.1 (hC.dec hi) ht (fun q => kt ((zI_le (by omega) ha).mp (by rw [zI_0]; exact q)) p l e R s m args below meth c D cA ad n H0 H locs cells slots ls Z hC hsc hW hS hL hk) (fun q => kf (fun w => q (by rw [← zI_0]; exact (zI_le (by omega) ha).mpr w)) p l e R s m args below meth c D cA ad n H0 H locs cells slots ls Z hC hsc hW hS hL hk)
theorem p_if_gt {i : Nat} {a off : Int} (tgt : Nat) (hi : (mrT mr)[i]? = some (pc, .ifCond .gt off, 3)) (ht : (pc : Int) + off = (tgt : Int)) (ha : -2147483648 ≤ a ∧ a ≤ 2147483647) (kt : 0 < a → P sc mr tgt L st M Q) (kf : ¬ (0 < a) → P sc mr (pc + 3) L st M Q) : P sc mr pc L (zI a :: st) M Q := by
  intro p l e R s m args below meth c D cA ad n H0 H locs cells slots ls Z hC hsc hW hS hL hk
  exact lv_if_gt hC.1 hC.2.1 (hC.dec hi) ht (fun q => kt ((zI_lt (by omega) ha).mp (by rw [zI_0]; exact q)) p l e R s m args below meth c D cA ad n H0 H locs cells slots ls Z hC hsc hW hS hL hk) (fun q => kf (fun w => q (by rw [← zI_0]; exact (zI_lt (by omega) ha).mpr w)) p l e R s m args below meth c D cA ad n H0 H locs cells slots ls Z hC hsc hW hS hL hk)
theorem p_if_le {i : Nat} {a off : Int} (tgt : Nat) (hi : (mrT mr)[i]? = some (pc, .ifCond .le off, 3)) (ht : (pc : Int) + off = (tgt : Int)) (ha : -2147483648 ≤ a ∧ a ≤ 2147483647) (kt : a ≤ 0 → P sc mr tgt L st M Q) (kf : ¬ (a ≤ 0) → P sc mr (pc + 3) L st M Q) : P sc mr pc L (zI a :: st) M Q := by
  intro p l e R s m args below meth c D cA ad n H0 H locs cells slots ls Z hC hsc hW hS hL hk
  exact lv_if_le hC.1 hC.2.1 (hC.dec hi) ht (fun q => kt ((zI_le ha (by omega)).mp (by rw [zI_0]; exact q)) p l e R s m args below meth c D cA ad n H0 H locs cells slots ls Z hC hsc hW hS hL hk) (fun q => kf (fun w => q (by rw [← zI_0]; exact (zI_le ha (by omega)).mpr w)) p l e R s m args below meth c D cA ad n H0 H locs cells slots ls Z hC hsc hW hS hL hk)
theorem p_goto {i : Nat} {off : Int} (tgt : Nat) (hi : (mrT mr)[i]? = some (pc, .goto off, 3)) (ht : (pc : Int) + off = (tgt : Int)) (h : P sc mr tgt L st M Q) : P sc mr pc L st M Q := by
  intro p l e R s m args below meth c D cA ad n H0 H locs cells slots ls Z hC hsc hW hS hL hk
  exact lv_goto hC.1 hC.2.1 (hC.dec hi) ht (h p l e R s m args below meth c D cA ad n H0 H locs cells slots ls Z hC hsc hW hS hL hk)
theorem p_tsOut {i : Nat} {dflt lo hi a : Int} {offs : Array Int} {len : Nat} (tgt : Nat) (hi' : (mrT mr)[i]? = some (pc, .tableswitch dflt lo hi offs, len)) (ht : (pc : Int) + dflt = (tgt : Int)) (ha : -2147483648 ≤ a ∧ a ≤ 2147483647) (ho : a < lo ∨ hi < a) (h : P sc mr tgt L st M Q) : P sc mr pc L (zI a :: st) M Q := by
  intro p l e R s m args below meth c D cA ad n H0 H locs cells slots ls Z hC hsc hW hS hL hk
  exact lv_tableOut hC.1 hC.2.1 (hC.dec hi') (by rw [zI_T ha]; exact ho) ht (h p l e R s m args below meth c D cA ad n H0 H locs cells slots ls Z hC hsc hW hS hL hk)
theorem p_tsIn {i : Nat} {dflt lo hi a off : Int} {offs : Array Int} {len : Nat} (tgt : Nat) (hi' : (mrT mr)[i]? = some (pc, .tableswitch dflt lo hi offs, len)) (ha : -2147483648 ≤ a ∧ a ≤ 2147483647) (ho : lo ≤ a ∧ a ≤ hi) (hof : offs[(a - lo).toNat]? = some off) (ht : (pc : Int) + off = (tgt : Int)) (h : P sc mr tgt L st M Q) : P sc mr pc L (zI a :: st) M Q := by
  intro p l e R s m args below meth c D cA ad n H0 H locs cells slots ls Z hC hsc hW hS hL hk
  exact lv_tableIn hC.1 hC.2.1 (hC.dec hi') (by rw [zI_T ha]; omega) (by rw [zI_T ha]; omega) (by rw [zI_T ha]; exact hof) ht (h p l e R s m args below meth c D cA ad n H0 H locs cells slots ls Z hC hsc hW hS hL hk)
theorem p_lsw {i : Nat} {dflt a off : Int} {ps : Array (Int × Int)} {len : Nat} (tgt : Nat) (hi' : (mrT mr)[i]? = some (pc, .lookupswitch dflt ps, len)) (ha : -2147483648 ≤ a ∧ a ≤ 2147483647) (hp : (ps.toList.zip (ps.toList.drop 1)).all (fun (a, next) => a.1 < next.1) = true) (ho : Op.lookupswitch.offset ps.toList dflt a = off) (ht : (pc : Int) + off = (tgt : Int)) (h : P sc mr tgt L st M Q) : P sc mr pc L (zI a :: st) M Q := by
  intro p l e R s m args below meth c D cA ad n H0 H locs cells slots ls Z hC hsc hW hS hL hk
  exact lv_lookup hC.1 hC.2.1 (hC.dec hi') hp (by rw [zI_T ha]; exact ho) ht (h p l e R s m args below meth c D cA ad n H0 H locs cells slots ls Z hC hsc hW hS hL hk)
theorem p_ret {i : Nat} (hi : (mrT mr)[i]? = some (pc, .return_, 1)) (hr : mrR mr = none) (h : Q none M) : P sc mr pc L [] M Q := by
  intro p l e R s m args below meth c D cA ad n H0 H locs cells slots ls Z hC hsc hW hS hL hk
  exact hk none M pc H locs ls (Or.inl ⟨rfl, hr, hC.dec hi⟩) h hW hS
theorem p_iret {i : Nat} {x : Int32} (hi : (mrT mr)[i]? = some (pc, .ireturn, 1)) {ty : FieldType} (hr : mrR mr = some ty) (hn : narrow ty (.int x) = .int x) (h : Q (some (.int x)) M) : P sc mr pc L [.int x] M Q := by
  intro p l e R s m args below meth c D cA ad n H0 H locs cells slots ls Z hC hsc hW hS hL hk
  exact hk (some (.int x)) M pc H locs ls (Or.inr ⟨x, ty, rfl, hr, hn, hC.dec hi⟩) h hW hS
end PR
end
section
theorem lw_goodIn {mr : MR} (h : Jvm.Cond.code (mrY mr) (mrB mr) (mrL mr) (mrR mr) ∈ lwg) : GoodIn lwg (mrWs mr) := by
  intro w hw
  have hm : w ∈ lwg := by
    rcases List.mem_cons.mp hw with e | e
    · rw [e]; exact h
    · exact e
  exact ⟨hm, good_of_word (List.mem_filter.mp hm).2⟩
theorem iX0 : ∀ w ∈ u_ws RX0 TX0 3, w ∈ lwg := by decide +kernel
theorem iX1 : ∀ w ∈ u_ws RX1 TX1 3, w ∈ lwg := by decide +kernel
theorem iX2 : ∀ w ∈ u_ws RX2 TX2 3, w ∈ lwg := by decide +kernel
theorem iX3 : ∀ w ∈ u_ws RX3 TX3 7, w ∈ lwg := by decide +kernel
theorem iX4 : ∀ w ∈ u_ws RX4 TX4 3, w ∈ lwg := by decide +kernel
theorem iX5 : ∀ w ∈ u_ws RX5 TX5 3, w ∈ lwg := by decide +kernel
theorem iX6 : ∀ w ∈ u_ws RX6 TX6 8, w ∈ lwg := by decide +kernel
theorem iX7 : ∀ w ∈ u_ws RX7 TX7 5, w ∈ lwg := by decide +kernel
theorem iX8 : ∀ w ∈ u_ws RX8 TX8 2, w ∈ lwg := by decide +kernel
theorem iX9 : ∀ w ∈ u_ws RX9 TX9 12, w ∈ lwg := by decide +kernel
theorem iX10 : ∀ w ∈ u_ws RX10 TX10 23, w ∈ lwg := by decide +kernel
theorem cls_in {ci : Nat} {q : vw_C} (h : vwCl[ci]? = some q) : ∀ w ∈ u_ws q.1 q.2.1 q.2.2, w ∈ lwg := by
  match ci, h with
  | 0, h => cases h; exact iX0
  | 1, h => cases h; exact iX1
  | 2, h => cases h; exact iX2
  | 3, h => cases h; exact iX3
  | 4, h => cases h; exact iX4
  | 5, h => cases h; exact iX5
  | 6, h => cases h; exact iX6
  | 7, h => cases h; exact iX7
  | 8, h => cases h; exact iX8
  | 9, h => cases h; exact iX9
  | 10, h => cases h; exact iX10
  | ci + 11, h => cases h
theorem cls_ty {ci : Nat} {q : vw_C} (h : vwCl[ci]? = some q) : ∃ ty0 : Nat → FieldType, (∀ k, k < q.2.2 → parseFieldDescriptor (q.2.1 k).2.2.1 = some (ty0 k)) ∧ ∀ a, a < q.2.2 → ∀ b, b < q.2.2 → a ≠ b → (q.2.1 a).2.1 ≠ (q.2.1 b).2.1 := by
  match ci, h with
  | 0, h => cases h; exact ⟨tyX0, tyX0_ok, nmX0⟩
  | 1, h => cases h; exact ⟨tyX1, tyX1_ok, nmX1⟩
  | 2, h => cases h; exact ⟨tyX2, tyX2_ok, nmX2⟩
  | 3, h => cases h; exact ⟨tyX3, tyX3_ok, nmX3⟩
  | 4, h => cases h; exact ⟨tyX4, tyX4_ok, nmX4⟩
  | 5, h => cases h; exact ⟨tyX5, tyX5_ok, nmX5⟩
  | 6, h => cases h; exact ⟨tyX6, tyX6_ok, nmX6⟩
  | 7, h => cases h; exact ⟨tyX7, tyX7_ok, nmX7⟩
  | 8, h => cases h; exact ⟨tyX8, tyX8_ok, nmX8⟩
  | 9, h => cases h; exact ⟨tyX9, tyX9_ok, nmX9⟩
  | 10, h => cases h; exact ⟨tyX10, tyX10_ok, nmX10⟩
  | ci + 11, h => cases h
def FOk (own : String) (idx ci k : Nat) : Prop := ∃ q : vw_C, vwCl[ci]? = some q ∧ k < q.2.2 ∧ Jvm.Cond.fieldLink own idx (q.2.1 k).1 (q.2.1 k).2.1 (q.2.1 k).2.2.1 ∈ lwg
def FPut (own : String) (idx ci k : Nat) (ty : FieldType) : Prop := ∃ q : vw_C, vwCl[ci]? = some q ∧ k < q.2.2 ∧ Jvm.Cond.fieldLink own idx (q.2.1 k).1 (q.2.1 k).2.1 (q.2.1 k).2.2.1 ∈ lwg ∧ (q.2.1 k).2.2.2 = false ∧ parseFieldDescriptor (q.2.1 k).2.2.1 = some ty
def VOk (mr : MR) (idx : Nat) (mr' : MR) (nA : Nat) : Prop :=
  Jvm.Cond.methodLink (mrY mr).cls idx (mrY mr') ∈ lwg ∧ Jvm.Cond.instanceMethod (mrY mr') ∈ lwg ∧ Jvm.Cond.selects (mrY mr').cls (mrY mr') (mrY mr') ∈ lwg ∧ Jvm.Cond.initialized (mrY mr').cls ∈ lwg ∧ Jvm.Cond.code (mrY mr') (mrB mr') (mrL mr') (mrR mr') ∈ lwg ∧ ((mrY mr').cls ≠ "java/lang/invoke/MethodHandle" ∧ (mrY mr').cls ≠ "java/lang/invoke/VarHandle" ∧ (parseMethodDescriptor (mrY mr').desc).map (fun d => d.parameters.length) = some nA) ∧ (mrF mr' + 1 ≤ mrF mr ∧ 8 + (mrL mr' + 11) + mrW mr' ≤ mrW mr)
def SOk (mr : MR) (idx : Nat) (mr' : MR) (nA : Nat) : Prop :=
  Jvm.Cond.methodLink (mrY mr).cls idx (mrY mr') ∈ lwg ∧ Jvm.Cond.static (mrY mr') ∈ lwg ∧ Jvm.Cond.initialized (mrY mr').cls ∈ lwg ∧ Jvm.Cond.code (mrY mr') (mrB mr') (mrL mr') (mrR mr') ∈ lwg ∧ ((mrY mr').cls ≠ "java/lang/invoke/MethodHandle" ∧ (mrY mr').cls ≠ "java/lang/invoke/VarHandle" ∧ (parseMethodDescriptor (mrY mr').desc).map (fun d => d.parameters.length) = some nA) ∧ (mrF mr' + 1 ≤ mrF mr ∧ 8 + (mrL mr' + 11) + mrW mr' ≤ mrW mr)
abbrev zA (n : Nat) (g : Nat → Int) : AE := .inl (0, n, .inl (fun j => Int32.ofInt (g j)))
abbrev zB (n : Nat) (g : Nat → Int) : AE := .inl (1, n, .inl (fun j => Int32.ofInt (g j)))
abbrev zR (t n : Nat) (g : Nat → Option Nat) : AE := .inl (t, n, .inr (.inr (.inr (.inr g))))
abbrev zO (ci : Nat) (fs : List Value) : AE := .inr (ci, fs)
def zup (g : Nat → Int) (k : Nat) (v : Int) : Nat → Int := fun j => if j = k then v else g j
theorem zup_upd (g : Nat → Int) (k : Nat) (v : Int) : upd (fun j => Int32.ofInt (g j)) k (Int32.ofInt v) = fun j => Int32.ofInt (zup g k v j) := by
  funext j
  unfold upd zup
  split <;> rfl
theorem zcpy (f g : Nat → Int) (sp dp n : Nat) : va_cpy (fun j => Int32.ofInt (f j)) (fun j => Int32.ofInt (g j)) sp dp n = fun j => Int32.ofInt (va_cpy f g sp dp n j) := by
  funext j
  unfold va_cpy
  split <;> rfl
section PH
variable {sc : Option (Nat × (Nat → Int32))} {mr : MR} {pc : Nat} {L st : List Value} {M : AM} {Q : Option Value → AM → Prop}
theorem p_getf {i idx ci k o : Nat} {fs : List Value} {v : Value} (hi : (mrT mr)[i]? = some (pc, .getfield idx, 3)) (hf : FOk (mrY mr).cls idx ci k) (hM : M o = some (zO ci fs)) (hv : fs[k]? = some v) (h : P sc mr (pc + 3) L (v :: st) M Q) : P sc mr pc L (.ref o :: st) M Q := by
  intro p l e R s m args below meth c D cA ad n H0 H locs cells slots ls Z hC hsc hW hS hL hk
  have h1 := h p l e R s m args below meth c D cA ad n H0 H locs cells slots ls Z hC hsc hW hS hL hk
  obtain ⟨⟨C, T, N⟩, hc, hkN, hw⟩ := hf
  exact va_get (v := cv ad v) hC.1 hC.2.1 hC.2.2.2.2.1 (cls_in hc) hC.2.2.2.1 hC.2.2.2.2.2.1 hW.1 o (fs := fs.map (cv ad)) (by rw [wl_get (hW.2.2 o _ hM), hM]; rfl) hc k hkN (hC.2.2.2.2.1 _ hw) (fun _ q => q) (by rw [List.getElem?_map, hv]; rfl) (hC.dec hi) h1
theorem p_put {i idx ci k o : Nat} {fs : List Value} {v : Value} {ty : FieldType} (hi : (mrT mr)[i]? = some (pc, .putfield idx, 3)) (hf : FPut (mrY mr).cls idx ci k ty) (hM : M o = some (zO ci fs)) (hn : ∀ ad, narrow ty (cv ad v) = cv ad v) (hfit : ∀ ad, fits ty (cv ad v) = true) (hl : k < fs.length) (h : P sc mr (pc + 3) L st (aup M o (zO ci (fs.set k v))) Q) : P sc mr pc L (v :: .ref o :: st) M Q := by
  intro p l e R s m args below meth c D cA ad n H0 H locs cells slots ls Z hC hsc hW hS hL hk
  obtain ⟨⟨C, T, N⟩, hc, hkN, hw, hfin, hty⟩ := hf
  obtain ⟨ty0, ht0, hnm⟩ := cls_ty hc
  refine va_put (v := cv ad v) hC.1 hC.2.1 hC.2.2.2.2.1 (cls_in hc) ty0 ht0 hnm hC.2.2.2.1 hC.2.2.2.2.2.1 hW.1 hW.D hS o (fs := fs.map (cv ad)) (by rw [wl_get (hW.2.2 o _ hM), hM]; rfl) hc k hkN (hC.2.2.2.2.1 _ hw) (fun _ q => q) hfin hty (hn ad) (hfit ad) (by rw [List.length_map]; exact hl) (hC.dec hi) (fun H1 locs1 hP hD hS1 => ?_)
  refine h p l e R s m args below meth c D cA ad n H0 H1 locs1 cells slots ls Z hC hsc (hW.put (hW.2.2 o _ hM) ?_) hS1 hL hk
  rw [← List.map_set] at hP
  exact hP
theorem p_puti {i idx ci k o : Nat} {fs : List Value} {x : Int32} (hi : (mrT mr)[i]? = some (pc, .putfield idx, 3)) (hf : FPut (mrY mr).cls idx ci k .int) (hM : M o = some (zO ci fs)) (hl : Nat.blt k fs.length = true) (h : P sc mr (pc + 3) L st (aup M o (zO ci (fs.set k (.int x)))) Q) : P sc mr pc L (.int x :: .ref o :: st) M Q := p_put hi hf hM (fun _ => rfl) (fun _ => rfl) (Nat.blt_eq.mp hl) h
theorem p_putz {i idx ci k o : Nat} {fs : List Value} {a : Int} (hi : (mrT mr)[i]? = some (pc, .putfield idx, 3)) (hf : FPut (mrY mr).cls idx ci k .boolean) (hM : M o = some (zO ci fs)) (ha : a = 0 ∨ a = 1) (hl : Nat.blt k fs.length = true) (h : P sc mr (pc + 3) L st (aup M o (zO ci (fs.set k (zI a)))) Q) : P sc mr pc L (zI a :: .ref o :: st) M Q := p_put hi hf hM (fun _ => by rcases ha with rfl | rfl <;> rfl) (fun _ => by rcases ha with rfl | rfl <;> rfl) (Nat.blt_eq.mp hl) h
theorem p_putl {i idx ci k o : Nat} {fs : List Value} {x : Int64} (hi : (mrT mr)[i]? = some (pc, .putfield idx, 3)) (hf : FPut (mrY mr).cls idx ci k .long) (hM : M o = some (zO ci fs)) (hl : Nat.blt k fs.length = true) (h : P sc mr (pc + 3) L st (aup M o (zO ci (fs.set k (.long x)))) Q) : P sc mr pc L (.long x :: .ref o :: st) M Q := p_put hi hf hM (fun _ => rfl) (fun _ => rfl) (Nat.blt_eq.mp hl) h
theorem p_puta {i idx ci k o a : Nat} {fs : List Value} {nm : String} (hi : (mrT mr)[i]? = some (pc, .putfield idx, 3)) (hf : FPut (mrY mr).cls idx ci k (.object nm)) (hM : M o = some (zO ci fs)) (hl : Nat.blt k fs.length = true) (h : P sc mr (pc + 3) L st (aup M o (zO ci (fs.set k (.ref a)))) Q) : P sc mr pc L (.ref a :: .ref o :: st) M Q := p_put hi hf hM (fun _ => rfl) (fun _ => rfl) (Nat.blt_eq.mp hl) h
theorem p_iald {i o n : Nat} {g : Nat → Int} {a : Int} (hi : (mrT mr)[i]? = some (pc, .iaload, 1)) (hM : M o = some (zA n g)) (ha : 0 ≤ a ∧ a < n) (hn : n < 2147483648) (h : P sc mr (pc + 1) L (zI (g a.toNat) :: st) M Q) : P sc mr pc L (zI a :: .ref o :: st) M Q := by
  intro p l e R s m args below meth c D cA ad nn H0 H locs cells slots ls Z hC hsc hW hS hL hk
  have h1 := h p l e R s m args below meth c D cA ad nn H0 H locs cells slots ls Z hC hsc hW hS hL hk
  obtain ⟨g1, g2⟩ := zI_in ha hn
  exact va_iald hC.1 hC.2.1 hC.2.2.2.2.2.1 hW.1 o 0 (by rw [wl_get (hW.2.2 o _ hM), hM]; rfl) rfl g1 (hC.dec hi) (by rw [g2]; exact h1)
theorem p_zald {i o n : Nat} {g : Nat → Int} {a : Int} (hi : (mrT mr)[i]? = some (pc, .baload, 1)) (hM : M o = some (zB n g)) (ha : 0 ≤ a ∧ a < n) (hn : n < 2147483648) (h : P sc mr (pc + 1) L (zI (g a.toNat) :: st) M Q) : P sc mr pc L (zI a :: .ref o :: st) M Q := by
  intro p l e R s m args below meth c D cA ad nn H0 H locs cells slots ls Z hC hsc hW hS hL hk
  have h1 := h p l e R s m args below meth c D cA ad nn H0 H locs cells slots ls Z hC hsc hW hS hL hk
  obtain ⟨g1, g2⟩ := zI_in ha hn
  exact va_zald hC.1 hC.2.1 hC.2.2.2.2.2.1 hW.1 o 1 (by rw [wl_get (hW.2.2 o _ hM), hM]; rfl) rfl g1 (hC.dec hi) (by rw [g2]; exact h1)
theorem p_iast {i o n : Nat} {g : Nat → Int} {a v : Int} (hi : (mrT mr)[i]? = some (pc, .iastore, 1)) (hM : M o = some (zA n g)) (ha : 0 ≤ a ∧ a < n) (hn : n < 2147483648) (h : P sc mr (pc + 1) L st (aup M o (zA n (zup g a.toNat v))) Q) : P sc mr pc L (zI v :: zI a :: .ref o :: st) M Q := by
  intro p l e R s m args below meth c D cA ad nn H0 H locs cells slots ls Z hC hsc hW hS hL hk
  obtain ⟨g1, g2⟩ := zI_in ha hn
  refine va_iast hC.1 hC.2.1 hC.2.2.2.2.2.1 hW.1 hW.D hS o 0 (by rw [wl_get (hW.2.2 o _ hM), hM]; rfl) rfl g1 (hC.dec hi) (fun H1 locs1 hP hD hS1 => ?_)
  refine h p l e R s m args below meth c D cA ad nn H0 H1 locs1 cells slots ls Z hC hsc (hW.put (hW.2.2 o _ hM) ?_) hS1 hL hk
  rw [g2, zup_upd] at hP
  exact hP
theorem p_zast {i o n : Nat} {g : Nat → Int} {a v : Int} (hi : (mrT mr)[i]? = some (pc, .bastore, 1)) (hM : M o = some (zB n g)) (ha : 0 ≤ a ∧ a < n) (hn : n < 2147483648) (hv : v = 0 ∨ v = 1) (h : P sc mr (pc + 1) L st (aup M o (zB n (zup g a.toNat v))) Q) : P sc mr pc L (zI v :: zI a :: .ref o :: st) M Q := by
  intro p l e R s m args below meth c D cA ad nn H0 H locs cells slots ls Z hC hsc hW hS hL hk
  obtain ⟨g1, g2⟩ := zI_in ha hn
  have hb : vp_nar .boolean (Int32.ofInt v) = Int32.ofInt v := by rcases hv with rfl | rfl <;> decide
  refine va_zast hC.1 hC.2.1 hC.2.2.2.2.2.1 hW.1 hW.D hS o 1 (by rw [wl_get (hW.2.2 o _ hM), hM]; rfl) rfl g1 (hC.dec hi) (fun H1 locs1 hP hD hS1 => ?_)
  refine h p l e R s m args below meth c D cA ad nn H0 H1 locs1 cells slots ls Z hC hsc (hW.put (hW.2.2 o _ hM) ?_) hS1 hL hk
  rw [g2, hb, zup_upd] at hP
  exact hP
theorem p_aald {i o n t k : Nat} {g : Nat → Option Nat} {a : Int} (hi : (mrT mr)[i]? = some (pc, .aaload, 1)) (hM : M o = some (zR t n g)) (ht : t = 2 ∨ t = 3 ∨ t = 4) (ha : 0 ≤ a ∧ a < n) (hn : n < 2147483648) (hg : g a.toNat = some k) (h : P sc mr (pc + 1) L (.ref k :: st) M Q) : P sc mr pc L (zI a :: .ref o :: st) M Q := by
  intro p l e R s m args below meth c D cA ad nn H0 H locs cells slots ls Z hC hsc hW hS hL hk
  have h1 := h p l e R s m args below meth c D cA ad nn H0 H locs cells slots ls Z hC hsc hW hS hL hk
  obtain ⟨g1, g2⟩ := zI_in ha hn
  have hat : (wl cA ad nn M)[o]? = some (ad o, .inl (cA t, n, .inr (.inr (.inr (.inr (fun j => (g j).map ad)))))) := by rw [wl_get (hW.2.2 o _ hM), hM]; rfl
  have hv : va_rf ((fun j => (g j).map ad) (Int32.ofInt a).toNatClampNeg) = .ref (ad k) := by rw [g2]; simp only [hg]; rfl
  rcases ht with rfl | rfl | rfl
  · exact va_aldq hC.1 hC.2.1 hC.2.2.2.2.2.1 hW.1 o 2 hat rfl g1 (hC.dec hi) (by rw [hv]; exact h1)
  · exact va_aldq hC.1 hC.2.1 hC.2.2.2.2.2.1 hW.1 o 3 hat rfl g1 (hC.dec hi) (by rw [hv]; exact h1)
  · have hlt : (Int32.ofInt a).toNatClampNeg < n := Nat.not_le.mp fun q => g1 (Or.inr q)
    exact W.aald (v := .ref (ad k)) (ty := .array .int) hC.1 hC.2.1 (hW.1 o _ hat) ((hC.2.2.2.2.2.1.2 4 _ rfl).1 n (fun j => va_rf ((g j).map ad))) rfl (fun q => by cases q) (by show ¬ (_ < 0 ∨ (arrV _ _ _).slots.size ≤ _); rw [arrV_size]; exact g1) (by show (arrV _ _ _).slots[_]? = _; rw [arrV_read _ _ hlt]; exact congrArg some hv) rfl rfl (hC.dec hi) h1
theorem p_slen {i : Nat} {q : Nat × (Nat → Int32)} (hq : sc = some q) (hi : (mrT mr)[i]? = some (pc, .arraylength, 1)) (h : P sc mr (pc + 1) L (zI (q.1 : Int) :: st) M Q) : P sc mr pc L (.ref 1000000 :: st) M Q := by
  intro p l e R s m args below meth c D cA ad nn H0 H locs cells slots ls Z hC hsc hW hS hL hk
  have h1 := h p l e R s m args below meth c D cA ad nn H0 H locs cells slots ls Z hC hsc hW hS hL hk
  obtain ⟨hX, hb, hA⟩ := hsc q hq
  exact va_slen hC.1 hC.2.1 hX hb hA hS (hC.dec hi) (by rw [← Int32.ofInt_eq_ofNat]; exact h1)
theorem p_sld {i : Nat} {q : Nat × (Nat → Int32)} {a : Int} (hq : sc = some q) (hi : (mrT mr)[i]? = some (pc, .iaload, 1)) (ha : 0 ≤ a ∧ a < q.1) (hn : q.1 < 2147483648) (h : P sc mr (pc + 1) L (zI (q.2 a.toNat).toInt :: st) M Q) : P sc mr pc L (zI a :: .ref 1000000 :: st) M Q := by
  intro p l e R s m args below meth c D cA ad nn H0 H locs cells slots ls Z hC hsc hW hS hL hk
  have h1 := h p l e R s m args below meth c D cA ad nn H0 H locs cells slots ls Z hC hsc hW hS hL hk
  obtain ⟨hX, hb, hA⟩ := hsc q hq
  obtain ⟨g1, g2⟩ := zI_in ha hn
  exact va_sld hC.1 hC.2.1 hX hb hA hS g1 (hC.dec hi) (by rw [g2, ← Int32.ofInt_toInt (q.2 a.toNat)]; exact h1)
theorem p_copy {i idx o0 o1 n0 n1 : Nat} {f g : Nat → Int} {a b d : Int} (hi : (mrT mr)[i]? = some (pc, .invokestatic idx, 3)) (hw : Jvm.Cond.methodLink (mrY mr).cls idx arraycopyName ∈ lwg) (hw2 : Jvm.Cond.native arraycopyName ∈ lwg ∧ Jvm.Cond.static arraycopyName ∈ lwg ∧ Jvm.Cond.initialized "java/lang/System" ∈ lwg) (hM0 : M o0 = some (zA n0 f)) (hM1 : M o1 = some (zA n1 g)) (ha : 0 ≤ a ∧ 0 ≤ b ∧ 0 ≤ d ∧ a + d ≤ n0 ∧ b + d ≤ n1) (hn : n0 < 2147483648 ∧ n1 < 2147483648) (hr : 1 ≤ mrF mr ∧ (st.map fun v => v.category).sum + 18 ≤ mrW mr) (h : P sc mr (pc + 3) L st (aup M o1 (zA n1 (va_cpy f g a.toNat b.toNat d.toNat))) Q) : P sc mr pc L (zI d :: zI b :: .ref o1 :: zI a :: .ref o0 :: st) M Q := by
  intro p l e R s m args below meth c D cA ad nn H0 H locs cells slots ls Z hC hsc hW hS hL hk
  have e0 : ∀ z : Int, 0 ≤ z ∧ z ≤ 2147483647 → ¬ Int32.ofInt z < 0 ∧ (Int32.ofInt z).toNatClampNeg = z.toNat := fun z hz => by
    have e : (Int32.ofInt z).toInt = z := zI_T (by omega)
    refine ⟨?_, ?_⟩
    · rw [← zI_0, zI_lt (by omega) (by omega)]; omega
    · show (Int32.ofInt z).toInt.toNat = z.toNat
      rw [e]
  obtain ⟨a1, a2⟩ := e0 a (by omega)
  obtain ⟨b1, b2⟩ := e0 b (by omega)
  obtain ⟨d1, d2⟩ := e0 d (by omega)
  refine va_copyi hC.1 hC.2.1 (hC.2.2.1.trans hL.1.symm) hC.2.2.2.1 (hC.2.2.2.2.1 _ hw) (hC.2.2.2.2.1 _ hw2.1) (hC.2.2.2.2.1 _ hw2.2.1) (hC.2.2.2.2.1 _ hw2.2.2) hC.2.2.2.2.2.1 hW.1 hW.D hS o0 o1 0 0 (by rw [wl_get (hW.2.2 o0 _ hM0), hM0]; rfl) (by rw [wl_get (hW.2.2 o1 _ hM1), hM1]; rfl) rfl rfl rfl a1 b1 d1 (by rw [a2, d2]; omega) (by rw [b2, d2]; omega) (fun _ _ => rfl) (Nat.le_trans hr.1 hC.2.2.2.2.2.2.1) ?_ (hC.dec hi) (fun H1 locs1 hP hD hS1 => ?_)
  · have e : nativeFrameWords "java/lang/System" "arraycopy" 5 = 7 := by decide
    rw [cv_sum, e]
    exact Nat.le_trans hr.2 hC.2.2.2.2.2.2.2.1
  · refine h p l e R s m args below meth c D cA ad nn H0 H1 locs1 cells slots ls Z hC hsc (hW.put (hW.2.2 o1 _ hM1) ?_) hS1 hL hk
    rw [a2, b2, d2, zcpy] at hP
    exact hP
theorem p_cV {i idx nA o ci : Nat} {mr' : MR} {vs rest fs : List Value} (hi : (mrT mr)[i]? = some (pc, .invokevirtual idx, 3)) (hv : VOk mr idx mr' nA) (hn : vs.length = nA) (hM : M o = some (zO ci fs)) (hc : ∃ q, vwCl[ci]? = some q ∧ q.1 = (mrY mr').cls) (hr : (rest.map fun v => v.category).sum ≤ 8) (h : C mr' (.ref o :: vs) M (fun r M' => P sc mr (pc + 3) L (r.toList ++ rest) M' Q)) : P sc mr pc L (vs.reverse ++ .ref o :: rest) M Q := by
  intro p l e R s m args below meth c D cA ad n H0 H locs cells slots ls Z hC hsc hW hS hL hk
  obtain ⟨v1, v2, v3, v4, v5, ⟨v6, v7, v8⟩, v9, v10⟩ := hv
  have hts := hC.2.2.2.2.1
  obtain ⟨q, hq, hqc⟩ := hc
  have hat : (wl cA ad n M)[o]? = some (ad o, .inr (ci, fs.map (cv ad))) := by rw [wl_get (hW.2.2 o _ hM), hM]; rfl
  have hrun := va_runV (As := vs.map (cv ad)) (rest := rest.map (cv ad)) (b := ad o) (cells := cells) (slots := slots) (locs := locs) (below := below) (meth := meth) (e := e) (g := F0 m pc ls ((vs.reverse ++ .ref o :: rest).map (cv ad))) (C := (mrY mr').cls) (bytes := mrB mr') (maxL := mrL mr') (ret := mrR mr') (n := nA) (R := R) (H := H)
    ⟨hC.1, hC.2.1, hC.2.2.1, hC.2.2.2.1, hts⟩ (h l D cA ad n)
    ⟨⟨rfl, rfl, Nat.le_trans v9 hC.2.2.2.2.2.2.1, Nat.le_trans v10 hC.2.2.2.2.2.2.2.1, pay_in hts (lw_goodIn v5), List.mem_cons_self, hts _ v5, hts _ v4, ⟨v6, v7⟩, fun sig hs => by rw [hs] at v8; exact (Option.some.inj v8).symm, hts _ v1⟩, hts _ v2, hts _ v3⟩
    ⟨fun a U g mk z => by obtain ⟨z1, z2, z3⟩ := z; exact ⟨z1, va_K.moved (u := U) (U := U.calling g mk a) (Vm.Alike.refl U.vm) z2, z3⟩, by rw [← hqc]; exact va_recv hC.2.2.2.2.2.1 hW.1 hq hat, fun U hU hWm => ⟨rfl, va_K.moved hWm.alike hC.2.2.2.2.2.1, by rw [hU]; exact hW⟩⟩
    rfl (by rw [List.length_map]; exact hn) hL.1 (by show (vs.reverse ++ .ref o :: rest).map (cv ad) = _; rw [List.map_append, List.map_reverse]; rfl) (lv_room (by rw [cv_sum]; exact hr)) (hC.dec hi) ⟨hC.2.2.2.2.2.2.2.2.2.1, hC.2.2.2.2.2.2.2.2.2.2⟩
  intro T hT X
  obtain ⟨v, st₀, t, T', Lc, h0, X', hLc, e1, e2, ⟨r, M', er, hqq, hW', hF⟩, stp⟩ := hrun T hT X
  cases er
  have hS' : va_S (FA ad n) H0 T'.heap (locs ++ Lc) := by
    rw [e1]
    refine ⟨Nat.le_trans hS.1 (by rw [← h0]; exact hF.1), fun x h1 h2 => ?_, fun x hx => ?_⟩
    · rw [hF.2 x (by rw [h0]; exact Nat.lt_of_lt_of_le h1 hS.1) h2, h0]
      exact hS.2.1 x h1 h2
    · rcases List.mem_append.mp hx with z | z
      · exact hS.2.2 x z
      · exact hLc x z
  obtain ⟨t2, a1, b1⟩ := hqq p l e R s m args below meth c D cA ad n H0 T'.heap (locs ++ Lc) cells slots ls Z hC hsc (by rw [e1]; exact hW') hS' hL hk T' rfl X'
  refine ⟨t2, stp t2 ?_, b1⟩
  have ee : (r.map (cv ad)).toList ++ rest.map (cv ad) = (r.toList ++ rest).map (cv ad) := by
    rw [List.map_append]
    cases r <;> rfl
  rw [ee]
  exact a1
theorem p_cS {i idx nA : Nat} {mr' : MR} {vs rest : List Value} (hi : (mrT mr)[i]? = some (pc, .invokestatic idx, 3)) (hv : SOk mr idx mr' nA) (hn : vs.length = nA) (hr : (rest.map fun v => v.category).sum ≤ 8) (h : C mr' vs M (fun r M' => P sc mr (pc + 3) L (r.toList ++ rest) M' Q)) : P sc mr pc L (vs.reverse ++ rest) M Q := by
  intro p l e R s m args below meth c D cA ad n H0 H locs cells slots ls Z hC hsc hW hS hL hk
  obtain ⟨v1, v2, v4, v5, ⟨v6, v7, v8⟩, v9, v10⟩ := hv
  have hts := hC.2.2.2.2.1
  have hrun := va_runS (As := vs.map (cv ad)) (rest := rest.map (cv ad)) (cells := cells) (slots := slots) (locs := locs) (below := below) (meth := meth) (e := e) (g := F0 m pc ls ((vs.reverse ++ rest).map (cv ad))) (bytes := mrB mr') (maxL := mrL mr') (ret := mrR mr') (n := nA) (R := R) (H := H)
    ⟨hC.1, hC.2.1, hC.2.2.1, hC.2.2.2.1, hts⟩ (h l D cA ad n)
    ⟨⟨rfl, rfl, Nat.le_trans v9 hC.2.2.2.2.2.2.1, Nat.le_trans v10 hC.2.2.2.2.2.2.2.1, pay_in hts (lw_goodIn v5), List.mem_cons_self, hts _ v5, hts _ v4, ⟨v6, v7⟩, fun sig hs => by rw [hs] at v8; exact (Option.some.inj v8).symm, hts _ v1⟩, hts _ v2⟩
    ⟨fun a U g mk z => by obtain ⟨z1, z2, z3⟩ := z; exact ⟨z1, va_K.moved (u := U) (U := U.calling g mk a) (Vm.Alike.refl U.vm) z2, z3⟩, fun U hU hWm => ⟨rfl, va_K.moved hWm.alike hC.2.2.2.2.2.1, by rw [hU]; exact hW⟩⟩
    rfl (by rw [List.length_map]; exact hn) hL.1 (by show (vs.reverse ++ rest).map (cv ad) = _; rw [List.map_append, List.map_reverse]) (lv_room (by rw [cv_sum]; exact hr)) (hC.dec hi) ⟨hC.2.2.2.2.2.2.2.2.2.1, hC.2.2.2.2.2.2.2.2.2.2⟩
  intro T hT X
  obtain ⟨v, st₀, t, T', Lc, h0, X', hLc, e1, e2, ⟨r, M', er, hqq, hW', hF⟩, stp⟩ := hrun T hT X
  cases er
  have hS' : va_S (FA ad n) H0 T'.heap (locs ++ Lc) := by
    rw [e1]
    refine ⟨Nat.le_trans hS.1 (by rw [← h0]; exact hF.1), fun x h1 h2 => ?_, fun x hx => ?_⟩
    · rw [hF.2 x (by rw [h0]; exact Nat.lt_of_lt_of_le h1 hS.1) h2, h0]
      exact hS.2.1 x h1 h2
    · rcases List.mem_append.mp hx with z | z
      · exact hS.2.2 x z
      · exact hLc x z
  obtain ⟨t2, a1, b1⟩ := hqq p l e R s m args below meth c D cA ad n H0 T'.heap (locs ++ Lc) cells slots ls Z hC hsc (by rw [e1]; exact hW') hS' hL hk T' rfl X'
  refine ⟨t2, stp t2 ?_, b1⟩
  have ee : (r.map (cv ad)).toList ++ rest.map (cv ad) = (r.toList ++ rest).map (cv ad) := by
    rw [List.map_append]
    cases r <;> rfl
  rw [ee]
  exact a1
end PH
end
