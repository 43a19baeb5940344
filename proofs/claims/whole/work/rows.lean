section
-- ===== PART A: goes FIRST, ahead of the names: the tables' words, and 'selects' of the private methods out of them =====
/-- a private method of a class that the tables say can be made, by its rows of tables_1 -/
def lw_okq (q : MethodName × Nat) : Prop := (q.1.cls ≠ "java/lang/invoke/MethodHandle" ∧ q.1.cls ≠ "java/lang/invoke/VarHandle") ∧ Cond.instantiable q.1.cls q.2 ∈ tables_1 ∧ Cond.privateMethod q.1 ∈ tables_1 ∧ Cond.instanceMethod q.1 ∈ tables_1
theorem lw_p0 : lw_okq (⟨"HandedLens", "scenesOfAll", "()I"⟩, 12) := ⟨⟨by decide +kernel, by decide +kernel⟩, List.mem_of_getElem? (i := 16) (by decide +kernel), List.mem_of_getElem? (i := 385) (by decide +kernel), List.mem_of_getElem? (i := 386) (by decide +kernel)⟩
theorem lw_p1 : lw_okq (⟨"HandedLens", "scenesTakenFor", "(I)I"⟩, 12) := ⟨⟨by decide +kernel, by decide +kernel⟩, List.mem_of_getElem? (i := 16) (by decide +kernel), List.mem_of_getElem? (i := 431) (by decide +kernel), List.mem_of_getElem? (i := 432) (by decide +kernel)⟩
theorem lw_p2 : lw_okq (⟨"HandedLens", "takenNow", "(I)I"⟩, 12) := ⟨⟨by decide +kernel, by decide +kernel⟩, List.mem_of_getElem? (i := 16) (by decide +kernel), List.mem_of_getElem? (i := 435) (by decide +kernel), List.mem_of_getElem? (i := 436) (by decide +kernel)⟩
theorem lw_p3 : lw_okq (⟨"HandedLens", "kinOf", "(I)I"⟩, 12) := ⟨⟨by decide +kernel, by decide +kernel⟩, List.mem_of_getElem? (i := 16) (by decide +kernel), List.mem_of_getElem? (i := 462) (by decide +kernel), List.mem_of_getElem? (i := 463) (by decide +kernel)⟩
theorem lw_p4 : lw_okq (⟨"HandedLens", "refusalOfYears", "(I)I"⟩, 12) := ⟨⟨by decide +kernel, by decide +kernel⟩, List.mem_of_getElem? (i := 16) (by decide +kernel), List.mem_of_getElem? (i := 494) (by decide +kernel), List.mem_of_getElem? (i := 495) (by decide +kernel)⟩
theorem lw_p5 : lw_okq (⟨"HandedLens", "doByDraw", "()V"⟩, 12) := ⟨⟨by decide +kernel, by decide +kernel⟩, List.mem_of_getElem? (i := 16) (by decide +kernel), List.mem_of_getElem? (i := 589) (by decide +kernel), List.mem_of_getElem? (i := 590) (by decide +kernel)⟩
theorem lw_p6 : lw_okq (⟨"HandedLens", "drawOf", "(I)I"⟩, 12) := ⟨⟨by decide +kernel, by decide +kernel⟩, List.mem_of_getElem? (i := 16) (by decide +kernel), List.mem_of_getElem? (i := 593) (by decide +kernel), List.mem_of_getElem? (i := 594) (by decide +kernel)⟩
theorem lw_p7 : lw_okq (⟨"HandedLens", "tryYears", "(I)V"⟩, 12) := ⟨⟨by decide +kernel, by decide +kernel⟩, List.mem_of_getElem? (i := 16) (by decide +kernel), List.mem_of_getElem? (i := 617) (by decide +kernel), List.mem_of_getElem? (i := 618) (by decide +kernel)⟩
theorem lw_p8 : lw_okq (⟨"HandedLens", "areSeenWithout", "(II)Z"⟩, 12) := ⟨⟨by decide +kernel, by decide +kernel⟩, List.mem_of_getElem? (i := 16) (by decide +kernel), List.mem_of_getElem? (i := 641) (by decide +kernel), List.mem_of_getElem? (i := 642) (by decide +kernel)⟩
theorem lw_p9 : lw_okq (⟨"HandedLens", "darkBehindTurns", "()I"⟩, 12) := ⟨⟨by decide +kernel, by decide +kernel⟩, List.mem_of_getElem? (i := 16) (by decide +kernel), List.mem_of_getElem? (i := 661) (by decide +kernel), List.mem_of_getElem? (i := 662) (by decide +kernel)⟩
theorem lw_p10 : lw_okq (⟨"HandedLensModel", "step", "()V"⟩, 23) := ⟨⟨by decide +kernel, by decide +kernel⟩, List.mem_of_getElem? (i := 742) (by decide +kernel), List.mem_of_getElem? (i := 832) (by decide +kernel), List.mem_of_getElem? (i := 833) (by decide +kernel)⟩
theorem lw_p11 : lw_okq (⟨"HandedLensModel", "here", "()I"⟩, 23) := ⟨⟨by decide +kernel, by decide +kernel⟩, List.mem_of_getElem? (i := 742) (by decide +kernel), List.mem_of_getElem? (i := 836) (by decide +kernel), List.mem_of_getElem? (i := 837) (by decide +kernel)⟩
theorem lw_p12 : lw_okq (⟨"HandedLensModel", "readsClause", "()Z"⟩, 23) := ⟨⟨by decide +kernel, by decide +kernel⟩, List.mem_of_getElem? (i := 742) (by decide +kernel), List.mem_of_getElem? (i := 842) (by decide +kernel), List.mem_of_getElem? (i := 843) (by decide +kernel)⟩
theorem lw_p13 : lw_okq (⟨"HandedLensModel", "fails", "(I)Z"⟩, 23) := ⟨⟨by decide +kernel, by decide +kernel⟩, List.mem_of_getElem? (i := 742) (by decide +kernel), List.mem_of_getElem? (i := 846) (by decide +kernel), List.mem_of_getElem? (i := 847) (by decide +kernel)⟩
theorem lw_p14 : lw_okq (⟨"HandedLensModel", "number", "(III)Z"⟩, 23) := ⟨⟨by decide +kernel, by decide +kernel⟩, List.mem_of_getElem? (i := 742) (by decide +kernel), List.mem_of_getElem? (i := 850) (by decide +kernel), List.mem_of_getElem? (i := 851) (by decide +kernel)⟩
theorem lw_p15 : lw_okq (⟨"HandedLensModel", "ends", "()Z"⟩, 23) := ⟨⟨by decide +kernel, by decide +kernel⟩, List.mem_of_getElem? (i := 742) (by decide +kernel), List.mem_of_getElem? (i := 854) (by decide +kernel), List.mem_of_getElem? (i := 855) (by decide +kernel)⟩
def lw_privs_1 : List (MethodName × Nat) := [(⟨"HandedLens", "scenesOfAll", "()I"⟩, 12), (⟨"HandedLens", "scenesTakenFor", "(I)I"⟩, 12), (⟨"HandedLens", "takenNow", "(I)I"⟩, 12), (⟨"HandedLens", "kinOf", "(I)I"⟩, 12), (⟨"HandedLens", "refusalOfYears", "(I)I"⟩, 12), (⟨"HandedLens", "doByDraw", "()V"⟩, 12), (⟨"HandedLens", "drawOf", "(I)I"⟩, 12), (⟨"HandedLens", "tryYears", "(I)V"⟩, 12), (⟨"HandedLens", "areSeenWithout", "(II)Z"⟩, 12), (⟨"HandedLens", "darkBehindTurns", "()I"⟩, 12), (⟨"HandedLensModel", "step", "()V"⟩, 23), (⟨"HandedLensModel", "here", "()I"⟩, 23), (⟨"HandedLensModel", "readsClause", "()Z"⟩, 23), (⟨"HandedLensModel", "fails", "(I)Z"⟩, 23), (⟨"HandedLensModel", "number", "(III)Z"⟩, 23), (⟨"HandedLensModel", "ends", "()Z"⟩, 23)]
theorem lw_r1 : ∀ q ∈ lw_privs_1, lw_okq q := List.forall_mem_cons.mpr ⟨lw_p0, List.forall_mem_cons.mpr ⟨lw_p1, List.forall_mem_cons.mpr ⟨lw_p2, List.forall_mem_cons.mpr ⟨lw_p3, List.forall_mem_cons.mpr ⟨lw_p4, List.forall_mem_cons.mpr ⟨lw_p5, List.forall_mem_cons.mpr ⟨lw_p6, List.forall_mem_cons.mpr ⟨lw_p7, List.forall_mem_cons.mpr ⟨lw_p8, List.forall_mem_cons.mpr ⟨lw_p9, List.forall_mem_cons.mpr ⟨lw_p10, List.forall_mem_cons.mpr ⟨lw_p11, List.forall_mem_cons.mpr ⟨lw_p12, List.forall_mem_cons.mpr ⟨lw_p13, List.forall_mem_cons.mpr ⟨lw_p14, List.forall_mem_cons.mpr ⟨lw_p15, fun _ h => absurd h List.not_mem_nil⟩⟩⟩⟩⟩⟩⟩⟩⟩⟩⟩⟩⟩⟩⟩⟩
theorem lw_p16 : lw_okq (⟨"HandedLensModel", "readsScene", "()Z"⟩, 23) := ⟨⟨by decide +kernel, by decide +kernel⟩, List.mem_of_getElem? (i := 742) (by decide +kernel), List.mem_of_getElem? (i := 858) (by decide +kernel), List.mem_of_getElem? (i := 859) (by decide +kernel)⟩
theorem lw_p17 : lw_okq (⟨"HandedLensModel", "readsWearer", "()Z"⟩, 23) := ⟨⟨by decide +kernel, by decide +kernel⟩, List.mem_of_getElem? (i := 742) (by decide +kernel), List.mem_of_getElem? (i := 862) (by decide +kernel), List.mem_of_getElem? (i := 863) (by decide +kernel)⟩
theorem lw_p18 : lw_okq (⟨"HandedLensModel", "begins", "()V"⟩, 23) := ⟨⟨by decide +kernel, by decide +kernel⟩, List.mem_of_getElem? (i := 742) (by decide +kernel), List.mem_of_getElem? (i := 869) (by decide +kernel), List.mem_of_getElem? (i := 870) (by decide +kernel)⟩
theorem lw_p19 : lw_okq (⟨"HandedLensModel", "darkOn", "([I)I"⟩, 23) := ⟨⟨by decide +kernel, by decide +kernel⟩, List.mem_of_getElem? (i := 742) (by decide +kernel), List.mem_of_getElem? (i := 881) (by decide +kernel), List.mem_of_getElem? (i := 882) (by decide +kernel)⟩
theorem lw_p20 : lw_okq (⟨"HandedLensModel", "strengthOn", "([II)I"⟩, 23) := ⟨⟨by decide +kernel, by decide +kernel⟩, List.mem_of_getElem? (i := 742) (by decide +kernel), List.mem_of_getElem? (i := 885) (by decide +kernel), List.mem_of_getElem? (i := 886) (by decide +kernel)⟩
theorem lw_p21 : lw_okq (⟨"HandedLensModel", "seenByAll", "()I"⟩, 23) := ⟨⟨by decide +kernel, by decide +kernel⟩, List.mem_of_getElem? (i := 742) (by decide +kernel), List.mem_of_getElem? (i := 889) (by decide +kernel), List.mem_of_getElem? (i := 890) (by decide +kernel)⟩
theorem lw_p22 : lw_okq (⟨"HandedLensModel", "sawBy", "(I)I"⟩, 23) := ⟨⟨by decide +kernel, by decide +kernel⟩, List.mem_of_getElem? (i := 742) (by decide +kernel), List.mem_of_getElem? (i := 893) (by decide +kernel), List.mem_of_getElem? (i := 894) (by decide +kernel)⟩
theorem lw_p23 : lw_okq (⟨"HandedLensModel", "eyes", "()I"⟩, 23) := ⟨⟨by decide +kernel, by decide +kernel⟩, List.mem_of_getElem? (i := 742) (by decide +kernel), List.mem_of_getElem? (i := 897) (by decide +kernel), List.mem_of_getElem? (i := 898) (by decide +kernel)⟩
theorem lw_p24 : lw_okq (⟨"HandedLensModel", "strongest", "()I"⟩, 23) := ⟨⟨by decide +kernel, by decide +kernel⟩, List.mem_of_getElem? (i := 742) (by decide +kernel), List.mem_of_getElem? (i := 901) (by decide +kernel), List.mem_of_getElem? (i := 902) (by decide +kernel)⟩
theorem lw_p25 : lw_okq (⟨"HandedLensModel", "thick", "()I"⟩, 23) := ⟨⟨by decide +kernel, by decide +kernel⟩, List.mem_of_getElem? (i := 742) (by decide +kernel), List.mem_of_getElem? (i := 905) (by decide +kernel), List.mem_of_getElem? (i := 906) (by decide +kernel)⟩
theorem lw_p26 : lw_okq (⟨"HandedLensModel", "isScene", "(I)Z"⟩, 23) := ⟨⟨by decide +kernel, by decide +kernel⟩, List.mem_of_getElem? (i := 742) (by decide +kernel), List.mem_of_getElem? (i := 916) (by decide +kernel), List.mem_of_getElem? (i := 917) (by decide +kernel)⟩
theorem lw_p27 : lw_okq (⟨"HandedLensModel", "half", "(II)I"⟩, 23) := ⟨⟨by decide +kernel, by decide +kernel⟩, List.mem_of_getElem? (i := 742) (by decide +kernel), List.mem_of_getElem? (i := 921) (by decide +kernel), List.mem_of_getElem? (i := 922) (by decide +kernel)⟩
theorem lw_p28 : lw_okq (⟨"HandedLensModel", "lookFor", "(I)I"⟩, 23) := ⟨⟨by decide +kernel, by decide +kernel⟩, List.mem_of_getElem? (i := 742) (by decide +kernel), List.mem_of_getElem? (i := 925) (by decide +kernel), List.mem_of_getElem? (i := 926) (by decide +kernel)⟩
theorem lw_p29 : lw_okq (⟨"HandedLensModel", "takesNow", "(I)I"⟩, 23) := ⟨⟨by decide +kernel, by decide +kernel⟩, List.mem_of_getElem? (i := 742) (by decide +kernel), List.mem_of_getElem? (i := 929) (by decide +kernel), List.mem_of_getElem? (i := 930) (by decide +kernel)⟩
theorem lw_p30 : lw_okq (⟨"HandedLensModel", "takesBy", "([IIII)I"⟩, 23) := ⟨⟨by decide +kernel, by decide +kernel⟩, List.mem_of_getElem? (i := 742) (by decide +kernel), List.mem_of_getElem? (i := 933) (by decide +kernel), List.mem_of_getElem? (i := 934) (by decide +kernel)⟩
theorem lw_p31 : lw_okq (⟨"HandedLensModel", "isWearer", "(I)Z"⟩, 23) := ⟨⟨by decide +kernel, by decide +kernel⟩, List.mem_of_getElem? (i := 742) (by decide +kernel), List.mem_of_getElem? (i := 944) (by decide +kernel), List.mem_of_getElem? (i := 945) (by decide +kernel)⟩
def lw_privs_2 : List (MethodName × Nat) := [(⟨"HandedLensModel", "readsScene", "()Z"⟩, 23), (⟨"HandedLensModel", "readsWearer", "()Z"⟩, 23), (⟨"HandedLensModel", "begins", "()V"⟩, 23), (⟨"HandedLensModel", "darkOn", "([I)I"⟩, 23), (⟨"HandedLensModel", "strengthOn", "([II)I"⟩, 23), (⟨"HandedLensModel", "seenByAll", "()I"⟩, 23), (⟨"HandedLensModel", "sawBy", "(I)I"⟩, 23), (⟨"HandedLensModel", "eyes", "()I"⟩, 23), (⟨"HandedLensModel", "strongest", "()I"⟩, 23), (⟨"HandedLensModel", "thick", "()I"⟩, 23), (⟨"HandedLensModel", "isScene", "(I)Z"⟩, 23), (⟨"HandedLensModel", "half", "(II)I"⟩, 23), (⟨"HandedLensModel", "lookFor", "(I)I"⟩, 23), (⟨"HandedLensModel", "takesNow", "(I)I"⟩, 23), (⟨"HandedLensModel", "takesBy", "([IIII)I"⟩, 23), (⟨"HandedLensModel", "isWearer", "(I)Z"⟩, 23)]
theorem lw_r2 : ∀ q ∈ lw_privs_2, lw_okq q := List.forall_mem_cons.mpr ⟨lw_p16, List.forall_mem_cons.mpr ⟨lw_p17, List.forall_mem_cons.mpr ⟨lw_p18, List.forall_mem_cons.mpr ⟨lw_p19, List.forall_mem_cons.mpr ⟨lw_p20, List.forall_mem_cons.mpr ⟨lw_p21, List.forall_mem_cons.mpr ⟨lw_p22, List.forall_mem_cons.mpr ⟨lw_p23, List.forall_mem_cons.mpr ⟨lw_p24, List.forall_mem_cons.mpr ⟨lw_p25, List.forall_mem_cons.mpr ⟨lw_p26, List.forall_mem_cons.mpr ⟨lw_p27, List.forall_mem_cons.mpr ⟨lw_p28, List.forall_mem_cons.mpr ⟨lw_p29, List.forall_mem_cons.mpr ⟨lw_p30, List.forall_mem_cons.mpr ⟨lw_p31, fun _ h => absurd h List.not_mem_nil⟩⟩⟩⟩⟩⟩⟩⟩⟩⟩⟩⟩⟩⟩⟩⟩
theorem lw_p32 : lw_okq (⟨"HandedLensModel", "kin", "(I)I"⟩, 23) := ⟨⟨by decide +kernel, by decide +kernel⟩, List.mem_of_getElem? (i := 742) (by decide +kernel), List.mem_of_getElem? (i := 948) (by decide +kernel), List.mem_of_getElem? (i := 949) (by decide +kernel)⟩
theorem lw_p33 : lw_okq (⟨"HandedLensModel", "nextScene", "([II)I"⟩, 23) := ⟨⟨by decide +kernel, by decide +kernel⟩, List.mem_of_getElem? (i := 742) (by decide +kernel), List.mem_of_getElem? (i := 955) (by decide +kernel), List.mem_of_getElem? (i := 956) (by decide +kernel)⟩
theorem lw_p34 : lw_okq (⟨"HandedLensModel", "isLayer", "(I)Z"⟩, 23) := ⟨⟨by decide +kernel, by decide +kernel⟩, List.mem_of_getElem? (i := 742) (by decide +kernel), List.mem_of_getElem? (i := 963) (by decide +kernel), List.mem_of_getElem? (i := 964) (by decide +kernel)⟩
theorem lw_p35 : lw_okq (⟨"HandedLensModel", "refuses", "(I)I"⟩, 23) := ⟨⟨by decide +kernel, by decide +kernel⟩, List.mem_of_getElem? (i := 742) (by decide +kernel), List.mem_of_getElem? (i := 977) (by decide +kernel), List.mem_of_getElem? (i := 978) (by decide +kernel)⟩
theorem lw_p36 : lw_okq (⟨"HandedLensModel", "remember", "()V"⟩, 23) := ⟨⟨by decide +kernel, by decide +kernel⟩, List.mem_of_getElem? (i := 742) (by decide +kernel), List.mem_of_getElem? (i := 984) (by decide +kernel), List.mem_of_getElem? (i := 985) (by decide +kernel)⟩
theorem lw_p37 : lw_okq (⟨"HandedLensModel", "yearGoes", "([I)V"⟩, 23) := ⟨⟨by decide +kernel, by decide +kernel⟩, List.mem_of_getElem? (i := 742) (by decide +kernel), List.mem_of_getElem? (i := 988) (by decide +kernel), List.mem_of_getElem? (i := 989) (by decide +kernel)⟩
theorem lw_p38 : lw_okq (⟨"HandedLensModel", "looks", "([II)I"⟩, 23) := ⟨⟨by decide +kernel, by decide +kernel⟩, List.mem_of_getElem? (i := 742) (by decide +kernel), List.mem_of_getElem? (i := 992) (by decide +kernel), List.mem_of_getElem? (i := 993) (by decide +kernel)⟩
theorem lw_p39 : lw_okq (⟨"HandedLensModel", "fading", "(IIZ)I"⟩, 23) := ⟨⟨by decide +kernel, by decide +kernel⟩, List.mem_of_getElem? (i := 742) (by decide +kernel), List.mem_of_getElem? (i := 1008) (by decide +kernel), List.mem_of_getElem? (i := 1009) (by decide +kernel)⟩
theorem lw_p40 : lw_okq (⟨"HandedLensModel", "draws", "()V"⟩, 23) := ⟨⟨by decide +kernel, by decide +kernel⟩, List.mem_of_getElem? (i := 742) (by decide +kernel), List.mem_of_getElem? (i := 1033) (by decide +kernel), List.mem_of_getElem? (i := 1034) (by decide +kernel)⟩
theorem lw_p41 : lw_okq (⟨"HandedLensModel", "draw", "(I)I"⟩, 23) := ⟨⟨by decide +kernel, by decide +kernel⟩, List.mem_of_getElem? (i := 742) (by decide +kernel), List.mem_of_getElem? (i := 1037) (by decide +kernel), List.mem_of_getElem? (i := 1038) (by decide +kernel)⟩
theorem lw_p42 : lw_okq (⟨"HandedLensModel", "layAside", "()V"⟩, 23) := ⟨⟨by decide +kernel, by decide +kernel⟩, List.mem_of_getElem? (i := 742) (by decide +kernel), List.mem_of_getElem? (i := 1058) (by decide +kernel), List.mem_of_getElem? (i := 1059) (by decide +kernel)⟩
theorem lw_p43 : lw_okq (⟨"HandedLensModel", "loss", "(I)I"⟩, 23) := ⟨⟨by decide +kernel, by decide +kernel⟩, List.mem_of_getElem? (i := 742) (by decide +kernel), List.mem_of_getElem? (i := 1074) (by decide +kernel), List.mem_of_getElem? (i := 1075) (by decide +kernel)⟩
theorem lw_p44 : lw_okq (⟨"HandedLensModel", "areThemselves", "(II)Z"⟩, 23) := ⟨⟨by decide +kernel, by decide +kernel⟩, List.mem_of_getElem? (i := 742) (by decide +kernel), List.mem_of_getElem? (i := 1078) (by decide +kernel), List.mem_of_getElem? (i := 1079) (by decide +kernel)⟩
theorem lw_p45 : lw_okq (⟨"HandedLensModel", "nextOrder", "(I)Z"⟩, 23) := ⟨⟨by decide +kernel, by decide +kernel⟩, List.mem_of_getElem? (i := 742) (by decide +kernel), List.mem_of_getElem? (i := 1092) (by decide +kernel), List.mem_of_getElem? (i := 1093) (by decide +kernel)⟩
def lw_privs_3 : List (MethodName × Nat) := [(⟨"HandedLensModel", "kin", "(I)I"⟩, 23), (⟨"HandedLensModel", "nextScene", "([II)I"⟩, 23), (⟨"HandedLensModel", "isLayer", "(I)Z"⟩, 23), (⟨"HandedLensModel", "refuses", "(I)I"⟩, 23), (⟨"HandedLensModel", "remember", "()V"⟩, 23), (⟨"HandedLensModel", "yearGoes", "([I)V"⟩, 23), (⟨"HandedLensModel", "looks", "([II)I"⟩, 23), (⟨"HandedLensModel", "fading", "(IIZ)I"⟩, 23), (⟨"HandedLensModel", "draws", "()V"⟩, 23), (⟨"HandedLensModel", "draw", "(I)I"⟩, 23), (⟨"HandedLensModel", "layAside", "()V"⟩, 23), (⟨"HandedLensModel", "loss", "(I)I"⟩, 23), (⟨"HandedLensModel", "areThemselves", "(II)Z"⟩, 23), (⟨"HandedLensModel", "nextOrder", "(I)Z"⟩, 23)]
theorem lw_r3 : ∀ q ∈ lw_privs_3, lw_okq q := List.forall_mem_cons.mpr ⟨lw_p32, List.forall_mem_cons.mpr ⟨lw_p33, List.forall_mem_cons.mpr ⟨lw_p34, List.forall_mem_cons.mpr ⟨lw_p35, List.forall_mem_cons.mpr ⟨lw_p36, List.forall_mem_cons.mpr ⟨lw_p37, List.forall_mem_cons.mpr ⟨lw_p38, List.forall_mem_cons.mpr ⟨lw_p39, List.forall_mem_cons.mpr ⟨lw_p40, List.forall_mem_cons.mpr ⟨lw_p41, List.forall_mem_cons.mpr ⟨lw_p42, List.forall_mem_cons.mpr ⟨lw_p43, List.forall_mem_cons.mpr ⟨lw_p44, List.forall_mem_cons.mpr ⟨lw_p45, fun _ h => absurd h List.not_mem_nil⟩⟩⟩⟩⟩⟩⟩⟩⟩⟩⟩⟩⟩⟩
def lw_privs : List (MethodName × Nat) := lw_privs_1 ++ (lw_privs_2 ++ (lw_privs_3))
def lw_tbl : List Cond := k2_sels lw_privs ++ tables_1
theorem lw_privs_ok : ∀ q ∈ lw_privs, lw_okq q := by
  show ∀ q ∈ lw_privs_1 ++ (lw_privs_2 ++ (lw_privs_3)), lw_okq q
  exact List.forall_mem_append.mpr ⟨lw_r1, List.forall_mem_append.mpr ⟨lw_r2, lw_r3⟩⟩
def RX0 : String := "HandedLens$Book"
def TX0 : u_T := fun k => match k with
  | 0 => ("HandedLens$Book", "scenes", "[I", true)
  | 1 => ("HandedLens$Book", "takings", "[I", true)
  | _ => ("HandedLens$Book", "size", "I", false)
def tyX0 : Nat → FieldType := fun k => match k with
  | 0 => .array .int
  | 1 => .array .int
  | _ => .int
theorem nmX0 : ∀ a, a < 3 → ∀ b, b < 3 → a ≠ b → (TX0 a).2.1 ≠ (TX0 b).2.1 := by decide +kernel
theorem tyX0_ok : ∀ k, k < 3 → parseFieldDescriptor (TX0 k).2.2.1 = some (tyX0 k) := by decide +kernel
abbrev cX0_init : ByteArray := prog_2_method_1_code
def yX0_init : MethodName := ⟨RX0, "<init>", "()V"⟩
abbrev cX0_forget : ByteArray := prog_2_method_2_code
def yX0_forget : MethodName := ⟨RX0, "forget", "()V"⟩
abbrev cX0_add : ByteArray := prog_2_method_3_code
def yX0_add : MethodName := ⟨RX0, "add", "(II)V"⟩
def RX1 : String := "HandedLens$History"
def TX1 : u_T := fun k => match k with
  | 0 => ("HandedLens$History", "rows", "[LHandedLens$Pair;", true)
  | 1 => ("HandedLens$History", "first", "I", false)
  | _ => ("HandedLens$History", "size", "I", false)
def tyX1 : Nat → FieldType := fun k => match k with
  | 0 => .array (.object "HandedLens$Pair")
  | 1 => .int
  | _ => .int
theorem nmX1 : ∀ a, a < 3 → ∀ b, b < 3 → a ≠ b → (TX1 a).2.1 ≠ (TX1 b).2.1 := by decide +kernel
theorem tyX1_ok : ∀ k, k < 3 → parseFieldDescriptor (TX1 k).2.2.1 = some (tyX1 k) := by decide +kernel
abbrev cX1_init : ByteArray := prog_3_method_1_code
def yX1_init : MethodName := ⟨RX1, "<init>", "()V"⟩
abbrev cX1_forget : ByteArray := prog_3_method_2_code
def yX1_forget : MethodName := ⟨RX1, "forget", "()V"⟩
abbrev cX1_remember : ByteArray := prog_3_method_3_code
def yX1_remember : MethodName := ⟨RX1, "remember", "(LHandedLens$Pair;)V"⟩
abbrev cX1_restore : ByteArray := prog_3_method_4_code
def yX1_restore : MethodName := ⟨RX1, "restore", "(LHandedLens$Pair;I)V"⟩
def RX2 : String := "HandedLens$Image"
def TX2 : u_T := fun k => match k with
  | 0 => ("HandedLens$Image", "pair", "LHandedLens$Pair;", true)
  | 1 => ("HandedLens$Image", "seed", "I", false)
  | _ => ("HandedLens$Image", "kept", "Z", false)
def tyX2 : Nat → FieldType := fun k => match k with
  | 0 => .object "HandedLens$Pair"
  | 1 => .int
  | _ => .boolean
theorem nmX2 : ∀ a, a < 3 → ∀ b, b < 3 → a ≠ b → (TX2 a).2.1 ≠ (TX2 b).2.1 := by decide +kernel
theorem tyX2_ok : ∀ k, k < 3 → parseFieldDescriptor (TX2 k).2.2.1 = some (tyX2 k) := by decide +kernel
abbrev cX2_init : ByteArray := prog_4_method_1_code
def yX2_init : MethodName := ⟨RX2, "<init>", "()V"⟩
def RX3 : String := "HandedLens$Line"
def TX3 : u_T := fun k => match k with
  | 0 => ("HandedLens$Line", "kinds", "[I", true)
  | 1 => ("HandedLens$Line", "brights", "[I", true)
  | 2 => ("HandedLens$Line", "lookCounts", "[I", true)
  | 3 => ("HandedLens$Line", "looks", "[[I", true)
  | 4 => ("HandedLens$Line", "clear", "I", false)
  | 5 => ("HandedLens$Line", "scenes", "I", false)
  | _ => ("HandedLens$Line", "wearers", "I", false)
def tyX3 : Nat → FieldType := fun k => match k with
  | 0 => .array .int
  | 1 => .array .int
  | 2 => .array .int
  | 3 => .array (.array .int)
  | 4 => .int
  | 5 => .int
  | _ => .int
theorem nmX3 : ∀ a, a < 7 → ∀ b, b < 7 → a ≠ b → (TX3 a).2.1 ≠ (TX3 b).2.1 := by decide +kernel
theorem tyX3_ok : ∀ k, k < 7 → parseFieldDescriptor (TX3 k).2.2.1 = some (tyX3 k) := by decide +kernel
abbrev cX3_init : ByteArray := prog_5_method_1_code
def yX3_init : MethodName := ⟨RX3, "<init>", "()V"⟩
abbrev cX3_forget : ByteArray := prog_5_method_2_code
def yX3_forget : MethodName := ⟨RX3, "forget", "()V"⟩
abbrev cX3_addScene : ByteArray := prog_5_method_3_code
def yX3_addScene : MethodName := ⟨RX3, "addScene", "(II)V"⟩
abbrev cX3_addWearer : ByteArray := prog_5_method_4_code
def yX3_addWearer : MethodName := ⟨RX3, "addWearer", "()V"⟩
abbrev cX3_addLook : ByteArray := prog_5_method_5_code
def yX3_addLook : MethodName := ⟨RX3, "addLook", "(I)V"⟩
abbrev cX3_hasScene : ByteArray := prog_5_method_6_code
def yX3_hasScene : MethodName := ⟨RX3, "hasScene", "(I)Z"⟩
abbrev cX3_hasWearer : ByteArray := prog_5_method_7_code
def yX3_hasWearer : MethodName := ⟨RX3, "hasWearer", "(I)Z"⟩
abbrev cX3_kindOf : ByteArray := prog_5_method_8_code
def yX3_kindOf : MethodName := ⟨RX3, "kindOf", "(I)I"⟩
abbrev cX3_brightOf : ByteArray := prog_5_method_9_code
def yX3_brightOf : MethodName := ⟨RX3, "brightOf", "(I)I"⟩
abbrev cX3_looksOf : ByteArray := prog_5_method_10_code
def yX3_looksOf : MethodName := ⟨RX3, "looksOf", "(I)I"⟩
abbrev cX3_sceneInYear : ByteArray := prog_5_method_11_code
def yX3_sceneInYear : MethodName := ⟨RX3, "sceneInYear", "(II)I"⟩
abbrev cX3_veil : ByteArray := prog_5_method_12_code
def yX3_veil : MethodName := ⟨RX3, "veil", "(II)I"⟩
abbrev cX3_gain : ByteArray := prog_5_method_13_code
def yX3_gain : MethodName := ⟨RX3, "gain", "(I)I"⟩
def RX4 : String := "HandedLens$Log"
def TX4 : u_T := fun k => match k with
  | 0 => ("HandedLens$Log", "rows", "[I", true)
  | 1 => ("HandedLens$Log", "first", "I", false)
  | _ => ("HandedLens$Log", "size", "I", false)
def tyX4 : Nat → FieldType := fun k => match k with
  | 0 => .array .int
  | 1 => .int
  | _ => .int
theorem nmX4 : ∀ a, a < 3 → ∀ b, b < 3 → a ≠ b → (TX4 a).2.1 ≠ (TX4 b).2.1 := by decide +kernel
theorem tyX4_ok : ∀ k, k < 3 → parseFieldDescriptor (TX4 k).2.2.1 = some (tyX4 k) := by decide +kernel
abbrev cX4_init : ByteArray := prog_6_method_1_code
def yX4_init : MethodName := ⟨RX4, "<init>", "()V"⟩
abbrev cX4_forget : ByteArray := prog_6_method_2_code
def yX4_forget : MethodName := ⟨RX4, "forget", "()V"⟩
abbrev cX4_add : ByteArray := prog_6_method_3_code
def yX4_add : MethodName := ⟨RX4, "add", "(IIII)V"⟩
abbrev cX4_at : ByteArray := prog_6_method_4_code
def yX4_at : MethodName := ⟨RX4, "at", "(II)I"⟩
abbrev cX4_copyAll : ByteArray := prog_6_method_5_code
def yX4_copyAll : MethodName := ⟨RX4, "copyAll", "(LHandedLens$Log;)V"⟩
def RX5 : String := "HandedLens$Met"
def TX5 : u_T := fun k => match k with
  | 0 => ("HandedLens$Met", "scenes", "[I", true)
  | 1 => ("HandedLens$Met", "so", "[Z", true)
  | _ => ("HandedLens$Met", "size", "I", false)
def tyX5 : Nat → FieldType := fun k => match k with
  | 0 => .array .int
  | 1 => .array .boolean
  | _ => .int
theorem nmX5 : ∀ a, a < 3 → ∀ b, b < 3 → a ≠ b → (TX5 a).2.1 ≠ (TX5 b).2.1 := by decide +kernel
theorem tyX5_ok : ∀ k, k < 3 → parseFieldDescriptor (TX5 k).2.2.1 = some (tyX5 k) := by decide +kernel
abbrev cX5_init : ByteArray := prog_7_method_1_code
def yX5_init : MethodName := ⟨RX5, "<init>", "()V"⟩
abbrev cX5_forget : ByteArray := prog_7_method_2_code
def yX5_forget : MethodName := ⟨RX5, "forget", "()V"⟩
abbrev cX5_add : ByteArray := prog_7_method_3_code
def yX5_add : MethodName := ⟨RX5, "add", "(IZ)V"⟩
abbrev cX5_fits : ByteArray := prog_7_method_4_code
def yX5_fits : MethodName := ⟨RX5, "fits", "(I)Z"⟩
def RX6 : String := "HandedLens$Pair"
def TX6 : u_T := fun k => match k with
  | 0 => ("HandedLens$Pair", "sceneOf", "[I", true)
  | 1 => ("HandedLens$Pair", "wearerOf", "[I", true)
  | 2 => ("HandedLens$Pair", "strengthOf", "[I", true)
  | 3 => ("HandedLens$Pair", "worns", "[I", true)
  | 4 => ("HandedLens$Pair", "log", "LHandedLens$Log;", true)
  | 5 => ("HandedLens$Pair", "layers", "I", false)
  | 6 => ("HandedLens$Pair", "worn", "I", false)
  | _ => ("HandedLens$Pair", "years", "I", false)
def tyX6 : Nat → FieldType := fun k => match k with
  | 0 => .array .int
  | 1 => .array .int
  | 2 => .array .int
  | 3 => .array .int
  | 4 => .object "HandedLens$Log"
  | 5 => .int
  | 6 => .int
  | _ => .int
theorem nmX6 : ∀ a, a < 8 → ∀ b, b < 8 → a ≠ b → (TX6 a).2.1 ≠ (TX6 b).2.1 := by decide +kernel
theorem tyX6_ok : ∀ k, k < 8 → parseFieldDescriptor (TX6 k).2.2.1 = some (tyX6 k) := by decide +kernel
abbrev cX6_init : ByteArray := prog_8_method_1_code
def yX6_init : MethodName := ⟨RX6, "<init>", "()V"⟩
abbrev cX6_reset : ByteArray := prog_8_method_2_code
def yX6_reset : MethodName := ⟨RX6, "reset", "()V"⟩
abbrev cX6_copyAll : ByteArray := prog_8_method_3_code
def yX6_copyAll : MethodName := ⟨RX6, "copyAll", "(LHandedLens$Pair;)V"⟩
abbrev cX6_copyGlass : ByteArray := prog_8_method_4_code
def yX6_copyGlass : MethodName := ⟨RX6, "copyGlass", "(LHandedLens$Pair;)V"⟩
abbrev cX6_hasLayer : ByteArray := prog_8_method_5_code
def yX6_hasLayer : MethodName := ⟨RX6, "hasLayer", "(I)Z"⟩
abbrev cX6_yearsOf : ByteArray := prog_8_method_6_code
def yX6_yearsOf : MethodName := ⟨RX6, "yearsOf", "(I)I"⟩
abbrev cX6_passYear : ByteArray := prog_8_method_7_code
def yX6_passYear : MethodName := ⟨RX6, "passYear", "(LHandedLens$Line;)V"⟩
abbrev cX6_deepen : ByteArray := prog_8_method_8_code
def yX6_deepen : MethodName := ⟨RX6, "deepen", "(II)I"⟩
abbrev cX6_lay : ByteArray := prog_8_method_9_code
def yX6_lay : MethodName := ⟨RX6, "lay", "(III)V"⟩
abbrev cX6_remove : ByteArray := prog_8_method_10_code
def yX6_remove : MethodName := ⟨RX6, "remove", "(I)V"⟩
abbrev cX6_fadeBut : ByteArray := prog_8_method_11_code
def yX6_fadeBut : MethodName := ⟨RX6, "fadeBut", "(ILHandedLens$Line;)V"⟩
abbrev cX6_fading : ByteArray := prog_8_method_12_code
def yX6_fading : MethodName := ⟨RX6, "fading", "(II)I"⟩
abbrev cX6_takenFor : ByteArray := prog_8_method_13_code
def yX6_takenFor : MethodName := ⟨RX6, "takenFor", "(LHandedLens$Line;III)I"⟩
abbrev cX6_strongestBut : ByteArray := prog_8_method_14_code
def yX6_strongestBut : MethodName := ⟨RX6, "strongestBut", "(I)I"⟩
abbrev cX6_weakest : ByteArray := prog_8_method_15_code
def yX6_weakest : MethodName := ⟨RX6, "weakest", "()I"⟩
abbrev cX6_layersBefore : ByteArray := prog_8_method_16_code
def yX6_layersBefore : MethodName := ⟨RX6, "layersBefore", "(I)I"⟩
abbrev cX6_find : ByteArray := prog_8_method_17_code
def yX6_find : MethodName := ⟨RX6, "find", "(II)I"⟩
abbrev cX6_darkness : ByteArray := prog_8_method_18_code
def yX6_darkness : MethodName := ⟨RX6, "darkness", "()I"⟩
abbrev cX6_strengthOfScene : ByteArray := prog_8_method_19_code
def yX6_strengthOfScene : MethodName := ⟨RX6, "strengthOfScene", "(I)I"⟩
abbrev cX6_scenesOf : ByteArray := prog_8_method_20_code
def yX6_scenesOf : MethodName := ⟨RX6, "scenesOf", "(I)I"⟩
abbrev cX6_lowestOfWearers : ByteArray := prog_8_method_21_code
def yX6_lowestOfWearers : MethodName := ⟨RX6, "lowestOfWearers", "()I"⟩
abbrev cX6_thickest : ByteArray := prog_8_method_22_code
def yX6_thickest : MethodName := ⟨RX6, "thickest", "()I"⟩
def RX7 : String := "HandedLens$Reader"
def TX7 : u_T := fun k => match k with
  | 0 => ("HandedLens$Reader", "text", "[I", true)
  | 1 => ("HandedLens$Reader", "length", "I", false)
  | 2 => ("HandedLens$Reader", "at", "I", false)
  | 3 => ("HandedLens$Reader", "fault", "I", false)
  | _ => ("HandedLens$Reader", "faultAt", "I", false)
def tyX7 : Nat → FieldType := fun k => match k with
  | 0 => .array .int
  | 1 => .int
  | 2 => .int
  | 3 => .int
  | _ => .int
theorem nmX7 : ∀ a, a < 5 → ∀ b, b < 5 → a ≠ b → (TX7 a).2.1 ≠ (TX7 b).2.1 := by decide +kernel
theorem tyX7_ok : ∀ k, k < 5 → parseFieldDescriptor (TX7 k).2.2.1 = some (tyX7 k) := by decide +kernel
abbrev cX7_init : ByteArray := prog_9_method_1_code
def yX7_init : MethodName := ⟨RX7, "<init>", "()V"⟩
abbrev cX7_append : ByteArray := prog_9_method_2_code
def yX7_append : MethodName := ⟨RX7, "append", "(I)V"⟩
abbrev cX7_empty : ByteArray := prog_9_method_3_code
def yX7_empty : MethodName := ⟨RX7, "empty", "()V"⟩
abbrev cX7_readInto : ByteArray := prog_9_method_4_code
def yX7_readInto : MethodName := ⟨RX7, "readInto", "(LHandedLens$Line;)I"⟩
abbrev cX7_readClause : ByteArray := prog_9_method_5_code
def yX7_readClause : MethodName := ⟨RX7, "readClause", "(LHandedLens$Line;)V"⟩
abbrev cX7_readClear : ByteArray := prog_9_method_6_code
def yX7_readClear : MethodName := ⟨RX7, "readClear", "(LHandedLens$Line;)V"⟩
abbrev cX7_readScene : ByteArray := prog_9_method_7_code
def yX7_readScene : MethodName := ⟨RX7, "readScene", "(LHandedLens$Line;)V"⟩
abbrev cX7_readWearer : ByteArray := prog_9_method_8_code
def yX7_readWearer : MethodName := ⟨RX7, "readWearer", "(LHandedLens$Line;)V"⟩
abbrev cX7_readNumber : ByteArray := prog_9_method_9_code
def yX7_readNumber : MethodName := ⟨RX7, "readNumber", "(II)I"⟩
abbrev cX7_accept : ByteArray := prog_9_method_10_code
def yX7_accept : MethodName := ⟨RX7, "accept", "(IZ)Z"⟩
abbrev cX7_letterHere : ByteArray := prog_9_method_11_code
def yX7_letterHere : MethodName := ⟨RX7, "letterHere", "()I"⟩
abbrev cX7_skipBlanks : ByteArray := prog_9_method_12_code
def yX7_skipBlanks : MethodName := ⟨RX7, "skipBlanks", "()V"⟩
abbrev cX7_isFigure : ByteArray := prog_9_method_13_code
def yX7_isFigure : MethodName := ⟨RX7, "isFigure", "(I)Z"⟩
abbrev cX7_blame : ByteArray := prog_9_method_14_code
def yX7_blame : MethodName := ⟨RX7, "blame", "(II)V"⟩
def RX8 : String := "HandedLens$Turns"
def TX8 : u_T := fun k => match k with
  | 0 => ("HandedLens$Turns", "row", "[I", true)
  | _ => ("HandedLens$Turns", "size", "I", false)
def tyX8 : Nat → FieldType := fun k => match k with
  | 0 => .array .int
  | _ => .int
theorem nmX8 : ∀ a, a < 2 → ∀ b, b < 2 → a ≠ b → (TX8 a).2.1 ≠ (TX8 b).2.1 := by decide +kernel
theorem tyX8_ok : ∀ k, k < 2 → parseFieldDescriptor (TX8 k).2.2.1 = some (tyX8 k) := by decide +kernel
abbrev cX8_init : ByteArray := prog_10_method_1_code
def yX8_init : MethodName := ⟨RX8, "<init>", "()V"⟩
abbrev cX8_begin : ByteArray := prog_10_method_2_code
def yX8_begin : MethodName := ⟨RX8, "begin", "(I)V"⟩
abbrev cX8_figures : ByteArray := prog_10_method_3_code
def yX8_figures : MethodName := ⟨RX8, "figures", "()I"⟩
abbrev cX8_advance : ByteArray := prog_10_method_4_code
def yX8_advance : MethodName := ⟨RX8, "advance", "()Z"⟩
abbrev cX8_lastRise : ByteArray := prog_10_method_5_code
def yX8_lastRise : MethodName := ⟨RX8, "lastRise", "()I"⟩
abbrev cX8_swap : ByteArray := prog_10_method_6_code
def yX8_swap : MethodName := ⟨RX8, "swap", "(II)V"⟩
def RX9 : String := "HandedLens"
def TX9 : u_T := fun k => match k with
  | 0 => ("HandedLens", "reader", "LHandedLens$Reader;", true)
  | 1 => ("HandedLens", "history", "LHandedLens$History;", true)
  | 2 => ("HandedLens", "images", "[LHandedLens$Image;", true)
  | 3 => ("HandedLens", "pair", "LHandedLens$Pair;", true)
  | 4 => ("HandedLens", "tried", "LHandedLens$Pair;", true)
  | 5 => ("HandedLens", "turns", "LHandedLens$Turns;", true)
  | 6 => ("HandedLens", "met", "LHandedLens$Met;", true)
  | 7 => ("HandedLens", "book", "LHandedLens$Book;", true)
  | 8 => ("HandedLens", "line", "LHandedLens$Line;", false)
  | 9 => ("HandedLens", "spare", "LHandedLens$Line;", false)
  | 10 => ("HandedLens", "faultAt", "I", false)
  | _ => ("HandedLens", "seed", "I", false)
def tyX9 : Nat → FieldType := fun k => match k with
  | 0 => .object "HandedLens$Reader"
  | 1 => .object "HandedLens$History"
  | 2 => .array (.object "HandedLens$Image")
  | 3 => .object "HandedLens$Pair"
  | 4 => .object "HandedLens$Pair"
  | 5 => .object "HandedLens$Turns"
  | 6 => .object "HandedLens$Met"
  | 7 => .object "HandedLens$Book"
  | 8 => .object "HandedLens$Line"
  | 9 => .object "HandedLens$Line"
  | 10 => .int
  | _ => .int
theorem nmX9 : ∀ a, a < 12 → ∀ b, b < 12 → a ≠ b → (TX9 a).2.1 ≠ (TX9 b).2.1 := by decide +kernel
theorem tyX9_ok : ∀ k, k < 12 → parseFieldDescriptor (TX9 k).2.2.1 = some (tyX9 k) := by decide +kernel
abbrev cX9_init : ByteArray := prog_1_method_1_code
def yX9_init : MethodName := ⟨RX9, "<init>", "()V"⟩
abbrev cX9_feed : ByteArray := prog_1_method_2_code
def yX9_feed : MethodName := ⟨RX9, "feed", "(I)I"⟩
abbrev cX9_line : ByteArray := prog_1_method_3_code
def yX9_line : MethodName := ⟨RX9, "line", "()I"⟩
abbrev cX9_fault : ByteArray := prog_1_method_4_code
def yX9_fault : MethodName := ⟨RX9, "fault", "()I"⟩
abbrev cX9_told : ByteArray := prog_1_method_5_code
def yX9_told : MethodName := ⟨RX9, "told", "(I)I"⟩
abbrev cX9_scene : ByteArray := prog_1_method_6_code
def yX9_scene : MethodName := ⟨RX9, "scene", "(II)I"⟩
abbrev cX9_wearer : ByteArray := prog_1_method_7_code
def yX9_wearer : MethodName := ⟨RX9, "wearer", "(II)I"⟩
abbrev cX9_layer : ByteArray := prog_1_method_8_code
def yX9_layer : MethodName := ⟨RX9, "layer", "(II)I"⟩
abbrev cX9_logged : ByteArray := prog_1_method_9_code
def yX9_logged : MethodName := ⟨RX9, "logged", "(II)I"⟩
abbrev cX9_year : ByteArray := prog_1_method_10_code
def yX9_year : MethodName := ⟨RX9, "year", "(I)I"⟩
abbrev cX9_wear : ByteArray := prog_1_method_11_code
def yX9_wear : MethodName := ⟨RX9, "wear", "(I)I"⟩
abbrev cX9_takeOff : ByteArray := prog_1_method_12_code
def yX9_takeOff : MethodName := ⟨RX9, "takeOff", "()I"⟩
abbrev cX9_wipe : ByteArray := prog_1_method_13_code
def yX9_wipe : MethodName := ⟨RX9, "wipe", "(I)I"⟩
abbrev cX9_chip : ByteArray := prog_1_method_14_code
def yX9_chip : MethodName := ⟨RX9, "chip", "(II)I"⟩
abbrev cX9_drift : ByteArray := prog_1_method_15_code
def yX9_drift : MethodName := ⟨RX9, "drift", "(I)I"⟩
abbrev cX9_undo : ByteArray := prog_1_method_16_code
def yX9_undo : MethodName := ⟨RX9, "undo", "(I)I"⟩
abbrev cX9_takes : ByteArray := prog_1_method_17_code
def yX9_takes : MethodName := ⟨RX9, "takes", "(I)I"⟩
abbrev cX9_dark : ByteArray := prog_1_method_18_code
def yX9_dark : MethodName := ⟨RX9, "dark", "(I)I"⟩
abbrev cX9_tooDark : ByteArray := prog_1_method_19_code
def yX9_tooDark : MethodName := ⟨RX9, "tooDark", "(I)I"⟩
abbrev cX9_willShow : ByteArray := prog_1_method_20_code
def yX9_willShow : MethodName := ⟨RX9, "willShow", "(II)I"⟩
abbrev cX9_toWipe : ByteArray := prog_1_method_21_code
def yX9_toWipe : MethodName := ⟨RX9, "toWipe", "(II)I"⟩
abbrev cX9_only : ByteArray := prog_1_method_22_code
def yX9_only : MethodName := ⟨RX9, "only", "(II)I"⟩
abbrev cX9_order : ByteArray := prog_1_method_23_code
def yX9_order : MethodName := ⟨RX9, "order", "(II)I"⟩
abbrev cX9_ground : ByteArray := prog_1_method_24_code
def yX9_ground : MethodName := ⟨RX9, "ground", "(I)I"⟩
abbrev cX9_mist : ByteArray := prog_1_method_25_code
def yX9_mist : MethodName := ⟨RX9, "mist", "(II)I"⟩
abbrev cX9_meet : ByteArray := prog_1_method_26_code
def yX9_meet : MethodName := ⟨RX9, "meet", "(IZ)I"⟩
abbrev cX9_couldBe : ByteArray := prog_1_method_27_code
def yX9_couldBe : MethodName := ⟨RX9, "couldBe", "()I"⟩
abbrev cX9_ask : ByteArray := prog_1_method_28_code
def yX9_ask : MethodName := ⟨RX9, "ask", "()I"⟩
abbrev cX9_write : ByteArray := prog_1_method_29_code
def yX9_write : MethodName := ⟨RX9, "write", "(II)I"⟩
abbrev cX9_judge : ByteArray := prog_1_method_30_code
def yX9_judge : MethodName := ⟨RX9, "judge", "()I"⟩
abbrev cX9_tear : ByteArray := prog_1_method_31_code
def yX9_tear : MethodName := ⟨RX9, "tear", "()I"⟩
abbrev cX9_seed : ByteArray := prog_1_method_32_code
def yX9_seed : MethodName := ⟨RX9, "seed", "(I)I"⟩
abbrev cX9_keep : ByteArray := prog_1_method_33_code
def yX9_keep : MethodName := ⟨RX9, "keep", "(I)I"⟩
abbrev cX9_goBack : ByteArray := prog_1_method_34_code
def yX9_goBack : MethodName := ⟨RX9, "goBack", "(I)I"⟩
abbrev cX9_isSetOf : ByteArray := prog_1_method_35_code
def yX9_isSetOf : MethodName := ⟨RX9, "isSetOf", "(II)Z"⟩
abbrev cX9_refusalOfYears : ByteArray := prog_1_method_36_code
def yX9_refusalOfYears : MethodName := ⟨RX9, "refusalOfYears", "(I)I"⟩
abbrev cX9_takenNow : ByteArray := prog_1_method_37_code
def yX9_takenNow : MethodName := ⟨RX9, "takenNow", "(I)I"⟩
abbrev cX9_scenesTakenFor : ByteArray := prog_1_method_38_code
def yX9_scenesTakenFor : MethodName := ⟨RX9, "scenesTakenFor", "(I)I"⟩
abbrev cX9_scenesOfAll : ByteArray := prog_1_method_39_code
def yX9_scenesOfAll : MethodName := ⟨RX9, "scenesOfAll", "()I"⟩
abbrev cX9_kinOf : ByteArray := prog_1_method_40_code
def yX9_kinOf : MethodName := ⟨RX9, "kinOf", "(I)I"⟩
abbrev cX9_areSeenWithout : ByteArray := prog_1_method_41_code
def yX9_areSeenWithout : MethodName := ⟨RX9, "areSeenWithout", "(II)Z"⟩
abbrev cX9_tryYears : ByteArray := prog_1_method_42_code
def yX9_tryYears : MethodName := ⟨RX9, "tryYears", "(I)V"⟩
abbrev cX9_darkBehindTurns : ByteArray := prog_1_method_43_code
def yX9_darkBehindTurns : MethodName := ⟨RX9, "darkBehindTurns", "()I"⟩
abbrev cX9_drawOf : ByteArray := prog_1_method_44_code
def yX9_drawOf : MethodName := ⟨RX9, "drawOf", "(I)I"⟩
abbrev cX9_doByDraw : ByteArray := prog_1_method_45_code
def yX9_doByDraw : MethodName := ⟨RX9, "doByDraw", "()V"⟩
def RX10 : String := "HandedLensModel"
def TX10 : u_T := fun k => match k with
  | 0 => ("HandedLensModel", "line", "[I", true)
  | 1 => ("HandedLensModel", "read", "[I", true)
  | 2 => ("HandedLensModel", "now", "[I", true)
  | 3 => ("HandedLensModel", "aside", "[I", true)
  | 4 => ("HandedLensModel", "past", "[I", true)
  | 5 => ("HandedLensModel", "undos", "I", false)
  | 6 => ("HandedLensModel", "images", "[I", true)
  | 7 => ("HandedLensModel", "kept", "[Z", true)
  | 8 => ("HandedLensModel", "seed", "J", false)
  | 9 => ("HandedLensModel", "text", "[I", true)
  | 10 => ("HandedLensModel", "size", "I", false)
  | 11 => ("HandedLensModel", "fault", "I", false)
  | 12 => ("HandedLensModel", "met", "[I", true)
  | 13 => ("HandedLensModel", "metMany", "I", false)
  | 14 => ("HandedLensModel", "book", "[I", true)
  | 15 => ("HandedLensModel", "bookMany", "I", false)
  | 16 => ("HandedLensModel", "at", "I", false)
  | 17 => ("HandedLensModel", "begin", "I", false)
  | 18 => ("HandedLensModel", "sign", "I", false)
  | 19 => ("HandedLensModel", "figures", "I", false)
  | 20 => ("HandedLensModel", "value", "I", false)
  | 21 => ("HandedLensModel", "wrong", "I", false)
  | _ => ("HandedLensModel", "row", "[I", true)
def tyX10 : Nat → FieldType := fun k => match k with
  | 0 => .array .int
  | 1 => .array .int
  | 2 => .array .int
  | 3 => .array .int
  | 4 => .array .int
  | 5 => .int
  | 6 => .array .int
  | 7 => .array .boolean
  | 8 => .long
  | 9 => .array .int
  | 10 => .int
  | 11 => .int
  | 12 => .array .int
  | 13 => .int
  | 14 => .array .int
  | 15 => .int
  | 16 => .int
  | 17 => .int
  | 18 => .int
  | 19 => .int
  | 20 => .int
  | 21 => .int
  | _ => .array .int
theorem nmX10 : ∀ a, a < 23 → ∀ b, b < 23 → a ≠ b → (TX10 a).2.1 ≠ (TX10 b).2.1 := by decide +kernel
theorem tyX10_ok : ∀ k, k < 23 → parseFieldDescriptor (TX10 k).2.2.1 = some (tyX10 k) := by decide +kernel
abbrev cX10_init : ByteArray := prog_12_method_1_code
def yX10_init : MethodName := ⟨RX10, "<init>", "()V"⟩
abbrev cX10_in : ByteArray := prog_12_method_3_code
def yX10_in : MethodName := ⟨RX10, "in", "(JJJ)Z"⟩
abbrev cX10_has : ByteArray := prog_12_method_4_code
def yX10_has : MethodName := ⟨RX10, "has", "(II)Z"⟩
abbrev cX10_bits : ByteArray := prog_12_method_5_code
def yX10_bits : MethodName := ⟨RX10, "bits", "(I)I"⟩
abbrev cX10_lesser : ByteArray := prog_12_method_6_code
def yX10_lesser : MethodName := ⟨RX10, "lesser", "(II)I"⟩
abbrev cX10_greater : ByteArray := prog_12_method_7_code
def yX10_greater : MethodName := ⟨RX10, "greater", "(II)I"⟩
abbrev cX10_copies : ByteArray := prog_12_method_8_code
def yX10_copies : MethodName := ⟨RX10, "copies", "([II[III)V"⟩
abbrev cX10_begins : ByteArray := prog_12_method_9_code
def yX10_begins : MethodName := ⟨RX10, "begins", "()V"⟩
abbrev cX10_feed : ByteArray := prog_12_method_10_code
def yX10_feed : MethodName := ⟨RX10, "feed", "(I)I"⟩
abbrev cX10_here : ByteArray := prog_12_method_11_code
def yX10_here : MethodName := ⟨RX10, "here", "()I"⟩
abbrev cX10_step : ByteArray := prog_12_method_12_code
def yX10_step : MethodName := ⟨RX10, "step", "()V"⟩
abbrev cX10_fails : ByteArray := prog_12_method_13_code
def yX10_fails : MethodName := ⟨RX10, "fails", "(I)Z"⟩
abbrev cX10_number : ByteArray := prog_12_method_14_code
def yX10_number : MethodName := ⟨RX10, "number", "(III)Z"⟩
abbrev cX10_ends : ByteArray := prog_12_method_15_code
def yX10_ends : MethodName := ⟨RX10, "ends", "()Z"⟩
abbrev cX10_readsScene : ByteArray := prog_12_method_16_code
def yX10_readsScene : MethodName := ⟨RX10, "readsScene", "()Z"⟩
abbrev cX10_readsWearer : ByteArray := prog_12_method_17_code
def yX10_readsWearer : MethodName := ⟨RX10, "readsWearer", "()Z"⟩
abbrev cX10_readsClause : ByteArray := prog_12_method_18_code
def yX10_readsClause : MethodName := ⟨RX10, "readsClause", "()Z"⟩
abbrev cX10_line : ByteArray := prog_12_method_19_code
def yX10_line : MethodName := ⟨RX10, "line", "()I"⟩
abbrev cX10_fault : ByteArray := prog_12_method_20_code
def yX10_fault : MethodName := ⟨RX10, "fault", "()I"⟩
abbrev cX10_isScene : ByteArray := prog_12_method_21_code
def yX10_isScene : MethodName := ⟨RX10, "isScene", "(I)Z"⟩
abbrev cX10_isWearer : ByteArray := prog_12_method_22_code
def yX10_isWearer : MethodName := ⟨RX10, "isWearer", "(I)Z"⟩
abbrev cX10_isLayer : ByteArray := prog_12_method_23_code
def yX10_isLayer : MethodName := ⟨RX10, "isLayer", "(I)Z"⟩
abbrev cX10_half : ByteArray := prog_12_method_24_code
def yX10_half : MethodName := ⟨RX10, "half", "(II)I"⟩
abbrev cX10_takesBy : ByteArray := prog_12_method_25_code
def yX10_takesBy : MethodName := ⟨RX10, "takesBy", "([IIII)I"⟩
abbrev cX10_takesNow : ByteArray := prog_12_method_26_code
def yX10_takesNow : MethodName := ⟨RX10, "takesNow", "(I)I"⟩
abbrev cX10_strengthOn : ByteArray := prog_12_method_27_code
def yX10_strengthOn : MethodName := ⟨RX10, "strengthOn", "([II)I"⟩
abbrev cX10_darkOn : ByteArray := prog_12_method_28_code
def yX10_darkOn : MethodName := ⟨RX10, "darkOn", "([I)I"⟩
abbrev cX10_removes : ByteArray := prog_12_method_29_code
def yX10_removes : MethodName := ⟨RX10, "removes", "([II)V"⟩
abbrev cX10_lays : ByteArray := prog_12_method_30_code
def yX10_lays : MethodName := ⟨RX10, "lays", "([IIII)V"⟩
abbrev cX10_logs : ByteArray := prog_12_method_31_code
def yX10_logs : MethodName := ⟨RX10, "logs", "([IIII)V"⟩
abbrev cX10_nextScene : ByteArray := prog_12_method_32_code
def yX10_nextScene : MethodName := ⟨RX10, "nextScene", "([II)I"⟩
abbrev cX10_looks : ByteArray := prog_12_method_33_code
def yX10_looks : MethodName := ⟨RX10, "looks", "([II)I"⟩
abbrev cX10_fading : ByteArray := prog_12_method_34_code
def yX10_fading : MethodName := ⟨RX10, "fading", "(IIZ)I"⟩
abbrev cX10_yearGoes : ByteArray := prog_12_method_35_code
def yX10_yearGoes : MethodName := ⟨RX10, "yearGoes", "([I)V"⟩
abbrev cX10_remember : ByteArray := prog_12_method_36_code
def yX10_remember : MethodName := ⟨RX10, "remember", "()V"⟩
abbrev cX10_sawBy : ByteArray := prog_12_method_37_code
def yX10_sawBy : MethodName := ⟨RX10, "sawBy", "(I)I"⟩
abbrev cX10_seenByAll : ByteArray := prog_12_method_38_code
def yX10_seenByAll : MethodName := ⟨RX10, "seenByAll", "()I"⟩
abbrev cX10_kin : ByteArray := prog_12_method_39_code
def yX10_kin : MethodName := ⟨RX10, "kin", "(I)I"⟩
abbrev cX10_eyes : ByteArray := prog_12_method_40_code
def yX10_eyes : MethodName := ⟨RX10, "eyes", "()I"⟩
abbrev cX10_strongest : ByteArray := prog_12_method_41_code
def yX10_strongest : MethodName := ⟨RX10, "strongest", "()I"⟩
abbrev cX10_thick : ByteArray := prog_12_method_42_code
def yX10_thick : MethodName := ⟨RX10, "thick", "()I"⟩
abbrev cX10_told : ByteArray := prog_12_method_43_code
def yX10_told : MethodName := ⟨RX10, "told", "(I)I"⟩
abbrev cX10_lookFor : ByteArray := prog_12_method_44_code
def yX10_lookFor : MethodName := ⟨RX10, "lookFor", "(I)I"⟩
abbrev cX10_scene : ByteArray := prog_12_method_45_code
def yX10_scene : MethodName := ⟨RX10, "scene", "(II)I"⟩
abbrev cX10_wearer : ByteArray := prog_12_method_46_code
def yX10_wearer : MethodName := ⟨RX10, "wearer", "(II)I"⟩
abbrev cX10_layer : ByteArray := prog_12_method_47_code
def yX10_layer : MethodName := ⟨RX10, "layer", "(II)I"⟩
abbrev cX10_logged : ByteArray := prog_12_method_48_code
def yX10_logged : MethodName := ⟨RX10, "logged", "(II)I"⟩
abbrev cX10_refuses : ByteArray := prog_12_method_49_code
def yX10_refuses : MethodName := ⟨RX10, "refuses", "(I)I"⟩
abbrev cX10_year : ByteArray := prog_12_method_50_code
def yX10_year : MethodName := ⟨RX10, "year", "(I)I"⟩
abbrev cX10_wear : ByteArray := prog_12_method_51_code
def yX10_wear : MethodName := ⟨RX10, "wear", "(I)I"⟩
abbrev cX10_takeOff : ByteArray := prog_12_method_52_code
def yX10_takeOff : MethodName := ⟨RX10, "takeOff", "()I"⟩
abbrev cX10_wipe : ByteArray := prog_12_method_53_code
def yX10_wipe : MethodName := ⟨RX10, "wipe", "(I)I"⟩
abbrev cX10_chip : ByteArray := prog_12_method_54_code
def yX10_chip : MethodName := ⟨RX10, "chip", "(II)I"⟩
abbrev cX10_draw : ByteArray := prog_12_method_55_code
def yX10_draw : MethodName := ⟨RX10, "draw", "(I)I"⟩
abbrev cX10_draws : ByteArray := prog_12_method_56_code
def yX10_draws : MethodName := ⟨RX10, "draws", "()V"⟩
abbrev cX10_drift : ByteArray := prog_12_method_57_code
def yX10_drift : MethodName := ⟨RX10, "drift", "(I)I"⟩
abbrev cX10_undo : ByteArray := prog_12_method_58_code
def yX10_undo : MethodName := ⟨RX10, "undo", "(I)I"⟩
abbrev cX10_layAside : ByteArray := prog_12_method_59_code
def yX10_layAside : MethodName := ⟨RX10, "layAside", "()V"⟩
abbrev cX10_takes : ByteArray := prog_12_method_60_code
def yX10_takes : MethodName := ⟨RX10, "takes", "(I)I"⟩
abbrev cX10_dark : ByteArray := prog_12_method_61_code
def yX10_dark : MethodName := ⟨RX10, "dark", "(I)I"⟩
abbrev cX10_tooDark : ByteArray := prog_12_method_62_code
def yX10_tooDark : MethodName := ⟨RX10, "tooDark", "(I)I"⟩
abbrev cX10_willShow : ByteArray := prog_12_method_63_code
def yX10_willShow : MethodName := ⟨RX10, "willShow", "(II)I"⟩
abbrev cX10_areThemselves : ByteArray := prog_12_method_64_code
def yX10_areThemselves : MethodName := ⟨RX10, "areThemselves", "(II)Z"⟩
abbrev cX10_loss : ByteArray := prog_12_method_65_code
def yX10_loss : MethodName := ⟨RX10, "loss", "(I)I"⟩
abbrev cX10_toWipe : ByteArray := prog_12_method_66_code
def yX10_toWipe : MethodName := ⟨RX10, "toWipe", "(II)I"⟩
abbrev cX10_only : ByteArray := prog_12_method_67_code
def yX10_only : MethodName := ⟨RX10, "only", "(II)I"⟩
abbrev cX10_nextOrder : ByteArray := prog_12_method_68_code
def yX10_nextOrder : MethodName := ⟨RX10, "nextOrder", "(I)Z"⟩
abbrev cX10_order : ByteArray := prog_12_method_69_code
def yX10_order : MethodName := ⟨RX10, "order", "(II)I"⟩
abbrev cX10_ground : ByteArray := prog_12_method_70_code
def yX10_ground : MethodName := ⟨RX10, "ground", "(I)I"⟩
abbrev cX10_mist : ByteArray := prog_12_method_71_code
def yX10_mist : MethodName := ⟨RX10, "mist", "(II)I"⟩
abbrev cX10_meet : ByteArray := prog_12_method_72_code
def yX10_meet : MethodName := ⟨RX10, "meet", "(IZ)I"⟩
abbrev cX10_couldBe : ByteArray := prog_12_method_73_code
def yX10_couldBe : MethodName := ⟨RX10, "couldBe", "()I"⟩
abbrev cX10_ask : ByteArray := prog_12_method_74_code
def yX10_ask : MethodName := ⟨RX10, "ask", "()I"⟩
abbrev cX10_write : ByteArray := prog_12_method_75_code
def yX10_write : MethodName := ⟨RX10, "write", "(II)I"⟩
abbrev cX10_judge : ByteArray := prog_12_method_76_code
def yX10_judge : MethodName := ⟨RX10, "judge", "()I"⟩
abbrev cX10_tear : ByteArray := prog_12_method_77_code
def yX10_tear : MethodName := ⟨RX10, "tear", "()I"⟩
abbrev cX10_seed : ByteArray := prog_12_method_78_code
def yX10_seed : MethodName := ⟨RX10, "seed", "(I)I"⟩
abbrev cX10_keep : ByteArray := prog_12_method_79_code
def yX10_keep : MethodName := ⟨RX10, "keep", "(I)I"⟩
abbrev cX10_goBack : ByteArray := prog_12_method_80_code
def yX10_goBack : MethodName := ⟨RX10, "goBack", "(I)I"⟩
def RJ6 : String := "java/lang/Integer"
def TJ6 : u_T := fun k => match k with
  | _ => ("", "", "", false)
def tyJ6 : Nat → FieldType := fun k => match k with
  | _ => .int
abbrev wsJ60 : List Cond := u_ws RJ6 TJ6 0
theorem nmJ6 : ∀ a, a < 0 → ∀ b, b < 0 → a ≠ b → (TJ6 a).2.1 ≠ (TJ6 b).2.1 := by decide +kernel
theorem tyJ6_ok : ∀ k, k < 0 → parseFieldDescriptor (TJ6 k).2.2.1 = some (tyJ6 k) := by decide +kernel
abbrev cJ6_bitCount_0f7a4 : ByteArray := prog_13_method_49_code
def yJ6_bitCount_0f7a4 : MethodName := ⟨RJ6, "bitCount", "(I)I"⟩
def RJ9 : String := "java/lang/Math"
def TJ9 : u_T := fun k => match k with
  | _ => ("", "", "", false)
def tyJ9 : Nat → FieldType := fun k => match k with
  | _ => .int
abbrev wsJ90 : List Cond := u_ws RJ9 TJ9 0
theorem nmJ9 : ∀ a, a < 0 → ∀ b, b < 0 → a ≠ b → (TJ9 a).2.1 ≠ (TJ9 b).2.1 := by decide +kernel
theorem tyJ9_ok : ∀ k, k < 0 → parseFieldDescriptor (TJ9 k).2.2.1 = some (tyJ9 k) := by decide +kernel
abbrev cJ9_max_7cf53 : ByteArray := prog_14_method_65_code
def yJ9_max_7cf53 : MethodName := ⟨RJ9, "max", "(II)I"⟩
abbrev cJ9_min_7cf53 : ByteArray := prog_14_method_69_code
def yJ9_min_7cf53 : MethodName := ⟨RJ9, "min", "(II)I"⟩
def RJ10 : String := "java/lang/System"
def TJ10 : u_T := fun k => match k with
  | _ => ("", "", "", false)
def tyJ10 : Nat → FieldType := fun k => match k with
  | _ => .int
abbrev wsJ100 : List Cond := u_ws RJ10 TJ10 0
theorem nmJ10 : ∀ a, a < 0 → ∀ b, b < 0 → a ≠ b → (TJ10 a).2.1 ≠ (TJ10 b).2.1 := by decide +kernel
theorem tyJ10_ok : ∀ k, k < 0 → parseFieldDescriptor (TJ10 k).2.2.1 = some (tyJ10 k) := by decide +kernel
def RL : String := "HandedLensLaw"
abbrev cL_law : ByteArray := code
def yL_law : MethodName := ⟨RL, "law", "([I)Z"⟩
abbrev vwCl : List vw_C := [(RX0, TX0, 3), (RX1, TX1, 3), (RX2, TX2, 3), (RX3, TX3, 7), (RX4, TX4, 3), (RX5, TX5, 3), (RX6, TX6, 8), (RX7, TX7, 5), (RX8, TX8, 2), (RX9, TX9, 12), (RX10, TX10, 23)]
end
section
/-! ===== THE ABSTRACT MACHINE: a state is locals, operand stack, and memory by places; P: from here the method comes to its end with Q; C: a call comes back with Q ===== -/
abbrev AE : Type := (Nat × vp_A) ⊕ (Nat × List Value)
abbrev AM : Type := Nat → Option AE
/-- a method: name, bytes, locals, what it returns, frames and words that it needs, its instructions -/
abbrev MR : Type := MethodName × ByteArray × Nat × Option FieldType × Nat × Nat × List (Nat × Instr × Nat)
abbrev mrY (m : MR) : MethodName := m.1
abbrev mrB (m : MR) : ByteArray := m.2.1
abbrev mrL (m : MR) : Nat := m.2.2.1
abbrev mrR (m : MR) : Option FieldType := m.2.2.2.1
abbrev mrF (m : MR) : Nat := m.2.2.2.2.1
abbrev mrW (m : MR) : Nat := m.2.2.2.2.2.1
abbrev mrT (m : MR) : List (Nat × Instr × Nat) := m.2.2.2.2.2.2
def TabOk (m : MR) : Prop := ∀ q ∈ mrT m, decode (mrB m) q.1 = .ok q.2
/-- the words that a callee keeps -/
def lwg : List Jvm.Cond := lw_tbl.filter goodWord
theorem lwg_of {w : Jvm.Cond} (h : w ∈ lw_tbl) (hg : goodWord w = true) : w ∈ lwg := List.mem_filter.mpr ⟨h, hg⟩
abbrev mrWs (m : MR) : List Jvm.Cond := Jvm.Cond.code (mrY m) (mrB m) (mrL m) (mrR m) :: lwg
abbrev mrRm (m : MR) : Room := { frames := mrF m, cells := 0, slots := 0, locals := mrW m }
/-- abstract values: a reference is a place; retAddr 0 is what nobody reads -/
def cv (ad : Nat → Nat) (v : Value) : Value := match v with
  | .ref k => .ref (ad k)
  | w => w
def wc (cA : Nat → ClassId) (ad : Nat → Nat) (c : Option AE) : va_E := match c with
  | none => .inr (0, [])
  | some (.inr (ci, fs)) => .inr (ci, fs.map (cv ad))
  | some (.inl (t, n, .inr (.inr (.inr (.inr g))))) => .inl (cA t, n, .inr (.inr (.inr (.inr (fun j => (g j).map ad)))))
  | some (.inl (t, x)) => .inl (cA t, x)
def wl (cA : Nat → ClassId) (ad : Nat → Nat) (n : Nat) (M : AM) : va_W := (List.range n).map (fun k => (ad k, wc cA ad (M k)))
def aup (M : AM) (k : Nat) (c : AE) : AM := fun j => if j = k then some c else M j
def FA (ad : Nat → Nat) (n : Nat) : Nat → Prop := fun q => ∃ k, k < n ∧ ad k = q
def Wd (D : va_G) (cA : Nat → ClassId) (ad : Nat → Nat) (n : Nat) (M : AM) (H : Heap) : Prop :=
  va_P D vwCl (wl cA ad n M) H ∧ (∀ i j, i < n → j < n → ad i = ad j → i = j) ∧ ∀ k c, M k = some c → k < n
abbrev tysL (cA : Nat → ClassId) : List (ClassId × FieldType) := [(cA 0, .int), (cA 1, .boolean), (cA 2, .object RX2), (cA 3, .object RX6), (cA 4, .array .int)]
def LV (ad : Nat → Nat) (ls : Array Slot) (nL : Nat) (L : List Value) : Prop :=
  ls.size = nL ∧ lv_wf ls ∧ L.length = nL ∧ ∀ (i : Nat) (v : Value), L[i]? = some v → v ≠ Value.retAddr 0 → ls[i]? = some (Slot.val (cv ad v))
def ScOk (sc : Option (Nat × (Nat → Int32))) (ad : Nat → Nat) (n : Nat) (s : State) (H0 : Heap) : Prop :=
  ∀ q, sc = some q → va_X (ad 1000000) q.1 q.2 s H0 ∧ ad 1000000 < H0.size ∧ ¬ FA ad n (ad 1000000)
def Ctx (p : Program) (R : Room) (s : State) (m : MethodId) (args : Array Value) (c : Code) (D : va_G) (cA : Nat → ClassId) (cells slots : Nat) (mr : MR) : Prop :=
  p.tables.exec = Jvm.exec ∧ c.code = mrB mr ∧ c.maxLocals = mrL mr ∧ s.vm.findClass (mrY mr).cls = some m.cls ∧ (∀ w ∈ lwg, w.before args s = true) ∧ va_K D vwCl (tysL cA) s ∧ mrF mr ≤ R.frames ∧ mrW mr ≤ R.locals ∧ TabOk mr ∧ cells ≤ R.cells ∧ slots ≤ R.slots
def RetAt (mr : MR) (pc : Nat) (r : Option Value) : Prop :=
  (r = none ∧ mrR mr = none ∧ decode (mrB mr) pc = .ok (.return_, 1)) ∨ ∃ v ty, r = some (.int v) ∧ mrR mr = some ty ∧ narrow ty (.int v) = .int v ∧ decode (mrB mr) pc = .ok (.ireturn, 1)
def P (sc : Option (Nat × (Nat → Int32))) (mr : MR) (pc : Nat) (L st : List Value) (M : AM) (Q : Option Value → AM → Prop) : Prop :=
  ∀ (p : Program) (l : Launch) (e : Env) (R : Room) (s : State) (m : MethodId) (args : Array Value) (below : List Frame) (meth : Method) (c : Code) (D : va_G) (cA : Nat → ClassId) (ad : Nat → Nat) (n : Nat) (H0 H : Heap) (locs : List Loc) (cells slots : Nat) (ls : Array Slot) (Z : State → Prop),
    Ctx p R s m args c D cA cells slots mr → ScOk sc ad n s H0 → Wd D cA ad n M H → va_S (FA ad n) H0 H locs → LV ad ls (mrL mr) L →
    (∀ (r : Option Value) (M' : AM) (pcr : Nat) (H' : Heap) (locs' : List Loc) (ls' : Array Slot), RetAt mr pcr r → Q r M' → Wd D cA ad n M' H' → va_S (FA ad n) H0 H' locs' → W p l e R s m args below meth c H' locs' cells slots Z (F0 m pcr ls' (r.toList.map (cv ad)))) →
    W p l e R s m args below meth c H locs cells slots Z (F0 m pc ls (st.map (cv ad)))
def C (mr : MR) (vs : List Value) (M : AM) (Q : Option Value → AM → Prop) : Prop :=
  ∀ (l : Launch) (D : va_G) (cA : Nat → ClassId) (ad : Nat → Nat) (n : Nat),
    Met l (mrY mr) (mrWs mr) (mrRm mr) (va_Pc (vs.map (cv ad)) (fun U : State => va_K D vwCl (tysL cA) U ∧ Wd D cA ad n M U.heap))
      (fun (_ : Array Value) (st : State) (oc : Outcome) (t : State) => ∃ (r : Option Value) (M' : AM), oc = Outcome.returned (r.map (cv ad)) ∧ Q r M' ∧ Wd D cA ad n M' t.heap ∧ va_F (FA ad n) st t) 0 0 (FA ad n)
theorem TabOk.dec {mr : MR} (h : TabOk mr) {i pc k : Nat} {x : Instr} (hi : (mrT mr)[i]? = some (pc, x, k)) : decode (mrB mr) pc = .ok (x, k) := h (pc, x, k) (List.mem_of_getElem? hi)
theorem Ctx.dec {p : Program} {R : Room} {s : State} {m : MethodId} {args : Array Value} {c : Code} {D : va_G} {cA : Nat → ClassId} {cells slots : Nat} {mr : MR} (h : Ctx p R s m args c D cA cells slots mr) {i pc k : Nat} {x : Instr} (hi : (mrT mr)[i]? = some (pc, x, k)) : decode (mrB mr) pc = .ok (x, k) := TabOk.dec h.2.2.2.2.2.2.2.2.1 hi
theorem wl_get {cA : Nat → ClassId} {ad : Nat → Nat} {n k : Nat} {M : AM} (h : k < n) : (wl cA ad n M)[k]? = some (ad k, wc cA ad (M k)) := by
  unfold wl
  rw [List.getElem?_map, List.getElem?_range h]
  rfl
theorem wl_len {cA : Nat → ClassId} {ad : Nat → Nat} {n : Nat} {M : AM} : (wl cA ad n M).length = n := by simp [wl]
theorem wl_at {cA : Nat → ClassId} {ad : Nat → Nat} {n k : Nat} {M : AM} {q : Nat × va_E} (h : (wl cA ad n M)[k]? = some q) : k < n ∧ q = (ad k, wc cA ad (M k)) := by
  have hk : k < n := by
    have := (List.getElem?_eq_some_iff.mp h).1
    rw [wl_len] at this
    exact this
  rw [wl_get hk] at h
  exact ⟨hk, (Option.some.inj h).symm⟩
theorem wl_set {cA : Nat → ClassId} {ad : Nat → Nat} {n k : Nat} {M : AM} (h : k < n) (c : AE) : (wl cA ad n M).set k (ad k, wc cA ad (some c)) = wl cA ad n (aup M k c) := by
  apply List.ext_getElem?
  intro i
  by_cases hi : i < n
  · rw [wl_get hi, List.getElem?_set]
    by_cases e : k = i
    · subst e
      rw [if_pos rfl, if_pos (by rw [wl_len]; exact h)]
      simp [aup]
    · rw [if_neg e, wl_get hi]
      have e2 : ¬ i = k := fun q => e q.symm
      unfold aup
      rw [if_neg e2]
  · rw [List.getElem?_eq_none (by rw [List.length_set, wl_len]; omega), List.getElem?_eq_none (by rw [wl_len]; omega)]
theorem Wd.D {D : va_G} {cA : Nat → ClassId} {ad : Nat → Nat} {n : Nat} {M : AM} {H : Heap} (h : Wd D cA ad n M H) : va_D (FA ad n) (wl cA ad n M) := by
  refine ⟨fun i j p q hi hj e => ?_, fun k q hk => ?_⟩
  · obtain ⟨h1, rfl⟩ := wl_at hi
    obtain ⟨h2, rfl⟩ := wl_at hj
    exact h.2.1 i j h1 h2 e
  · obtain ⟨h1, rfl⟩ := wl_at hk
    exact ⟨k, h1, rfl⟩
theorem Wd.put {D : va_G} {cA : Nat → ClassId} {ad : Nat → Nat} {n : Nat} {M : AM} {H H1 : Heap} {k : Nat} {c : AE} (h : Wd D cA ad n M H) (hk : k < n) (hP : va_P D vwCl ((wl cA ad n M).set k (ad k, wc cA ad (some c))) H1) : Wd D cA ad n (aup M k c) H1 := by
  rw [wl_set hk] at hP
  refine ⟨hP, h.2.1, fun j x hx => ?_⟩
  unfold aup at hx
  by_cases e : j = k
  · rw [e]; exact hk
  · rw [if_neg e] at hx
    exact h.2.2 j x hx
theorem LV.lv {ad : Nat → Nat} {ls : Array Slot} {nL : Nat} {L : List Value} (h : LV ad ls nL L) : lv_has ls nL ((List.range nL).filterMap (fun i => match L[i]? with
    | some v => if v = .retAddr 0 then none else some (i, cv ad v)
    | none => none)) := by
  refine ⟨h.1, h.2.1, fun q hq => ?_⟩
  obtain ⟨i, hi, e⟩ := List.mem_filterMap.mp hq
  cases hv : L[i]? with
  | none => rw [hv] at e; cases e
  | some v =>
    rw [hv] at e
    by_cases hz : v = .retAddr 0
    · simp [hz] at e
    · simp [hz] at e
      subst e
      exact h.2.2.2 i v hv hz
theorem cv_cat (ad : Nat → Nat) (v : Value) : (cv ad v).category = v.category := by cases v <;> rfl
theorem cv_sum (ad : Nat → Nat) (st : List Value) : ((st.map (cv ad)).map fun v => v.category).sum = (st.map fun v => v.category).sum := by
  rw [List.map_map]
  congr 1
  apply List.map_congr_left
  intro v _
  exact cv_cat ad v
/-- a store of one word: what is not the word stays; the word below it is no long -/
theorem LV.store {ad : Nat → Nat} {ls ls' : Array Slot} {nL i : Nat} {L : List Value} {v : Value} (h : LV ad ls nL L) (hi : i < nL)
    (hb : ∀ j w, j + 1 = i → L[j]? = some w → w.category ≠ 2)
    (h' : lv_has ls' nL ((i, cv ad v) :: ((List.range nL).filterMap (fun i => match L[i]? with
    | some v => if v = .retAddr 0 then none else some (i, cv ad v)
    | none => none)).filter (fun q => !(q.1 == i) && !(q.1 + 1 == i && q.2.category == 2)))) : LV ad ls' nL (L.set i v) := by
  refine ⟨h'.1, h'.2.1, by rw [List.length_set]; exact h.2.2.1, fun j w hj hw => ?_⟩
  rw [List.getElem?_set] at hj
  by_cases e : i = j
  · subst e
    rw [if_pos rfl, if_pos (by rw [h.2.2.1]; exact hi)] at hj
    obtain rfl := Option.some.inj hj
    exact h'.2.2 (i, cv ad v) List.mem_cons_self
  · rw [if_neg e] at hj
    have hjn : j < nL := by
      have := (List.getElem?_eq_some_iff.mp hj).1
      rw [h.2.2.1] at this
      exact this
    refine h'.2.2 (j, cv ad w) (List.mem_cons_of_mem _ (List.mem_filter.mpr ⟨List.mem_filterMap.mpr ⟨j, List.mem_range.mpr hjn, by rw [hj]; simp [hw]⟩, ?_⟩))
    have h1 : (j == i) = false := beq_eq_false_iff_ne.mpr (by omega)
    by_cases h2 : j + 1 = i
    · have := hb j w h2 hj
      simp [h1, cv_cat, this]
    · simp [h1, h2]
theorem LV.store2 {ad : Nat → Nat} {ls ls' : Array Slot} {nL i : Nat} {L : List Value} {v : Value} (h : LV ad ls nL L) (hi : i + 1 < nL)
    (hb : ∀ j w, j + 1 = i → L[j]? = some w → w.category ≠ 2)
    (h' : lv_has ls' nL ((i, cv ad v) :: ((List.range nL).filterMap (fun i => match L[i]? with
    | some v => if v = .retAddr 0 then none else some (i, cv ad v)
    | none => none)).filter (fun q => !(q.1 == i) && (!(q.1 == i + 1) && !(q.1 + 1 == i && q.2.category == 2))))) : LV ad ls' nL ((L.set i v).set (i + 1) (.retAddr 0)) := by
  refine ⟨h'.1, h'.2.1, by rw [List.length_set, List.length_set]; exact h.2.2.1, fun j w hj hw => ?_⟩
  rw [List.getElem?_set] at hj
  by_cases e1 : i + 1 = j
  · rw [if_pos e1, if_pos (by rw [List.length_set, h.2.2.1]; omega)] at hj
    exact absurd (Option.some.inj hj).symm hw
  · rw [if_neg e1, List.getElem?_set] at hj
    by_cases e : i = j
    · subst e
      rw [if_pos rfl, if_pos (by rw [h.2.2.1]; omega)] at hj
      obtain rfl := Option.some.inj hj
      exact h'.2.2 (i, cv ad v) List.mem_cons_self
    · rw [if_neg e] at hj
      have hjn : j < nL := by
        have := (List.getElem?_eq_some_iff.mp hj).1
        rw [h.2.2.1] at this
        exact this
      refine h'.2.2 (j, cv ad w) (List.mem_cons_of_mem _ (List.mem_filter.mpr ⟨List.mem_filterMap.mpr ⟨j, List.mem_range.mpr hjn, by rw [hj]; simp [hw]⟩, ?_⟩))
      have h1 : (j == i) = false := beq_eq_false_iff_ne.mpr (by omega)
      have h3 : (j == i + 1) = false := beq_eq_false_iff_ne.mpr (by omega)
      by_cases h2 : j + 1 = i
      · have := hb j w h2 hj
        simp [h1, h3, cv_cat, this]
      · simp [h1, h2, h3]
/-- the locals at a method's start -/
def en : Nat → List Value → List Value
  | n, [] => List.replicate n (.retAddr 0)
  | n, v :: vs => if v.category = 2 then v :: .retAddr 0 :: en (n - 2) vs else v :: en (n - 1) vs
theorem en_len : ∀ (vs : List Value) (n : Nat), (lg_sl vs).length ≤ n → (en n vs).length = n
  | [], n, _ => by simp [en]
  | v :: vs, n, h => by
    have e : lg_sl (v :: vs) = (if v.category = 2 then [Slot.val v, .second] else [Slot.val v]) ++ lg_sl vs := by simp [lg_sl]
    rw [e] at h
    unfold en
    by_cases hc : v.category = 2
    · rw [if_pos hc] at h ⊢
      simp only [List.length_append, List.length_cons, List.length_nil] at h
      rw [List.length_cons, List.length_cons, en_len vs (n - 2) (by omega)]
      omega
    · rw [if_neg hc] at h ⊢
      simp only [List.length_append, List.length_cons, List.length_nil] at h
      rw [List.length_cons, en_len vs (n - 1) (by omega)]
      omega
theorem en_args (ad : Nat → Nat) : ∀ (vs : List Value) (n o i : Nat) (v : Value), (en n vs)[i]? = some v → v ≠ .retAddr 0 → (o + i, cv ad v) ∈ lv_args o (vs.map (cv ad))
  | [], n, o, i, v, h, hv => by
    unfold en at h
    rw [List.getElem?_replicate] at h
    split at h
    · exact absurd (Option.some.inj h).symm hv
    · cases h
  | w :: vs, n, o, i, v, h, hv => by
    unfold en at h
    show (o + i, cv ad v) ∈ (o, cv ad w) :: lv_args (if (cv ad w).category = 2 then o + 2 else o + 1) (vs.map (cv ad))
    rw [cv_cat]
    by_cases hc : w.category = 2
    · rw [if_pos hc] at h ⊢
      match i, h with
      | 0, h => obtain rfl : w = v := Option.some.inj h; exact List.mem_cons_self
      | 1, h => exact absurd (Option.some.inj h).symm hv
      | i + 2, h =>
        have := en_args ad vs (n - 2) (o + 2) i v h hv
        rw [show o + (i + 2) = o + 2 + i by omega]
        exact List.mem_cons_of_mem _ this
    · rw [if_neg hc] at h ⊢
      match i, h with
      | 0, h => obtain rfl : w = v := Option.some.inj h; exact List.mem_cons_self
      | i + 1, h =>
        have := en_args ad vs (n - 1) (o + 1) i v h hv
        rw [show o + (i + 1) = o + 1 + i by omega]
        exact List.mem_cons_of_mem _ this
theorem lg_sl_cv (ad : Nat → Nat) (vs : List Value) : (lg_sl (vs.map (cv ad))).length = (lg_sl vs).length := by
  induction vs with
  | nil => rfl
  | cons v vs ih =>
    have e : ∀ (w : Value) (ws : List Value), lg_sl (w :: ws) = (if w.category = 2 then [Slot.val w, .second] else [Slot.val w]) ++ lg_sl ws := by intro w ws; simp [lg_sl]
    rw [List.map_cons, e, e, List.length_append, List.length_append, ih, cv_cat]
    by_cases hc : v.category = 2 <;> simp [hc]
/-- a contract out of a walk -/
theorem C_of {mr : MR} {vs : List Value} {M : AM} {Q : Option Value → AM → Prop} (ht : TabOk mr) (hpl : plainName (mrY mr).cls = true) (hn : (lg_sl vs).length ≤ mrL mr) (h : P none mr 0 (en (mrL mr) vs) [] M Q) : C mr vs M Q := by
  intro l D cA ad n
  refine Met.ofW (cc := mrB mr) (maxL := mrL mr) (ret := mrR mr) hpl rfl ?_
  intro p e s m args below meth c s₁ B hml hv
  obtain ⟨rfl, hK, hW⟩ := hv
  have hts := atoms_spec (ws := mrWs mr) B.pre
  have hown : s.vm.findClass (mrY mr).cls = some m.cls := findClass_of_methodNamed B.named
  have hlocks := B.notSynchronized
  have hr := B.returns
  have hl := lv_entry (vs.map (cv ad)) (n := mrL mr) (by rw [lg_sl_cv]; exact hn)
  rw [lg_entry_eq]
  refine h p l e (headSpec (mrWs mr) (mrRm mr)).room s m _ below meth c D cA ad n s.heap s.heap [] 0 0 _ _ ⟨B.exec, B.bytes, hml, hown, fun w hw => hts w (List.mem_cons_of_mem _ hw), hK, Nat.le_refl _, Nat.le_refl _, ht, Nat.zero_le _, Nat.zero_le _⟩ (fun q hq => by cases hq) hW va_S.rf ⟨hl.1, hl.2.1, en_len vs _ hn, fun i v hi hv => ?_⟩ ?_
  · have := hl.2.2 _ (en_args ad vs (mrL mr) 0 i v hi hv)
    rw [Nat.zero_add] at this
    exact this
  · intro r M' pcr H' locs' ls' hret hq hW' hS'
    rcases hret with ⟨rfl, hrt, hd⟩ | ⟨v, ty, rfl, hrt, hnar, hd⟩
    · exact W.vret B.exec B.bytes (hr.trans hrt) (fun t ht2 hWm => ⟨none, M', rfl, hq, by rw [ht2]; exact hW', hS'.F ht2⟩) hS'.2.2 hd
    · exact W.zret B.exec B.bytes (hr.trans hrt) hnar (fun t ht2 hWm => ⟨some (.int v), M', rfl, hq, by rw [ht2]; exact hW', hS'.F ht2⟩) hS'.2.2 hd
theorem C_mono {mr : MR} {vs : List Value} {M : AM} {Q Q' : Option Value → AM → Prop} (h : C mr vs M Q) (hq : ∀ r M', Q r M' → Q' r M') : C mr vs M Q' := by
  intro l D cA ad n
  have h1 := h l D cA ad n
  intro p e ha hc hk s m args below hf happ hp hx
  obtain ⟨t, o, a1, a2, a3, ⟨r, M', e1, e2, e3⟩, a4⟩ := h1 p e ha hc hk s m args below hf happ hp hx
  exact ⟨t, o, a1, a2, a3, ⟨r, M', e1, hq r M' e2, e3⟩, a4⟩
end
section
abbrev zI (a : Int) : Value := .int (Int32.ofInt a)
abbrev zJ (a : Int) : Value := .long (Int64.ofInt a)
def okS (L : List Value) (i : Nat) : Bool := Nat.blt i L.length && (match i with
  | 0 => true
  | j + 1 => match L[j]? with
    | some w => !(w.category == 2)
    | none => true)
theorem okS_lt {L : List Value} {i : Nat} (h : okS L i = true) : i < L.length := by
  unfold okS at h
  rw [Bool.and_eq_true] at h
  exact Nat.blt_eq.mp h.1
theorem okS_b {L : List Value} {i : Nat} (h : okS L i = true) : ∀ j w, j + 1 = i → L[j]? = some w → w.category ≠ 2 := by
  intro j w e hj
  subst e
  unfold okS at h
  rw [Bool.and_eq_true] at h
  have h2 := h.2
  simp only [hj] at h2
  intro q
  rw [q] at h2
  cases h2
theorem R_min : Int32.minValue.toInt = -2147483648 := by decide
theorem R_max : Int32.maxValue.toInt = 2147483647 := by decide
theorem R_minL : Int64.minValue.toInt = -9223372036854775808 := by decide
theorem R_maxL : Int64.maxValue.toInt = 9223372036854775807 := by decide
theorem zI_lt {a b : Int} (ha : -2147483648 ≤ a ∧ a ≤ 2147483647) (hb : -2147483648 ≤ b ∧ b ≤ 2147483647) : Int32.ofInt a < Int32.ofInt b ↔ a < b := Int32.ofInt_lt_iff_lt (by rw [R_min]; exact ha.1) (by rw [R_max]; exact ha.2) (by rw [R_min]; exact hb.1) (by rw [R_max]; exact hb.2)
theorem zI_le {a b : Int} (ha : -2147483648 ≤ a ∧ a ≤ 2147483647) (hb : -2147483648 ≤ b ∧ b ≤ 2147483647) : Int32.ofInt a ≤ Int32.ofInt b ↔ a ≤ b := Int32.ofInt_le_iff_le (by rw [R_min]; exact ha.1) (by rw [R_max]; exact ha.2) (by rw [R_min]; exact hb.1) (by rw [R_max]; exact hb.2)
theorem zI_eq {a b : Int} (ha : -2147483648 ≤ a ∧ a ≤ 2147483647) (hb : -2147483648 ≤ b ∧ b ≤ 2147483647) : Int32.ofInt a = Int32.ofInt b ↔ a = b := by
  constructor
  · intro h
    have h1 := (zI_le ha hb).mp (by rw [h]; exact Int32.le_refl _)
    have h2 := (zI_le hb ha).mp (by rw [h]; exact Int32.le_refl _)
    omega
  · intro h; rw [h]
theorem zI_0 : Int32.ofInt 0 = 0 := by decide
theorem zI_T {a : Int} (ha : -2147483648 ≤ a ∧ a ≤ 2147483647) : (Int32.ofInt a).toInt = a := Int32.toInt_ofInt_of_le (by omega) (by omega)
theorem zJ_T {a : Int} (ha : -9223372036854775808 ≤ a ∧ a ≤ 9223372036854775807) : (Int64.ofInt a).toInt = a := Int64.toInt_ofInt_of_le (by omega) (by omega)
theorem zI_in {a : Int} {n : Nat} (h : 0 ≤ a ∧ a < n) (hn : n < 2147483648) : vp_in (Int32.ofInt a) n ∧ (Int32.ofInt a).toNatClampNeg = a.toNat := by
  have e : (Int32.ofInt a).toInt = a := zI_T (by omega)
  refine ⟨vp_in_iff.mpr (by rw [e]; exact h), ?_⟩
  show (Int32.ofInt a).toInt.toNat = a.toNat
  rw [e]
theorem zI_div {a b : Int} (ha : 0 ≤ a ∧ a ≤ 2147483647) (hb : 0 < b ∧ b ≤ 2147483647) : Int32.ofInt a / Int32.ofInt b = Int32.ofInt (a / b) := by
  rw [← Int32.ofInt_tdiv (by rw [R_min]; omega) (by rw [R_max]; omega) (by rw [R_min]; omega) (by rw [R_max]; omega), Int.tdiv_eq_ediv_of_nonneg ha.1]
theorem zI_rem {a b : Int} (ha : 0 ≤ a ∧ a ≤ 2147483647) (hb : 0 < b ∧ b ≤ 2147483647) : Int32.ofInt a - Int32.ofInt a / Int32.ofInt b * Int32.ofInt b = Int32.ofInt (a % b) := by
  rw [zI_div ha hb, ← Int32.ofInt_mul, ← Int32.ofInt_sub, Int.emod_def, Int.mul_comm]
theorem zJ_div {a b : Int} (ha : 0 ≤ a ∧ a ≤ 9223372036854775807) (hb : 0 < b ∧ b ≤ 9223372036854775807) : Int64.ofInt a / Int64.ofInt b = Int64.ofInt (a / b) := by
  rw [← Int64.ofInt_tdiv (by rw [R_minL]; omega) (by rw [R_maxL]; omega) (by rw [R_minL]; omega) (by rw [R_maxL]; omega), Int.tdiv_eq_ediv_of_nonneg ha.1]
theorem zJ_rem {a b : Int} (ha : 0 ≤ a ∧ a ≤ 9223372036854775807) (hb : 0 < b ∧ b ≤ 9223372036854775807) : Int64.ofInt a - Int64.ofInt a / Int64.ofInt b * Int64.ofInt b = Int64.ofInt (a % b) := by
  rw [zJ_div ha hb, ← Int64.ofInt_mul, ← Int64.ofInt_sub, Int.emod_def, Int.mul_comm]
theorem zI_ne0 {a : Int} (h : a ≠ 0) (ha : -2147483648 ≤ a ∧ a ≤ 2147483647) : ¬ Int32.ofInt a = 0 := by
  rw [← zI_0, zI_eq ha (by omega)]; exact h
theorem zJ_ne0 {a : Int} (h : a ≠ 0) (ha : -9223372036854775808 ≤ a ∧ a ≤ 9223372036854775807) : ¬ Int64.ofInt a = 0 := by
  intro q
  have := congrArg Int64.toInt q
  rw [zJ_T ha] at this
  exact h this
theorem zI_2l {a : Int} (ha : -2147483648 ≤ a ∧ a ≤ 2147483647) : (Int32.ofInt a).toInt64 = Int64.ofInt a := by
  apply Int64.toInt_inj.mp
  rw [zJ_T (by omega), Int32.toInt_toInt64, zI_T ha]
theorem zJ_2i {a : Int} : (Int64.ofInt a).toInt32 = Int32.ofInt a := Int64.toInt32_ofInt
def cmpZ (a b : Int) : Int := if b < a then 1 else if a = b then 0 else -1
theorem zJ_cmp {a b : Int} (ha : -9223372036854775808 ≤ a ∧ a ≤ 9223372036854775807) (hb : -9223372036854775808 ≤ b ∧ b ≤ 9223372036854775807) : lg_cmp (Int64.ofInt a) (Int64.ofInt b) = Int32.ofInt (cmpZ a b) := by
  have e1 : (Int64.ofInt b < Int64.ofInt a) ↔ b < a := by rw [Int64.lt_iff_toInt_lt, zJ_T ha, zJ_T hb]
  have e2 : (Int64.ofInt a = Int64.ofInt b) ↔ a = b := by rw [← Int64.toInt_inj, zJ_T ha, zJ_T hb]
  unfold lg_cmp cmpZ
  simp only [gt_iff_lt, e1, e2]
  split
  · rfl
  · split <;> rfl
section PR
variable {sc : Option (Nat × (Nat → Int32))} {mr : MR} {pc : Nat} {L st : List Value} {M : AM} {Q : Option Value → AM → Prop}
theorem p_iconst {i : Nat} {a : Int} (hi : (mrT mr)[i]? = some (pc, .iconst a, 1)) (h : P sc mr (pc + 1) L (zI a :: st) M Q) : P sc mr pc L st M Q := by
  intro p l e R s m args below meth c D cA ad n H0 H locs cells slots ls Z hC hsc hW hS hL hk
  have h1 := h p l e R s m args below meth c D cA ad n H0 H locs cells slots ls Z hC hsc hW hS hL hk
  exact lv_iconst hC.1 hC.2.1 (hC.dec hi) rfl h1
theorem p_bipush {i : Nat} {a : Int} (hi : (mrT mr)[i]? = some (pc, .bipush a, 2)) (ha : (Int8.ofInt a).toInt32 = Int32.ofInt a) (h : P sc mr (pc + 2) L (zI a :: st) M Q) : P sc mr pc L st M Q := by
  intro p l e R s m args below meth c D cA ad n H0 H locs cells slots ls Z hC hsc hW hS hL hk
  have h1 := h p l e R s m args below meth c D cA ad n H0 H locs cells slots ls Z hC hsc hW hS hL hk
  exact lv_bipush hC.1 hC.2.1 (hC.dec hi) ha h1
theorem p_sipush {i : Nat} {a : Int} (hi : (mrT mr)[i]? = some (pc, .sipush a, 3)) (ha : (Int16.ofInt a).toInt32 = Int32.ofInt a) (h : P sc mr (pc + 3) L (zI a :: st) M Q) : P sc mr pc L st M Q := by
  intro p l e R s m args below meth c D cA ad n H0 H locs cells slots ls Z hC hsc hW hS hL hk
  have h1 := h p l e R s m args below meth c D cA ad n H0 H locs cells slots ls Z hC hsc hW hS hL hk
  exact lv_sipush hC.1 hC.2.1 (hC.dec hi) ha h1
theorem p_lconst {i : Nat} {a : Fin 2} (hi : (mrT mr)[i]? = some (pc, .lconst a, 1)) (h : P sc mr (pc + 1) L (zJ ((a : Nat) : Int) :: st) M Q) : P sc mr pc L st M Q := by
  intro p l e R s m args below meth c D cA ad n H0 H locs cells slots ls Z hC hsc hW hS hL hk
  have h1 := h p l e R s m args below meth c D cA ad n H0 H locs cells slots ls Z hC hsc hW hS hL hk
  exact lv_lconst hC.1 hC.2.1 (hC.dec hi) (by rw [Int64.ofInt_eq_ofNat]) h1
theorem p_ldc {i : Nat} {k : Nat} {a : Int} (hi : (mrT mr)[i]? = some (pc, .ldc k, 2)) (hw : Jvm.Cond.constant (mrY mr).cls k (Int32.ofInt a) ∈ lwg) (h : P sc mr (pc + 2) L (zI a :: st) M Q) : P sc mr pc L st M Q := by
  intro p l e R s m args below meth c D cA ad n H0 H locs cells slots ls Z hC hsc hW hS hL hk
  have h1 := h p l e R s m args below meth c D cA ad n H0 H locs cells slots ls Z hC hsc hW hS hL hk
  exact lv_ldc hC.1 hC.2.1 hC.2.2.2.1 (hC.2.2.2.2.1 _ hw) (hC.dec hi) h1
theorem p_ldcw {i : Nat} {k : Nat} {a : Int} (hi : (mrT mr)[i]? = some (pc, .ldc_w k, 3)) (hw : Jvm.Cond.constant (mrY mr).cls k (Int32.ofInt a) ∈ lwg) (h : P sc mr (pc + 3) L (zI a :: st) M Q) : P sc mr pc L st M Q := by
  intro p l e R s m args below meth c D cA ad n H0 H locs cells slots ls Z hC hsc hW hS hL hk
  have h1 := h p l e R s m args below meth c D cA ad n H0 H locs cells slots ls Z hC hsc hW hS hL hk
  exact lv_ldcw hC.1 hC.2.1 hC.2.2.2.1 (hC.2.2.2.2.1 _ hw) (hC.dec hi) h1
theorem p_ldc2 {i : Nat} {k : Nat} {a : Int} (hi : (mrT mr)[i]? = some (pc, .ldc2_w k, 3)) (hw : Jvm.Cond.constantLong (mrY mr).cls k (Int64.ofInt a) ∈ lwg) (h : P sc mr (pc + 3) L (zJ a :: st) M Q) : P sc mr pc L st M Q := by
  intro p l e R s m args below meth c D cA ad n H0 H locs cells slots ls Z hC hsc hW hS hL hk
  have h1 := h p l e R s m args below meth c D cA ad n H0 H locs cells slots ls Z hC hsc hW hS hL hk
  exact lv_ldc2 hC.1 hC.2.1 hC.2.2.2.1 (hC.2.2.2.2.1 _ hw) (hC.dec hi) h1
theorem p_iload {i : Nat} {k : Nat} {x : Int32} (hi : (mrT mr)[i]? = some (pc, .iload k, 2)) (hv : L[k]? = some (.int x)) (h : P sc mr (pc + 2) L (.int x :: st) M Q) : P sc mr pc L st M Q := by
  intro p l e R s m args below meth c D cA ad n H0 H locs cells slots ls Z hC hsc hW hS hL hk
  have h1 := h p l e R s m args below meth c D cA ad n H0 H locs cells slots ls Z hC hsc hW hS hL hk
  exact lv_iload hC.1 hC.2.1 (hC.dec hi) (hL.2.2.2 k (.int x) hv (fun q => by cases q)) h1
theorem p_iload_n {i : Nat} {k : Fin 4} {x : Int32} (hi : (mrT mr)[i]? = some (pc, .iload_n k, 1)) (hv : L[(k : Nat)]? = some (.int x)) (h : P sc mr (pc + 1) L (.int x :: st) M Q) : P sc mr pc L st M Q := by
  intro p l e R s m args below meth c D cA ad n H0 H locs cells slots ls Z hC hsc hW hS hL hk
  have h1 := h p l e R s m args below meth c D cA ad n H0 H locs cells slots ls Z hC hsc hW hS hL hk
  exact lv_iload_n hC.1 hC.2.1 (hC.dec hi) rfl (hL.2.2.2 k (.int x) hv (fun q => by cases q)) h1
theorem p_lload {i : Nat} {k : Nat} {x : Int64} (hi : (mrT mr)[i]? = some (pc, .lload k, 2)) (hv : L[k]? = some (.long x)) (h : P sc mr (pc + 2) L (.long x :: st) M Q) : P sc mr pc L st M Q := by
  intro p l e R s m args below meth c D cA ad n H0 H locs cells slots ls Z hC hsc hW hS hL hk
  have h1 := h p l e R s m args below meth c D cA ad n H0 H locs cells slots ls Z hC hsc hW hS hL hk
  exact lv_lload hC.1 hC.2.1 (hC.dec hi) (hL.2.2.2 k (.long x) hv (fun q => by cases q)) h1
theorem p_lload_n {i : Nat} {k : Fin 4} {x : Int64} (hi : (mrT mr)[i]? = some (pc, .lload_n k, 1)) (hv : L[(k : Nat)]? = some (.long x)) (h : P sc mr (pc + 1) L (.long x :: st) M Q) : P sc mr pc L st M Q := by
  intro p l e R s m args below meth c D cA ad n H0 H locs cells slots ls Z hC hsc hW hS hL hk
  have h1 := h p l e R s m args below meth c D cA ad n H0 H locs cells slots ls Z hC hsc hW hS hL hk
  exact lv_lload_n hC.1 hC.2.1 (hC.dec hi) rfl (hL.2.2.2 k (.long x) hv (fun q => by cases q)) h1
theorem p_aload {i : Nat} {k : Nat} {x : Nat} (hi : (mrT mr)[i]? = some (pc, .aload k, 2)) (hv : L[k]? = some (.ref x)) (h : P sc mr (pc + 2) L (.ref x :: st) M Q) : P sc mr pc L st M Q := by
  intro p l e R s m args below meth c D cA ad n H0 H locs cells slots ls Z hC hsc hW hS hL hk
  have h1 := h p l e R s m args below meth c D cA ad n H0 H locs cells slots ls Z hC hsc hW hS hL hk
  exact lv_aload hC.1 hC.2.1 (hC.dec hi) (hL.2.2.2 k (.ref x) hv (fun q => by cases q)) h1
theorem p_aload_n {i : Nat} {k : Fin 4} {x : Nat} (hi : (mrT mr)[i]? = some (pc, .aload_n k, 1)) (hv : L[(k : Nat)]? = some (.ref x)) (h : P sc mr (pc + 1) L (.ref x :: st) M Q) : P sc mr pc L st M Q := by
  intro p l e R s m args below meth c D cA ad n H0 H locs cells slots ls Z hC hsc hW hS hL hk
  have h1 := h p l e R s m args below meth c D cA ad n H0 H locs cells slots ls Z hC hsc hW hS hL hk
  exact lv_aload_n hC.1 hC.2.1 (hC.dec hi) rfl (hL.2.2.2 k (.ref x) hv (fun q => by cases q)) h1
theorem p_istore {i : Nat} {k : Nat} {x : Int32} (hi : (mrT mr)[i]? = some (pc, .istore k, 2)) (hb : okS L k = true) (h : P sc mr (pc + 2) (L.set k (.int x)) st M Q) : P sc mr pc L (.int x :: st) M Q := by
  intro p l e R s m args below meth c D cA ad n H0 H locs cells slots ls Z hC hsc hW hS hL hk
  exact lv_istore hC.1 hC.2.1 (hC.dec hi) hL.lv (by rw [← hL.2.2.1]; exact okS_lt hb) rfl (fun ls' hl' => h p l e R s m args below meth c D cA ad n H0 H locs cells slots ls' Z hC hsc hW hS (LV.store hL (by rw [← hL.2.2.1]; exact okS_lt hb) (okS_b hb) hl') hk)
theorem p_istore_n {i : Nat} {k : Fin 4} {x : Int32} (hi : (mrT mr)[i]? = some (pc, .istore_n k, 1)) (hb : okS L (k : Nat) = true) (h : P sc mr (pc + 1) (L.set (k : Nat) (.int x)) st M Q) : P sc mr pc L (.int x :: st) M Q := by
  intro p l e R s m args below meth c D cA ad n H0 H locs cells slots ls Z hC hsc hW hS hL hk
  exact lv_istore_n hC.1 hC.2.1 (hC.dec hi) rfl hL.lv (by rw [← hL.2.2.1]; exact okS_lt hb) rfl (fun ls' hl' => h p l e R s m args below meth c D cA ad n H0 H locs cells slots ls' Z hC hsc hW hS (LV.store hL (by rw [← hL.2.2.1]; exact okS_lt hb) (okS_b hb) hl') hk)
theorem p_lstore {i : Nat} {k : Nat} {x : Int64} (hi : (mrT mr)[i]? = some (pc, .lstore k, 2)) (hb : okS L k = true) (hb2 : Nat.blt (k + 1) L.length = true) (h : P sc mr (pc + 2) ((L.set k (.long x)).set (k + 1) (.retAddr 0)) st M Q) : P sc mr pc L (.long x :: st) M Q := by
  intro p l e R s m args below meth c D cA ad n H0 H locs cells slots ls Z hC hsc hW hS hL hk
  exact lv_lstore hC.1 hC.2.1 (hC.dec hi) hL.lv (by rw [← hL.2.2.1]; exact Nat.blt_eq.mp hb2) rfl (fun ls' hl' => h p l e R s m args below meth c D cA ad n H0 H locs cells slots ls' Z hC hsc hW hS (LV.store2 hL (by rw [← hL.2.2.1]; exact Nat.blt_eq.mp hb2) (okS_b hb) hl') hk)
theorem p_lstore_n {i : Nat} {k : Fin 4} {x : Int64} (hi : (mrT mr)[i]? = some (pc, .lstore_n k, 1)) (hb : okS L (k : Nat) = true) (hb2 : Nat.blt ((k : Nat) + 1) L.length = true) (h : P sc mr (pc + 1) ((L.set (k : Nat) (.long x)).set ((k : Nat) + 1) (.retAddr 0)) st M Q) : P sc mr pc L (.long x :: st) M Q := by
  intro p l e R s m args below meth c D cA ad n H0 H locs cells slots ls Z hC hsc hW hS hL hk
  exact lv_lstore_n hC.1 hC.2.1 (hC.dec hi) rfl hL.lv (by rw [← hL.2.2.1]; exact Nat.blt_eq.mp hb2) rfl (fun ls' hl' => h p l e R s m args below meth c D cA ad n H0 H locs cells slots ls' Z hC hsc hW hS (LV.store2 hL (by rw [← hL.2.2.1]; exact Nat.blt_eq.mp hb2) (okS_b hb) hl') hk)
theorem p_astore_n {i : Nat} {k : Fin 4} {x : Nat} (hi : (mrT mr)[i]? = some (pc, .astore_n k, 1)) (hb : okS L (k : Nat) = true) (h : P sc mr (pc + 1) (L.set (k : Nat) (.ref x)) st M Q) : P sc mr pc L (.ref x :: st) M Q := by
  intro p l e R s m args below meth c D cA ad n H0 H locs cells slots ls Z hC hsc hW hS hL hk
  exact lv_astore_n hC.1 hC.2.1 (hC.dec hi) rfl hL.lv (by rw [← hL.2.2.1]; exact okS_lt hb) rfl (fun ls' hl' => h p l e R s m args below meth c D cA ad n H0 H locs cells slots ls' Z hC hsc hW hS (LV.store hL (by rw [← hL.2.2.1]; exact okS_lt hb) (okS_b hb) hl') hk)
theorem LV.pos {ad : Nat → Nat} {ls : Array Slot} {nL k : Nat} {L : List Value} {v : Value} (h : LV ad ls nL L) (hv : L[k]? = some v) (h0 : v ≠ .retAddr 0) : ∃ j : Nat, ((List.range nL).filterMap (fun i => match L[i]? with
    | some v => if v = .retAddr 0 then none else some (i, cv ad v)
    | none => none))[j]? = some (k, cv ad v) := by
  have hk : k < nL := by
    have := (List.getElem?_eq_some_iff.mp hv).1
    rw [h.2.2.1] at this
    exact this
  exact List.getElem?_of_mem (List.mem_filterMap.mpr ⟨k, List.mem_range.mpr hk, by rw [hv]; simp [h0]⟩)
theorem p_iinc {i : Nat} {k : Nat} {d a : Int} (hi : (mrT mr)[i]? = some (pc, .iinc k d, 3)) (hv : L[k]? = some (zI a)) (hb : okS L k = true) (h : P sc mr (pc + 3) (L.set k (zI (a + d))) st M Q) : P sc mr pc L st M Q := by
  intro p l e R s m args below meth c D cA ad n H0 H locs cells slots ls Z hC hsc hW hS hL hk
  obtain ⟨j, hj⟩ := hL.pos hv (fun q => by cases q)
  exact lv_iinc hC.1 hC.2.1 (hC.dec hi) hL.lv hj (Int32.ofInt_add a d).symm (by rw [← hL.2.2.1]; exact okS_lt hb) rfl (fun ls' hl' => h p l e R s m args below meth c D cA ad n H0 H locs cells slots ls' Z hC hsc hW hS (LV.store hL (by rw [← hL.2.2.1]; exact okS_lt hb) (okS_b hb) hl') hk)
theorem p_iadd {i : Nat} {a b : Int} (hi : (mrT mr)[i]? = some (pc, .iadd, 1)) (h : P sc mr (pc + 1) L (zI (a + b) :: st) M Q) : P sc mr pc L (zI b :: zI a :: st) M Q := by
  intro p l e R s m args below meth c D cA ad n H0 H locs cells slots ls Z hC hsc hW hS hL hk
  have h1 := h p l e R s m args below meth c D cA ad n H0 H locs cells slots ls Z hC hsc hW hS hL hk
  exact lv_iadd hC.1 hC.2.1 (hC.dec hi) (by rw [← Int32.ofInt_add a b]; exact h1)
theorem p_isub {i : Nat} {a b : Int} (hi : (mrT mr)[i]? = some (pc, .isub, 1)) (h : P sc mr (pc + 1) L (zI (a - b) :: st) M Q) : P sc mr pc L (zI b :: zI a :: st) M Q := by
  intro p l e R s m args below meth c D cA ad n H0 H locs cells slots ls Z hC hsc hW hS hL hk
  have h1 := h p l e R s m args below meth c D cA ad n H0 H locs cells slots ls Z hC hsc hW hS hL hk
  exact lv_isub hC.1 hC.2.1 (hC.dec hi) (by rw [← Int32.ofInt_sub a b]; exact h1)
theorem p_imul {i : Nat} {a b : Int} (hi : (mrT mr)[i]? = some (pc, .imul, 1)) (h : P sc mr (pc + 1) L (zI (a * b) :: st) M Q) : P sc mr pc L (zI b :: zI a :: st) M Q := by
  intro p l e R s m args below meth c D cA ad n H0 H locs cells slots ls Z hC hsc hW hS hL hk
  have h1 := h p l e R s m args below meth c D cA ad n H0 H locs cells slots ls Z hC hsc hW hS hL hk
  exact lv_imul hC.1 hC.2.1 (hC.dec hi) (by rw [← Int32.ofInt_mul a b]; exact h1)
theorem p_idiv {i : Nat} {a b : Int} (hi : (mrT mr)[i]? = some (pc, .idiv, 1)) (ha : 0 ≤ a ∧ a ≤ 2147483647) (hb : 0 < b ∧ b ≤ 2147483647) (h : P sc mr (pc + 1) L (zI (a / b) :: st) M Q) : P sc mr pc L (zI b :: zI a :: st) M Q := by
  intro p l e R s m args below meth c D cA ad n H0 H locs cells slots ls Z hC hsc hW hS hL hk
  have h1 := h p l e R s m args below meth c D cA ad n H0 H locs cells slots ls Z hC hsc hW hS hL hk
  exact lv_idiv hC.1 hC.2.1 (hC.dec hi) (zI_ne0 (by omega) (by omega)) (by rw [zI_div ha hb]; exact h1)
theorem p_irem {i : Nat} {a b : Int} (hi : (mrT mr)[i]? = some (pc, .irem, 1)) (ha : 0 ≤ a ∧ a ≤ 2147483647) (hb : 0 < b ∧ b ≤ 2147483647) (h : P sc mr (pc + 1) L (zI (a % b) :: st) M Q) : P sc mr pc L (zI b :: zI a :: st) M Q := by
  intro p l e R s m args below meth c D cA ad n H0 H locs cells slots ls Z hC hsc hW hS hL hk
  have h1 := h p l e R s m args below meth c D cA ad n H0 H locs cells slots ls Z hC hsc hW hS hL hk
  exact lv_irem hC.1 hC.2.1 (hC.dec hi) (zI_ne0 (by omega) (by omega)) (by rw [zI_rem ha hb]; exact h1)
theorem p_iand {i : Nat} {x y : Int32} (hi : (mrT mr)[i]? = some (pc, .iand, 1)) (h : P sc mr (pc + 1) L (.int (x &&& y) :: st) M Q) : P sc mr pc L (.int y :: .int x :: st) M Q := by
  intro p l e R s m args below meth c D cA ad n H0 H locs cells slots ls Z hC hsc hW hS hL hk
  have h1 := h p l e R s m args below meth c D cA ad n H0 H locs cells slots ls Z hC hsc hW hS hL hk
  exact lv_iand hC.1 hC.2.1 (hC.dec hi) h1
theorem p_ior {i : Nat} {x y : Int32} (hi : (mrT mr)[i]? = some (pc, .ior, 1)) (h : P sc mr (pc + 1) L (.int (x ||| y) :: st) M Q) : P sc mr pc L (.int y :: .int x :: st) M Q := by
  intro p l e R s m args below meth c D cA ad n H0 H locs cells slots ls Z hC hsc hW hS hL hk
  have h1 := h p l e R s m args below meth c D cA ad n H0 H locs cells slots ls Z hC hsc hW hS hL hk
  exact lv_ior hC.1 hC.2.1 (hC.dec hi) h1
theorem p_ishl {i : Nat} {x y : Int32} (hi : (mrT mr)[i]? = some (pc, .ishl, 1)) (h : P sc mr (pc + 1) L (.int (x <<< (y &&& 31)) :: st) M Q) : P sc mr pc L (.int y :: .int x :: st) M Q := by
  intro p l e R s m args below meth c D cA ad n H0 H locs cells slots ls Z hC hsc hW hS hL hk
  have h1 := h p l e R s m args below meth c D cA ad n H0 H locs cells slots ls Z hC hsc hW hS hL hk
  exact lv_ishl hC.1 hC.2.1 (hC.dec hi) h1
theorem p_ishr {i : Nat} {x y : Int32} (hi : (mrT mr)[i]? = some (pc, .ishr, 1)) (h : P sc mr (pc + 1) L (.int (x >>> (y &&& 31)) :: st) M Q) : P sc mr pc L (.int y :: .int x :: st) M Q := by
  intro p l e R s m args below meth c D cA ad n H0 H locs cells slots ls Z hC hsc hW hS hL hk
  have h1 := h p l e R s m args below meth c D cA ad n H0 H locs cells slots ls Z hC hsc hW hS hL hk
  exact lv_ishr hC.1 hC.2.1 (hC.dec hi) h1
theorem p_iushr {i : Nat} {x y : Int32} (hi : (mrT mr)[i]? = some (pc, .iushr, 1)) (h : P sc mr (pc + 1) L (.int ((x.toUInt32 >>> (y.toUInt32 &&& Int32.toUInt32 31)).toInt32) :: st) M Q) : P sc mr pc L (.int y :: .int x :: st) M Q := by
  intro p l e R s m args below meth c D cA ad n H0 H locs cells slots ls Z hC hsc hW hS hL hk
  have h1 := h p l e R s m args below meth c D cA ad n H0 H locs cells slots ls Z hC hsc hW hS hL hk
  exact lv_iushr hC.1 hC.2.1 (hC.dec hi) rfl h1
theorem p_iadd32 {i : Nat} {x y : Int32} (hi : (mrT mr)[i]? = some (pc, .iadd, 1)) (h : P sc mr (pc + 1) L (.int (x + y) :: st) M Q) : P sc mr pc L (.int y :: .int x :: st) M Q := by
  intro p l e R s m args below meth c D cA ad n H0 H locs cells slots ls Z hC hsc hW hS hL hk
  have h1 := h p l e R s m args below meth c D cA ad n H0 H locs cells slots ls Z hC hsc hW hS hL hk
  exact lv_iadd hC.1 hC.2.1 (hC.dec hi) h1
theorem p_isub32 {i : Nat} {x y : Int32} (hi : (mrT mr)[i]? = some (pc, .isub, 1)) (h : P sc mr (pc + 1) L (.int (x - y) :: st) M Q) : P sc mr pc L (.int y :: .int x :: st) M Q := by
  intro p l e R s m args below meth c D cA ad n H0 H locs cells slots ls Z hC hsc hW hS hL hk
  have h1 := h p l e R s m args below meth c D cA ad n H0 H locs cells slots ls Z hC hsc hW hS hL hk
  exact lv_isub hC.1 hC.2.1 (hC.dec hi) h1
theorem p_ladd {i : Nat} {a b : Int} (hi : (mrT mr)[i]? = some (pc, .ladd, 1)) (h : P sc mr (pc + 1) L (zJ (a + b) :: st) M Q) : P sc mr pc L (zJ b :: zJ a :: st) M Q := by
  intro p l e R s m args below meth c D cA ad n H0 H locs cells slots ls Z hC hsc hW hS hL hk
  have h1 := h p l e R s m args below meth c D cA ad n H0 H locs cells slots ls Z hC hsc hW hS hL hk
  exact lv_ladd hC.1 hC.2.1 (hC.dec hi) (by rw [← Int64.ofInt_add a b]; exact h1)
theorem p_lmul {i : Nat} {a b : Int} (hi : (mrT mr)[i]? = some (pc, .lmul, 1)) (h : P sc mr (pc + 1) L (zJ (a * b) :: st) M Q) : P sc mr pc L (zJ b :: zJ a :: st) M Q := by
  intro p l e R s m args below meth c D cA ad n H0 H locs cells slots ls Z hC hsc hW hS hL hk
  have h1 := h p l e R s m args below meth c D cA ad n H0 H locs cells slots ls Z hC hsc hW hS hL hk
  exact lv_lmul hC.1 hC.2.1 (hC.dec hi) (by rw [← Int64.ofInt_mul a b]; exact h1)
theorem p_ldiv {i : Nat} {a b : Int} (hi : (mrT mr)[i]? = some (pc, .ldiv, 1)) (ha : 0 ≤ a ∧ a ≤ 9223372036854775807) (hb : 0 < b ∧ b ≤ 9223372036854775807) (h : P sc mr (pc + 1) L (zJ (a / b) :: st) M Q) : P sc mr pc L (zJ b :: zJ a :: st) M Q := by
  intro p l e R s m args below meth c D cA ad n H0 H locs cells slots ls Z hC hsc hW hS hL hk
  have h1 := h p l e R s m args below meth c D cA ad n H0 H locs cells slots ls Z hC hsc hW hS hL hk
  exact lv_ldiv hC.1 hC.2.1 (hC.dec hi) (zJ_ne0 (by omega) (by omega)) (by rw [zJ_div ha hb]; exact h1)
theorem p_lrem {i : Nat} {a b : Int} (hi : (mrT mr)[i]? = some (pc, .lrem, 1)) (ha : 0 ≤ a ∧ a ≤ 9223372036854775807) (hb : 0 < b ∧ b ≤ 9223372036854775807) (h : P sc mr (pc + 1) L (zJ (a % b) :: st) M Q) : P sc mr pc L (zJ b :: zJ a :: st) M Q := by
  intro p l e R s m args below meth c D cA ad n H0 H locs cells slots ls Z hC hsc hW hS hL hk
  have h1 := h p l e R s m args below meth c D cA ad n H0 H locs cells slots ls Z hC hsc hW hS hL hk
  exact lv_lrem hC.1 hC.2.1 (hC.dec hi) (zJ_ne0 (by omega) (by omega)) (by rw [zJ_rem ha hb]; exact h1)
theorem p_lcmp {i : Nat} {a b : Int} (hi : (mrT mr)[i]? = some (pc, .lcmp, 1)) (ha : -9223372036854775808 ≤ a ∧ a ≤ 9223372036854775807) (hb : -9223372036854775808 ≤ b ∧ b ≤ 9223372036854775807) (h : P sc mr (pc + 1) L (zI (cmpZ a b) :: st) M Q) : P sc mr pc L (zJ b :: zJ a :: st) M Q := by
  intro p l e R s m args below meth c D cA ad n H0 H locs cells slots ls Z hC hsc hW hS hL hk
  have h1 := h p l e R s m args below meth c D cA ad n H0 H locs cells slots ls Z hC hsc hW hS hL hk
  exact W.lcmp hC.1 hC.2.1 (hC.dec hi) (by rw [zJ_cmp ha hb]; exact h1)
theorem p_i2l {i : Nat} {a : Int} (hi : (mrT mr)[i]? = some (pc, .i2l, 1)) (ha : -2147483648 ≤ a ∧ a ≤ 2147483647) (h : P sc mr (pc + 1) L (zJ a :: st) M Q) : P sc mr pc L (zI a :: st) M Q := by
  intro p l e R s m args below meth c D cA ad n H0 H locs cells slots ls Z hC hsc hW hS hL hk
  have h1 := h p l e R s m args below meth c D cA ad n H0 H locs cells slots ls Z hC hsc hW hS hL hk
  exact lv_i2l hC.1 hC.2.1 (hC.dec hi) (zI_2l ha) h1
theorem p_l2i {i : Nat} {a : Int} (hi : (mrT mr)[i]? = some (pc, .l2i, 1)) (h : P sc mr (pc + 1) L (zI a :: st) M Q) : P sc mr pc L (zJ a :: st) M Q := by
  intro p l e R s m args below meth c D cA ad n H0 H locs cells slots ls Z hC hsc hW hS hL hk
  have h1 := h p l e R s m args below meth c D cA ad n H0 H locs cells slots ls Z hC hsc hW hS hL hk
  exact lv_l2i hC.1 hC.2.1 (hC.dec hi) zJ_2i h1
theorem p_dup {i : Nat} {v : Value} (hi : (mrT mr)[i]? = some (pc, .dup, 1)) (hv : v.category = 1) (h : P sc mr (pc + 1) L (v :: v :: st) M Q) : P sc mr pc L (v :: st) M Q := by
  intro p l e R s m args below meth c D cA ad n H0 H locs cells slots ls Z hC hsc hW hS hL hk
  have h1 := h p l e R s m args below meth c D cA ad n H0 H locs cells slots ls Z hC hsc hW hS hL hk
  exact lv_dup hC.1 hC.2.1 (hC.dec hi) ((cv_cat ad v).trans hv) h1
theorem p_pop {i : Nat} {v : Value} (hi : (mrT mr)[i]? = some (pc, .pop, 1)) (hv : v.category = 1) (h : P sc mr (pc + 1) L st M Q) : P sc mr pc L (v :: st) M Q := by
  intro p l e R s m args below meth c D cA ad n H0 H locs cells slots ls Z hC hsc hW hS hL hk
  have h1 := h p l e R s m args below meth c D cA ad n H0 H locs cells slots ls Z hC hsc hW hS hL hk
  exact lv_pop hC.1 hC.2.1 (hC.dec hi) ((cv_cat ad v).trans hv) h1
theorem p_dup2 {i : Nat} {v w : Value} (hi : (mrT mr)[i]? = some (pc, .dup2, 1)) (hv : v.category = 1) (hw : w.category = 1) (h : P sc mr (pc + 1) L (v :: w :: v :: w :: st) M Q) : P sc mr pc L (v :: w :: st) M Q := by
  intro p l e R s m args below meth c D cA ad n H0 H locs cells slots ls Z hC hsc hW hS hL hk
  have h1 := h p l e R s m args below meth c D cA ad n H0 H locs cells slots ls Z hC hsc hW hS hL hk
  exact lv_dup2_11 hC.1 hC.2.1 (hC.dec hi) ((cv_cat ad v).trans hv) ((cv_cat ad w).trans hw) h1
theorem p_icmp_eq {i : Nat} {a b off : Int} (tgt : Nat) (hi : (mrT mr)[i]? = some (pc, .if_icmp .eq off, 3)) (ht : (pc : Int) + off = (tgt : Int)) (ha : -2147483648 ≤ a ∧ a ≤ 2147483647) (hb : -2147483648 ≤ b ∧ b ≤ 2147483647) (kt : a = b → P sc mr tgt L st M Q) (kf : ¬ (a = b) → P sc mr (pc + 3) L st M Q) : P sc mr pc L (zI b :: zI a :: st) M Q := by
  intro p l e R s m args below meth c D cA ad n H0 H locs cells slots ls Z hC hsc hW hS hL hk
  exact lv_icmp_eq hC.1 hC.2.1 (hC.dec hi) ht (fun q => kt ((zI_eq ha hb).mp q) p l e R s m args below meth c D cA ad n H0 H locs cells slots ls Z hC hsc hW hS hL hk) (fun q => kf (fun w => q ((zI_eq ha hb).mpr w)) p l e R s m args below meth c D cA ad n H0 H locs cells slots ls Z hC hsc hW hS hL hk)
theorem p_icmp_ne {i : Nat} {a b off : Int} (tgt : Nat) (hi : (mrT mr)[i]? = some (pc, .if_icmp .ne off, 3)) (ht : (pc : Int) + off = (tgt : Int)) (ha : -2147483648 ≤ a ∧ a ≤ 2147483647) (hb : -2147483648 ≤ b ∧ b ≤ 2147483647) (kt : ¬ a = b → P sc mr tgt L st M Q) (kf : a = b → P sc mr (pc + 3) L st M Q) : P sc mr pc L (zI b :: zI a :: st) M Q := by
  intro p l e R s m args below meth c D cA ad n H0 H locs cells slots ls Z hC hsc hW hS hL hk
  exact lv_icmp_ne hC.1 hC.2.1 (hC.dec hi) ht (fun q => kt (fun w => q ((zI_eq ha hb).mpr w)) p l e R s m args below meth c D cA ad n H0 H locs cells slots ls Z hC hsc hW hS hL hk) (fun q => kf ((zI_eq ha hb).mp q) p l e R s m args below meth c D cA ad n H0 H locs cells slots ls Z hC hsc hW hS hL hk)
theorem p_icmp_lt {i : Nat} {a b off : Int} (tgt : Nat) (hi : (mrT mr)[i]? = some (pc, .if_icmp .lt off, 3)) (ht : (pc : Int) + off = (tgt : Int)) (ha : -2147483648 ≤ a ∧ a ≤ 2147483647) (hb : -2147483648 ≤ b ∧ b ≤ 2147483647) (kt : a < b → P sc mr tgt L st M Q) (kf : ¬ (a < b) → P sc mr (pc + 3) L st M Q) : P sc mr pc L (zI b :: zI a :: st) M Q := by
  intro p l e R s m args below meth c D cA ad n H0 H locs cells slots ls Z hC hsc hW hS hL hk
  exact lv_icmp_lt hC.1 hC.2.1 (hC.dec hi) ht (fun q => kt ((zI_lt ha hb).mp q) p l e R s m args below meth c D cA ad n H0 H locs cells slots ls Z hC hsc hW hS hL hk) (fun q => kf (fun w => q ((zI_lt ha hb).mpr w)) p l e R s m args below meth c D cA ad n H0 H locs cells slots ls Z hC hsc hW hS hL hk)
theorem p_icmp_ge {i : Nat} {a b off : Int} (tgt : Nat) (hi : (mrT mr)[i]? = some (pc, .if_icmp .ge off, 3)) (ht : (pc : Int) + off = (tgt : Int)) (ha : -2147483648 ≤ a ∧ a ≤ 2147483647) (hb : -2147483648 ≤ b ∧ b ≤ 2147483647) (kt : b ≤ a → P sc mr tgt L st M Q) (kf : ¬ (b ≤ a) → P sc mr (pc + 3) L st M Q) : P sc mr pc L (zI b :: zI a :: st) M Q := by
  intro p l e R s m args below meth c D cA ad n H0 H locs cells slots ls Z hC hsc hW hS hL hk
  exact lv_icmp_ge hC.1 hC.2.1 (hC.dec hi) ht (fun q => kt ((zI_le hb ha).mp q) p l e R s m args below meth c D cA ad n H0 H locs cells slots ls Z hC hsc hW hS hL hk) (fun q => kf (fun w => q ((zI_le hb ha).mpr w)) p l e R s m args below meth c D cA ad n H0 H locs cells slots ls Z hC hsc hW hS hL hk)
theorem p_icmp_gt {i : Nat} {a b off : Int} (tgt : Nat) (hi : (mrT mr)[i]? = some (pc, .if_icmp .gt off, 3)) (ht : (pc : Int) + off = (tgt : Int)) (ha : -2147483648 ≤ a ∧ a ≤ 2147483647) (hb : -2147483648 ≤ b ∧ b ≤ 2147483647) (kt : b < a → P sc mr tgt L st M Q) (kf : ¬ (b < a) → P sc mr (pc + 3) L st M Q) : P sc mr pc L (zI b :: zI a :: st) M Q := by
  intro p l e R s m args below meth c D cA ad n H0 H locs cells slots ls Z hC hsc hW hS hL hk
  exact lv_icmp_gt hC.1 hC.2.1 (hC.dec hi) ht (fun q => kt ((zI_lt hb ha).mp q) p l e R s m args below meth c D cA ad n H0 H locs cells slots ls Z hC hsc hW hS hL hk) (fun q => kf (fun w => q ((zI_lt hb ha).mpr w)) p l e R s m args below meth c D cA ad n H0 H locs cells slots ls Z hC hsc hW hS hL hk)
theorem p_icmp_le {i : Nat} {a b off : Int} (tgt : Nat) (hi : (mrT mr)[i]? = some (pc, .if_icmp .le off, 3)) (ht : (pc : Int) + off = (tgt : Int)) (ha : -2147483648 ≤ a ∧ a ≤ 2147483647) (hb : -2147483648 ≤ b ∧ b ≤ 2147483647) (kt : a ≤ b → P sc mr tgt L st M Q) (kf : ¬ (a ≤ b) → P sc mr (pc + 3) L st M Q) : P sc mr pc L (zI b :: zI a :: st) M Q := by
  intro p l e R s m args below meth c D cA ad n H0 H locs cells slots ls Z hC hsc hW hS hL hk
  exact lv_icmp_le hC.1 hC.2.1 (hC.dec hi) ht (fun q => kt ((zI_le ha hb).mp q) p l e R s m args below meth c D cA ad n H0 H locs cells slots ls Z hC hsc hW hS hL hk) (fun q => kf (fun w => q ((zI_le ha hb).mpr w)) p l e R s m args below meth c D cA ad n H0 H locs cells slots ls Z hC hsc hW hS hL hk)
theorem p_if_eq {i : Nat} {a off : Int} (tgt : Nat) (hi : (mrT mr)[i]? = some (pc, .ifCond .eq off, 3)) (ht : (pc : Int) + off = (tgt : Int)) (ha : -2147483648 ≤ a ∧ a ≤ 2147483647) (kt : a = 0 → P sc mr tgt L st M Q) (kf : ¬ (a = 0) → P sc mr (pc + 3) L st M Q) : P sc mr pc L (zI a :: st) M Q := by
  intro p l e R s m args below meth c D cA ad n H0 H locs cells slots ls Z hC hsc hW hS hL hk
  exact lv_if_eq hC.1 hC.2.1 (hC.dec hi) ht (fun q => kt ((zI_eq ha (by omega)).mp (q.trans zI_0.symm)) p l e R s m args below meth c D cA ad n H0 H locs cells slots ls Z hC hsc hW hS hL hk) (fun q => kf (fun w => q (by rw [w]; exact zI_0)) p l e R s m args below meth c D cA ad n H0 H locs cells slots ls Z hC hsc hW hS hL hk)
theorem p_if_ne {i : Nat} {a off : Int} (tgt : Nat) (hi : (mrT mr)[i]? = some (pc, .ifCond .ne off, 3)) (ht : (pc : Int) + off = (tgt : Int)) (ha : -2147483648 ≤ a ∧ a ≤ 2147483647) (kt : ¬ a = 0 → P sc mr tgt L st M Q) (kf : a = 0 → P sc mr (pc + 3) L st M Q) : P sc mr pc L (zI a :: st) M Q := by
  intro p l e R s m args below meth c D cA ad n H0 H locs cells slots ls Z hC hsc hW hS hL hk
  exact lv_if_ne hC.1 hC.2.1 (hC.dec hi) ht (fun q => kt (fun w => q (by rw [w]; exact zI_0)) p l e R s m args below meth c D cA ad n H0 H locs cells slots ls Z hC hsc hW hS hL hk) (fun q => kf ((zI_eq ha (by omega)).mp (q.trans zI_0.symm)) p l e R s m args below meth c D cA ad n H0 H locs cells slots ls Z hC hsc hW hS hL hk)
theorem p_if_lt {i : Nat} {a off : Int} (tgt : Nat) (hi : (mrT mr)[i]? = some (pc, .ifCond .lt off, 3)) (ht : (pc : Int) + off = (tgt : Int)) (ha : -2147483648 ≤ a ∧ a ≤ 2147483647) (kt : a < 0 → P sc mr tgt L st M Q) (kf : ¬ (a < 0) → P sc mr (pc + 3) L st M Q) : P sc mr pc L (zI a :: st) M Q := by
  intro p l e R s m args below meth c D cA ad n H0 H locs cells slots ls Z hC hsc hW hS hL hk
  exact lv_if_lt hC.1 hC.2.1 (hC.dec hi) ht (fun q => kt ((zI_lt ha (by omega)).mp (by rw [zI_0]; exact q)) p l e R s m args below meth c D cA ad n H0 H locs cells slots ls Z hC hsc hW hS hL hk) (fun q => kf (fun w => q (by rw [← zI_0]; exact (zI_lt ha (by omega)).mpr w)) p l e R s m args below meth c D cA ad n H0 H locs cells slots ls Z hC hsc hW hS hL hk)
theorem p_if_ge {i : Nat} {a off : Int} (tgt : Nat) (hi : (mrT mr)[i]? = some (pc, .ifCond .ge off, 3)) (ht : (pc : Int) + off = (tgt : Int)) (ha : -2147483648 ≤ a ∧ a ≤ 2147483647) (kt : 0 ≤ a → P sc mr tgt L st M Q) (kf : ¬ (0 ≤ a) → P sc mr (pc + 3) L st M Q) : P sc mr pc L (zI a :: st) M Q := by
  intro p l e R s m args below meth c D cA ad n H0 H locs cells slots ls Z hC hsc hW hS hL hk
  exact lv_if_ge hC.1 hC.2.1 (hC.dec hi) ht (fun q => kt ((zI_le (by omega) ha).mp (by rw [zI_0]; exact q)) p l e R s m args below meth c D cA ad n H0 H locs cells slots ls Z hC hsc hW hS hL hk) (fun q => kf (fun w => q (by rw [← zI_0]; exact (zI_le (by omega) ha).mpr w)) p l e R s m args below meth c D cA ad n H0 H locs cells slots ls Z hC hsc hW hS hL hk)
theorem p_if_gt {i : Nat} {a off : Int} (tgt : Nat) (hi : (mrT mr)[i]? = some (pc, .ifCond .gt off, 3)) (ht : (pc : Int) + off = (tgt : Int)) (ha : -2147483648 ≤ a ∧ a ≤ 2147483647) (kt : 0 < a → P sc mr tgt L st M Q) (kf : ¬ (0 < a) → P sc mr (pc + 3) L st M Q) : P sc mr pc L (zI a :: st) M Q := by
  intro p l e R s m args below meth c D cA ad n H0 H locs cells slots ls Z hC hsc hW hS hL hk
  exact lv_if_gt hC.1 hC.2.1 (hC.dec hi) ht (fun q => kt ((zI_lt (by omega) ha).mp (by rw [zI_0]; exact q)) p l e R s m args below meth c D cA ad n H0 H locs cells slots ls Z hC hsc hW hS hL hk) (fun q => kf (fun w => q (by rw [← zI_0]; exact (zI_lt (by omega) ha).mpr w)) p l e R s m args below meth c D cA ad n H0 H locs cells slots ls Z hC hsc hW hS hL hk)
theorem p_if_le {i : Nat} {a off : Int} (tgt : Nat) (hi : (mrT mr)[i]? = some (pc, .ifCond .le off, 3)) (ht : (pc : Int) + off = (tgt : Int)) (ha : -2147483648 ≤ a ∧ a ≤ 2147483647) (kt : a ≤ 0 → P sc mr tgt L st M Q) (kf : ¬ (a ≤ 0) → P sc mr (pc + 3) L st M Q) : P sc mr pc L (zI a :: st) M Q := by
  intro p l e R s m args below meth c D cA ad n H0 H locs cells slots ls Z hC hsc hW hS hL hk
  exact lv_if_le hC.1 hC.2.1 (hC.dec hi) ht (fun q => kt ((zI_le ha (by omega)).mp (by rw [zI_0]; exact q)) p l e R s m args below meth c D cA ad n H0 H locs cells slots ls Z hC hsc hW hS hL hk) (fun q => kf (fun w => q (by rw [← zI_0]; exact (zI_le ha (by omega)).mpr w)) p l e R s m args below meth c D cA ad n H0 H locs cells slots ls Z hC hsc hW hS hL hk)
theorem p_goto {i : Nat} {off : Int} (tgt : Nat) (hi : (mrT mr)[i]? = some (pc, .goto off, 3)) (ht : (pc : Int) + off = (tgt : Int)) (h : P sc mr tgt L st M Q) : P sc mr pc L st M Q := by
  intro p l e R s m args below meth c D cA ad n H0 H locs cells slots ls Z hC hsc hW hS hL hk
  exact lv_goto hC.1 hC.2.1 (hC.dec hi) ht (h p l e R s m args below meth c D cA ad n H0 H locs cells slots ls Z hC hsc hW hS hL hk)
theorem p_tsOut {i : Nat} {dflt lo hi a : Int} {offs : Array Int} {len : Nat} (tgt : Nat) (hi' : (mrT mr)[i]? = some (pc, .tableswitch dflt lo hi offs, len)) (ht : (pc : Int) + dflt = (tgt : Int)) (ha : -2147483648 ≤ a ∧ a ≤ 2147483647) (ho : a < lo ∨ hi < a) (h : P sc mr tgt L st M Q) : P sc mr pc L (zI a :: st) M Q := by
  intro p l e R s m args below meth c D cA ad n H0 H locs cells slots ls Z hC hsc hW hS hL hk
  exact lv_tableOut hC.1 hC.2.1 (hC.dec hi') (by rw [zI_T ha]; exact ho) ht (h p l e R s m args below meth c D cA ad n H0 H locs cells slots ls Z hC hsc hW hS hL hk)
theorem p_tsIn {i : Nat} {dflt lo hi a off : Int} {offs : Array Int} {len : Nat} (tgt : Nat) (hi' : (mrT mr)[i]? = some (pc, .tableswitch dflt lo hi offs, len)) (ha : -2147483648 ≤ a ∧ a ≤ 2147483647) (ho : lo ≤ a ∧ a ≤ hi) (hof : offs[(a - lo).toNat]? = some off) (ht : (pc : Int) + off = (tgt : Int)) (h : P sc mr tgt L st M Q) : P sc mr pc L (zI a :: st) M Q := by
  intro p l e R s m args below meth c D cA ad n H0 H locs cells slots ls Z hC hsc hW hS hL hk
  exact lv_tableIn hC.1 hC.2.1 (hC.dec hi') (by rw [zI_T ha]; omega) (by rw [zI_T ha]; omega) (by rw [zI_T ha]; exact hof) ht (h p l e R s m args below meth c D cA ad n H0 H locs cells slots ls Z hC hsc hW hS hL hk)
theorem p_lsw {i : Nat} {dflt a off : Int} {ps : Array (Int × Int)} {len : Nat} (tgt : Nat) (hi' : (mrT mr)[i]? = some (pc, .lookupswitch dflt ps, len)) (ha : -2147483648 ≤ a ∧ a ≤ 2147483647) (hp : (ps.toList.zip (ps.toList.drop 1)).all (fun (a, next) => a.1 < next.1) = true) (ho : Op.lookupswitch.offset ps.toList dflt a = off) (ht : (pc : Int) + off = (tgt : Int)) (h : P sc mr tgt L st M Q) : P sc mr pc L (zI a :: st) M Q := by
  intro p l e R s m args below meth c D cA ad n H0 H locs cells slots ls Z hC hsc hW hS hL hk
  exact lv_lookup hC.1 hC.2.1 (hC.dec hi') hp (by rw [zI_T ha]; exact ho) ht (h p l e R s m args below meth c D cA ad n H0 H locs cells slots ls Z hC hsc hW hS hL hk)
theorem p_ret {i : Nat} (hi : (mrT mr)[i]? = some (pc, .return_, 1)) (hr : mrR mr = none) (h : Q none M) : P sc mr pc L [] M Q := by
  intro p l e R s m args below meth c D cA ad n H0 H locs cells slots ls Z hC hsc hW hS hL hk
  exact hk none M pc H locs ls (Or.inl ⟨rfl, hr, hC.dec hi⟩) h hW hS
theorem p_iret {i : Nat} {x : Int32} (hi : (mrT mr)[i]? = some (pc, .ireturn, 1)) {ty : FieldType} (hr : mrR mr = some ty) (hn : narrow ty (.int x) = .int x) (h : Q (some (.int x)) M) : P sc mr pc L [.int x] M Q := by
  intro p l e R s m args below meth c D cA ad n H0 H locs cells slots ls Z hC hsc hW hS hL hk
  exact hk (some (.int x)) M pc H locs ls (Or.inr ⟨x, ty, rfl, hr, hn, hC.dec hi⟩) h hW hS
end PR
end
section
theorem lw_goodIn {mr : MR} (h : Jvm.Cond.code (mrY mr) (mrB mr) (mrL mr) (mrR mr) ∈ lwg) : GoodIn lwg (mrWs mr) := by
  intro w hw
  have hm : w ∈ lwg := by
    rcases List.mem_cons.mp hw with e | e
    · rw [e]; exact h
    · exact e
  exact ⟨hm, good_of_word (List.mem_filter.mp hm).2⟩
theorem iX0 : ∀ w ∈ u_ws RX0 TX0 3, w ∈ lwg := by decide +kernel
theorem iX1 : ∀ w ∈ u_ws RX1 TX1 3, w ∈ lwg := by decide +kernel
theorem iX2 : ∀ w ∈ u_ws RX2 TX2 3, w ∈ lwg := by decide +kernel
theorem iX3 : ∀ w ∈ u_ws RX3 TX3 7, w ∈ lwg := by decide +kernel
theorem iX4 : ∀ w ∈ u_ws RX4 TX4 3, w ∈ lwg := by decide +kernel
theorem iX5 : ∀ w ∈ u_ws RX5 TX5 3, w ∈ lwg := by decide +kernel
theorem iX6 : ∀ w ∈ u_ws RX6 TX6 8, w ∈ lwg := by decide +kernel
theorem iX7 : ∀ w ∈ u_ws RX7 TX7 5, w ∈ lwg := by decide +kernel
theorem iX8 : ∀ w ∈ u_ws RX8 TX8 2, w ∈ lwg := by decide +kernel
theorem iX9 : ∀ w ∈ u_ws RX9 TX9 12, w ∈ lwg := by decide +kernel
theorem iX10 : ∀ w ∈ u_ws RX10 TX10 23, w ∈ lwg := by decide +kernel
theorem cls_in {ci : Nat} {q : vw_C} (h : vwCl[ci]? = some q) : ∀ w ∈ u_ws q.1 q.2.1 q.2.2, w ∈ lwg := by
  match ci, h with
  | 0, h => cases h; exact iX0
  | 1, h => cases h; exact iX1
  | 2, h => cases h; exact iX2
  | 3, h => cases h; exact iX3
  | 4, h => cases h; exact iX4
  | 5, h => cases h; exact iX5
  | 6, h => cases h; exact iX6
  | 7, h => cases h; exact iX7
  | 8, h => cases h; exact iX8
  | 9, h => cases h; exact iX9
  | 10, h => cases h; exact iX10
  | ci + 11, h => cases h
theorem cls_ty {ci : Nat} {q : vw_C} (h : vwCl[ci]? = some q) : ∃ ty0 : Nat → FieldType, (∀ k, k < q.2.2 → parseFieldDescriptor (q.2.1 k).2.2.1 = some (ty0 k)) ∧ ∀ a, a < q.2.2 → ∀ b, b < q.2.2 → a ≠ b → (q.2.1 a).2.1 ≠ (q.2.1 b).2.1 := by
  match ci, h with
  | 0, h => cases h; exact ⟨tyX0, tyX0_ok, nmX0⟩
  | 1, h => cases h; exact ⟨tyX1, tyX1_ok, nmX1⟩
  | 2, h => cases h; exact ⟨tyX2, tyX2_ok, nmX2⟩
  | 3, h => cases h; exact ⟨tyX3, tyX3_ok, nmX3⟩
  | 4, h => cases h; exact ⟨tyX4, tyX4_ok, nmX4⟩
  | 5, h => cases h; exact ⟨tyX5, tyX5_ok, nmX5⟩
  | 6, h => cases h; exact ⟨tyX6, tyX6_ok, nmX6⟩
  | 7, h => cases h; exact ⟨tyX7, tyX7_ok, nmX7⟩
  | 8, h => cases h; exact ⟨tyX8, tyX8_ok, nmX8⟩
  | 9, h => cases h; exact ⟨tyX9, tyX9_ok, nmX9⟩
  | 10, h => cases h; exact ⟨tyX10, tyX10_ok, nmX10⟩
  | ci + 11, h => cases h
def FOk (own : String) (idx ci k : Nat) : Prop := ∃ q : vw_C, vwCl[ci]? = some q ∧ k < q.2.2 ∧ Jvm.Cond.fieldLink own idx (q.2.1 k).1 (q.2.1 k).2.1 (q.2.1 k).2.2.1 ∈ lwg
def FPut (own : String) (idx ci k : Nat) (ty : FieldType) : Prop := ∃ q : vw_C, vwCl[ci]? = some q ∧ k < q.2.2 ∧ Jvm.Cond.fieldLink own idx (q.2.1 k).1 (q.2.1 k).2.1 (q.2.1 k).2.2.1 ∈ lwg ∧ (q.2.1 k).2.2.2 = false ∧ parseFieldDescriptor (q.2.1 k).2.2.1 = some ty
def VM (mr' : MR) (nA : Nat) : Prop :=
  Jvm.Cond.instanceMethod (mrY mr') ∈ lwg ∧ Jvm.Cond.selects (mrY mr').cls (mrY mr') (mrY mr') ∈ lwg ∧ Jvm.Cond.initialized (mrY mr').cls ∈ lwg ∧ Jvm.Cond.code (mrY mr') (mrB mr') (mrL mr') (mrR mr') ∈ lwg ∧ ((mrY mr').cls ≠ "java/lang/invoke/MethodHandle" ∧ (mrY mr').cls ≠ "java/lang/invoke/VarHandle" ∧ (parseMethodDescriptor (mrY mr').desc).map (fun d => d.parameters.length) = some nA)
def VL (own : String) (idx : Nat) (mr' : MR) (nA : Nat) : Prop := Jvm.Cond.methodLink own idx (mrY mr') ∈ lwg ∧ VM mr' nA
def VOk (mr : MR) (idx : Nat) (mr' : MR) (nA : Nat) : Prop := VL (mrY mr).cls idx mr' nA ∧ Nat.ble (mrF mr' + 1) (mrF mr) = true ∧ Nat.ble (8 + (mrL mr' + 11) + mrW mr') (mrW mr) = true
def SM (mr' : MR) (nA : Nat) : Prop :=
  Jvm.Cond.static (mrY mr') ∈ lwg ∧ Jvm.Cond.initialized (mrY mr').cls ∈ lwg ∧ Jvm.Cond.code (mrY mr') (mrB mr') (mrL mr') (mrR mr') ∈ lwg ∧ ((mrY mr').cls ≠ "java/lang/invoke/MethodHandle" ∧ (mrY mr').cls ≠ "java/lang/invoke/VarHandle" ∧ (parseMethodDescriptor (mrY mr').desc).map (fun d => d.parameters.length) = some nA)
def SL (own : String) (idx : Nat) (mr' : MR) (nA : Nat) : Prop := Jvm.Cond.methodLink own idx (mrY mr') ∈ lwg ∧ SM mr' nA
def SOk (mr : MR) (idx : Nat) (mr' : MR) (nA : Nat) : Prop := SL (mrY mr).cls idx mr' nA ∧ Nat.ble (mrF mr' + 1) (mrF mr) = true ∧ Nat.ble (8 + (mrL mr' + 11) + mrW mr') (mrW mr) = true
abbrev zA (n : Nat) (g : Nat → Int) : AE := .inl (0, n, .inl (fun j => Int32.ofInt (g j)))
abbrev zB (n : Nat) (g : Nat → Int) : AE := .inl (1, n, .inl (fun j => Int32.ofInt (g j)))
abbrev zR (t n : Nat) (g : Nat → Option Nat) : AE := .inl (t, n, .inr (.inr (.inr (.inr g))))
abbrev zO (ci : Nat) (fs : List Value) : AE := .inr (ci, fs)
def zup (g : Nat → Int) (k : Nat) (v : Int) : Nat → Int := fun j => if j = k then v else g j
theorem zup_upd (g : Nat → Int) (k : Nat) (v : Int) : upd (fun j => Int32.ofInt (g j)) k (Int32.ofInt v) = fun j => Int32.ofInt (zup g k v j) := by
  funext j
  unfold upd zup
  split <;> rfl
theorem zcpy (f g : Nat → Int) (sp dp n : Nat) : va_cpy (fun j => Int32.ofInt (f j)) (fun j => Int32.ofInt (g j)) sp dp n = fun j => Int32.ofInt (va_cpy f g sp dp n j) := by
  funext j
  unfold va_cpy
  split <;> rfl
section PH
variable {sc : Option (Nat × (Nat → Int32))} {mr : MR} {pc : Nat} {L st : List Value} {M : AM} {Q : Option Value → AM → Prop}
theorem p_getf {i idx ci k o : Nat} {fs : List Value} {v : Value} (hi : (mrT mr)[i]? = some (pc, .getfield idx, 3)) (hf : FOk (mrY mr).cls idx ci k) (hM : M o = some (zO ci fs)) (hv : fs[k]? = some v) (h : P sc mr (pc + 3) L (v :: st) M Q) : P sc mr pc L (.ref o :: st) M Q := by
  intro p l e R s m args below meth c D cA ad n H0 H locs cells slots ls Z hC hsc hW hS hL hk
  have h1 := h p l e R s m args below meth c D cA ad n H0 H locs cells slots ls Z hC hsc hW hS hL hk
  obtain ⟨⟨C, T, N⟩, hc, hkN, hw⟩ := hf
  exact va_get (v := cv ad v) hC.1 hC.2.1 hC.2.2.2.2.1 (cls_in hc) hC.2.2.2.1 hC.2.2.2.2.2.1 hW.1 o (fs := fs.map (cv ad)) (by rw [wl_get (hW.2.2 o _ hM), hM]; rfl) hc k hkN (hC.2.2.2.2.1 _ hw) (fun _ q => q) (by rw [List.getElem?_map, hv]; rfl) (hC.dec hi) h1
theorem p_put {i idx ci k o : Nat} {fs : List Value} {v : Value} {ty : FieldType} (hi : (mrT mr)[i]? = some (pc, .putfield idx, 3)) (hf : FPut (mrY mr).cls idx ci k ty) (hM : M o = some (zO ci fs)) (hn : ∀ ad, narrow ty (cv ad v) = cv ad v) (hfit : ∀ ad, fits ty (cv ad v) = true) (hl : k < fs.length) (h : P sc mr (pc + 3) L st (aup M o (zO ci (fs.set k v))) Q) : P sc mr pc L (v :: .ref o :: st) M Q := by
  intro p l e R s m args below meth c D cA ad n H0 H locs cells slots ls Z hC hsc hW hS hL hk
  obtain ⟨⟨C, T, N⟩, hc, hkN, hw, hfin, hty⟩ := hf
  obtain ⟨ty0, ht0, hnm⟩ := cls_ty hc
  refine va_put (v := cv ad v) hC.1 hC.2.1 hC.2.2.2.2.1 (cls_in hc) ty0 ht0 hnm hC.2.2.2.1 hC.2.2.2.2.2.1 hW.1 hW.D hS o (fs := fs.map (cv ad)) (by rw [wl_get (hW.2.2 o _ hM), hM]; rfl) hc k hkN (hC.2.2.2.2.1 _ hw) (fun _ q => q) hfin hty (hn ad) (hfit ad) (by rw [List.length_map]; exact hl) (hC.dec hi) (fun H1 locs1 hP hD hS1 => ?_)
  refine h p l e R s m args below meth c D cA ad n H0 H1 locs1 cells slots ls Z hC hsc (hW.put (hW.2.2 o _ hM) ?_) hS1 hL hk
  rw [← List.map_set] at hP
  exact hP
theorem p_puti {i idx ci k o : Nat} {fs : List Value} {x : Int32} (hi : (mrT mr)[i]? = some (pc, .putfield idx, 3)) (hf : FPut (mrY mr).cls idx ci k .int) (hM : M o = some (zO ci fs)) (hl : Nat.blt k fs.length = true) (h : P sc mr (pc + 3) L st (aup M o (zO ci (fs.set k (.int x)))) Q) : P sc mr pc L (.int x :: .ref o :: st) M Q := p_put hi hf hM (fun _ => rfl) (fun _ => rfl) (Nat.blt_eq.mp hl) h
theorem p_putz {i idx ci k o : Nat} {fs : List Value} {a : Int} (hi : (mrT mr)[i]? = some (pc, .putfield idx, 3)) (hf : FPut (mrY mr).cls idx ci k .boolean) (hM : M o = some (zO ci fs)) (ha : a = 0 ∨ a = 1) (hl : Nat.blt k fs.length = true) (h : P sc mr (pc + 3) L st (aup M o (zO ci (fs.set k (zI a)))) Q) : P sc mr pc L (zI a :: .ref o :: st) M Q := p_put hi hf hM (fun _ => by rcases ha with rfl | rfl <;> rfl) (fun _ => by rcases ha with rfl | rfl <;> rfl) (Nat.blt_eq.mp hl) h
theorem p_putl {i idx ci k o : Nat} {fs : List Value} {x : Int64} (hi : (mrT mr)[i]? = some (pc, .putfield idx, 3)) (hf : FPut (mrY mr).cls idx ci k .long) (hM : M o = some (zO ci fs)) (hl : Nat.blt k fs.length = true) (h : P sc mr (pc + 3) L st (aup M o (zO ci (fs.set k (.long x)))) Q) : P sc mr pc L (.long x :: .ref o :: st) M Q := p_put hi hf hM (fun _ => rfl) (fun _ => rfl) (Nat.blt_eq.mp hl) h
theorem p_puta {i idx ci k o a : Nat} {fs : List Value} {nm : String} (hi : (mrT mr)[i]? = some (pc, .putfield idx, 3)) (hf : FPut (mrY mr).cls idx ci k (.object nm)) (hM : M o = some (zO ci fs)) (hl : Nat.blt k fs.length = true) (h : P sc mr (pc + 3) L st (aup M o (zO ci (fs.set k (.ref a)))) Q) : P sc mr pc L (.ref a :: .ref o :: st) M Q := p_put hi hf hM (fun _ => rfl) (fun _ => rfl) (Nat.blt_eq.mp hl) h
theorem p_iald {i o n : Nat} {g : Nat → Int} {a : Int} (hi : (mrT mr)[i]? = some (pc, .iaload, 1)) (hM : M o = some (zA n g)) (ha : 0 ≤ a ∧ a < n) (hn : n < 2147483648) (h : P sc mr (pc + 1) L (zI (g a.toNat) :: st) M Q) : P sc mr pc L (zI a :: .ref o :: st) M Q := by
  intro p l e R s m args below meth c D cA ad nn H0 H locs cells slots ls Z hC hsc hW hS hL hk
  have h1 := h p l e R s m args below meth c D cA ad nn H0 H locs cells slots ls Z hC hsc hW hS hL hk
  obtain ⟨g1, g2⟩ := zI_in ha hn
  exact va_iald hC.1 hC.2.1 hC.2.2.2.2.2.1 hW.1 o 0 (by rw [wl_get (hW.2.2 o _ hM), hM]; rfl) rfl g1 (hC.dec hi) (by rw [g2]; exact h1)
theorem p_zald {i o n : Nat} {g : Nat → Int} {a : Int} (hi : (mrT mr)[i]? = some (pc, .baload, 1)) (hM : M o = some (zB n g)) (ha : 0 ≤ a ∧ a < n) (hn : n < 2147483648) (h : P sc mr (pc + 1) L (zI (g a.toNat) :: st) M Q) : P sc mr pc L (zI a :: .ref o :: st) M Q := by
  intro p l e R s m args below meth c D cA ad nn H0 H locs cells slots ls Z hC hsc hW hS hL hk
  have h1 := h p l e R s m args below meth c D cA ad nn H0 H locs cells slots ls Z hC hsc hW hS hL hk
  obtain ⟨g1, g2⟩ := zI_in ha hn
  exact va_zald hC.1 hC.2.1 hC.2.2.2.2.2.1 hW.1 o 1 (by rw [wl_get (hW.2.2 o _ hM), hM]; rfl) rfl g1 (hC.dec hi) (by rw [g2]; exact h1)
theorem p_iast {i o n : Nat} {g : Nat → Int} {a v : Int} (hi : (mrT mr)[i]? = some (pc, .iastore, 1)) (hM : M o = some (zA n g)) (ha : 0 ≤ a ∧ a < n) (hn : n < 2147483648) (h : P sc mr (pc + 1) L st (aup M o (zA n (zup g a.toNat v))) Q) : P sc mr pc L (zI v :: zI a :: .ref o :: st) M Q := by
  intro p l e R s m args below meth c D cA ad nn H0 H locs cells slots ls Z hC hsc hW hS hL hk
  obtain ⟨g1, g2⟩ := zI_in ha hn
  refine va_iast hC.1 hC.2.1 hC.2.2.2.2.2.1 hW.1 hW.D hS o 0 (by rw [wl_get (hW.2.2 o _ hM), hM]; rfl) rfl g1 (hC.dec hi) (fun H1 locs1 hP hD hS1 => ?_)
  refine h p l e R s m args below meth c D cA ad nn H0 H1 locs1 cells slots ls Z hC hsc (hW.put (hW.2.2 o _ hM) ?_) hS1 hL hk
  rw [g2, zup_upd] at hP
  exact hP
theorem p_zast {i o n : Nat} {g : Nat → Int} {a v : Int} (hi : (mrT mr)[i]? = some (pc, .bastore, 1)) (hM : M o = some (zB n g)) (ha : 0 ≤ a ∧ a < n) (hn : n < 2147483648) (hv : v = 0 ∨ v = 1) (h : P sc mr (pc + 1) L st (aup M o (zB n (zup g a.toNat v))) Q) : P sc mr pc L (zI v :: zI a :: .ref o :: st) M Q := by
  intro p l e R s m args below meth c D cA ad nn H0 H locs cells slots ls Z hC hsc hW hS hL hk
  obtain ⟨g1, g2⟩ := zI_in ha hn
  have hb : vp_nar .boolean (Int32.ofInt v) = Int32.ofInt v := by rcases hv with rfl | rfl <;> decide
  refine va_zast hC.1 hC.2.1 hC.2.2.2.2.2.1 hW.1 hW.D hS o 1 (by rw [wl_get (hW.2.2 o _ hM), hM]; rfl) rfl g1 (hC.dec hi) (fun H1 locs1 hP hD hS1 => ?_)
  refine h p l e R s m args below meth c D cA ad nn H0 H1 locs1 cells slots ls Z hC hsc (hW.put (hW.2.2 o _ hM) ?_) hS1 hL hk
  rw [g2, hb, zup_upd] at hP
  exact hP
theorem p_aald {i o n t k : Nat} {g : Nat → Option Nat} {a : Int} (hi : (mrT mr)[i]? = some (pc, .aaload, 1)) (hM : M o = some (zR t n g)) (ht : t = 2 ∨ t = 3 ∨ t = 4) (ha : 0 ≤ a ∧ a < n) (hn : n < 2147483648) (hg : g a.toNat = some k) (h : P sc mr (pc + 1) L (.ref k :: st) M Q) : P sc mr pc L (zI a :: .ref o :: st) M Q := by
  intro p l e R s m args below meth c D cA ad nn H0 H locs cells slots ls Z hC hsc hW hS hL hk
  have h1 := h p l e R s m args below meth c D cA ad nn H0 H locs cells slots ls Z hC hsc hW hS hL hk
  obtain ⟨g1, g2⟩ := zI_in ha hn
  have hat : (wl cA ad nn M)[o]? = some (ad o, .inl (cA t, n, .inr (.inr (.inr (.inr (fun j => (g j).map ad)))))) := by rw [wl_get (hW.2.2 o _ hM), hM]; rfl
  have hv : va_rf ((fun j => (g j).map ad) (Int32.ofInt a).toNatClampNeg) = .ref (ad k) := by rw [g2]; simp only [hg]; rfl
  rcases ht with rfl | rfl | rfl
  · exact va_aldq hC.1 hC.2.1 hC.2.2.2.2.2.1 hW.1 o 2 hat rfl g1 (hC.dec hi) (by rw [hv]; exact h1)
  · exact va_aldq hC.1 hC.2.1 hC.2.2.2.2.2.1 hW.1 o 3 hat rfl g1 (hC.dec hi) (by rw [hv]; exact h1)
  · have hlt : (Int32.ofInt a).toNatClampNeg < n := Nat.not_le.mp fun q => g1 (Or.inr q)
    exact W.aald (v := .ref (ad k)) (ty := .array .int) hC.1 hC.2.1 (hW.1 o _ hat) ((hC.2.2.2.2.2.1.2 4 _ rfl).1 n (fun j => va_rf ((g j).map ad))) rfl (fun q => by cases q) (by show ¬ (_ < 0 ∨ (arrV _ _ _).slots.size ≤ _); rw [arrV_size]; exact g1) (by show (arrV _ _ _).slots[_]? = _; rw [arrV_read _ _ hlt]; exact congrArg some hv) rfl rfl (hC.dec hi) h1
theorem p_slen {i : Nat} {q : Nat × (Nat → Int32)} (hq : sc = some q) (hi : (mrT mr)[i]? = some (pc, .arraylength, 1)) (h : P sc mr (pc + 1) L (zI (q.1 : Int) :: st) M Q) : P sc mr pc L (.ref 1000000 :: st) M Q := by
  intro p l e R s m args below meth c D cA ad nn H0 H locs cells slots ls Z hC hsc hW hS hL hk
  have h1 := h p l e R s m args below meth c D cA ad nn H0 H locs cells slots ls Z hC hsc hW hS hL hk
  obtain ⟨hX, hb, hA⟩ := hsc q hq
  exact va_slen hC.1 hC.2.1 hX hb hA hS (hC.dec hi) (by rw [← Int32.ofInt_eq_ofNat]; exact h1)
theorem p_sld {i : Nat} {q : Nat × (Nat → Int32)} {a : Int} (hq : sc = some q) (hi : (mrT mr)[i]? = some (pc, .iaload, 1)) (ha : 0 ≤ a ∧ a < q.1) (hn : q.1 < 2147483648) (h : P sc mr (pc + 1) L (zI (q.2 a.toNat).toInt :: st) M Q) : P sc mr pc L (zI a :: .ref 1000000 :: st) M Q := by
  intro p l e R s m args below meth c D cA ad nn H0 H locs cells slots ls Z hC hsc hW hS hL hk
  have h1 := h p l e R s m args below meth c D cA ad nn H0 H locs cells slots ls Z hC hsc hW hS hL hk
  obtain ⟨hX, hb, hA⟩ := hsc q hq
  obtain ⟨g1, g2⟩ := zI_in ha hn
  exact va_sld hC.1 hC.2.1 hX hb hA hS g1 (hC.dec hi) (by rw [g2, ← Int32.ofInt_toInt (q.2 a.toNat)]; exact h1)
theorem p_copy {i idx o0 o1 n0 n1 : Nat} {f g : Nat → Int} {a b d : Int} (hi : (mrT mr)[i]? = some (pc, .invokestatic idx, 3)) (hw : Jvm.Cond.methodLink (mrY mr).cls idx arraycopyName ∈ lwg) (hw2 : Jvm.Cond.native arraycopyName ∈ lwg ∧ Jvm.Cond.static arraycopyName ∈ lwg ∧ Jvm.Cond.initialized "java/lang/System" ∈ lwg) (hM0 : M o0 = some (zA n0 f)) (hM1 : M o1 = some (zA n1 g)) (ha : 0 ≤ a ∧ 0 ≤ b ∧ 0 ≤ d ∧ a + d ≤ n0 ∧ b + d ≤ n1) (hn : n0 < 2147483648 ∧ n1 < 2147483648) (hr : 1 ≤ mrF mr ∧ (st.map fun v => v.category).sum + 18 ≤ mrW mr) (h : P sc mr (pc + 3) L st (aup M o1 (zA n1 (va_cpy f g a.toNat b.toNat d.toNat))) Q) : P sc mr pc L (zI d :: zI b :: .ref o1 :: zI a :: .ref o0 :: st) M Q := by
  intro p l e R s m args below meth c D cA ad nn H0 H locs cells slots ls Z hC hsc hW hS hL hk
  have e0 : ∀ z : Int, 0 ≤ z ∧ z ≤ 2147483647 → ¬ Int32.ofInt z < 0 ∧ (Int32.ofInt z).toNatClampNeg = z.toNat := fun z hz => by
    have e : (Int32.ofInt z).toInt = z := zI_T (by omega)
    refine ⟨?_, ?_⟩
    · rw [← zI_0, zI_lt (by omega) (by omega)]; omega
    · show (Int32.ofInt z).toInt.toNat = z.toNat
      rw [e]
  obtain ⟨a1, a2⟩ := e0 a (by omega)
  obtain ⟨b1, b2⟩ := e0 b (by omega)
  obtain ⟨d1, d2⟩ := e0 d (by omega)
  refine va_copyi hC.1 hC.2.1 (hC.2.2.1.trans hL.1.symm) hC.2.2.2.1 (hC.2.2.2.2.1 _ hw) (hC.2.2.2.2.1 _ hw2.1) (hC.2.2.2.2.1 _ hw2.2.1) (hC.2.2.2.2.1 _ hw2.2.2) hC.2.2.2.2.2.1 hW.1 hW.D hS o0 o1 0 0 (by rw [wl_get (hW.2.2 o0 _ hM0), hM0]; rfl) (by rw [wl_get (hW.2.2 o1 _ hM1), hM1]; rfl) rfl rfl rfl a1 b1 d1 (by rw [a2, d2]; omega) (by rw [b2, d2]; omega) (fun _ _ => rfl) (Nat.le_trans hr.1 hC.2.2.2.2.2.2.1) ?_ (hC.dec hi) (fun H1 locs1 hP hD hS1 => ?_)
  · have e : nativeFrameWords "java/lang/System" "arraycopy" 5 = 7 := by decide
    rw [cv_sum, e]
    exact Nat.le_trans hr.2 hC.2.2.2.2.2.2.2.1
  · refine h p l e R s m args below meth c D cA ad nn H0 H1 locs1 cells slots ls Z hC hsc (hW.put (hW.2.2 o1 _ hM1) ?_) hS1 hL hk
    rw [a2, b2, d2, zcpy] at hP
    exact hP
theorem p_cV {i idx nA o ci : Nat} {mr' : MR} {vs rest fs : List Value} (hi : (mrT mr)[i]? = some (pc, .invokevirtual idx, 3)) (hv : VOk mr idx mr' nA) (hn : vs.length = nA) (hM : M o = some (zO ci fs)) (hc : ∃ q, vwCl[ci]? = some q ∧ q.1 = (mrY mr').cls) (hr : (rest.map fun v => v.category).sum ≤ 8) (h : C mr' (.ref o :: vs) M (fun r M' => P sc mr (pc + 3) L (r.toList ++ rest) M' Q)) : P sc mr pc L (vs.reverse ++ .ref o :: rest) M Q := by
  intro p l e R s m args below meth c D cA ad n H0 H locs cells slots ls Z hC hsc hW hS hL hk
  obtain ⟨⟨v1, v2, v3, v4, v5, ⟨v6, v7, v8⟩⟩, v9, v10⟩ := hv
  have v9 := Nat.le_of_ble_eq_true v9
  have v10 := Nat.le_of_ble_eq_true v10
  have hts := hC.2.2.2.2.1
  obtain ⟨q, hq, hqc⟩ := hc
  have hat : (wl cA ad n M)[o]? = some (ad o, .inr (ci, fs.map (cv ad))) := by rw [wl_get (hW.2.2 o _ hM), hM]; rfl
  have hrun := va_runV (As := vs.map (cv ad)) (rest := rest.map (cv ad)) (b := ad o) (cells := cells) (slots := slots) (locs := locs) (below := below) (meth := meth) (e := e) (g := F0 m pc ls ((vs.reverse ++ .ref o :: rest).map (cv ad))) (C := (mrY mr').cls) (bytes := mrB mr') (maxL := mrL mr') (ret := mrR mr') (n := nA) (R := R) (H := H)
    ⟨hC.1, hC.2.1, hC.2.2.1, hC.2.2.2.1, hts⟩ (h l D cA ad n)
    ⟨⟨rfl, rfl, Nat.le_trans v9 hC.2.2.2.2.2.2.1, Nat.le_trans v10 hC.2.2.2.2.2.2.2.1, pay_in hts (lw_goodIn v5), List.mem_cons_self, hts _ v5, hts _ v4, ⟨v6, v7⟩, fun sig hs => by rw [hs] at v8; exact (Option.some.inj v8).symm, hts _ v1⟩, hts _ v2, hts _ v3⟩
    ⟨fun a U g mk z => by obtain ⟨z1, z2, z3⟩ := z; exact ⟨z1, va_K.moved (u := U) (U := U.calling g mk a) (Vm.Alike.refl U.vm) z2, z3⟩, by rw [← hqc]; exact va_recv hC.2.2.2.2.2.1 hW.1 hq hat, fun U hU hWm => ⟨rfl, va_K.moved hWm.alike hC.2.2.2.2.2.1, by rw [hU]; exact hW⟩⟩
    rfl (by rw [List.length_map]; exact hn) hL.1 (by show (vs.reverse ++ .ref o :: rest).map (cv ad) = _; rw [List.map_append, List.map_reverse]; rfl) (lv_room (by rw [cv_sum]; exact hr)) (hC.dec hi) ⟨hC.2.2.2.2.2.2.2.2.2.1, hC.2.2.2.2.2.2.2.2.2.2⟩
  intro T hT X
  obtain ⟨v, st₀, t, T', Lc, h0, X', hLc, e1, e2, ⟨r, M', er, hqq, hW', hF⟩, stp⟩ := hrun T hT X
  cases er
  have hS' : va_S (FA ad n) H0 T'.heap (locs ++ Lc) := by
    rw [e1]
    refine ⟨Nat.le_trans hS.1 (by rw [← h0]; exact hF.1), fun x h1 h2 => ?_, fun x hx => ?_⟩
    · rw [hF.2 x (by rw [h0]; exact Nat.lt_of_lt_of_le h1 hS.1) h2, h0]
      exact hS.2.1 x h1 h2
    · rcases List.mem_append.mp hx with z | z
      · exact hS.2.2 x z
      · exact hLc x z
  obtain ⟨t2, a1, b1⟩ := hqq p l e R s m args below meth c D cA ad n H0 T'.heap (locs ++ Lc) cells slots ls Z hC hsc (by rw [e1]; exact hW') hS' hL hk T' rfl X'
  refine ⟨t2, stp t2 ?_, b1⟩
  have ee : (r.map (cv ad)).toList ++ rest.map (cv ad) = (r.toList ++ rest).map (cv ad) := by
    rw [List.map_append]
    cases r <;> rfl
  rw [ee]
  exact a1
theorem p_cS {i idx nA : Nat} {mr' : MR} {vs rest : List Value} (hi : (mrT mr)[i]? = some (pc, .invokestatic idx, 3)) (hv : SOk mr idx mr' nA) (hn : vs.length = nA) (hr : (rest.map fun v => v.category).sum ≤ 8) (h : C mr' vs M (fun r M' => P sc mr (pc + 3) L (r.toList ++ rest) M' Q)) : P sc mr pc L (vs.reverse ++ rest) M Q := by
  intro p l e R s m args below meth c D cA ad n H0 H locs cells slots ls Z hC hsc hW hS hL hk
  obtain ⟨⟨v1, v2, v4, v5, ⟨v6, v7, v8⟩⟩, v9, v10⟩ := hv
  have v9 := Nat.le_of_ble_eq_true v9
  have v10 := Nat.le_of_ble_eq_true v10
  have hts := hC.2.2.2.2.1
  have hrun := va_runS (As := vs.map (cv ad)) (rest := rest.map (cv ad)) (cells := cells) (slots := slots) (locs := locs) (below := below) (meth := meth) (e := e) (g := F0 m pc ls ((vs.reverse ++ rest).map (cv ad))) (bytes := mrB mr') (maxL := mrL mr') (ret := mrR mr') (n := nA) (R := R) (H := H)
    ⟨hC.1, hC.2.1, hC.2.2.1, hC.2.2.2.1, hts⟩ (h l D cA ad n)
    ⟨⟨rfl, rfl, Nat.le_trans v9 hC.2.2.2.2.2.2.1, Nat.le_trans v10 hC.2.2.2.2.2.2.2.1, pay_in hts (lw_goodIn v5), List.mem_cons_self, hts _ v5, hts _ v4, ⟨v6, v7⟩, fun sig hs => by rw [hs] at v8; exact (Option.some.inj v8).symm, hts _ v1⟩, hts _ v2⟩
    ⟨fun a U g mk z => by obtain ⟨z1, z2, z3⟩ := z; exact ⟨z1, va_K.moved (u := U) (U := U.calling g mk a) (Vm.Alike.refl U.vm) z2, z3⟩, fun U hU hWm => ⟨rfl, va_K.moved hWm.alike hC.2.2.2.2.2.1, by rw [hU]; exact hW⟩⟩
    rfl (by rw [List.length_map]; exact hn) hL.1 (by show (vs.reverse ++ rest).map (cv ad) = _; rw [List.map_append, List.map_reverse]) (lv_room (by rw [cv_sum]; exact hr)) (hC.dec hi) ⟨hC.2.2.2.2.2.2.2.2.2.1, hC.2.2.2.2.2.2.2.2.2.2⟩
  intro T hT X
  obtain ⟨v, st₀, t, T', Lc, h0, X', hLc, e1, e2, ⟨r, M', er, hqq, hW', hF⟩, stp⟩ := hrun T hT X
  cases er
  have hS' : va_S (FA ad n) H0 T'.heap (locs ++ Lc) := by
    rw [e1]
    refine ⟨Nat.le_trans hS.1 (by rw [← h0]; exact hF.1), fun x h1 h2 => ?_, fun x hx => ?_⟩
    · rw [hF.2 x (by rw [h0]; exact Nat.lt_of_lt_of_le h1 hS.1) h2, h0]
      exact hS.2.1 x h1 h2
    · rcases List.mem_append.mp hx with z | z
      · exact hS.2.2 x z
      · exact hLc x z
  obtain ⟨t2, a1, b1⟩ := hqq p l e R s m args below meth c D cA ad n H0 T'.heap (locs ++ Lc) cells slots ls Z hC hsc (by rw [e1]; exact hW') hS' hL hk T' rfl X'
  refine ⟨t2, stp t2 ?_, b1⟩
  have ee : (r.map (cv ad)).toList ++ rest.map (cv ad) = (r.toList ++ rest).map (cv ad) := by
    rw [List.map_append]
    cases r <;> rfl
  rw [ee]
  exact a1
theorem p_cV0 {i idx o ci : Nat} {mr' : MR} {rest fs : List Value} (hi : (mrT mr)[i]? = some (pc, .invokevirtual idx, 3)) (hv : VOk mr idx mr' 0) (hM : M o = some (zO ci fs)) (hc : ∃ q, vwCl[ci]? = some q ∧ q.1 = (mrY mr').cls) (hr : Nat.ble (rest.map fun v => v.category).sum 8 = true) (h : C mr' (.ref o :: []) M (fun r M' => P sc mr (pc + 3) L (r.toList ++ rest) M' Q)) : P sc mr pc L (.ref o :: rest) M Q := p_cV (vs := []) hi hv rfl hM hc (Nat.le_of_ble_eq_true hr) h
theorem p_cS0 {i idx : Nat} {mr' : MR} {rest : List Value} (hi : (mrT mr)[i]? = some (pc, .invokestatic idx, 3)) (hv : SOk mr idx mr' 0) (hr : Nat.ble (rest.map fun v => v.category).sum 8 = true) (h : C mr' [] M (fun r M' => P sc mr (pc + 3) L (r.toList ++ rest) M' Q)) : P sc mr pc L (rest) M Q := p_cS (vs := []) hi hv rfl (Nat.le_of_ble_eq_true hr) h
theorem p_cV1 {i idx o ci : Nat} {mr' : MR} {rest fs : List Value} {v1 : Value} (hi : (mrT mr)[i]? = some (pc, .invokevirtual idx, 3)) (hv : VOk mr idx mr' 1) (hM : M o = some (zO ci fs)) (hc : ∃ q, vwCl[ci]? = some q ∧ q.1 = (mrY mr').cls) (hr : Nat.ble (rest.map fun v => v.category).sum 8 = true) (h : C mr' (.ref o :: [v1]) M (fun r M' => P sc mr (pc + 3) L (r.toList ++ rest) M' Q)) : P sc mr pc L (v1 :: .ref o :: rest) M Q := p_cV (vs := [v1]) hi hv rfl hM hc (Nat.le_of_ble_eq_true hr) h
theorem p_cS1 {i idx : Nat} {mr' : MR} {rest : List Value} {v1 : Value} (hi : (mrT mr)[i]? = some (pc, .invokestatic idx, 3)) (hv : SOk mr idx mr' 1) (hr : Nat.ble (rest.map fun v => v.category).sum 8 = true) (h : C mr' [v1] M (fun r M' => P sc mr (pc + 3) L (r.toList ++ rest) M' Q)) : P sc mr pc L (v1 :: rest) M Q := p_cS (vs := [v1]) hi hv rfl (Nat.le_of_ble_eq_true hr) h
theorem p_cV2 {i idx o ci : Nat} {mr' : MR} {rest fs : List Value} {v1 v2 : Value} (hi : (mrT mr)[i]? = some (pc, .invokevirtual idx, 3)) (hv : VOk mr idx mr' 2) (hM : M o = some (zO ci fs)) (hc : ∃ q, vwCl[ci]? = some q ∧ q.1 = (mrY mr').cls) (hr : Nat.ble (rest.map fun v => v.category).sum 8 = true) (h : C mr' (.ref o :: [v1, v2]) M (fun r M' => P sc mr (pc + 3) L (r.toList ++ rest) M' Q)) : P sc mr pc L (v2 :: v1 :: .ref o :: rest) M Q := p_cV (vs := [v1, v2]) hi hv rfl hM hc (Nat.le_of_ble_eq_true hr) h
theorem p_cS2 {i idx : Nat} {mr' : MR} {rest : List Value} {v1 v2 : Value} (hi : (mrT mr)[i]? = some (pc, .invokestatic idx, 3)) (hv : SOk mr idx mr' 2) (hr : Nat.ble (rest.map fun v => v.category).sum 8 = true) (h : C mr' [v1, v2] M (fun r M' => P sc mr (pc + 3) L (r.toList ++ rest) M' Q)) : P sc mr pc L (v2 :: v1 :: rest) M Q := p_cS (vs := [v1, v2]) hi hv rfl (Nat.le_of_ble_eq_true hr) h
theorem p_cV3 {i idx o ci : Nat} {mr' : MR} {rest fs : List Value} {v1 v2 v3 : Value} (hi : (mrT mr)[i]? = some (pc, .invokevirtual idx, 3)) (hv : VOk mr idx mr' 3) (hM : M o = some (zO ci fs)) (hc : ∃ q, vwCl[ci]? = some q ∧ q.1 = (mrY mr').cls) (hr : Nat.ble (rest.map fun v => v.category).sum 8 = true) (h : C mr' (.ref o :: [v1, v2, v3]) M (fun r M' => P sc mr (pc + 3) L (r.toList ++ rest) M' Q)) : P sc mr pc L (v3 :: v2 :: v1 :: .ref o :: rest) M Q := p_cV (vs := [v1, v2, v3]) hi hv rfl hM hc (Nat.le_of_ble_eq_true hr) h
theorem p_cS3 {i idx : Nat} {mr' : MR} {rest : List Value} {v1 v2 v3 : Value} (hi : (mrT mr)[i]? = some (pc, .invokestatic idx, 3)) (hv : SOk mr idx mr' 3) (hr : Nat.ble (rest.map fun v => v.category).sum 8 = true) (h : C mr' [v1, v2, v3] M (fun r M' => P sc mr (pc + 3) L (r.toList ++ rest) M' Q)) : P sc mr pc L (v3 :: v2 :: v1 :: rest) M Q := p_cS (vs := [v1, v2, v3]) hi hv rfl (Nat.le_of_ble_eq_true hr) h
theorem p_cV4 {i idx o ci : Nat} {mr' : MR} {rest fs : List Value} {v1 v2 v3 v4 : Value} (hi : (mrT mr)[i]? = some (pc, .invokevirtual idx, 3)) (hv : VOk mr idx mr' 4) (hM : M o = some (zO ci fs)) (hc : ∃ q, vwCl[ci]? = some q ∧ q.1 = (mrY mr').cls) (hr : Nat.ble (rest.map fun v => v.category).sum 8 = true) (h : C mr' (.ref o :: [v1, v2, v3, v4]) M (fun r M' => P sc mr (pc + 3) L (r.toList ++ rest) M' Q)) : P sc mr pc L (v4 :: v3 :: v2 :: v1 :: .ref o :: rest) M Q := p_cV (vs := [v1, v2, v3, v4]) hi hv rfl hM hc (Nat.le_of_ble_eq_true hr) h
theorem p_cS4 {i idx : Nat} {mr' : MR} {rest : List Value} {v1 v2 v3 v4 : Value} (hi : (mrT mr)[i]? = some (pc, .invokestatic idx, 3)) (hv : SOk mr idx mr' 4) (hr : Nat.ble (rest.map fun v => v.category).sum 8 = true) (h : C mr' [v1, v2, v3, v4] M (fun r M' => P sc mr (pc + 3) L (r.toList ++ rest) M' Q)) : P sc mr pc L (v4 :: v3 :: v2 :: v1 :: rest) M Q := p_cS (vs := [v1, v2, v3, v4]) hi hv rfl (Nat.le_of_ble_eq_true hr) h
theorem p_cS5 {i idx : Nat} {mr' : MR} {rest : List Value} {v1 v2 v3 v4 v5 : Value} (hi : (mrT mr)[i]? = some (pc, .invokestatic idx, 3)) (hv : SOk mr idx mr' 5) (hr : Nat.ble (rest.map fun v => v.category).sum 8 = true) (h : C mr' [v1, v2, v3, v4, v5] M (fun r M' => P sc mr (pc + 3) L (r.toList ++ rest) M' Q)) : P sc mr pc L (v5 :: v4 :: v3 :: v2 :: v1 :: rest) M Q := p_cS (vs := [v1, v2, v3, v4, v5]) hi hv rfl (Nat.le_of_ble_eq_true hr) h
theorem P_mem {M' : AM} (e : M = M') (h : P sc mr pc L st M' Q) : P sc mr pc L st M Q := e ▸ h
end PH
theorem tab_ok {m : MR} (h : (mrT m).all (fun q => decide (decode (mrB m) q.1 = .ok q.2)) = true) : TabOk m := fun q hq => of_decide_eq_true (List.all_eq_true.mp h q hq)
end
section
def tX0_init : List (Nat × Instr × Nat) := [(0, .aload_n 0, 1), (1, .invokespecial 3, 3), (4, .aload_n 0, 1), (5, .bipush 20, 2), (7, .newarray .int, 2), (9, .putfield 9, 3), (12, .aload_n 0, 1), (13, .bipush 20, 2), (15, .newarray .int, 2), (17, .putfield 15, 3), (20, .aload_n 0, 1), (21, .iconst 0, 1), (22, .putfield 18, 3), (25, .return_, 1)]
def mX0_init : MR := (yX0_init, cX0_init, 1, none, 1, 20, tX0_init)
theorem okX0_init : TabOk mX0_init := tab_ok (by decide +kernel)
def tX0_forget : List (Nat × Instr × Nat) := [(0, .aload_n 0, 1), (1, .iconst 0, 1), (2, .putfield 18, 3), (5, .return_, 1)]
def mX0_forget : MR := (yX0_forget, cX0_forget, 1, none, 0, 0, tX0_forget)
theorem okX0_forget : TabOk mX0_forget := tab_ok (by decide +kernel)
def tX0_add : List (Nat × Instr × Nat) := [(0, .aload_n 0, 1), (1, .getfield 18, 3), (4, .bipush 20, 2), (6, .if_icmp .ge 33, 3), (9, .aload_n 0, 1), (10, .getfield 9, 3), (13, .aload_n 0, 1), (14, .getfield 18, 3), (17, .iload_n 1, 1), (18, .iastore, 1), (19, .aload_n 0, 1), (20, .getfield 15, 3), (23, .aload_n 0, 1), (24, .getfield 18, 3), (27, .iload_n 2, 1), (28, .iastore, 1), (29, .aload_n 0, 1), (30, .dup, 1), (31, .getfield 18, 3), (34, .iconst 1, 1), (35, .iadd, 1), (36, .putfield 18, 3), (39, .return_, 1)]
def mX0_add : MR := (yX0_add, cX0_add, 3, none, 0, 0, tX0_add)
theorem okX0_add : TabOk mX0_add := tab_ok (by decide +kernel)
def tX1_init : List (Nat × Instr × Nat) := [(0, .aload_n 0, 1), (1, .invokespecial 3, 3), (4, .aload_n 0, 1), (5, .bipush 30, 2), (7, .anewarray 9, 3), (10, .putfield 11, 3), (13, .aload_n 0, 1), (14, .iconst 0, 1), (15, .putfield 17, 3), (18, .aload_n 0, 1), (19, .iconst 0, 1), (20, .putfield 21, 3), (23, .iconst 0, 1), (24, .istore_n 1, 1), (25, .iload_n 1, 1), (26, .bipush 30, 2), (28, .if_icmp .ge 22, 3), (31, .aload_n 0, 1), (32, .getfield 11, 3), (35, .iload_n 1, 1), (36, .new 9, 3), (39, .dup, 1), (40, .invokespecial 24, 3), (43, .aastore, 1), (44, .iinc 1 1, 3), (47, .goto (-22), 3), (50, .return_, 1)]
def mX1_init : MR := (yX1_init, cX1_init, 2, none, 3, 60, tX1_init)
theorem okX1_init : TabOk mX1_init := tab_ok (by decide +kernel)
def tX1_forget : List (Nat × Instr × Nat) := [(0, .aload_n 0, 1), (1, .iconst 0, 1), (2, .putfield 17, 3), (5, .aload_n 0, 1), (6, .iconst 0, 1), (7, .putfield 21, 3), (10, .return_, 1)]
def mX1_forget : MR := (yX1_forget, cX1_forget, 1, none, 0, 0, tX1_forget)
theorem okX1_forget : TabOk mX1_forget := tab_ok (by decide +kernel)
def tX1_remember : List (Nat × Instr × Nat) := [(0, .aload_n 0, 1), (1, .getfield 11, 3), (4, .aload_n 0, 1), (5, .getfield 17, 3), (8, .aload_n 0, 1), (9, .getfield 21, 3), (12, .iadd, 1), (13, .bipush 30, 2), (15, .irem, 1), (16, .aaload, 1), (17, .aload_n 1, 1), (18, .invokevirtual 25, 3), (21, .aload_n 0, 1), (22, .getfield 21, 3), (25, .bipush 30, 2), (27, .if_icmp .ge 16, 3), (30, .aload_n 0, 1), (31, .dup, 1), (32, .getfield 21, 3), (35, .iconst 1, 1), (36, .iadd, 1), (37, .putfield 21, 3), (40, .goto 16, 3), (43, .aload_n 0, 1), (44, .aload_n 0, 1), (45, .getfield 17, 3), (48, .iconst 1, 1), (49, .iadd, 1), (50, .bipush 30, 2), (52, .irem, 1), (53, .putfield 17, 3), (56, .return_, 1)]
def mX1_remember : MR := (yX1_remember, cX1_remember, 2, none, 3, 60, tX1_remember)
theorem okX1_remember : TabOk mX1_remember := tab_ok (by decide +kernel)
def tX1_restore : List (Nat × Instr × Nat) := [(0, .iload_n 2, 1), (1, .iconst 1, 1), (2, .if_icmp .lt 42, 3), (5, .iload_n 2, 1), (6, .aload_n 0, 1), (7, .getfield 21, 3), (10, .if_icmp .gt 34, 3), (13, .aload_n 0, 1), (14, .dup, 1), (15, .getfield 21, 3), (18, .iload_n 2, 1), (19, .isub, 1), (20, .putfield 21, 3), (23, .aload_n 1, 1), (24, .aload_n 0, 1), (25, .getfield 11, 3), (28, .aload_n 0, 1), (29, .getfield 17, 3), (32, .aload_n 0, 1), (33, .getfield 21, 3), (36, .iadd, 1), (37, .bipush 30, 2), (39, .irem, 1), (40, .aaload, 1), (41, .invokevirtual 25, 3), (44, .return_, 1)]
def mX1_restore : MR := (yX1_restore, cX1_restore, 3, none, 3, 60, tX1_restore)
theorem okX1_restore : TabOk mX1_restore := tab_ok (by decide +kernel)
def tX2_init : List (Nat × Instr × Nat) := [(0, .aload_n 0, 1), (1, .invokespecial 1, 3), (4, .aload_n 0, 1), (5, .new 7, 3), (8, .dup, 1), (9, .invokespecial 9, 3), (12, .putfield 10, 3), (15, .aload_n 0, 1), (16, .iconst 0, 1), (17, .putfield 16, 3), (20, .aload_n 0, 1), (21, .iconst 0, 1), (22, .putfield 20, 3), (25, .return_, 1)]
def mX2_init : MR := (yX2_init, cX2_init, 1, none, 3, 60, tX2_init)
theorem okX2_init : TabOk mX2_init := tab_ok (by decide +kernel)
def tX3_init : List (Nat × Instr × Nat) := [(0, .aload_n 0, 1), (1, .invokespecial 3, 3), (4, .aload_n 0, 1), (5, .bipush 8, 2), (7, .newarray .int, 2), (9, .putfield 9, 3), (12, .aload_n 0, 1), (13, .bipush 8, 2), (15, .newarray .int, 2), (17, .putfield 15, 3), (20, .aload_n 0, 1), (21, .bipush 6, 2), (23, .newarray .int, 2), (25, .putfield 18, 3), (28, .aload_n 0, 1), (29, .bipush 6, 2), (31, .bipush 6, 2), (33, .multianewarray 21 2, 4), (37, .putfield 23, 3), (40, .aload_n 0, 1), (41, .iconst 0, 1), (42, .putfield 26, 3), (45, .aload_n 0, 1), (46, .iconst 0, 1), (47, .putfield 30, 3), (50, .aload_n 0, 1), (51, .iconst 0, 1), (52, .putfield 33, 3), (55, .return_, 1)]
def mX3_init : MR := (yX3_init, cX3_init, 1, none, 1, 20, tX3_init)
theorem okX3_init : TabOk mX3_init := tab_ok (by decide +kernel)
def tX3_forget : List (Nat × Instr × Nat) := [(0, .aload_n 0, 1), (1, .iconst 0, 1), (2, .putfield 26, 3), (5, .aload_n 0, 1), (6, .iconst 0, 1), (7, .putfield 30, 3), (10, .aload_n 0, 1), (11, .iconst 0, 1), (12, .putfield 33, 3), (15, .return_, 1)]
def mX3_forget : MR := (yX3_forget, cX3_forget, 1, none, 0, 0, tX3_forget)
theorem okX3_forget : TabOk mX3_forget := tab_ok (by decide +kernel)
def tX3_addScene : List (Nat × Instr × Nat) := [(0, .aload_n 0, 1), (1, .getfield 30, 3), (4, .bipush 8, 2), (6, .if_icmp .ge 33, 3), (9, .aload_n 0, 1), (10, .getfield 9, 3), (13, .aload_n 0, 1), (14, .getfield 30, 3), (17, .iload_n 1, 1), (18, .iastore, 1), (19, .aload_n 0, 1), (20, .getfield 15, 3), (23, .aload_n 0, 1), (24, .getfield 30, 3), (27, .iload_n 2, 1), (28, .iastore, 1), (29, .aload_n 0, 1), (30, .dup, 1), (31, .getfield 30, 3), (34, .iconst 1, 1), (35, .iadd, 1), (36, .putfield 30, 3), (39, .return_, 1)]
def mX3_addScene : MR := (yX3_addScene, cX3_addScene, 3, none, 0, 0, tX3_addScene)
theorem okX3_addScene : TabOk mX3_addScene := tab_ok (by decide +kernel)
def tX3_addWearer : List (Nat × Instr × Nat) := [(0, .aload_n 0, 1), (1, .getfield 33, 3), (4, .bipush 6, 2), (6, .if_icmp .ge 23, 3), (9, .aload_n 0, 1), (10, .getfield 18, 3), (13, .aload_n 0, 1), (14, .getfield 33, 3), (17, .iconst 0, 1), (18, .iastore, 1), (19, .aload_n 0, 1), (20, .dup, 1), (21, .getfield 33, 3), (24, .iconst 1, 1), (25, .iadd, 1), (26, .putfield 33, 3), (29, .return_, 1)]
def mX3_addWearer : MR := (yX3_addWearer, cX3_addWearer, 1, none, 0, 0, tX3_addWearer)
theorem okX3_addWearer : TabOk mX3_addWearer := tab_ok (by decide +kernel)
def tX3_addLook : List (Nat × Instr × Nat) := [(0, .aload_n 0, 1), (1, .getfield 33, 3), (4, .iconst 1, 1), (5, .isub, 1), (6, .istore_n 2, 1), (7, .aload_n 0, 1), (8, .iload_n 2, 1), (9, .invokevirtual 36, 3), (12, .ifCond .eq 38, 3), (15, .aload_n 0, 1), (16, .getfield 18, 3), (19, .iload_n 2, 1), (20, .iaload, 1), (21, .bipush 6, 2), (23, .if_icmp .ge 27, 3), (26, .aload_n 0, 1), (27, .getfield 23, 3), (30, .iload_n 2, 1), (31, .aaload, 1), (32, .aload_n 0, 1), (33, .getfield 18, 3), (36, .iload_n 2, 1), (37, .iaload, 1), (38, .iload_n 1, 1), (39, .iastore, 1), (40, .aload_n 0, 1), (41, .getfield 18, 3), (44, .iload_n 2, 1), (45, .dup2, 1), (46, .iaload, 1), (47, .iconst 1, 1), (48, .iadd, 1), (49, .iastore, 1), (50, .return_, 1)]
def mX3_addLook : MR := (yX3_addLook, cX3_addLook, 3, none, 1, 21, tX3_addLook)
theorem okX3_addLook : TabOk mX3_addLook := tab_ok (by decide +kernel)
def tX3_hasScene : List (Nat × Instr × Nat) := [(0, .iload_n 1, 1), (1, .ifCond .lt 21, 3), (4, .iload_n 1, 1), (5, .aload_n 0, 1), (6, .getfield 30, 3), (9, .if_icmp .ge 13, 3), (12, .iload_n 1, 1), (13, .bipush 8, 2), (15, .if_icmp .ge 7, 3), (18, .iconst 1, 1), (19, .goto 4, 3), (22, .iconst 0, 1), (23, .ireturn, 1)]
def mX3_hasScene : MR := (yX3_hasScene, cX3_hasScene, 2, (some .boolean), 0, 0, tX3_hasScene)
theorem okX3_hasScene : TabOk mX3_hasScene := tab_ok (by decide +kernel)
def tX3_hasWearer : List (Nat × Instr × Nat) := [(0, .iload_n 1, 1), (1, .ifCond .lt 21, 3), (4, .iload_n 1, 1), (5, .aload_n 0, 1), (6, .getfield 33, 3), (9, .if_icmp .ge 13, 3), (12, .iload_n 1, 1), (13, .bipush 6, 2), (15, .if_icmp .ge 7, 3), (18, .iconst 1, 1), (19, .goto 4, 3), (22, .iconst 0, 1), (23, .ireturn, 1)]
def mX3_hasWearer : MR := (yX3_hasWearer, cX3_hasWearer, 2, (some .boolean), 0, 0, tX3_hasWearer)
theorem okX3_hasWearer : TabOk mX3_hasWearer := tab_ok (by decide +kernel)
def tX3_kindOf : List (Nat × Instr × Nat) := [(0, .aload_n 0, 1), (1, .iload_n 1, 1), (2, .invokevirtual 40, 3), (5, .ifCond .eq 12, 3), (8, .aload_n 0, 1), (9, .getfield 9, 3), (12, .iload_n 1, 1), (13, .iaload, 1), (14, .goto 4, 3), (17, .iconst 0, 1), (18, .ireturn, 1)]
def mX3_kindOf : MR := (yX3_kindOf, cX3_kindOf, 2, (some .int), 1, 21, tX3_kindOf)
theorem okX3_kindOf : TabOk mX3_kindOf := tab_ok (by decide +kernel)
def tX3_brightOf : List (Nat × Instr × Nat) := [(0, .aload_n 0, 1), (1, .iload_n 1, 1), (2, .invokevirtual 40, 3), (5, .ifCond .eq 12, 3), (8, .aload_n 0, 1), (9, .getfield 15, 3), (12, .iload_n 1, 1), (13, .iaload, 1), (14, .goto 4, 3), (17, .iconst 0, 1), (18, .ireturn, 1)]
def mX3_brightOf : MR := (yX3_brightOf, cX3_brightOf, 2, (some .int), 1, 21, tX3_brightOf)
theorem okX3_brightOf : TabOk mX3_brightOf := tab_ok (by decide +kernel)
def tX3_looksOf : List (Nat × Instr × Nat) := [(0, .aload_n 0, 1), (1, .iload_n 1, 1), (2, .invokevirtual 36, 3), (5, .ifCond .eq 12, 3), (8, .aload_n 0, 1), (9, .getfield 18, 3), (12, .iload_n 1, 1), (13, .iaload, 1), (14, .goto 4, 3), (17, .iconst 0, 1), (18, .ireturn, 1)]
def mX3_looksOf : MR := (yX3_looksOf, cX3_looksOf, 2, (some .int), 1, 21, tX3_looksOf)
theorem okX3_looksOf : TabOk mX3_looksOf := tab_ok (by decide +kernel)
def tX3_sceneInYear : List (Nat × Instr × Nat) := [(0, .aload_n 0, 1), (1, .iload_n 1, 1), (2, .invokevirtual 43, 3), (5, .istore_n 3, 1), (6, .iload_n 3, 1), (7, .iconst 1, 1), (8, .if_icmp .lt 13, 3), (11, .iload_n 3, 1), (12, .bipush 6, 2), (14, .if_icmp .gt 7, 3), (17, .iload_n 2, 1), (18, .ifCond .ge 5, 3), (21, .iconst (-1), 1), (22, .ireturn, 1), (23, .aload_n 0, 1), (24, .getfield 23, 3), (27, .iload_n 1, 1), (28, .aaload, 1), (29, .iload_n 2, 1), (30, .iload_n 3, 1), (31, .irem, 1), (32, .iaload, 1), (33, .ireturn, 1)]
def mX3_sceneInYear : MR := (yX3_sceneInYear, cX3_sceneInYear, 4, (some .int), 2, 42, tX3_sceneInYear)
theorem okX3_sceneInYear : TabOk mX3_sceneInYear := tab_ok (by decide +kernel)
def tX3_veil : List (Nat × Instr × Nat) := [(0, .aload_n 0, 1), (1, .getfield 26, 3), (4, .iload_n 2, 1), (5, .iadd, 1), (6, .aload_n 0, 1), (7, .iload_n 1, 1), (8, .invokevirtual 47, 3), (11, .iadd, 1), (12, .iconst 2, 1), (13, .idiv, 1), (14, .ireturn, 1)]
def mX3_veil : MR := (yX3_veil, cX3_veil, 3, (some .int), 2, 42, tX3_veil)
theorem okX3_veil : TabOk mX3_veil := tab_ok (by decide +kernel)
def tX3_gain : List (Nat × Instr × Nat) := [(0, .aload_n 0, 1), (1, .iload_n 1, 1), (2, .invokevirtual 47, 3), (5, .bipush 10, 2), (7, .idiv, 1), (8, .iconst 1, 1), (9, .iadd, 1), (10, .ireturn, 1)]
def mX3_gain : MR := (yX3_gain, cX3_gain, 2, (some .int), 2, 42, tX3_gain)
theorem okX3_gain : TabOk mX3_gain := tab_ok (by decide +kernel)
def tX4_init : List (Nat × Instr × Nat) := [(0, .aload_n 0, 1), (1, .invokespecial 3, 3), (4, .aload_n 0, 1), (5, .bipush 80, 2), (7, .newarray .int, 2), (9, .putfield 9, 3), (12, .aload_n 0, 1), (13, .iconst 0, 1), (14, .putfield 15, 3), (17, .aload_n 0, 1), (18, .iconst 0, 1), (19, .putfield 19, 3), (22, .return_, 1)]
def mX4_init : MR := (yX4_init, cX4_init, 1, none, 1, 20, tX4_init)
theorem okX4_init : TabOk mX4_init := tab_ok (by decide +kernel)
def tX4_forget : List (Nat × Instr × Nat) := [(0, .aload_n 0, 1), (1, .iconst 0, 1), (2, .putfield 15, 3), (5, .aload_n 0, 1), (6, .iconst 0, 1), (7, .putfield 19, 3), (10, .return_, 1)]
def mX4_forget : MR := (yX4_forget, cX4_forget, 1, none, 0, 0, tX4_forget)
theorem okX4_forget : TabOk mX4_forget := tab_ok (by decide +kernel)
def tX4_add : List (Nat × Instr × Nat) := [(0, .aload_n 0, 1), (1, .getfield 15, 3), (4, .aload_n 0, 1), (5, .getfield 19, 3), (8, .iadd, 1), (9, .bipush 20, 2), (11, .irem, 1), (12, .istore 5, 2), (14, .aload_n 0, 1), (15, .getfield 19, 3), (18, .bipush 20, 2), (20, .if_icmp .ge 16, 3), (23, .aload_n 0, 1), (24, .dup, 1), (25, .getfield 19, 3), (28, .iconst 1, 1), (29, .iadd, 1), (30, .putfield 19, 3), (33, .goto 16, 3), (36, .aload_n 0, 1), (37, .aload_n 0, 1), (38, .getfield 15, 3), (41, .iconst 1, 1), (42, .iadd, 1), (43, .bipush 20, 2), (45, .irem, 1), (46, .putfield 15, 3), (49, .iload 5, 2), (51, .iconst 4, 1), (52, .imul, 1), (53, .istore 6, 2), (55, .aload_n 0, 1), (56, .getfield 9, 3), (59, .iload 6, 2), (61, .iload_n 1, 1), (62, .iastore, 1), (63, .aload_n 0, 1), (64, .getfield 9, 3), (67, .iload 6, 2), (69, .iconst 1, 1), (70, .iadd, 1), (71, .iload_n 2, 1), (72, .iastore, 1), (73, .aload_n 0, 1), (74, .getfield 9, 3), (77, .iload 6, 2), (79, .iconst 2, 1), (80, .iadd, 1), (81, .iload_n 3, 1), (82, .iastore, 1), (83, .aload_n 0, 1), (84, .getfield 9, 3), (87, .iload 6, 2), (89, .iconst 3, 1), (90, .iadd, 1), (91, .iload 4, 2), (93, .iastore, 1), (94, .return_, 1)]
def mX4_add : MR := (yX4_add, cX4_add, 7, none, 0, 0, tX4_add)
theorem okX4_add : TabOk mX4_add := tab_ok (by decide +kernel)
def tX4_at : List (Nat × Instr × Nat) := [(0, .iload_n 1, 1), (1, .ifCond .lt 20, 3), (4, .iload_n 1, 1), (5, .aload_n 0, 1), (6, .getfield 19, 3), (9, .if_icmp .ge 12, 3), (12, .iload_n 2, 1), (13, .ifCond .lt 8, 3), (16, .iload_n 2, 1), (17, .iconst 4, 1), (18, .if_icmp .lt 5, 3), (21, .iconst (-1), 1), (22, .ireturn, 1), (23, .aload_n 0, 1), (24, .getfield 9, 3), (27, .aload_n 0, 1), (28, .getfield 15, 3), (31, .aload_n 0, 1), (32, .getfield 19, 3), (35, .iadd, 1), (36, .iconst 1, 1), (37, .isub, 1), (38, .iload_n 1, 1), (39, .isub, 1), (40, .bipush 20, 2), (42, .irem, 1), (43, .iconst 4, 1), (44, .imul, 1), (45, .iload_n 2, 1), (46, .iadd, 1), (47, .iaload, 1), (48, .ireturn, 1)]
def mX4_at : MR := (yX4_at, cX4_at, 3, (some .int), 0, 0, tX4_at)
theorem okX4_at : TabOk mX4_at := tab_ok (by decide +kernel)
def tX4_copyAll : List (Nat × Instr × Nat) := [(0, .aload_n 0, 1), (1, .aload_n 1, 1), (2, .getfield 15, 3), (5, .putfield 15, 3), (8, .aload_n 0, 1), (9, .aload_n 1, 1), (10, .getfield 19, 3), (13, .putfield 19, 3), (16, .aload_n 1, 1), (17, .getfield 9, 3), (20, .iconst 0, 1), (21, .aload_n 0, 1), (22, .getfield 9, 3), (25, .iconst 0, 1), (26, .bipush 80, 2), (28, .invokestatic 22, 3), (31, .return_, 1)]
def mX4_copyAll : MR := (yX4_copyAll, cX4_copyAll, 2, none, 1, 18, tX4_copyAll)
theorem okX4_copyAll : TabOk mX4_copyAll := tab_ok (by decide +kernel)
def tX5_init : List (Nat × Instr × Nat) := [(0, .aload_n 0, 1), (1, .invokespecial 3, 3), (4, .aload_n 0, 1), (5, .bipush 6, 2), (7, .newarray .int, 2), (9, .putfield 9, 3), (12, .aload_n 0, 1), (13, .bipush 6, 2), (15, .newarray .boolean, 2), (17, .putfield 15, 3), (20, .aload_n 0, 1), (21, .iconst 0, 1), (22, .putfield 19, 3), (25, .return_, 1)]
def mX5_init : MR := (yX5_init, cX5_init, 1, none, 1, 20, tX5_init)
theorem okX5_init : TabOk mX5_init := tab_ok (by decide +kernel)
def tX5_forget : List (Nat × Instr × Nat) := [(0, .aload_n 0, 1), (1, .iconst 0, 1), (2, .putfield 19, 3), (5, .return_, 1)]
def mX5_forget : MR := (yX5_forget, cX5_forget, 1, none, 0, 0, tX5_forget)
theorem okX5_forget : TabOk mX5_forget := tab_ok (by decide +kernel)
def tX5_add : List (Nat × Instr × Nat) := [(0, .aload_n 0, 1), (1, .getfield 19, 3), (4, .bipush 6, 2), (6, .if_icmp .ge 33, 3), (9, .aload_n 0, 1), (10, .getfield 9, 3), (13, .aload_n 0, 1), (14, .getfield 19, 3), (17, .iload_n 1, 1), (18, .iastore, 1), (19, .aload_n 0, 1), (20, .getfield 15, 3), (23, .aload_n 0, 1), (24, .getfield 19, 3), (27, .iload_n 2, 1), (28, .bastore, 1), (29, .aload_n 0, 1), (30, .dup, 1), (31, .getfield 19, 3), (34, .iconst 1, 1), (35, .iadd, 1), (36, .putfield 19, 3), (39, .return_, 1)]
def mX5_add : MR := (yX5_add, cX5_add, 3, none, 0, 0, tX5_add)
theorem okX5_add : TabOk mX5_add := tab_ok (by decide +kernel)
def tX5_fits : List (Nat × Instr × Nat) := [(0, .iconst 0, 1), (1, .istore_n 2, 1), (2, .iload_n 2, 1), (3, .aload_n 0, 1), (4, .getfield 19, 3), (7, .if_icmp .ge 41, 3), (10, .iload_n 2, 1), (11, .bipush 6, 2), (13, .if_icmp .ge 35, 3), (16, .iload_n 1, 1), (17, .aload_n 0, 1), (18, .getfield 9, 3), (21, .iload_n 2, 1), (22, .iaload, 1), (23, .if_icmp .ne 7, 3), (26, .iconst 1, 1), (27, .goto 4, 3), (30, .iconst 0, 1), (31, .aload_n 0, 1), (32, .getfield 15, 3), (35, .iload_n 2, 1), (36, .baload, 1), (37, .if_icmp .eq 5, 3), (40, .iconst 0, 1), (41, .ireturn, 1), (42, .iinc 2 1, 3), (45, .goto (-43), 3), (48, .iconst 1, 1), (49, .ireturn, 1)]
def mX5_fits : MR := (yX5_fits, cX5_fits, 3, (some .boolean), 0, 0, tX5_fits)
theorem okX5_fits : TabOk mX5_fits := tab_ok (by decide +kernel)
def tX6_init : List (Nat × Instr × Nat) := [(0, .aload_n 0, 1), (1, .invokespecial 3, 3), (4, .aload_n 0, 1), (5, .bipush 10, 2), (7, .newarray .int, 2), (9, .putfield 9, 3), (12, .aload_n 0, 1), (13, .bipush 10, 2), (15, .newarray .int, 2), (17, .putfield 15, 3), (20, .aload_n 0, 1), (21, .bipush 10, 2), (23, .newarray .int, 2), (25, .putfield 18, 3), (28, .aload_n 0, 1), (29, .bipush 6, 2), (31, .newarray .int, 2), (33, .putfield 21, 3), (36, .aload_n 0, 1), (37, .new 24, 3), (40, .dup, 1), (41, .invokespecial 26, 3), (44, .putfield 27, 3), (47, .aload_n 0, 1), (48, .iconst 0, 1), (49, .putfield 31, 3), (52, .aload_n 0, 1), (53, .iconst (-1), 1), (54, .putfield 35, 3), (57, .aload_n 0, 1), (58, .iconst 0, 1), (59, .putfield 38, 3), (62, .return_, 1)]
def mX6_init : MR := (yX6_init, cX6_init, 1, none, 2, 40, tX6_init)
theorem okX6_init : TabOk mX6_init := tab_ok (by decide +kernel)
def tX6_reset : List (Nat × Instr × Nat) := [(0, .iconst 0, 1), (1, .istore_n 1, 1), (2, .iload_n 1, 1), (3, .bipush 6, 2), (5, .if_icmp .ge 16, 3), (8, .aload_n 0, 1), (9, .getfield 21, 3), (12, .iload_n 1, 1), (13, .iconst 0, 1), (14, .iastore, 1), (15, .iinc 1 1, 3), (18, .goto (-16), 3), (21, .aload_n 0, 1), (22, .getfield 27, 3), (25, .invokevirtual 41, 3), (28, .aload_n 0, 1), (29, .iconst 0, 1), (30, .putfield 31, 3), (33, .aload_n 0, 1), (34, .iconst (-1), 1), (35, .putfield 35, 3), (38, .aload_n 0, 1), (39, .iconst 0, 1), (40, .putfield 38, 3), (43, .return_, 1)]
def mX6_reset : MR := (yX6_reset, cX6_reset, 2, none, 1, 20, tX6_reset)
theorem okX6_reset : TabOk mX6_reset := tab_ok (by decide +kernel)
def tX6_copyAll : List (Nat × Instr × Nat) := [(0, .aload_n 0, 1), (1, .aload_n 1, 1), (2, .invokevirtual 44, 3), (5, .aload_n 0, 1), (6, .getfield 27, 3), (9, .aload_n 1, 1), (10, .getfield 27, 3), (13, .invokevirtual 48, 3), (16, .return_, 1)]
def mX6_copyAll : MR := (yX6_copyAll, cX6_copyAll, 2, none, 2, 39, tX6_copyAll)
theorem okX6_copyAll : TabOk mX6_copyAll := tab_ok (by decide +kernel)
def tX6_copyGlass : List (Nat × Instr × Nat) := [(0, .aload_n 0, 1), (1, .aload_n 1, 1), (2, .getfield 31, 3), (5, .putfield 31, 3), (8, .aload_n 0, 1), (9, .aload_n 1, 1), (10, .getfield 35, 3), (13, .putfield 35, 3), (16, .aload_n 0, 1), (17, .aload_n 1, 1), (18, .getfield 38, 3), (21, .putfield 38, 3), (24, .aload_n 1, 1), (25, .getfield 9, 3), (28, .iconst 0, 1), (29, .aload_n 0, 1), (30, .getfield 9, 3), (33, .iconst 0, 1), (34, .bipush 10, 2), (36, .invokestatic 52, 3), (39, .aload_n 1, 1), (40, .getfield 15, 3), (43, .iconst 0, 1), (44, .aload_n 0, 1), (45, .getfield 15, 3), (48, .iconst 0, 1), (49, .bipush 10, 2), (51, .invokestatic 52, 3), (54, .aload_n 1, 1), (55, .getfield 18, 3), (58, .iconst 0, 1), (59, .aload_n 0, 1), (60, .getfield 18, 3), (63, .iconst 0, 1), (64, .bipush 10, 2), (66, .invokestatic 52, 3), (69, .aload_n 1, 1), (70, .getfield 21, 3), (73, .iconst 0, 1), (74, .aload_n 0, 1), (75, .getfield 21, 3), (78, .iconst 0, 1), (79, .bipush 6, 2), (81, .invokestatic 52, 3), (84, .return_, 1)]
def mX6_copyGlass : MR := (yX6_copyGlass, cX6_copyGlass, 2, none, 1, 18, tX6_copyGlass)
theorem okX6_copyGlass : TabOk mX6_copyGlass := tab_ok (by decide +kernel)
def tX6_hasLayer : List (Nat × Instr × Nat) := [(0, .iload_n 1, 1), (1, .ifCond .lt 21, 3), (4, .iload_n 1, 1), (5, .aload_n 0, 1), (6, .getfield 31, 3), (9, .if_icmp .ge 13, 3), (12, .iload_n 1, 1), (13, .bipush 10, 2), (15, .if_icmp .ge 7, 3), (18, .iconst 1, 1), (19, .goto 4, 3), (22, .iconst 0, 1), (23, .ireturn, 1)]
def mX6_hasLayer : MR := (yX6_hasLayer, cX6_hasLayer, 2, (some .boolean), 0, 0, tX6_hasLayer)
theorem okX6_hasLayer : TabOk mX6_hasLayer := tab_ok (by decide +kernel)
def tX6_yearsOf : List (Nat × Instr × Nat) := [(0, .iload_n 1, 1), (1, .ifCond .lt 18, 3), (4, .iload_n 1, 1), (5, .bipush 6, 2), (7, .if_icmp .ge 12, 3), (10, .aload_n 0, 1), (11, .getfield 21, 3), (14, .iload_n 1, 1), (15, .iaload, 1), (16, .goto 4, 3), (19, .iconst 0, 1), (20, .ireturn, 1)]
def mX6_yearsOf : MR := (yX6_yearsOf, cX6_yearsOf, 2, (some .int), 0, 0, tX6_yearsOf)
theorem okX6_yearsOf : TabOk mX6_yearsOf := tab_ok (by decide +kernel)
def tX6_passYear : List (Nat × Instr × Nat) := [(0, .iconst (-1), 1), (1, .istore_n 2, 1), (2, .aload_n 1, 1), (3, .aload_n 0, 1), (4, .getfield 35, 3), (7, .invokevirtual 58, 3), (10, .ifCond .eq 69, 3), (13, .aload_n 1, 1), (14, .aload_n 0, 1), (15, .getfield 35, 3), (18, .aload_n 0, 1), (19, .getfield 21, 3), (22, .aload_n 0, 1), (23, .getfield 35, 3), (26, .iaload, 1), (27, .invokevirtual 64, 3), (30, .istore_n 3, 1), (31, .aload_n 0, 1), (32, .getfield 27, 3), (35, .aload_n 0, 1), (36, .getfield 38, 3), (39, .aload_n 0, 1), (40, .getfield 35, 3), (43, .iload_n 3, 1), (44, .aload_n 0, 1), (45, .aload_n 1, 1), (46, .iload_n 3, 1), (47, .iconst 0, 1), (48, .iconst 0, 1), (49, .invokevirtual 68, 3), (52, .invokevirtual 72, 3), (55, .aload_n 0, 1), (56, .iload_n 3, 1), (57, .aload_n 1, 1), (58, .iload_n 3, 1), (59, .invokevirtual 76, 3), (62, .invokevirtual 80, 3), (65, .istore_n 2, 1), (66, .aload_n 0, 1), (67, .getfield 21, 3), (70, .aload_n 0, 1), (71, .getfield 35, 3), (74, .dup2, 1), (75, .iaload, 1), (76, .iconst 1, 1), (77, .iadd, 1), (78, .iastore, 1), (79, .aload_n 0, 1), (80, .iload_n 2, 1), (81, .aload_n 1, 1), (82, .invokevirtual 83, 3), (85, .aload_n 0, 1), (86, .dup, 1), (87, .getfield 38, 3), (90, .iconst 1, 1), (91, .iadd, 1), (92, .putfield 38, 3), (95, .return_, 1)]
def mX6_passYear : MR := (yX6_passYear, cX6_passYear, 4, none, 4, 89, tX6_passYear)
theorem okX6_passYear : TabOk mX6_passYear := tab_ok (by decide +kernel)
def tX6_deepen : List (Nat × Instr × Nat) := [(0, .aload_n 0, 1), (1, .aload_n 0, 1), (2, .getfield 35, 3), (5, .iload_n 1, 1), (6, .invokevirtual 87, 3), (9, .istore_n 3, 1), (10, .aload_n 0, 1), (11, .iload_n 3, 1), (12, .invokevirtual 90, 3), (15, .ifCond .ne 20, 3), (18, .aload_n 0, 1), (19, .iload_n 1, 1), (20, .aload_n 0, 1), (21, .getfield 35, 3), (24, .iload_n 2, 1), (25, .invokevirtual 93, 3), (28, .aload_n 0, 1), (29, .getfield 31, 3), (32, .iconst 1, 1), (33, .isub, 1), (34, .ireturn, 1), (35, .aload_n 0, 1), (36, .getfield 18, 3), (39, .iload_n 3, 1), (40, .bipush 99, 2), (42, .aload_n 0, 1), (43, .getfield 18, 3), (46, .iload_n 3, 1), (47, .iaload, 1), (48, .iload_n 2, 1), (49, .iadd, 1), (50, .invokestatic 97, 3), (53, .iastore, 1), (54, .iload_n 3, 1), (55, .ireturn, 1)]
def mX6_deepen : MR := (yX6_deepen, cX6_deepen, 4, (some .int), 3, 66, tX6_deepen)
theorem okX6_deepen : TabOk mX6_deepen := tab_ok (by decide +kernel)
def tX6_lay : List (Nat × Instr × Nat) := [(0, .aload_n 0, 1), (1, .getfield 31, 3), (4, .bipush 10, 2), (6, .if_icmp .lt 11, 3), (9, .aload_n 0, 1), (10, .aload_n 0, 1), (11, .invokevirtual 102, 3), (14, .invokevirtual 106, 3), (17, .aload_n 0, 1), (18, .getfield 31, 3), (21, .ifCond .lt 52, 3), (24, .aload_n 0, 1), (25, .getfield 31, 3), (28, .bipush 10, 2), (30, .if_icmp .ge 43, 3), (33, .aload_n 0, 1), (34, .getfield 9, 3), (37, .aload_n 0, 1), (38, .getfield 31, 3), (41, .iload_n 1, 1), (42, .iastore, 1), (43, .aload_n 0, 1), (44, .getfield 15, 3), (47, .aload_n 0, 1), (48, .getfield 31, 3), (51, .iload_n 2, 1), (52, .iastore, 1), (53, .aload_n 0, 1), (54, .getfield 18, 3), (57, .aload_n 0, 1), (58, .getfield 31, 3), (61, .iload_n 3, 1), (62, .iastore, 1), (63, .aload_n 0, 1), (64, .dup, 1), (65, .getfield 31, 3), (68, .iconst 1, 1), (69, .iadd, 1), (70, .putfield 31, 3), (73, .return_, 1)]
def mX6_lay : MR := (yX6_lay, cX6_lay, 4, none, 2, 43, tX6_lay)
theorem okX6_lay : TabOk mX6_lay := tab_ok (by decide +kernel)
def tX6_remove : List (Nat × Instr × Nat) := [(0, .aload_n 0, 1), (1, .iload_n 1, 1), (2, .invokevirtual 90, 3), (5, .ifCond .ne 4, 3), (8, .return_, 1), (9, .iload_n 1, 1), (10, .iconst 1, 1), (11, .iadd, 1), (12, .istore_n 2, 1), (13, .iload_n 2, 1), (14, .aload_n 0, 1), (15, .getfield 31, 3), (18, .if_icmp .ge 57, 3), (21, .iload_n 2, 1), (22, .bipush 10, 2), (24, .if_icmp .ge 51, 3), (27, .aload_n 0, 1), (28, .getfield 9, 3), (31, .iload_n 2, 1), (32, .iconst 1, 1), (33, .isub, 1), (34, .aload_n 0, 1), (35, .getfield 9, 3), (38, .iload_n 2, 1), (39, .iaload, 1), (40, .iastore, 1), (41, .aload_n 0, 1), (42, .getfield 15, 3), (45, .iload_n 2, 1), (46, .iconst 1, 1), (47, .isub, 1), (48, .aload_n 0, 1), (49, .getfield 15, 3), (52, .iload_n 2, 1), (53, .iaload, 1), (54, .iastore, 1), (55, .aload_n 0, 1), (56, .getfield 18, 3), (59, .iload_n 2, 1), (60, .iconst 1, 1), (61, .isub, 1), (62, .aload_n 0, 1), (63, .getfield 18, 3), (66, .iload_n 2, 1), (67, .iaload, 1), (68, .iastore, 1), (69, .iinc 2 1, 3), (72, .goto (-59), 3), (75, .aload_n 0, 1), (76, .dup, 1), (77, .getfield 31, 3), (80, .iconst 1, 1), (81, .isub, 1), (82, .putfield 31, 3), (85, .return_, 1)]
def mX6_remove : MR := (yX6_remove, cX6_remove, 3, none, 1, 21, tX6_remove)
theorem okX6_remove : TabOk mX6_remove := tab_ok (by decide +kernel)
def tX6_fadeBut : List (Nat × Instr × Nat) := [(0, .bipush 9, 2), (2, .istore_n 3, 1), (3, .iload_n 3, 1), (4, .ifCond .lt 65, 3), (7, .iload_n 3, 1), (8, .iload_n 1, 1), (9, .if_icmp .eq 54, 3), (12, .aload_n 0, 1), (13, .iload_n 3, 1), (14, .invokevirtual 90, 3), (17, .ifCond .eq 46, 3), (20, .aload_n 0, 1), (21, .getfield 18, 3), (24, .iload_n 3, 1), (25, .dup2, 1), (26, .iaload, 1), (27, .aload_n 0, 1), (28, .aload_n 2, 1), (29, .aload_n 0, 1), (30, .getfield 9, 3), (33, .iload_n 3, 1), (34, .iaload, 1), (35, .invokevirtual 110, 3), (38, .aload_n 0, 1), (39, .getfield 18, 3), (42, .iload_n 3, 1), (43, .iaload, 1), (44, .invokevirtual 113, 3), (47, .isub, 1), (48, .iastore, 1), (49, .aload_n 0, 1), (50, .getfield 18, 3), (53, .iload_n 3, 1), (54, .iaload, 1), (55, .ifCond .gt 8, 3), (58, .aload_n 0, 1), (59, .iload_n 3, 1), (60, .invokevirtual 106, 3), (63, .iinc 3 (-1), 3), (66, .goto (-63), 3), (69, .return_, 1)]
def mX6_fadeBut : MR := (yX6_fadeBut, cX6_fadeBut, 4, none, 2, 43, tX6_fadeBut)
theorem okX6_fadeBut : TabOk mX6_fadeBut := tab_ok (by decide +kernel)
def tX6_fading : List (Nat × Instr × Nat) := [(0, .iload_n 1, 1), (1, .tableswitch 56 0 3 #[31, 33, 56, 40], 31), (32, .iconst 1, 1), (33, .ireturn, 1), (34, .iload_n 2, 1), (35, .bipush 10, 2), (37, .idiv, 1), (38, .iconst 1, 1), (39, .iadd, 1), (40, .ireturn, 1), (41, .aload_n 0, 1), (42, .getfield 38, 3), (45, .iconst 2, 1), (46, .irem, 1), (47, .iconst 1, 1), (48, .if_icmp .ne 7, 3), (51, .iconst 3, 1), (52, .goto 4, 3), (55, .iconst 0, 1), (56, .ireturn, 1), (57, .iconst 0, 1), (58, .ireturn, 1)]
def mX6_fading : MR := (yX6_fading, cX6_fading, 3, (some .int), 0, 0, tX6_fading)
theorem okX6_fading : TabOk mX6_fading := tab_ok (by decide +kernel)
def tX6_takenFor : List (Nat × Instr × Nat) := [(0, .aload_n 0, 1), (1, .iload 4, 2), (3, .invokevirtual 116, 3), (6, .istore 5, 2), (8, .aload_n 0, 1), (9, .iload 5, 2), (11, .invokevirtual 90, 3), (14, .ifCond .eq 29, 3), (17, .aload_n 0, 1), (18, .getfield 18, 3), (21, .iload 5, 2), (23, .iaload, 1), (24, .aload_n 1, 1), (25, .iload_n 2, 1), (26, .iload_n 3, 1), (27, .invokevirtual 119, 3), (30, .if_icmp .le 13, 3), (33, .aload_n 0, 1), (34, .getfield 9, 3), (37, .iload 5, 2), (39, .iaload, 1), (40, .goto 4, 3), (43, .iload_n 2, 1), (44, .ireturn, 1)]
def mX6_takenFor : MR := (yX6_takenFor, cX6_takenFor, 6, (some .int), 3, 64, tX6_takenFor)
theorem okX6_takenFor : TabOk mX6_takenFor := tab_ok (by decide +kernel)
def tX6_strongestBut : List (Nat × Instr × Nat) := [(0, .iconst (-1), 1), (1, .istore_n 2, 1), (2, .iconst 0, 1), (3, .istore_n 3, 1), (4, .iconst 0, 1), (5, .istore 4, 2), (7, .iload 4, 2), (9, .aload_n 0, 1), (10, .getfield 31, 3), (13, .if_icmp .ge 47, 3), (16, .iload 4, 2), (18, .bipush 10, 2), (20, .if_icmp .ge 40, 3), (23, .iload_n 1, 1), (24, .iload 4, 2), (26, .ishr, 1), (27, .iconst 1, 1), (28, .iand, 1), (29, .ifCond .ne 25, 3), (32, .aload_n 0, 1), (33, .getfield 18, 3), (36, .iload 4, 2), (38, .iaload, 1), (39, .iload_n 3, 1), (40, .if_icmp .lt 14, 3), (43, .aload_n 0, 1), (44, .getfield 18, 3), (47, .iload 4, 2), (49, .iaload, 1), (50, .istore_n 3, 1), (51, .iload 4, 2), (53, .istore_n 2, 1), (54, .iinc 4 1, 3), (57, .goto (-50), 3), (60, .iload_n 2, 1), (61, .ireturn, 1)]
def mX6_strongestBut : MR := (yX6_strongestBut, cX6_strongestBut, 5, (some .int), 0, 0, tX6_strongestBut)
theorem okX6_strongestBut : TabOk mX6_strongestBut := tab_ok (by decide +kernel)
def tX6_weakest : List (Nat × Instr × Nat) := [(0, .iconst (-1), 1), (1, .istore_n 1, 1), (2, .bipush 100, 2), (4, .istore_n 2, 1), (5, .iconst 0, 1), (6, .istore_n 3, 1), (7, .iload_n 3, 1), (8, .aload_n 0, 1), (9, .getfield 31, 3), (12, .if_icmp .ge 34, 3), (15, .iload_n 3, 1), (16, .bipush 10, 2), (18, .if_icmp .ge 28, 3), (21, .aload_n 0, 1), (22, .getfield 18, 3), (25, .iload_n 3, 1), (26, .iaload, 1), (27, .iload_n 2, 1), (28, .if_icmp .ge 12, 3), (31, .aload_n 0, 1), (32, .getfield 18, 3), (35, .iload_n 3, 1), (36, .iaload, 1), (37, .istore_n 2, 1), (38, .iload_n 3, 1), (39, .istore_n 1, 1), (40, .iinc 3 1, 3), (43, .goto (-36), 3), (46, .iload_n 1, 1), (47, .ireturn, 1)]
def mX6_weakest : MR := (yX6_weakest, cX6_weakest, 4, (some .int), 0, 0, tX6_weakest)
theorem okX6_weakest : TabOk mX6_weakest := tab_ok (by decide +kernel)
def tX6_layersBefore : List (Nat × Instr × Nat) := [(0, .aload_n 0, 1), (1, .iload_n 1, 1), (2, .invokevirtual 90, 3), (5, .ifCond .ne 5, 3), (8, .iconst 0, 1), (9, .ireturn, 1), (10, .iconst 0, 1), (11, .istore_n 2, 1), (12, .iconst 0, 1), (13, .istore_n 3, 1), (14, .iload_n 3, 1), (15, .aload_n 0, 1), (16, .getfield 31, 3), (19, .if_icmp .ge 53, 3), (22, .iload_n 3, 1), (23, .bipush 10, 2), (25, .if_icmp .ge 47, 3), (28, .aload_n 0, 1), (29, .getfield 18, 3), (32, .iload_n 3, 1), (33, .iaload, 1), (34, .aload_n 0, 1), (35, .getfield 18, 3), (38, .iload_n 1, 1), (39, .iaload, 1), (40, .if_icmp .gt 23, 3), (43, .aload_n 0, 1), (44, .getfield 18, 3), (47, .iload_n 3, 1), (48, .iaload, 1), (49, .aload_n 0, 1), (50, .getfield 18, 3), (53, .iload_n 1, 1), (54, .iaload, 1), (55, .if_icmp .ne 11, 3), (58, .iload_n 3, 1), (59, .iload_n 1, 1), (60, .if_icmp .le 6, 3), (63, .iinc 2 1, 3), (66, .iinc 3 1, 3), (69, .goto (-55), 3), (72, .iload_n 2, 1), (73, .ireturn, 1)]
def mX6_layersBefore : MR := (yX6_layersBefore, cX6_layersBefore, 4, (some .int), 1, 21, tX6_layersBefore)
theorem okX6_layersBefore : TabOk mX6_layersBefore := tab_ok (by decide +kernel)
def tX6_find : List (Nat × Instr × Nat) := [(0, .iconst 0, 1), (1, .istore_n 3, 1), (2, .iload_n 3, 1), (3, .aload_n 0, 1), (4, .getfield 31, 3), (7, .if_icmp .ge 37, 3), (10, .iload_n 3, 1), (11, .bipush 10, 2), (13, .if_icmp .ge 31, 3), (16, .aload_n 0, 1), (17, .getfield 15, 3), (20, .iload_n 3, 1), (21, .iaload, 1), (22, .iload_n 1, 1), (23, .if_icmp .ne 15, 3), (26, .aload_n 0, 1), (27, .getfield 9, 3), (30, .iload_n 3, 1), (31, .iaload, 1), (32, .iload_n 2, 1), (33, .if_icmp .ne 5, 3), (36, .iload_n 3, 1), (37, .ireturn, 1), (38, .iinc 3 1, 3), (41, .goto (-39), 3), (44, .iconst (-1), 1), (45, .ireturn, 1)]
def mX6_find : MR := (yX6_find, cX6_find, 4, (some .int), 0, 0, tX6_find)
theorem okX6_find : TabOk mX6_find := tab_ok (by decide +kernel)
def tX6_darkness : List (Nat × Instr × Nat) := [(0, .iconst 0, 1), (1, .istore_n 1, 1), (2, .iconst 0, 1), (3, .istore_n 2, 1), (4, .iload_n 2, 1), (5, .aload_n 0, 1), (6, .getfield 31, 3), (9, .if_icmp .ge 24, 3), (12, .iload_n 2, 1), (13, .bipush 10, 2), (15, .if_icmp .ge 18, 3), (18, .iload_n 1, 1), (19, .aload_n 0, 1), (20, .getfield 18, 3), (23, .iload_n 2, 1), (24, .iaload, 1), (25, .iadd, 1), (26, .istore_n 1, 1), (27, .iinc 2 1, 3), (30, .goto (-26), 3), (33, .iload_n 1, 1), (34, .bipush 10, 2), (36, .idiv, 1), (37, .ireturn, 1)]
def mX6_darkness : MR := (yX6_darkness, cX6_darkness, 3, (some .int), 0, 0, tX6_darkness)
theorem okX6_darkness : TabOk mX6_darkness := tab_ok (by decide +kernel)
def tX6_strengthOfScene : List (Nat × Instr × Nat) := [(0, .iconst 0, 1), (1, .istore_n 2, 1), (2, .iconst 0, 1), (3, .istore_n 3, 1), (4, .iload_n 3, 1), (5, .aload_n 0, 1), (6, .getfield 31, 3), (9, .if_icmp .ge 34, 3), (12, .iload_n 3, 1), (13, .bipush 10, 2), (15, .if_icmp .ge 28, 3), (18, .aload_n 0, 1), (19, .getfield 9, 3), (22, .iload_n 3, 1), (23, .iaload, 1), (24, .iload_n 1, 1), (25, .if_icmp .ne 12, 3), (28, .iload_n 2, 1), (29, .aload_n 0, 1), (30, .getfield 18, 3), (33, .iload_n 3, 1), (34, .iaload, 1), (35, .iadd, 1), (36, .istore_n 2, 1), (37, .iinc 3 1, 3), (40, .goto (-36), 3), (43, .iload_n 2, 1), (44, .ireturn, 1)]
def mX6_strengthOfScene : MR := (yX6_strengthOfScene, cX6_strengthOfScene, 4, (some .int), 0, 0, tX6_strengthOfScene)
theorem okX6_strengthOfScene : TabOk mX6_strengthOfScene := tab_ok (by decide +kernel)
def tX6_scenesOf : List (Nat × Instr × Nat) := [(0, .iconst 0, 1), (1, .istore_n 2, 1), (2, .iconst 0, 1), (3, .istore_n 3, 1), (4, .iload_n 3, 1), (5, .aload_n 0, 1), (6, .getfield 31, 3), (9, .if_icmp .ge 36, 3), (12, .iload_n 3, 1), (13, .bipush 10, 2), (15, .if_icmp .ge 30, 3), (18, .aload_n 0, 1), (19, .getfield 15, 3), (22, .iload_n 3, 1), (23, .iaload, 1), (24, .iload_n 1, 1), (25, .if_icmp .ne 14, 3), (28, .iload_n 2, 1), (29, .iconst 1, 1), (30, .aload_n 0, 1), (31, .getfield 9, 3), (34, .iload_n 3, 1), (35, .iaload, 1), (36, .ishl, 1), (37, .ior, 1), (38, .istore_n 2, 1), (39, .iinc 3 1, 3), (42, .goto (-38), 3), (45, .iload_n 2, 1), (46, .ireturn, 1)]
def mX6_scenesOf : MR := (yX6_scenesOf, cX6_scenesOf, 4, (some .int), 0, 0, tX6_scenesOf)
theorem okX6_scenesOf : TabOk mX6_scenesOf := tab_ok (by decide +kernel)
def tX6_lowestOfWearers : List (Nat × Instr × Nat) := [(0, .iconst 0, 1), (1, .istore_n 1, 1), (2, .iload_n 1, 1), (3, .aload_n 0, 1), (4, .getfield 31, 3), (7, .if_icmp .ge 27, 3), (10, .iload_n 1, 1), (11, .bipush 10, 2), (13, .if_icmp .ge 21, 3), (16, .aload_n 0, 1), (17, .getfield 15, 3), (20, .iload_n 1, 1), (21, .iaload, 1), (22, .iconst (-1), 1), (23, .if_icmp .eq 5, 3), (26, .iload_n 1, 1), (27, .ireturn, 1), (28, .iinc 1 1, 3), (31, .goto (-29), 3), (34, .iconst (-1), 1), (35, .ireturn, 1)]
def mX6_lowestOfWearers : MR := (yX6_lowestOfWearers, cX6_lowestOfWearers, 2, (some .int), 0, 0, tX6_lowestOfWearers)
theorem okX6_lowestOfWearers : TabOk mX6_lowestOfWearers := tab_ok (by decide +kernel)
def tX6_thickest : List (Nat × Instr × Nat) := [(0, .iconst 0, 1), (1, .istore_n 1, 1), (2, .iconst 0, 1), (3, .istore_n 2, 1), (4, .iconst 0, 1), (5, .istore_n 3, 1), (6, .iload_n 3, 1), (7, .aload_n 0, 1), (8, .getfield 31, 3), (11, .if_icmp .ge 50, 3), (14, .iload_n 3, 1), (15, .bipush 10, 2), (17, .if_icmp .ge 44, 3), (20, .iload_n 3, 1), (21, .ifCond .le 26, 3), (24, .aload_n 0, 1), (25, .getfield 9, 3), (28, .iload_n 3, 1), (29, .iaload, 1), (30, .aload_n 0, 1), (31, .getfield 9, 3), (34, .iload_n 3, 1), (35, .iconst 1, 1), (36, .isub, 1), (37, .iaload, 1), (38, .if_icmp .ne 9, 3), (41, .iload_n 2, 1), (42, .iconst 1, 1), (43, .iadd, 1), (44, .goto 4, 3), (47, .iconst 1, 1), (48, .istore_n 2, 1), (49, .iload_n 1, 1), (50, .iload_n 2, 1), (51, .invokestatic 122, 3), (54, .istore_n 1, 1), (55, .iinc 3 1, 3), (58, .goto (-52), 3), (61, .iload_n 1, 1), (62, .ireturn, 1)]
def mX6_thickest : MR := (yX6_thickest, cX6_thickest, 4, (some .int), 1, 21, tX6_thickest)
theorem okX6_thickest : TabOk mX6_thickest := tab_ok (by decide +kernel)
def tX7_init : List (Nat × Instr × Nat) := [(0, .aload_n 0, 1), (1, .invokespecial 3, 3), (4, .aload_n 0, 1), (5, .sipush 240, 3), (8, .newarray .int, 2), (10, .putfield 9, 3), (13, .aload_n 0, 1), (14, .iconst 0, 1), (15, .putfield 15, 3), (18, .aload_n 0, 1), (19, .iconst 0, 1), (20, .putfield 19, 3), (23, .aload_n 0, 1), (24, .iconst 0, 1), (25, .putfield 22, 3), (28, .aload_n 0, 1), (29, .iconst (-1), 1), (30, .putfield 25, 3), (33, .return_, 1)]
def mX7_init : MR := (yX7_init, cX7_init, 1, none, 1, 20, tX7_init)
theorem okX7_init : TabOk mX7_init := tab_ok (by decide +kernel)
def tX7_append : List (Nat × Instr × Nat) := [(0, .aload_n 0, 1), (1, .getfield 15, 3), (4, .sipush 240, 3), (7, .if_icmp .ge 23, 3), (10, .aload_n 0, 1), (11, .getfield 9, 3), (14, .aload_n 0, 1), (15, .getfield 15, 3), (18, .iload_n 1, 1), (19, .iastore, 1), (20, .aload_n 0, 1), (21, .dup, 1), (22, .getfield 15, 3), (25, .iconst 1, 1), (26, .iadd, 1), (27, .putfield 15, 3), (30, .return_, 1)]
def mX7_append : MR := (yX7_append, cX7_append, 2, none, 0, 0, tX7_append)
theorem okX7_append : TabOk mX7_append := tab_ok (by decide +kernel)
def tX7_empty : List (Nat × Instr × Nat) := [(0, .aload_n 0, 1), (1, .iconst 0, 1), (2, .putfield 15, 3), (5, .return_, 1)]
def mX7_empty : MR := (yX7_empty, cX7_empty, 1, none, 0, 0, tX7_empty)
theorem okX7_empty : TabOk mX7_empty := tab_ok (by decide +kernel)
def tX7_readInto : List (Nat × Instr × Nat) := [(0, .aload_n 1, 1), (1, .invokevirtual 28, 3), (4, .aload_n 0, 1), (5, .iconst 0, 1), (6, .putfield 19, 3), (9, .aload_n 0, 1), (10, .iconst 0, 1), (11, .putfield 22, 3), (14, .aload_n 0, 1), (15, .iconst (-1), 1), (16, .putfield 25, 3), (19, .aload_n 0, 1), (20, .invokevirtual 33, 3), (23, .iconst 0, 1), (24, .istore_n 2, 1), (25, .iload_n 2, 1), (26, .sipush 240, 3), (29, .if_icmp .gt 36, 3), (32, .aload_n 0, 1), (33, .getfield 22, 3), (36, .ifCond .ne 29, 3), (39, .aload_n 0, 1), (40, .getfield 19, 3), (43, .aload_n 0, 1), (44, .getfield 15, 3), (47, .if_icmp .ge 18, 3), (50, .aload_n 0, 1), (51, .aload_n 1, 1), (52, .invokevirtual 36, 3), (55, .aload_n 0, 1), (56, .invokevirtual 33, 3), (59, .iinc 2 1, 3), (62, .goto (-37), 3), (65, .aload_n 0, 1), (66, .getfield 22, 3), (69, .ireturn, 1)]
def mX7_readInto : MR := (yX7_readInto, cX7_readInto, 3, (some .int), 5, 109, tX7_readInto)
theorem okX7_readInto : TabOk mX7_readInto := tab_ok (by decide +kernel)
def tX7_readClause : List (Nat × Instr × Nat) := [(0, .aload_n 0, 1), (1, .invokevirtual 40, 3), (4, .istore_n 2, 1), (5, .aload_n 1, 1), (6, .getfield 44, 3), (9, .ifCond .ne 21, 3), (12, .aload_n 0, 1), (13, .bipush 99, 2), (15, .iconst 1, 1), (16, .invokevirtual 47, 3), (19, .ifCond .eq 104, 3), (22, .aload_n 0, 1), (23, .aload_n 1, 1), (24, .invokevirtual 51, 3), (27, .goto 96, 3), (30, .iload_n 2, 1), (31, .bipush 115, 2), (33, .if_icmp .ne 34, 3), (36, .aload_n 0, 1), (37, .bipush 115, 2), (39, .aload_n 1, 1), (40, .getfield 54, 3), (43, .bipush 8, 2), (45, .if_icmp .ge 7, 3), (48, .iconst 1, 1), (49, .goto 4, 3), (52, .iconst 0, 1), (53, .invokevirtual 47, 3), (56, .ifCond .eq 67, 3), (59, .aload_n 0, 1), (60, .aload_n 1, 1), (61, .invokevirtual 57, 3), (64, .goto 59, 3), (67, .iload_n 2, 1), (68, .bipush 119, 2), (70, .if_icmp .ne 34, 3), (73, .aload_n 0, 1), (74, .bipush 119, 2), (76, .aload_n 1, 1), (77, .getfield 60, 3), (80, .bipush 6, 2), (82, .if_icmp .ge 7, 3), (85, .iconst 1, 1), (86, .goto 4, 3), (89, .iconst 0, 1), (90, .invokevirtual 47, 3), (93, .ifCond .eq 30, 3), (96, .aload_n 0, 1), (97, .aload_n 1, 1), (98, .invokevirtual 63, 3), (101, .goto 22, 3), (104, .aload_n 0, 1), (105, .iload_n 2, 1), (106, .bipush 99, 2), (108, .if_icmp .ne 7, 3), (111, .iconst 3, 1), (112, .goto 4, 3), (115, .iconst 1, 1), (116, .aload_n 0, 1), (117, .getfield 19, 3), (120, .invokevirtual 66, 3), (123, .return_, 1)]
def mX7_readClause : MR := (yX7_readClause, cX7_readClause, 3, none, 4, 87, tX7_readClause)
theorem okX7_readClause : TabOk mX7_readClause := tab_ok (by decide +kernel)
def tX7_readClear : List (Nat × Instr × Nat) := [(0, .aload_n 1, 1), (1, .aload_n 0, 1), (2, .iconst 1, 1), (3, .bipush 99, 2), (5, .invokevirtual 70, 3), (8, .putfield 44, 3), (11, .aload_n 0, 1), (12, .bipush 59, 2), (14, .iconst 1, 1), (15, .invokevirtual 47, 3), (18, .pop, 1), (19, .return_, 1)]
def mX7_readClear : MR := (yX7_readClear, cX7_readClear, 2, none, 3, 64, tX7_readClear)
theorem okX7_readClear : TabOk mX7_readClear := tab_ok (by decide +kernel)
def tX7_readScene : List (Nat × Instr × Nat) := [(0, .aload_n 0, 1), (1, .iconst 0, 1), (2, .iconst 3, 1), (3, .invokevirtual 70, 3), (6, .istore_n 2, 1), (7, .aload_n 0, 1), (8, .iconst 1, 1), (9, .bipush 99, 2), (11, .invokevirtual 70, 3), (14, .istore_n 3, 1), (15, .aload_n 0, 1), (16, .bipush 59, 2), (18, .iconst 1, 1), (19, .invokevirtual 47, 3), (22, .ifCond .eq 9, 3), (25, .aload_n 1, 1), (26, .iload_n 2, 1), (27, .iload_n 3, 1), (28, .invokevirtual 74, 3), (31, .return_, 1)]
def mX7_readScene : MR := (yX7_readScene, cX7_readScene, 4, none, 3, 64, tX7_readScene)
theorem okX7_readScene : TabOk mX7_readScene := tab_ok (by decide +kernel)
def tX7_readWearer : List (Nat × Instr × Nat) := [(0, .aload_n 1, 1), (1, .invokevirtual 77, 3), (4, .aload_n 1, 1), (5, .aload_n 0, 1), (6, .iconst 0, 1), (7, .aload_n 1, 1), (8, .getfield 54, 3), (11, .iconst 1, 1), (12, .isub, 1), (13, .invokevirtual 70, 3), (16, .invokevirtual 80, 3), (19, .iconst 1, 1), (20, .istore_n 2, 1), (21, .iload_n 2, 1), (22, .bipush 6, 2), (24, .if_icmp .ge 41, 3), (27, .aload_n 0, 1), (28, .invokevirtual 40, 3), (31, .bipush 44, 2), (33, .if_icmp .ne 32, 3), (36, .aload_n 0, 1), (37, .bipush 44, 2), (39, .iconst 1, 1), (40, .invokevirtual 47, 3), (43, .pop, 1), (44, .aload_n 1, 1), (45, .aload_n 0, 1), (46, .iconst 0, 1), (47, .aload_n 1, 1), (48, .getfield 54, 3), (51, .iconst 1, 1), (52, .isub, 1), (53, .invokevirtual 70, 3), (56, .invokevirtual 80, 3), (59, .iinc 2 1, 3), (62, .goto (-41), 3), (65, .aload_n 0, 1), (66, .bipush 59, 2), (68, .iconst 1, 1), (69, .invokevirtual 47, 3), (72, .pop, 1), (73, .return_, 1)]
def mX7_readWearer : MR := (yX7_readWearer, cX7_readWearer, 3, none, 3, 64, tX7_readWearer)
theorem okX7_readWearer : TabOk mX7_readWearer := tab_ok (by decide +kernel)
def tX7_readNumber : List (Nat × Instr × Nat) := [(0, .aload_n 0, 1), (1, .aload_n 0, 1), (2, .invokevirtual 40, 3), (5, .invokevirtual 84, 3), (8, .ifCond .ne 14, 3), (11, .aload_n 0, 1), (12, .iconst 1, 1), (13, .aload_n 0, 1), (14, .getfield 19, 3), (17, .invokevirtual 66, 3), (20, .iconst (-1), 1), (21, .ireturn, 1), (22, .aload_n 0, 1), (23, .getfield 19, 3), (26, .istore_n 3, 1), (27, .iconst 0, 1), (28, .istore 4, 2), (30, .aload_n 0, 1), (31, .getfield 19, 3), (34, .aload_n 0, 1), (35, .getfield 15, 3), (38, .if_icmp .ge 72, 3), (41, .aload_n 0, 1), (42, .getfield 19, 3), (45, .sipush 240, 3), (48, .if_icmp .ge 62, 3), (51, .aload_n 0, 1), (52, .aload_n 0, 1), (53, .getfield 9, 3), (56, .aload_n 0, 1), (57, .getfield 19, 3), (60, .iaload, 1), (61, .invokevirtual 84, 3), (64, .ifCond .eq 46, 3), (67, .aload_n 0, 1), (68, .getfield 19, 3), (71, .iload_n 3, 1), (72, .isub, 1), (73, .iconst 3, 1), (74, .if_icmp .ge 23, 3), (77, .iload 4, 2), (79, .bipush 10, 2), (81, .imul, 1), (82, .aload_n 0, 1), (83, .getfield 9, 3), (86, .aload_n 0, 1), (87, .getfield 19, 3), (90, .iaload, 1), (91, .iadd, 1), (92, .bipush 48, 2), (94, .isub, 1), (95, .istore 4, 2), (97, .aload_n 0, 1), (98, .dup, 1), (99, .getfield 19, 3), (102, .iconst 1, 1), (103, .iadd, 1), (104, .putfield 19, 3), (107, .goto (-77), 3), (110, .aload_n 0, 1), (111, .getfield 19, 3), (114, .iload_n 3, 1), (115, .isub, 1), (116, .iconst 3, 1), (117, .if_icmp .gt 15, 3), (120, .iload 4, 2), (122, .iload_n 1, 1), (123, .if_icmp .lt 9, 3), (126, .iload 4, 2), (128, .iload_n 2, 1), (129, .if_icmp .le 9, 3), (132, .aload_n 0, 1), (133, .iconst 2, 1), (134, .iload_n 3, 1), (135, .invokevirtual 66, 3), (138, .iload 4, 2), (140, .ireturn, 1)]
def mX7_readNumber : MR := (yX7_readNumber, cX7_readNumber, 5, (some .int), 2, 40, tX7_readNumber)
theorem okX7_readNumber : TabOk mX7_readNumber := tab_ok (by decide +kernel)
def tX7_accept : List (Nat × Instr × Nat) := [(0, .aload_n 0, 1), (1, .invokevirtual 40, 3), (4, .iload_n 1, 1), (5, .if_icmp .eq 15, 3), (8, .aload_n 0, 1), (9, .iconst 1, 1), (10, .aload_n 0, 1), (11, .getfield 19, 3), (14, .invokevirtual 66, 3), (17, .goto 29, 3), (20, .iload_n 2, 1), (21, .ifCond .ne 15, 3), (24, .aload_n 0, 1), (25, .iconst 3, 1), (26, .aload_n 0, 1), (27, .getfield 19, 3), (30, .invokevirtual 66, 3), (33, .goto 13, 3), (36, .aload_n 0, 1), (37, .dup, 1), (38, .getfield 19, 3), (41, .iconst 1, 1), (42, .iadd, 1), (43, .putfield 19, 3), (46, .aload_n 0, 1), (47, .getfield 22, 3), (50, .ifCond .ne 7, 3), (53, .iconst 1, 1), (54, .goto 4, 3), (57, .iconst 0, 1), (58, .ireturn, 1)]
def mX7_accept : MR := (yX7_accept, cX7_accept, 3, (some .boolean), 2, 40, tX7_accept)
theorem okX7_accept : TabOk mX7_accept := tab_ok (by decide +kernel)
def tX7_letterHere : List (Nat × Instr × Nat) := [(0, .aload_n 0, 1), (1, .invokevirtual 33, 3), (4, .aload_n 0, 1), (5, .getfield 19, 3), (8, .aload_n 0, 1), (9, .getfield 15, 3), (12, .if_icmp .ge 25, 3), (15, .aload_n 0, 1), (16, .getfield 19, 3), (19, .sipush 240, 3), (22, .if_icmp .ge 15, 3), (25, .aload_n 0, 1), (26, .getfield 9, 3), (29, .aload_n 0, 1), (30, .getfield 19, 3), (33, .iaload, 1), (34, .goto 4, 3), (37, .iconst (-1), 1), (38, .ireturn, 1)]
def mX7_letterHere : MR := (yX7_letterHere, cX7_letterHere, 1, (some .int), 1, 20, tX7_letterHere)
theorem okX7_letterHere : TabOk mX7_letterHere := tab_ok (by decide +kernel)
def tX7_skipBlanks : List (Nat × Instr × Nat) := [(0, .aload_n 0, 1), (1, .getfield 19, 3), (4, .aload_n 0, 1), (5, .getfield 15, 3), (8, .if_icmp .ge 40, 3), (11, .aload_n 0, 1), (12, .getfield 19, 3), (15, .sipush 240, 3), (18, .if_icmp .ge 30, 3), (21, .aload_n 0, 1), (22, .getfield 9, 3), (25, .aload_n 0, 1), (26, .getfield 19, 3), (29, .iaload, 1), (30, .bipush 32, 2), (32, .if_icmp .ne 16, 3), (35, .aload_n 0, 1), (36, .dup, 1), (37, .getfield 19, 3), (40, .iconst 1, 1), (41, .iadd, 1), (42, .putfield 19, 3), (45, .goto (-45), 3), (48, .return_, 1)]
def mX7_skipBlanks : MR := (yX7_skipBlanks, cX7_skipBlanks, 1, none, 0, 0, tX7_skipBlanks)
theorem okX7_skipBlanks : TabOk mX7_skipBlanks := tab_ok (by decide +kernel)
def tX7_isFigure : List (Nat × Instr × Nat) := [(0, .iload_n 1, 1), (1, .bipush 48, 2), (3, .if_icmp .lt 13, 3), (6, .iload_n 1, 1), (7, .bipush 57, 2), (9, .if_icmp .gt 7, 3), (12, .iconst 1, 1), (13, .goto 4, 3), (16, .iconst 0, 1), (17, .ireturn, 1)]
def mX7_isFigure : MR := (yX7_isFigure, cX7_isFigure, 2, (some .boolean), 0, 0, tX7_isFigure)
theorem okX7_isFigure : TabOk mX7_isFigure := tab_ok (by decide +kernel)
def tX7_blame : List (Nat × Instr × Nat) := [(0, .aload_n 0, 1), (1, .getfield 22, 3), (4, .ifCond .ne 13, 3), (7, .aload_n 0, 1), (8, .iload_n 1, 1), (9, .putfield 22, 3), (12, .aload_n 0, 1), (13, .iload_n 2, 1), (14, .putfield 25, 3), (17, .return_, 1)]
def mX7_blame : MR := (yX7_blame, cX7_blame, 3, none, 0, 0, tX7_blame)
theorem okX7_blame : TabOk mX7_blame := tab_ok (by decide +kernel)
def tX8_init : List (Nat × Instr × Nat) := [(0, .aload_n 0, 1), (1, .invokespecial 3, 3), (4, .aload_n 0, 1), (5, .iconst 5, 1), (6, .newarray .int, 2), (8, .putfield 9, 3), (11, .aload_n 0, 1), (12, .iconst 0, 1), (13, .putfield 15, 3), (16, .return_, 1)]
def mX8_init : MR := (yX8_init, cX8_init, 1, none, 1, 20, tX8_init)
theorem okX8_init : TabOk mX8_init := tab_ok (by decide +kernel)
def tX8_begin : List (Nat × Instr × Nat) := [(0, .aload_n 0, 1), (1, .iconst 0, 1), (2, .putfield 15, 3), (5, .iconst 0, 1), (6, .istore_n 2, 1), (7, .iload_n 2, 1), (8, .bipush 6, 2), (10, .if_icmp .ge 46, 3), (13, .iload_n 1, 1), (14, .iload_n 2, 1), (15, .ishr, 1), (16, .iconst 1, 1), (17, .iand, 1), (18, .iconst 1, 1), (19, .if_icmp .ne 31, 3), (22, .aload_n 0, 1), (23, .getfield 15, 3), (26, .iconst 5, 1), (27, .if_icmp .ge 23, 3), (30, .aload_n 0, 1), (31, .getfield 9, 3), (34, .aload_n 0, 1), (35, .getfield 15, 3), (38, .iload_n 2, 1), (39, .iastore, 1), (40, .aload_n 0, 1), (41, .dup, 1), (42, .getfield 15, 3), (45, .iconst 1, 1), (46, .iadd, 1), (47, .putfield 15, 3), (50, .iinc 2 1, 3), (53, .goto (-46), 3), (56, .return_, 1)]
def mX8_begin : MR := (yX8_begin, cX8_begin, 3, none, 0, 0, tX8_begin)
theorem okX8_begin : TabOk mX8_begin := tab_ok (by decide +kernel)
def tX8_figures : List (Nat × Instr × Nat) := [(0, .iconst 0, 1), (1, .istore_n 1, 1), (2, .iconst 0, 1), (3, .istore_n 2, 1), (4, .iload_n 2, 1), (5, .aload_n 0, 1), (6, .getfield 15, 3), (9, .if_icmp .ge 28, 3), (12, .iload_n 2, 1), (13, .iconst 5, 1), (14, .if_icmp .ge 23, 3), (17, .iload_n 1, 1), (18, .bipush 10, 2), (20, .imul, 1), (21, .aload_n 0, 1), (22, .getfield 9, 3), (25, .iload_n 2, 1), (26, .iaload, 1), (27, .iadd, 1), (28, .iconst 1, 1), (29, .iadd, 1), (30, .istore_n 1, 1), (31, .iinc 2 1, 3), (34, .goto (-30), 3), (37, .iload_n 1, 1), (38, .ireturn, 1)]
def mX8_figures : MR := (yX8_figures, cX8_figures, 3, (some .int), 0, 0, tX8_figures)
theorem okX8_figures : TabOk mX8_figures := tab_ok (by decide +kernel)
def tX8_advance : List (Nat × Instr × Nat) := [(0, .aload_n 0, 1), (1, .invokevirtual 19, 3), (4, .istore_n 1, 1), (5, .iload_n 1, 1), (6, .ifCond .ge 5, 3), (9, .iconst 0, 1), (10, .ireturn, 1), (11, .iload_n 1, 1), (12, .iconst 1, 1), (13, .iadd, 1), (14, .istore_n 2, 1), (15, .iload_n 1, 1), (16, .iconst 1, 1), (17, .iadd, 1), (18, .istore_n 3, 1), (19, .iload_n 3, 1), (20, .aload_n 0, 1), (21, .getfield 15, 3), (24, .if_icmp .ge 31, 3), (27, .iload_n 3, 1), (28, .iconst 5, 1), (29, .if_icmp .ge 26, 3), (32, .aload_n 0, 1), (33, .getfield 9, 3), (36, .iload_n 3, 1), (37, .iaload, 1), (38, .aload_n 0, 1), (39, .getfield 9, 3), (42, .iload_n 1, 1), (43, .iaload, 1), (44, .if_icmp .le 5, 3), (47, .iload_n 3, 1), (48, .istore_n 2, 1), (49, .iinc 3 1, 3), (52, .goto (-33), 3), (55, .aload_n 0, 1), (56, .iload_n 1, 1), (57, .iload_n 2, 1), (58, .invokevirtual 23, 3), (61, .iload_n 1, 1), (62, .iconst 1, 1), (63, .iadd, 1), (64, .istore_n 3, 1), (65, .aload_n 0, 1), (66, .getfield 15, 3), (69, .iconst 1, 1), (70, .isub, 1), (71, .istore 4, 2), (73, .iload_n 3, 1), (74, .iload 4, 2), (76, .if_icmp .ge 19, 3), (79, .aload_n 0, 1), (80, .iload_n 3, 1), (81, .iload 4, 2), (83, .invokevirtual 23, 3), (86, .iinc 3 1, 3), (89, .iinc 4 (-1), 3), (92, .goto (-19), 3), (95, .iconst 1, 1), (96, .ireturn, 1)]
def mX8_advance : MR := (yX8_advance, cX8_advance, 5, (some .boolean), 1, 23, tX8_advance)
theorem okX8_advance : TabOk mX8_advance := tab_ok (by decide +kernel)
def tX8_lastRise : List (Nat × Instr × Nat) := [(0, .iconst (-1), 1), (1, .istore_n 1, 1), (2, .iconst 0, 1), (3, .istore_n 2, 1), (4, .iload_n 2, 1), (5, .iconst 1, 1), (6, .iadd, 1), (7, .aload_n 0, 1), (8, .getfield 15, 3), (11, .if_icmp .ge 35, 3), (14, .iload_n 2, 1), (15, .iconst 1, 1), (16, .iadd, 1), (17, .iconst 5, 1), (18, .if_icmp .ge 28, 3), (21, .aload_n 0, 1), (22, .getfield 9, 3), (25, .iload_n 2, 1), (26, .iaload, 1), (27, .aload_n 0, 1), (28, .getfield 9, 3), (31, .iload_n 2, 1), (32, .iconst 1, 1), (33, .iadd, 1), (34, .iaload, 1), (35, .if_icmp .ge 5, 3), (38, .iload_n 2, 1), (39, .istore_n 1, 1), (40, .iinc 2 1, 3), (43, .goto (-39), 3), (46, .iload_n 1, 1), (47, .ireturn, 1)]
def mX8_lastRise : MR := (yX8_lastRise, cX8_lastRise, 3, (some .int), 0, 0, tX8_lastRise)
theorem okX8_lastRise : TabOk mX8_lastRise := tab_ok (by decide +kernel)
def tX8_swap : List (Nat × Instr × Nat) := [(0, .iload_n 1, 1), (1, .ifCond .lt 43, 3), (4, .iload_n 1, 1), (5, .iconst 5, 1), (6, .if_icmp .ge 38, 3), (9, .iload_n 2, 1), (10, .ifCond .lt 34, 3), (13, .iload_n 2, 1), (14, .iconst 5, 1), (15, .if_icmp .ge 29, 3), (18, .aload_n 0, 1), (19, .getfield 9, 3), (22, .iload_n 1, 1), (23, .iaload, 1), (24, .istore_n 3, 1), (25, .aload_n 0, 1), (26, .getfield 9, 3), (29, .iload_n 1, 1), (30, .aload_n 0, 1), (31, .getfield 9, 3), (34, .iload_n 2, 1), (35, .iaload, 1), (36, .iastore, 1), (37, .aload_n 0, 1), (38, .getfield 9, 3), (41, .iload_n 2, 1), (42, .iload_n 3, 1), (43, .iastore, 1), (44, .return_, 1)]
def mX8_swap : MR := (yX8_swap, cX8_swap, 4, none, 0, 0, tX8_swap)
theorem okX8_swap : TabOk mX8_swap := tab_ok (by decide +kernel)
def tX9_init : List (Nat × Instr × Nat) := [(0, .aload_n 0, 1), (1, .invokespecial 1, 3), (4, .aload_n 0, 1), (5, .new 7, 3), (8, .dup, 1), (9, .invokespecial 9, 3), (12, .putfield 10, 3), (15, .aload_n 0, 1), (16, .new 16, 3), (19, .dup, 1), (20, .invokespecial 18, 3), (23, .putfield 19, 3), (26, .aload_n 0, 1), (27, .iconst 2, 1), (28, .anewarray 23, 3), (31, .putfield 25, 3), (34, .aload_n 0, 1), (35, .new 29, 3), (38, .dup, 1), (39, .invokespecial 31, 3), (42, .putfield 32, 3), (45, .aload_n 0, 1), (46, .new 29, 3), (49, .dup, 1), (50, .invokespecial 31, 3), (53, .putfield 36, 3), (56, .aload_n 0, 1), (57, .new 39, 3), (60, .dup, 1), (61, .invokespecial 41, 3), (64, .putfield 42, 3), (67, .aload_n 0, 1), (68, .new 46, 3), (71, .dup, 1), (72, .invokespecial 48, 3), (75, .putfield 49, 3), (78, .aload_n 0, 1), (79, .new 53, 3), (82, .dup, 1), (83, .invokespecial 55, 3), (86, .putfield 56, 3), (89, .aload_n 0, 1), (90, .new 60, 3), (93, .dup, 1), (94, .invokespecial 62, 3), (97, .putfield 63, 3), (100, .aload_n 0, 1), (101, .new 60, 3), (104, .dup, 1), (105, .invokespecial 62, 3), (108, .putfield 67, 3), (111, .aload_n 0, 1), (112, .iconst (-1), 1), (113, .putfield 70, 3), (116, .aload_n 0, 1), (117, .iconst 0, 1), (118, .putfield 74, 3), (121, .iconst 0, 1), (122, .istore_n 1, 1), (123, .iload_n 1, 1), (124, .iconst 2, 1), (125, .if_icmp .ge 22, 3), (128, .aload_n 0, 1), (129, .getfield 25, 3), (132, .iload_n 1, 1), (133, .new 23, 3), (136, .dup, 1), (137, .invokespecial 77, 3), (140, .aastore, 1), (141, .iinc 1 1, 3), (144, .goto (-21), 3), (147, .return_, 1)]
def mX9_init : MR := (yX9_init, cX9_init, 2, none, 4, 81, tX9_init)
theorem okX9_init : TabOk mX9_init := tab_ok (by decide +kernel)
def tX9_feed : List (Nat × Instr × Nat) := [(0, .iload_n 1, 1), (1, .ifCond .lt 10, 3), (4, .iload_n 1, 1), (5, .sipush 255, 3), (8, .if_icmp .le 6, 3), (11, .ldc 78, 2), (13, .ireturn, 1), (14, .aload_n 0, 1), (15, .getfield 10, 3), (18, .getfield 79, 3), (21, .sipush 240, 3), (24, .if_icmp .lt 6, 3), (27, .ldc 82, 2), (29, .ireturn, 1), (30, .aload_n 0, 1), (31, .getfield 10, 3), (34, .iload_n 1, 1), (35, .invokevirtual 83, 3), (38, .aload_n 0, 1), (39, .getfield 10, 3), (42, .getfield 79, 3), (45, .ireturn, 1)]
def mX9_feed : MR := (yX9_feed, cX9_feed, 2, (some .int), 1, 21, tX9_feed)
theorem okX9_feed : TabOk mX9_feed := tab_ok (by decide +kernel)
def tX9_line : List (Nat × Instr × Nat) := [(0, .aload_n 0, 1), (1, .getfield 10, 3), (4, .aload_n 0, 1), (5, .getfield 67, 3), (8, .invokevirtual 87, 3), (11, .istore_n 1, 1), (12, .aload_n 0, 1), (13, .aload_n 0, 1), (14, .getfield 10, 3), (17, .getfield 91, 3), (20, .putfield 70, 3), (23, .aload_n 0, 1), (24, .getfield 10, 3), (27, .invokevirtual 92, 3), (30, .iload_n 1, 1), (31, .ifCond .eq 8, 3), (34, .bipush (-10), 2), (36, .iload_n 1, 1), (37, .isub, 1), (38, .ireturn, 1), (39, .aload_n 0, 1), (40, .getfield 63, 3), (43, .astore_n 2, 1), (44, .aload_n 0, 1), (45, .aload_n 0, 1), (46, .getfield 67, 3), (49, .putfield 63, 3), (52, .aload_n 0, 1), (53, .aload_n 2, 1), (54, .putfield 67, 3), (57, .aload_n 0, 1), (58, .getfield 32, 3), (61, .invokevirtual 95, 3), (64, .aload_n 0, 1), (65, .getfield 19, 3), (68, .invokevirtual 98, 3), (71, .iconst 0, 1), (72, .istore_n 3, 1), (73, .iload_n 3, 1), (74, .iconst 2, 1), (75, .if_icmp .ge 19, 3), (78, .aload_n 0, 1), (79, .getfield 25, 3), (82, .iload_n 3, 1), (83, .aaload, 1), (84, .iconst 0, 1), (85, .putfield 101, 3), (88, .iinc 3 1, 3), (91, .goto (-18), 3), (94, .aload_n 0, 1), (95, .getfield 49, 3), (98, .invokevirtual 105, 3), (101, .aload_n 0, 1), (102, .getfield 56, 3), (105, .invokevirtual 106, 3), (108, .aload_n 0, 1), (109, .getfield 63, 3), (112, .getfield 107, 3), (115, .ireturn, 1)]
def mX9_line : MR := (yX9_line, cX9_line, 4, (some .int), 6, 131, tX9_line)
theorem okX9_line : TabOk mX9_line := tab_ok (by decide +kernel)
def tX9_fault : List (Nat × Instr × Nat) := [(0, .aload_n 0, 1), (1, .getfield 70, 3), (4, .ireturn, 1)]
def mX9_fault : MR := (yX9_fault, cX9_fault, 1, (some .int), 0, 0, tX9_fault)
theorem okX9_fault : TabOk mX9_fault := tab_ok (by decide +kernel)
def tX9_told : List (Nat × Instr × Nat) := [(0, .iload_n 1, 1), (1, .tableswitch 208 0 15 #[79, 87, 95, 103, 111, 119, 127, 135, 143, 148, 156, 165, 173, 184, 192, 200], 79), (80, .aload_n 0, 1), (81, .getfield 63, 3), (84, .getfield 110, 3), (87, .ireturn, 1), (88, .aload_n 0, 1), (89, .getfield 63, 3), (92, .getfield 107, 3), (95, .ireturn, 1), (96, .aload_n 0, 1), (97, .getfield 63, 3), (100, .getfield 113, 3), (103, .ireturn, 1), (104, .aload_n 0, 1), (105, .getfield 10, 3), (108, .getfield 79, 3), (111, .ireturn, 1), (112, .aload_n 0, 1), (113, .getfield 32, 3), (116, .getfield 116, 3), (119, .ireturn, 1), (120, .aload_n 0, 1), (121, .getfield 32, 3), (124, .getfield 119, 3), (127, .ireturn, 1), (128, .aload_n 0, 1), (129, .getfield 32, 3), (132, .getfield 122, 3), (135, .ireturn, 1), (136, .aload_n 0, 1), (137, .getfield 32, 3), (140, .invokevirtual 125, 3), (143, .ireturn, 1), (144, .aload_n 0, 1), (145, .invokevirtual 129, 3), (148, .ireturn, 1), (149, .aload_n 0, 1), (150, .getfield 32, 3), (153, .invokevirtual 132, 3), (156, .ireturn, 1), (157, .aload_n 0, 1), (158, .getfield 32, 3), (161, .iconst 0, 1), (162, .invokevirtual 135, 3), (165, .ireturn, 1), (166, .aload_n 0, 1), (167, .getfield 32, 3), (170, .invokevirtual 139, 3), (173, .ireturn, 1), (174, .aload_n 0, 1), (175, .getfield 32, 3), (178, .getfield 142, 3), (181, .getfield 146, 3), (184, .ireturn, 1), (185, .aload_n 0, 1), (186, .getfield 49, 3), (189, .getfield 151, 3), (192, .ireturn, 1), (193, .aload_n 0, 1), (194, .getfield 56, 3), (197, .getfield 152, 3), (200, .ireturn, 1), (201, .aload_n 0, 1), (202, .getfield 19, 3), (205, .getfield 153, 3), (208, .ireturn, 1), (209, .ldc 78, 2), (211, .ireturn, 1)]
def mX9_told : MR := (yX9_told, cX9_told, 2, (some .int), 2, 45, tX9_told)
theorem okX9_told : TabOk mX9_told := tab_ok (by decide +kernel)
def tX9_scene : List (Nat × Instr × Nat) := [(0, .aload_n 0, 1), (1, .getfield 63, 3), (4, .iload_n 1, 1), (5, .invokevirtual 154, 3), (8, .ifCond .ne 6, 3), (11, .ldc 158, 2), (13, .ireturn, 1), (14, .iload_n 2, 1), (15, .tableswitch 63 0 3 #[29, 38, 47, 57], 29), (44, .aload_n 0, 1), (45, .getfield 63, 3), (48, .iload_n 1, 1), (49, .invokevirtual 159, 3), (52, .ireturn, 1), (53, .aload_n 0, 1), (54, .getfield 63, 3), (57, .iload_n 1, 1), (58, .invokevirtual 162, 3), (61, .ireturn, 1), (62, .aload_n 0, 1), (63, .getfield 63, 3), (66, .iload_n 1, 1), (67, .iconst 0, 1), (68, .invokevirtual 165, 3), (71, .ireturn, 1), (72, .aload_n 0, 1), (73, .iload_n 1, 1), (74, .invokevirtual 169, 3), (77, .ireturn, 1), (78, .ldc 78, 2), (80, .ireturn, 1)]
def mX9_scene : MR := (yX9_scene, cX9_scene, 3, (some .int), 6, 133, tX9_scene)
theorem okX9_scene : TabOk mX9_scene := tab_ok (by decide +kernel)
def tX9_wearer : List (Nat × Instr × Nat) := [(0, .aload_n 0, 1), (1, .getfield 63, 3), (4, .iload_n 1, 1), (5, .invokevirtual 172, 3), (8, .ifCond .ne 6, 3), (11, .ldc 158, 2), (13, .ireturn, 1), (14, .iload_n 2, 1), (15, .tableswitch 87 0 4 #[33, 42, 51, 60, 66], 33), (48, .aload_n 0, 1), (49, .getfield 63, 3), (52, .iload_n 1, 1), (53, .invokevirtual 175, 3), (56, .ireturn, 1), (57, .aload_n 0, 1), (58, .getfield 32, 3), (61, .iload_n 1, 1), (62, .invokevirtual 178, 3), (65, .ireturn, 1), (66, .aload_n 0, 1), (67, .getfield 32, 3), (70, .iload_n 1, 1), (71, .invokevirtual 181, 3), (74, .ireturn, 1), (75, .aload_n 0, 1), (76, .iload_n 1, 1), (77, .invokevirtual 184, 3), (80, .ireturn, 1), (81, .aload_n 0, 1), (82, .aload_n 0, 1), (83, .getfield 63, 3), (86, .iload_n 1, 1), (87, .aload_n 0, 1), (88, .getfield 32, 3), (91, .iload_n 1, 1), (92, .invokevirtual 178, 3), (95, .invokevirtual 187, 3), (98, .invokevirtual 190, 3), (101, .ireturn, 1), (102, .ldc 78, 2), (104, .ireturn, 1)]
def mX9_wearer : MR := (yX9_wearer, cX9_wearer, 3, (some .int), 5, 110, tX9_wearer)
theorem okX9_wearer : TabOk mX9_wearer := tab_ok (by decide +kernel)
def tX9_layer : List (Nat × Instr × Nat) := [(0, .aload_n 0, 1), (1, .getfield 32, 3), (4, .iload_n 1, 1), (5, .invokevirtual 193, 3), (8, .ifCond .ne 6, 3), (11, .ldc 158, 2), (13, .ireturn, 1), (14, .iload_n 2, 1), (15, .tableswitch 55 0 2 #[25, 35, 45], 25), (40, .aload_n 0, 1), (41, .getfield 32, 3), (44, .getfield 196, 3), (47, .iload_n 1, 1), (48, .iaload, 1), (49, .ireturn, 1), (50, .aload_n 0, 1), (51, .getfield 32, 3), (54, .getfield 200, 3), (57, .iload_n 1, 1), (58, .iaload, 1), (59, .ireturn, 1), (60, .aload_n 0, 1), (61, .getfield 32, 3), (64, .getfield 203, 3), (67, .iload_n 1, 1), (68, .iaload, 1), (69, .ireturn, 1), (70, .ldc 78, 2), (72, .ireturn, 1)]
def mX9_layer : MR := (yX9_layer, cX9_layer, 3, (some .int), 1, 21, tX9_layer)
theorem okX9_layer : TabOk mX9_layer := tab_ok (by decide +kernel)
def tX9_logged : List (Nat × Instr × Nat) := [(0, .iload_n 2, 1), (1, .ifCond .lt 8, 3), (4, .iload_n 2, 1), (5, .iconst 4, 1), (6, .if_icmp .lt 6, 3), (9, .ldc 78, 2), (11, .ireturn, 1), (12, .aload_n 0, 1), (13, .getfield 32, 3), (16, .getfield 142, 3), (19, .iload_n 1, 1), (20, .iload_n 2, 1), (21, .invokevirtual 206, 3), (24, .ireturn, 1)]
def mX9_logged : MR := (yX9_logged, cX9_logged, 3, (some .int), 1, 22, tX9_logged)
theorem okX9_logged : TabOk mX9_logged := tab_ok (by decide +kernel)
def tX9_year : List (Nat × Instr × Nat) := [(0, .aload_n 0, 1), (1, .iload_n 1, 1), (2, .invokevirtual 209, 3), (5, .istore_n 2, 1), (6, .iload_n 2, 1), (7, .ifCond .eq 5, 3), (10, .iload_n 2, 1), (11, .ireturn, 1), (12, .iconst 0, 1), (13, .istore_n 3, 1), (14, .iload_n 3, 1), (15, .iload_n 1, 1), (16, .if_icmp .ge 31, 3), (19, .aload_n 0, 1), (20, .getfield 19, 3), (23, .aload_n 0, 1), (24, .getfield 32, 3), (27, .invokevirtual 212, 3), (30, .aload_n 0, 1), (31, .getfield 32, 3), (34, .aload_n 0, 1), (35, .getfield 63, 3), (38, .invokevirtual 216, 3), (41, .iinc 3 1, 3), (44, .goto (-30), 3), (47, .aload_n 0, 1), (48, .getfield 32, 3), (51, .getfield 116, 3), (54, .ireturn, 1)]
def mX9_year : MR := (yX9_year, cX9_year, 4, (some .int), 5, 112, tX9_year)
theorem okX9_year : TabOk mX9_year := tab_ok (by decide +kernel)
def tX9_wear : List (Nat × Instr × Nat) := [(0, .aload_n 0, 1), (1, .getfield 63, 3), (4, .iload_n 1, 1), (5, .invokevirtual 172, 3), (8, .ifCond .ne 6, 3), (11, .ldc 158, 2), (13, .ireturn, 1), (14, .aload_n 0, 1), (15, .getfield 32, 3), (18, .getfield 119, 3), (21, .istore_n 2, 1), (22, .iload_n 2, 1), (23, .iload_n 1, 1), (24, .if_icmp .ne 6, 3), (27, .ldc 220, 2), (29, .ireturn, 1), (30, .aload_n 0, 1), (31, .getfield 19, 3), (34, .aload_n 0, 1), (35, .getfield 32, 3), (38, .invokevirtual 212, 3), (41, .aload_n 0, 1), (42, .getfield 32, 3), (45, .iload_n 1, 1), (46, .putfield 119, 3), (49, .iload_n 2, 1), (50, .ireturn, 1)]
def mX9_wear : MR := (yX9_wear, cX9_wear, 3, (some .int), 4, 81, tX9_wear)
theorem okX9_wear : TabOk mX9_wear := tab_ok (by decide +kernel)
def tX9_takeOff : List (Nat × Instr × Nat) := [(0, .aload_n 0, 1), (1, .getfield 32, 3), (4, .getfield 119, 3), (7, .istore_n 1, 1), (8, .iload_n 1, 1), (9, .iconst (-1), 1), (10, .if_icmp .ne 6, 3), (13, .ldc 220, 2), (15, .ireturn, 1), (16, .aload_n 0, 1), (17, .getfield 19, 3), (20, .aload_n 0, 1), (21, .getfield 32, 3), (24, .invokevirtual 212, 3), (27, .aload_n 0, 1), (28, .getfield 32, 3), (31, .iconst (-1), 1), (32, .putfield 119, 3), (35, .iload_n 1, 1), (36, .ireturn, 1)]
def mX9_takeOff : MR := (yX9_takeOff, cX9_takeOff, 2, (some .int), 4, 81, tX9_takeOff)
theorem okX9_takeOff : TabOk mX9_takeOff := tab_ok (by decide +kernel)
def tX9_wipe : List (Nat × Instr × Nat) := [(0, .aload_n 0, 1), (1, .getfield 32, 3), (4, .iload_n 1, 1), (5, .invokevirtual 193, 3), (8, .ifCond .ne 6, 3), (11, .ldc 158, 2), (13, .ireturn, 1), (14, .aload_n 0, 1), (15, .getfield 19, 3), (18, .aload_n 0, 1), (19, .getfield 32, 3), (22, .invokevirtual 212, 3), (25, .aload_n 0, 1), (26, .getfield 32, 3), (29, .iload_n 1, 1), (30, .invokevirtual 221, 3), (33, .aload_n 0, 1), (34, .getfield 32, 3), (37, .getfield 122, 3), (40, .ireturn, 1)]
def mX9_wipe : MR := (yX9_wipe, cX9_wipe, 2, (some .int), 4, 81, tX9_wipe)
theorem okX9_wipe : TabOk mX9_wipe := tab_ok (by decide +kernel)
def tX9_chip : List (Nat × Instr × Nat) := [(0, .aload_n 0, 1), (1, .getfield 63, 3), (4, .iload_n 1, 1), (5, .invokevirtual 154, 3), (8, .ifCond .ne 6, 3), (11, .ldc 158, 2), (13, .ireturn, 1), (14, .iload_n 2, 1), (15, .iconst 1, 1), (16, .if_icmp .lt 9, 3), (19, .iload_n 2, 1), (20, .bipush 99, 2), (22, .if_icmp .le 6, 3), (25, .ldc 78, 2), (27, .ireturn, 1), (28, .aload_n 0, 1), (29, .getfield 19, 3), (32, .aload_n 0, 1), (33, .getfield 32, 3), (36, .invokevirtual 212, 3), (39, .aload_n 0, 1), (40, .getfield 32, 3), (43, .iload_n 1, 1), (44, .iconst (-1), 1), (45, .iload_n 2, 1), (46, .invokevirtual 224, 3), (49, .aload_n 0, 1), (50, .getfield 32, 3), (53, .getfield 122, 3), (56, .ireturn, 1)]
def mX9_chip : MR := (yX9_chip, cX9_chip, 3, (some .int), 4, 81, tX9_chip)
theorem okX9_chip : TabOk mX9_chip := tab_ok (by decide +kernel)
def tX9_drift : List (Nat × Instr × Nat) := [(0, .aload_n 0, 1), (1, .iload_n 1, 1), (2, .invokevirtual 209, 3), (5, .istore_n 2, 1), (6, .iload_n 2, 1), (7, .ifCond .eq 5, 3), (10, .iload_n 2, 1), (11, .ireturn, 1), (12, .iconst 0, 1), (13, .istore_n 3, 1), (14, .iload_n 3, 1), (15, .iload_n 1, 1), (16, .if_icmp .ge 35, 3), (19, .aload_n 0, 1), (20, .getfield 19, 3), (23, .aload_n 0, 1), (24, .getfield 32, 3), (27, .invokevirtual 212, 3), (30, .aload_n 0, 1), (31, .invokevirtual 228, 3), (34, .aload_n 0, 1), (35, .getfield 32, 3), (38, .aload_n 0, 1), (39, .getfield 63, 3), (42, .invokevirtual 216, 3), (45, .iinc 3 1, 3), (48, .goto (-34), 3), (51, .aload_n 0, 1), (52, .getfield 32, 3), (55, .getfield 116, 3), (58, .ireturn, 1)]
def mX9_drift : MR := (yX9_drift, cX9_drift, 4, (some .int), 5, 112, tX9_drift)
theorem okX9_drift : TabOk mX9_drift := tab_ok (by decide +kernel)
def tX9_undo : List (Nat × Instr × Nat) := [(0, .iload_n 1, 1), (1, .iconst 1, 1), (2, .if_icmp .lt 9, 3), (5, .iload_n 1, 1), (6, .bipush 30, 2), (8, .if_icmp .le 6, 3), (11, .ldc 78, 2), (13, .ireturn, 1), (14, .iload_n 1, 1), (15, .aload_n 0, 1), (16, .getfield 19, 3), (19, .getfield 153, 3), (22, .if_icmp .le 6, 3), (25, .ldc 220, 2), (27, .ireturn, 1), (28, .aload_n 0, 1), (29, .getfield 19, 3), (32, .aload_n 0, 1), (33, .getfield 32, 3), (36, .iload_n 1, 1), (37, .invokevirtual 231, 3), (40, .aload_n 0, 1), (41, .getfield 32, 3), (44, .getfield 116, 3), (47, .ireturn, 1)]
def mX9_undo : MR := (yX9_undo, cX9_undo, 2, (some .int), 4, 82, tX9_undo)
theorem okX9_undo : TabOk mX9_undo := tab_ok (by decide +kernel)
def tX9_takes : List (Nat × Instr × Nat) := [(0, .aload_n 0, 1), (1, .getfield 63, 3), (4, .iload_n 1, 1), (5, .invokevirtual 154, 3), (8, .ifCond .ne 6, 3), (11, .ldc 158, 2), (13, .ireturn, 1), (14, .aload_n 0, 1), (15, .iload_n 1, 1), (16, .invokevirtual 190, 3), (19, .ireturn, 1)]
def mX9_takes : MR := (yX9_takes, cX9_takes, 2, (some .int), 5, 110, tX9_takes)
theorem okX9_takes : TabOk mX9_takes := tab_ok (by decide +kernel)
def tX9_dark : List (Nat × Instr × Nat) := [(0, .iload_n 1, 1), (1, .ifCond .lt 9, 3), (4, .iload_n 1, 1), (5, .bipush 60, 2), (7, .if_icmp .le 6, 3), (10, .ldc 78, 2), (12, .ireturn, 1), (13, .aload_n 0, 1), (14, .iload_n 1, 1), (15, .invokevirtual 235, 3), (18, .aload_n 0, 1), (19, .getfield 36, 3), (22, .invokevirtual 125, 3), (25, .ireturn, 1)]
def mX9_dark : MR := (yX9_dark, cX9_dark, 2, (some .int), 6, 134, tX9_dark)
theorem okX9_dark : TabOk mX9_dark := tab_ok (by decide +kernel)
def tX9_tooDark : List (Nat × Instr × Nat) := [(0, .iload_n 1, 1), (1, .iconst 1, 1), (2, .if_icmp .lt 9, 3), (5, .iload_n 1, 1), (6, .bipush 99, 2), (8, .if_icmp .le 6, 3), (11, .ldc 78, 2), (13, .ireturn, 1), (14, .aload_n 0, 1), (15, .getfield 36, 3), (18, .aload_n 0, 1), (19, .getfield 32, 3), (22, .invokevirtual 238, 3), (25, .iconst 0, 1), (26, .istore_n 2, 1), (27, .iload_n 2, 1), (28, .sipush 200, 3), (31, .if_icmp .gt 33, 3), (34, .aload_n 0, 1), (35, .getfield 36, 3), (38, .invokevirtual 125, 3), (41, .iload_n 1, 1), (42, .if_icmp .lt 5, 3), (45, .iload_n 2, 1), (46, .ireturn, 1), (47, .aload_n 0, 1), (48, .getfield 36, 3), (51, .aload_n 0, 1), (52, .getfield 63, 3), (55, .invokevirtual 216, 3), (58, .iinc 2 1, 3), (61, .goto (-34), 3), (64, .iconst (-1), 1), (65, .ireturn, 1)]
def mX9_tooDark : MR := (yX9_tooDark, cX9_tooDark, 3, (some .int), 5, 112, tX9_tooDark)
theorem okX9_tooDark : TabOk mX9_tooDark := tab_ok (by decide +kernel)
def tX9_willShow : List (Nat × Instr × Nat) := [(0, .aload_n 0, 1), (1, .getfield 63, 3), (4, .iload_n 1, 1), (5, .invokevirtual 154, 3), (8, .ifCond .ne 6, 3), (11, .ldc 158, 2), (13, .ireturn, 1), (14, .iload_n 2, 1), (15, .ifCond .lt 9, 3), (18, .iload_n 2, 1), (19, .bipush 60, 2), (21, .if_icmp .le 6, 3), (24, .ldc 78, 2), (26, .ireturn, 1), (27, .aload_n 0, 1), (28, .iload_n 2, 1), (29, .invokevirtual 235, 3), (32, .aload_n 0, 1), (33, .getfield 36, 3), (36, .iload_n 1, 1), (37, .invokevirtual 241, 3), (40, .ireturn, 1)]
def mX9_willShow : MR := (yX9_willShow, cX9_willShow, 3, (some .int), 6, 134, tX9_willShow)
theorem okX9_willShow : TabOk mX9_willShow := tab_ok (by decide +kernel)
def tX9_toWipe : List (Nat × Instr × Nat) := [(0, .iload_n 1, 1), (1, .aload_n 0, 1), (2, .getfield 63, 3), (5, .getfield 107, 3), (8, .invokestatic 244, 3), (11, .ifCond .ne 6, 3), (14, .ldc 158, 2), (16, .ireturn, 1), (17, .iload_n 2, 1), (18, .ifCond .lt 8, 3), (21, .iload_n 2, 1), (22, .iconst 1, 1), (23, .if_icmp .le 6, 3), (26, .ldc 78, 2), (28, .ireturn, 1), (29, .iconst 0, 1), (30, .istore_n 3, 1), (31, .iconst 0, 1), (32, .istore 4, 2), (34, .iload 4, 2), (36, .bipush 10, 2), (38, .if_icmp .ge 41, 3), (41, .aload_n 0, 1), (42, .iload_n 1, 1), (43, .iload_n 3, 1), (44, .invokevirtual 248, 3), (47, .ifCond .ne 32, 3), (50, .aload_n 0, 1), (51, .getfield 32, 3), (54, .iload_n 3, 1), (55, .invokevirtual 135, 3), (58, .istore 5, 2), (60, .iload 5, 2), (62, .iconst (-1), 1), (63, .if_icmp .eq 10, 3), (66, .iload_n 3, 1), (67, .iconst 1, 1), (68, .iload 5, 2), (70, .ishl, 1), (71, .ior, 1), (72, .istore_n 3, 1), (73, .iinc 4 1, 3), (76, .goto (-42), 3), (79, .iload_n 2, 1), (80, .ifCond .ne 10, 3), (83, .iload_n 3, 1), (84, .invokestatic 251, 3), (87, .goto 4, 3), (90, .iload_n 3, 1), (91, .ireturn, 1)]
def mX9_toWipe : MR := (yX9_toWipe, cX9_toWipe, 6, (some .int), 5, 112, tX9_toWipe)
theorem okX9_toWipe : TabOk mX9_toWipe := tab_ok (by decide +kernel)
def tX9_only : List (Nat × Instr × Nat) := [(0, .aload_n 0, 1), (1, .getfield 32, 3), (4, .iload_n 1, 1), (5, .invokevirtual 193, 3), (8, .ifCond .eq 14, 3), (11, .aload_n 0, 1), (12, .getfield 63, 3), (15, .iload_n 2, 1), (16, .invokevirtual 154, 3), (19, .ifCond .ne 6, 3), (22, .ldc 158, 2), (24, .ireturn, 1), (25, .aload_n 0, 1), (26, .getfield 32, 3), (29, .getfield 203, 3), (32, .iload_n 1, 1), (33, .iaload, 1), (34, .aload_n 0, 1), (35, .getfield 63, 3), (38, .iload_n 2, 1), (39, .iconst 0, 1), (40, .invokevirtual 165, 3), (43, .if_icmp .gt 5, 3), (46, .iconst (-1), 1), (47, .ireturn, 1), (48, .aload_n 0, 1), (49, .getfield 32, 3), (52, .iload_n 1, 1), (53, .invokevirtual 256, 3), (56, .ireturn, 1)]
def mX9_only : MR := (yX9_only, cX9_only, 3, (some .int), 3, 64, tX9_only)
theorem okX9_only : TabOk mX9_only := tab_ok (by decide +kernel)
def tX9_order : List (Nat × Instr × Nat) := [(0, .iload_n 1, 1), (1, .aload_n 0, 1), (2, .getfield 63, 3), (5, .getfield 113, 3), (8, .invokestatic 244, 3), (11, .ifCond .ne 6, 3), (14, .ldc 158, 2), (16, .ireturn, 1), (17, .iload_n 2, 1), (18, .ifCond .lt 8, 3), (21, .iload_n 2, 1), (22, .iconst 1, 1), (23, .if_icmp .le 6, 3), (26, .ldc 78, 2), (28, .ireturn, 1), (29, .iload_n 1, 1), (30, .invokestatic 251, 3), (33, .istore_n 3, 1), (34, .iload_n 3, 1), (35, .iconst 2, 1), (36, .if_icmp .lt 8, 3), (39, .iload_n 3, 1), (40, .iconst 5, 1), (41, .if_icmp .le 6, 3), (44, .ldc 220, 2), (46, .ireturn, 1), (47, .aload_n 0, 1), (48, .getfield 42, 3), (51, .iload_n 1, 1), (52, .invokevirtual 259, 3), (55, .aload_n 0, 1), (56, .invokevirtual 262, 3), (59, .istore 4, 2), (61, .aload_n 0, 1), (62, .getfield 42, 3), (65, .invokevirtual 265, 3), (68, .istore 5, 2), (70, .iconst 1, 1), (71, .istore 6, 2), (73, .iload 6, 2), (75, .bipush 120, 2), (77, .if_icmp .ge 45, 3), (80, .aload_n 0, 1), (81, .getfield 42, 3), (84, .invokevirtual 268, 3), (87, .ifCond .eq 35, 3), (90, .aload_n 0, 1), (91, .invokevirtual 262, 3), (94, .istore 7, 2), (96, .iload 7, 2), (98, .iload 4, 2), (100, .if_icmp .ge 16, 3), (103, .iload 7, 2), (105, .istore 4, 2), (107, .aload_n 0, 1), (108, .getfield 42, 3), (111, .invokevirtual 265, 3), (114, .istore 5, 2), (116, .iinc 6 1, 3), (119, .goto (-46), 3), (122, .iload_n 2, 1), (123, .ifCond .ne 8, 3), (126, .iload 4, 2), (128, .goto 5, 3), (131, .iload 5, 2), (133, .ireturn, 1)]
def mX9_order : MR := (yX9_order, cX9_order, 8, (some .int), 6, 133, tX9_order)
theorem okX9_order : TabOk mX9_order := tab_ok (by decide +kernel)
def tX9_ground : List (Nat × Instr × Nat) := [(0, .aload_n 0, 1), (1, .getfield 63, 3), (4, .iload_n 1, 1), (5, .invokevirtual 154, 3), (8, .ifCond .ne 6, 3), (11, .ldc 158, 2), (13, .ireturn, 1), (14, .iconst 0, 1), (15, .istore_n 2, 1), (16, .iload_n 2, 1), (17, .bipush 99, 2), (19, .if_icmp .gt 29, 3), (22, .aload_n 0, 1), (23, .getfield 32, 3), (26, .aload_n 0, 1), (27, .getfield 63, 3), (30, .iload_n 1, 1), (31, .iload_n 2, 1), (32, .iconst 0, 1), (33, .invokevirtual 272, 3), (36, .iload_n 1, 1), (37, .if_icmp .ne 5, 3), (40, .iload_n 2, 1), (41, .ireturn, 1), (42, .iinc 2 1, 3), (45, .goto (-29), 3), (48, .iconst (-1), 1), (49, .ireturn, 1)]
def mX9_ground : MR := (yX9_ground, cX9_ground, 3, (some .int), 4, 89, tX9_ground)
theorem okX9_ground : TabOk mX9_ground := tab_ok (by decide +kernel)
def tX9_mist : List (Nat × Instr × Nat) := [(0, .iload_n 1, 1), (1, .ifCond .lt 19, 3), (4, .iload_n 1, 1), (5, .bipush 60, 2), (7, .if_icmp .gt 13, 3), (10, .iload_n 2, 1), (11, .ifCond .lt 9, 3), (14, .iload_n 2, 1), (15, .bipush 100, 2), (17, .if_icmp .le 6, 3), (20, .ldc 78, 2), (22, .ireturn, 1), (23, .ldc2_w 276, 3), (26, .lstore_n 3, 1), (27, .iconst 0, 1), (28, .istore 5, 2), (30, .iload 5, 2), (32, .iload_n 1, 1), (33, .if_icmp .ge 18, 3), (36, .lload_n 3, 1), (37, .iload_n 2, 1), (38, .i2l, 1), (39, .lmul, 1), (40, .ldc2_w 278, 3), (43, .ldiv, 1), (44, .lstore_n 3, 1), (45, .iinc 5 1, 3), (48, .goto (-18), 3), (51, .lload_n 3, 1), (52, .l2i, 1), (53, .ireturn, 1)]
def mX9_mist : MR := (yX9_mist, cX9_mist, 6, (some .int), 0, 0, tX9_mist)
theorem okX9_mist : TabOk mX9_mist := tab_ok (by decide +kernel)
def tX9_meet : List (Nat × Instr × Nat) := [(0, .aload_n 0, 1), (1, .getfield 63, 3), (4, .iload_n 1, 1), (5, .invokevirtual 154, 3), (8, .ifCond .ne 6, 3), (11, .ldc 158, 2), (13, .ireturn, 1), (14, .aload_n 0, 1), (15, .getfield 49, 3), (18, .getfield 151, 3), (21, .bipush 6, 2), (23, .if_icmp .lt 6, 3), (26, .ldc 82, 2), (28, .ireturn, 1), (29, .aload_n 0, 1), (30, .getfield 49, 3), (33, .iload_n 1, 1), (34, .iload_n 2, 1), (35, .invokevirtual 280, 3), (38, .aload_n 0, 1), (39, .getfield 49, 3), (42, .getfield 151, 3), (45, .ireturn, 1)]
def mX9_meet : MR := (yX9_meet, cX9_meet, 3, (some .int), 1, 22, tX9_meet)
theorem okX9_meet : TabOk mX9_meet := tab_ok (by decide +kernel)
def tX9_couldBe : List (Nat × Instr × Nat) := [(0, .iconst 0, 1), (1, .istore_n 1, 1), (2, .iconst 0, 1), (3, .istore_n 2, 1), (4, .iload_n 2, 1), (5, .aload_n 0, 1), (6, .getfield 63, 3), (9, .getfield 107, 3), (12, .if_icmp .ge 30, 3), (15, .aload_n 0, 1), (16, .getfield 49, 3), (19, .aload_n 0, 1), (20, .iload_n 2, 1), (21, .invokevirtual 190, 3), (24, .invokevirtual 284, 3), (27, .ifCond .eq 9, 3), (30, .iload_n 1, 1), (31, .iconst 1, 1), (32, .iload_n 2, 1), (33, .ishl, 1), (34, .ior, 1), (35, .istore_n 1, 1), (36, .iinc 2 1, 3), (39, .goto (-35), 3), (42, .iload_n 1, 1), (43, .ireturn, 1)]
def mX9_couldBe : MR := (yX9_couldBe, cX9_couldBe, 3, (some .int), 5, 110, tX9_couldBe)
theorem okX9_couldBe : TabOk mX9_couldBe := tab_ok (by decide +kernel)
def tX9_ask : List (Nat × Instr × Nat) := [(0, .aload_n 0, 1), (1, .invokevirtual 287, 3), (4, .istore_n 1, 1), (5, .iload_n 1, 1), (6, .invokestatic 251, 3), (9, .istore_n 2, 1), (10, .iconst (-1), 1), (11, .istore_n 3, 1), (12, .iload_n 2, 1), (13, .istore 4, 2), (15, .iconst 0, 1), (16, .istore 5, 2), (18, .iload 5, 2), (20, .aload_n 0, 1), (21, .getfield 63, 3), (24, .getfield 107, 3), (27, .if_icmp .ge 47, 3), (30, .iload_n 1, 1), (31, .aload_n 0, 1), (32, .iload 5, 2), (34, .invokevirtual 169, 3), (37, .iand, 1), (38, .invokestatic 251, 3), (41, .istore 6, 2), (43, .iload 6, 2), (45, .iload_n 2, 1), (46, .iload 6, 2), (48, .isub, 1), (49, .invokestatic 290, 3), (52, .istore 7, 2), (54, .iload 7, 2), (56, .iload 4, 2), (58, .if_icmp .ge 10, 3), (61, .iload 7, 2), (63, .istore 4, 2), (65, .iload 5, 2), (67, .istore_n 3, 1), (68, .iinc 5 1, 3), (71, .goto (-53), 3), (74, .iload_n 3, 1), (75, .ireturn, 1)]
def mX9_ask : MR := (yX9_ask, cX9_ask, 8, (some .int), 6, 133, tX9_ask)
theorem okX9_ask : TabOk mX9_ask := tab_ok (by decide +kernel)
def tX9_write : List (Nat × Instr × Nat) := [(0, .aload_n 0, 1), (1, .getfield 63, 3), (4, .iload_n 1, 1), (5, .invokevirtual 154, 3), (8, .ifCond .eq 14, 3), (11, .aload_n 0, 1), (12, .getfield 63, 3), (15, .iload_n 2, 1), (16, .invokevirtual 154, 3), (19, .ifCond .ne 6, 3), (22, .ldc 158, 2), (24, .ireturn, 1), (25, .aload_n 0, 1), (26, .getfield 56, 3), (29, .getfield 152, 3), (32, .bipush 20, 2), (34, .if_icmp .lt 6, 3), (37, .ldc 82, 2), (39, .ireturn, 1), (40, .aload_n 0, 1), (41, .getfield 56, 3), (44, .iload_n 1, 1), (45, .iload_n 2, 1), (46, .invokevirtual 295, 3), (49, .aload_n 0, 1), (50, .getfield 56, 3), (53, .getfield 152, 3), (56, .ireturn, 1)]
def mX9_write : MR := (yX9_write, cX9_write, 3, (some .int), 1, 22, tX9_write)
theorem okX9_write : TabOk mX9_write := tab_ok (by decide +kernel)
def tX9_judge : List (Nat × Instr × Nat) := [(0, .iconst 0, 1), (1, .istore_n 1, 1), (2, .iload_n 1, 1), (3, .aload_n 0, 1), (4, .getfield 56, 3), (7, .getfield 152, 3), (10, .if_icmp .ge 42, 3), (13, .iload_n 1, 1), (14, .bipush 20, 2), (16, .if_icmp .ge 36, 3), (19, .aload_n 0, 1), (20, .aload_n 0, 1), (21, .getfield 56, 3), (24, .getfield 298, 3), (27, .iload_n 1, 1), (28, .iaload, 1), (29, .invokevirtual 190, 3), (32, .aload_n 0, 1), (33, .getfield 56, 3), (36, .getfield 300, 3), (39, .iload_n 1, 1), (40, .iaload, 1), (41, .if_icmp .eq 5, 3), (44, .iload_n 1, 1), (45, .ireturn, 1), (46, .iinc 1 1, 3), (49, .goto (-47), 3), (52, .iconst (-1), 1), (53, .ireturn, 1)]
def mX9_judge : MR := (yX9_judge, cX9_judge, 2, (some .int), 5, 110, tX9_judge)
theorem okX9_judge : TabOk mX9_judge := tab_ok (by decide +kernel)
def tX9_tear : List (Nat × Instr × Nat) := [(0, .aload_n 0, 1), (1, .getfield 49, 3), (4, .getfield 151, 3), (7, .aload_n 0, 1), (8, .getfield 56, 3), (11, .getfield 152, 3), (14, .iadd, 1), (15, .istore_n 1, 1), (16, .aload_n 0, 1), (17, .getfield 49, 3), (20, .invokevirtual 105, 3), (23, .aload_n 0, 1), (24, .getfield 56, 3), (27, .invokevirtual 106, 3), (30, .iload_n 1, 1), (31, .ireturn, 1)]
def mX9_tear : MR := (yX9_tear, cX9_tear, 2, (some .int), 1, 20, tX9_tear)
theorem okX9_tear : TabOk mX9_tear := tab_ok (by decide +kernel)
def tX9_seed : List (Nat × Instr × Nat) := [(0, .iload_n 1, 1), (1, .ifCond .ge 6, 3), (4, .ldc 78, 2), (6, .ireturn, 1), (7, .aload_n 0, 1), (8, .getfield 74, 3), (11, .istore_n 2, 1), (12, .aload_n 0, 1), (13, .iload_n 1, 1), (14, .putfield 74, 3), (17, .iload_n 2, 1), (18, .ireturn, 1)]
def mX9_seed : MR := (yX9_seed, cX9_seed, 3, (some .int), 0, 0, tX9_seed)
theorem okX9_seed : TabOk mX9_seed := tab_ok (by decide +kernel)
def tX9_keep : List (Nat × Instr × Nat) := [(0, .iload_n 1, 1), (1, .ifCond .lt 8, 3), (4, .iload_n 1, 1), (5, .iconst 2, 1), (6, .if_icmp .lt 6, 3), (9, .ldc 158, 2), (11, .ireturn, 1), (12, .aload_n 0, 1), (13, .getfield 25, 3), (16, .iload_n 1, 1), (17, .aaload, 1), (18, .getfield 303, 3), (21, .aload_n 0, 1), (22, .getfield 32, 3), (25, .invokevirtual 304, 3), (28, .aload_n 0, 1), (29, .getfield 25, 3), (32, .iload_n 1, 1), (33, .aaload, 1), (34, .aload_n 0, 1), (35, .getfield 74, 3), (38, .putfield 307, 3), (41, .aload_n 0, 1), (42, .getfield 25, 3), (45, .iload_n 1, 1), (46, .aaload, 1), (47, .iconst 1, 1), (48, .putfield 101, 3), (51, .aload_n 0, 1), (52, .getfield 19, 3), (55, .invokevirtual 98, 3), (58, .iconst 1, 1), (59, .ireturn, 1)]
def mX9_keep : MR := (yX9_keep, cX9_keep, 2, (some .int), 3, 60, tX9_keep)
theorem okX9_keep : TabOk mX9_keep := tab_ok (by decide +kernel)
def tX9_goBack : List (Nat × Instr × Nat) := [(0, .iload_n 1, 1), (1, .ifCond .lt 8, 3), (4, .iload_n 1, 1), (5, .iconst 2, 1), (6, .if_icmp .lt 6, 3), (9, .ldc 158, 2), (11, .ireturn, 1), (12, .aload_n 0, 1), (13, .getfield 25, 3), (16, .iload_n 1, 1), (17, .aaload, 1), (18, .getfield 101, 3), (21, .ifCond .ne 6, 3), (24, .ldc 220, 2), (26, .ireturn, 1), (27, .aload_n 0, 1), (28, .getfield 32, 3), (31, .aload_n 0, 1), (32, .getfield 25, 3), (35, .iload_n 1, 1), (36, .aaload, 1), (37, .getfield 303, 3), (40, .invokevirtual 304, 3), (43, .aload_n 0, 1), (44, .aload_n 0, 1), (45, .getfield 25, 3), (48, .iload_n 1, 1), (49, .aaload, 1), (50, .getfield 307, 3), (53, .putfield 74, 3), (56, .aload_n 0, 1), (57, .getfield 19, 3), (60, .invokevirtual 98, 3), (63, .iconst 1, 1), (64, .ireturn, 1)]
def mX9_goBack : MR := (yX9_goBack, cX9_goBack, 2, (some .int), 3, 60, tX9_goBack)
theorem okX9_goBack : TabOk mX9_goBack := tab_ok (by decide +kernel)
def tX9_isSetOf : List (Nat × Instr × Nat) := [(0, .iload_n 0, 1), (1, .ifCond .lt 13, 3), (4, .iload_n 0, 1), (5, .iload_n 1, 1), (6, .ishr, 1), (7, .ifCond .ne 7, 3), (10, .iconst 1, 1), (11, .goto 4, 3), (14, .iconst 0, 1), (15, .ireturn, 1)]
def mX9_isSetOf : MR := (yX9_isSetOf, cX9_isSetOf, 2, (some .boolean), 0, 0, tX9_isSetOf)
theorem okX9_isSetOf : TabOk mX9_isSetOf := tab_ok (by decide +kernel)
def tX9_refusalOfYears : List (Nat × Instr × Nat) := [(0, .iload_n 1, 1), (1, .iconst 1, 1), (2, .if_icmp .lt 9, 3), (5, .iload_n 1, 1), (6, .bipush 30, 2), (8, .if_icmp .le 6, 3), (11, .ldc 78, 2), (13, .ireturn, 1), (14, .aload_n 0, 1), (15, .getfield 63, 3), (18, .getfield 110, 3), (21, .ifCond .ne 6, 3), (24, .ldc 220, 2), (26, .ireturn, 1), (27, .aload_n 0, 1), (28, .getfield 32, 3), (31, .getfield 116, 3), (34, .ldc_w 308, 3), (37, .if_icmp .le 8, 3), (40, .ldc 82, 2), (42, .goto 4, 3), (45, .iconst 0, 1), (46, .ireturn, 1)]
def mX9_refusalOfYears : MR := (yX9_refusalOfYears, cX9_refusalOfYears, 2, (some .int), 0, 0, tX9_refusalOfYears)
theorem okX9_refusalOfYears : TabOk mX9_refusalOfYears := tab_ok (by decide +kernel)
def tX9_takenNow : List (Nat × Instr × Nat) := [(0, .aload_n 0, 1), (1, .getfield 32, 3), (4, .aload_n 0, 1), (5, .getfield 63, 3), (8, .iload_n 1, 1), (9, .iconst 0, 1), (10, .iconst 0, 1), (11, .invokevirtual 272, 3), (14, .ireturn, 1)]
def mX9_takenNow : MR := (yX9_takenNow, cX9_takenNow, 2, (some .int), 4, 89, tX9_takenNow)
theorem okX9_takenNow : TabOk mX9_takenNow := tab_ok (by decide +kernel)
def tX9_scenesTakenFor : List (Nat × Instr × Nat) := [(0, .iconst 0, 1), (1, .istore_n 2, 1), (2, .iconst 0, 1), (3, .istore_n 3, 1), (4, .iload_n 3, 1), (5, .aload_n 0, 1), (6, .getfield 63, 3), (9, .getfield 107, 3), (12, .if_icmp .ge 24, 3), (15, .aload_n 0, 1), (16, .iload_n 3, 1), (17, .invokevirtual 190, 3), (20, .iload_n 1, 1), (21, .if_icmp .ne 9, 3), (24, .iload_n 2, 1), (25, .iconst 1, 1), (26, .iload_n 3, 1), (27, .ishl, 1), (28, .ior, 1), (29, .istore_n 2, 1), (30, .iinc 3 1, 3), (33, .goto (-29), 3), (36, .iload_n 2, 1), (37, .ireturn, 1)]
def mX9_scenesTakenFor : MR := (yX9_scenesTakenFor, cX9_scenesTakenFor, 4, (some .int), 5, 110, tX9_scenesTakenFor)
theorem okX9_scenesTakenFor : TabOk mX9_scenesTakenFor := tab_ok (by decide +kernel)
def tX9_scenesOfAll : List (Nat × Instr × Nat) := [(0, .aload_n 0, 1), (1, .getfield 63, 3), (4, .getfield 113, 3), (7, .ifCond .ne 5, 3), (10, .iconst 0, 1), (11, .ireturn, 1), (12, .aload_n 0, 1), (13, .getfield 32, 3), (16, .iconst 0, 1), (17, .invokevirtual 181, 3), (20, .istore_n 1, 1), (21, .iconst 1, 1), (22, .istore_n 2, 1), (23, .iload_n 2, 1), (24, .aload_n 0, 1), (25, .getfield 63, 3), (28, .getfield 113, 3), (31, .if_icmp .ge 20, 3), (34, .iload_n 1, 1), (35, .aload_n 0, 1), (36, .getfield 32, 3), (39, .iload_n 2, 1), (40, .invokevirtual 181, 3), (43, .iand, 1), (44, .istore_n 1, 1), (45, .iinc 2 1, 3), (48, .goto (-25), 3), (51, .iload_n 1, 1), (52, .ireturn, 1)]
def mX9_scenesOfAll : MR := (yX9_scenesOfAll, cX9_scenesOfAll, 3, (some .int), 1, 23, tX9_scenesOfAll)
theorem okX9_scenesOfAll : TabOk mX9_scenesOfAll := tab_ok (by decide +kernel)
def tX9_kinOf : List (Nat × Instr × Nat) := [(0, .aload_n 0, 1), (1, .getfield 32, 3), (4, .iload_n 1, 1), (5, .invokevirtual 181, 3), (8, .istore_n 2, 1), (9, .iconst (-1), 1), (10, .istore_n 3, 1), (11, .iconst 0, 1), (12, .istore 4, 2), (14, .iconst 0, 1), (15, .istore 5, 2), (17, .iload 5, 2), (19, .aload_n 0, 1), (20, .getfield 63, 3), (23, .getfield 113, 3), (26, .if_icmp .ge 45, 3), (29, .iload_n 2, 1), (30, .aload_n 0, 1), (31, .getfield 32, 3), (34, .iload 5, 2), (36, .invokevirtual 181, 3), (39, .iand, 1), (40, .invokestatic 251, 3), (43, .istore 6, 2), (45, .iload 5, 2), (47, .iload_n 1, 1), (48, .if_icmp .eq 17, 3), (51, .iload 6, 2), (53, .iload 4, 2), (55, .if_icmp .le 10, 3), (58, .iload 6, 2), (60, .istore 4, 2), (62, .iload 5, 2), (64, .istore_n 3, 1), (65, .iinc 5 1, 3), (68, .goto (-51), 3), (71, .iload_n 3, 1), (72, .ireturn, 1)]
def mX9_kinOf : MR := (yX9_kinOf, cX9_kinOf, 7, (some .int), 1, 23, tX9_kinOf)
theorem okX9_kinOf : TabOk mX9_kinOf := tab_ok (by decide +kernel)
def tX9_areSeenWithout : List (Nat × Instr × Nat) := [(0, .iconst 0, 1), (1, .istore_n 3, 1), (2, .iload_n 3, 1), (3, .aload_n 0, 1), (4, .getfield 63, 3), (7, .getfield 107, 3), (10, .if_icmp .ge 38, 3), (13, .iload_n 1, 1), (14, .iload_n 3, 1), (15, .ishr, 1), (16, .iconst 1, 1), (17, .iand, 1), (18, .iconst 1, 1), (19, .if_icmp .ne 23, 3), (22, .aload_n 0, 1), (23, .getfield 32, 3), (26, .aload_n 0, 1), (27, .getfield 63, 3), (30, .iload_n 3, 1), (31, .iconst 0, 1), (32, .iload_n 2, 1), (33, .invokevirtual 272, 3), (36, .iload_n 3, 1), (37, .if_icmp .eq 5, 3), (40, .iconst 0, 1), (41, .ireturn, 1), (42, .iinc 3 1, 3), (45, .goto (-43), 3), (48, .iconst 1, 1), (49, .ireturn, 1)]
def mX9_areSeenWithout : MR := (yX9_areSeenWithout, cX9_areSeenWithout, 4, (some .boolean), 4, 89, tX9_areSeenWithout)
theorem okX9_areSeenWithout : TabOk mX9_areSeenWithout := tab_ok (by decide +kernel)
def tX9_tryYears : List (Nat × Instr × Nat) := [(0, .aload_n 0, 1), (1, .getfield 36, 3), (4, .aload_n 0, 1), (5, .getfield 32, 3), (8, .invokevirtual 238, 3), (11, .iconst 0, 1), (12, .istore_n 2, 1), (13, .iload_n 2, 1), (14, .iload_n 1, 1), (15, .if_icmp .ge 20, 3), (18, .aload_n 0, 1), (19, .getfield 36, 3), (22, .aload_n 0, 1), (23, .getfield 63, 3), (26, .invokevirtual 216, 3), (29, .iinc 2 1, 3), (32, .goto (-19), 3), (35, .return_, 1)]
def mX9_tryYears : MR := (yX9_tryYears, cX9_tryYears, 3, none, 5, 112, tX9_tryYears)
theorem okX9_tryYears : TabOk mX9_tryYears := tab_ok (by decide +kernel)
def tX9_darkBehindTurns : List (Nat × Instr × Nat) := [(0, .aload_n 0, 1), (1, .getfield 36, 3), (4, .aload_n 0, 1), (5, .getfield 32, 3), (8, .invokevirtual 238, 3), (11, .iconst 0, 1), (12, .istore_n 1, 1), (13, .iload_n 1, 1), (14, .aload_n 0, 1), (15, .getfield 42, 3), (18, .getfield 309, 3), (21, .if_icmp .ge 41, 3), (24, .iload_n 1, 1), (25, .iconst 5, 1), (26, .if_icmp .ge 36, 3), (29, .aload_n 0, 1), (30, .getfield 36, 3), (33, .aload_n 0, 1), (34, .getfield 42, 3), (37, .getfield 310, 3), (40, .iload_n 1, 1), (41, .iaload, 1), (42, .putfield 119, 3), (45, .aload_n 0, 1), (46, .getfield 36, 3), (49, .aload_n 0, 1), (50, .getfield 63, 3), (53, .invokevirtual 216, 3), (56, .iinc 1 1, 3), (59, .goto (-46), 3), (62, .aload_n 0, 1), (63, .getfield 36, 3), (66, .invokevirtual 125, 3), (69, .ireturn, 1)]
def mX9_darkBehindTurns : MR := (yX9_darkBehindTurns, cX9_darkBehindTurns, 2, (some .int), 5, 112, tX9_darkBehindTurns)
theorem okX9_darkBehindTurns : TabOk mX9_darkBehindTurns := tab_ok (by decide +kernel)
def tX9_drawOf : List (Nat × Instr × Nat) := [(0, .aload_n 0, 1), (1, .aload_n 0, 1), (2, .getfield 74, 3), (5, .i2l, 1), (6, .ldc2_w 313, 3), (9, .lmul, 1), (10, .ldc2_w 315, 3), (13, .ladd, 1), (14, .ldc2_w 317, 3), (17, .lrem, 1), (18, .l2i, 1), (19, .putfield 74, 3), (22, .iload_n 1, 1), (23, .ifCond .le 16, 3), (26, .aload_n 0, 1), (27, .getfield 74, 3), (30, .ldc_w 319, 3), (33, .idiv, 1), (34, .iload_n 1, 1), (35, .irem, 1), (36, .goto 4, 3), (39, .iconst 0, 1), (40, .ireturn, 1)]
def mX9_drawOf : MR := (yX9_drawOf, cX9_drawOf, 2, (some .int), 0, 0, tX9_drawOf)
theorem okX9_drawOf : TabOk mX9_drawOf := tab_ok (by decide +kernel)
def tX9_doByDraw : List (Nat × Instr × Nat) := [(0, .aload_n 0, 1), (1, .bipush 8, 2), (3, .invokevirtual 320, 3), (6, .istore_n 1, 1), (7, .iload_n 1, 1), (8, .ifCond .ne 34, 3), (11, .aload_n 0, 1), (12, .getfield 63, 3), (15, .getfield 113, 3), (18, .ifCond .le 24, 3), (21, .aload_n 0, 1), (22, .getfield 32, 3), (25, .aload_n 0, 1), (26, .aload_n 0, 1), (27, .getfield 63, 3), (30, .getfield 113, 3), (33, .invokevirtual 320, 3), (36, .putfield 119, 3), (39, .goto 99, 3), (42, .iload_n 1, 1), (43, .iconst 1, 1), (44, .if_icmp .ne 34, 3), (47, .aload_n 0, 1), (48, .getfield 32, 3), (51, .getfield 122, 3), (54, .ifCond .le 24, 3), (57, .aload_n 0, 1), (58, .getfield 32, 3), (61, .aload_n 0, 1), (62, .aload_n 0, 1), (63, .getfield 32, 3), (66, .getfield 122, 3), (69, .invokevirtual 320, 3), (72, .invokevirtual 221, 3), (75, .goto 63, 3), (78, .iload_n 1, 1), (79, .iconst 2, 1), (80, .if_icmp .ne 45, 3), (83, .aload_n 0, 1), (84, .getfield 63, 3), (87, .getfield 107, 3), (90, .ifCond .le 35, 3), (93, .aload_n 0, 1), (94, .aload_n 0, 1), (95, .getfield 63, 3), (98, .getfield 107, 3), (101, .invokevirtual 320, 3), (104, .istore_n 2, 1), (105, .aload_n 0, 1), (106, .getfield 32, 3), (109, .iload_n 2, 1), (110, .iconst (-1), 1), (111, .aload_n 0, 1), (112, .bipush 30, 2), (114, .invokevirtual 320, 3), (117, .iconst 1, 1), (118, .iadd, 1), (119, .invokevirtual 224, 3), (122, .goto 16, 3), (125, .iload_n 1, 1), (126, .iconst 3, 1), (127, .if_icmp .ne 11, 3), (130, .aload_n 0, 1), (131, .getfield 32, 3), (134, .iconst (-1), 1), (135, .putfield 119, 3), (138, .return_, 1)]
def mX9_doByDraw : MR := (yX9_doByDraw, cX9_doByDraw, 3, none, 3, 66, tX9_doByDraw)
theorem okX9_doByDraw : TabOk mX9_doByDraw := tab_ok (by decide +kernel)
def tJ6_bitCount_0f7a4 : List (Nat × Instr × Nat) := [(0, .iload_n 0, 1), (1, .iload_n 0, 1), (2, .iconst 1, 1), (3, .iushr, 1), (4, .ldc_w 265, 3), (7, .iand, 1), (8, .isub, 1), (9, .istore_n 0, 1), (10, .iload_n 0, 1), (11, .ldc_w 266, 3), (14, .iand, 1), (15, .iload_n 0, 1), (16, .iconst 2, 1), (17, .iushr, 1), (18, .ldc_w 266, 3), (21, .iand, 1), (22, .iadd, 1), (23, .istore_n 0, 1), (24, .iload_n 0, 1), (25, .iload_n 0, 1), (26, .iconst 4, 1), (27, .iushr, 1), (28, .iadd, 1), (29, .ldc_w 267, 3), (32, .iand, 1), (33, .istore_n 0, 1), (34, .iload_n 0, 1), (35, .iload_n 0, 1), (36, .bipush 8, 2), (38, .iushr, 1), (39, .iadd, 1), (40, .istore_n 0, 1), (41, .iload_n 0, 1), (42, .iload_n 0, 1), (43, .bipush 16, 2), (45, .iushr, 1), (46, .iadd, 1), (47, .istore_n 0, 1), (48, .iload_n 0, 1), (49, .bipush 63, 2), (51, .iand, 1), (52, .ireturn, 1)]
def mJ6_bitCount_0f7a4 : MR := (yJ6_bitCount_0f7a4, cJ6_bitCount_0f7a4, 1, (some .int), 0, 0, tJ6_bitCount_0f7a4)
theorem okJ6_bitCount_0f7a4 : TabOk mJ6_bitCount_0f7a4 := tab_ok (by decide +kernel)
def tJ9_max_7cf53 : List (Nat × Instr × Nat) := [(0, .iload_n 0, 1), (1, .iload_n 1, 1), (2, .if_icmp .lt 7, 3), (5, .iload_n 0, 1), (6, .goto 4, 3), (9, .iload_n 1, 1), (10, .ireturn, 1)]
def mJ9_max_7cf53 : MR := (yJ9_max_7cf53, cJ9_max_7cf53, 2, (some .int), 0, 0, tJ9_max_7cf53)
theorem okJ9_max_7cf53 : TabOk mJ9_max_7cf53 := tab_ok (by decide +kernel)
def tJ9_min_7cf53 : List (Nat × Instr × Nat) := [(0, .iload_n 0, 1), (1, .iload_n 1, 1), (2, .if_icmp .gt 7, 3), (5, .iload_n 0, 1), (6, .goto 4, 3), (9, .iload_n 1, 1), (10, .ireturn, 1)]
def mJ9_min_7cf53 : MR := (yJ9_min_7cf53, cJ9_min_7cf53, 2, (some .int), 0, 0, tJ9_min_7cf53)
theorem okJ9_min_7cf53 : TabOk mJ9_min_7cf53 := tab_ok (by decide +kernel)
end
section
def tX10_init : List (Nat × Instr × Nat) := [(0, .aload_n 0, 1), (1, .invokespecial 1, 3), (4, .aload_n 0, 1), (5, .bipush 61, 2), (7, .newarray .int, 2), (9, .putfield 7, 3), (12, .aload_n 0, 1), (13, .bipush 61, 2), (15, .newarray .int, 2), (17, .putfield 13, 3), (20, .aload_n 0, 1), (21, .bipush 120, 2), (23, .newarray .int, 2), (25, .putfield 16, 3), (28, .aload_n 0, 1), (29, .bipush 120, 2), (31, .newarray .int, 2), (33, .putfield 19, 3), (36, .aload_n 0, 1), (37, .sipush 3600, 3), (40, .newarray .int, 2), (42, .putfield 22, 3), (45, .aload_n 0, 1), (46, .sipush 242, 3), (49, .newarray .int, 2), (51, .putfield 25, 3), (54, .aload_n 0, 1), (55, .iconst 2, 1), (56, .newarray .boolean, 2), (58, .putfield 28, 3), (61, .aload_n 0, 1), (62, .sipush 240, 3), (65, .newarray .int, 2), (67, .putfield 32, 3), (70, .aload_n 0, 1), (71, .iconst (-1), 1), (72, .putfield 35, 3), (75, .aload_n 0, 1), (76, .bipush 12, 2), (78, .newarray .int, 2), (80, .putfield 39, 3), (83, .aload_n 0, 1), (84, .bipush 40, 2), (86, .newarray .int, 2), (88, .putfield 42, 3), (91, .aload_n 0, 1), (92, .bipush 6, 2), (94, .newarray .int, 2), (96, .putfield 45, 3), (99, .aload_n 0, 1), (100, .getfield 16, 3), (103, .bipush 31, 2), (105, .iconst (-1), 1), (106, .iastore, 1), (107, .return_, 1)]
def mX10_init : MR := (yX10_init, cX10_init, 1, none, 1, 20, tX10_init)
theorem okX10_init : TabOk mX10_init := tab_ok (by decide +kernel)
def tX10_in : List (Nat × Instr × Nat) := [(0, .lload_n 0, 1), (1, .lload_n 2, 1), (2, .lcmp, 1), (3, .ifCond .lt 14, 3), (6, .lload_n 0, 1), (7, .lload 4, 2), (9, .lcmp, 1), (10, .ifCond .gt 7, 3), (13, .iconst 1, 1), (14, .goto 4, 3), (17, .iconst 0, 1), (18, .ireturn, 1)]
def mX10_in : MR := (yX10_in, cX10_in, 6, (some .boolean), 0, 0, tX10_in)
theorem okX10_in : TabOk mX10_in := tab_ok (by decide +kernel)
def tX10_has : List (Nat × Instr × Nat) := [(0, .iload_n 0, 1), (1, .iload_n 1, 1), (2, .ishr, 1), (3, .iconst 1, 1), (4, .iand, 1), (5, .iconst 1, 1), (6, .if_icmp .ne 7, 3), (9, .iconst 1, 1), (10, .goto 4, 3), (13, .iconst 0, 1), (14, .ireturn, 1)]
def mX10_has : MR := (yX10_has, cX10_has, 2, (some .boolean), 0, 0, tX10_has)
theorem okX10_has : TabOk mX10_has := tab_ok (by decide +kernel)
def tX10_bits : List (Nat × Instr × Nat) := [(0, .iconst 0, 1), (1, .istore_n 1, 1), (2, .iload_n 0, 1), (3, .istore_n 2, 1), (4, .iload_n 2, 1), (5, .ifCond .eq 15, 3), (8, .iinc 1 1, 3), (11, .iload_n 2, 1), (12, .iload_n 2, 1), (13, .iconst 1, 1), (14, .isub, 1), (15, .iand, 1), (16, .istore_n 2, 1), (17, .goto (-13), 3), (20, .iload_n 1, 1), (21, .ireturn, 1)]
def mX10_bits : MR := (yX10_bits, cX10_bits, 3, (some .int), 0, 0, tX10_bits)
theorem okX10_bits : TabOk mX10_bits := tab_ok (by decide +kernel)
def tX10_lesser : List (Nat × Instr × Nat) := [(0, .iload_n 0, 1), (1, .iload_n 1, 1), (2, .if_icmp .ge 7, 3), (5, .iload_n 0, 1), (6, .goto 4, 3), (9, .iload_n 1, 1), (10, .ireturn, 1)]
def mX10_lesser : MR := (yX10_lesser, cX10_lesser, 2, (some .int), 0, 0, tX10_lesser)
theorem okX10_lesser : TabOk mX10_lesser := tab_ok (by decide +kernel)
def tX10_greater : List (Nat × Instr × Nat) := [(0, .iload_n 0, 1), (1, .iload_n 1, 1), (2, .if_icmp .le 7, 3), (5, .iload_n 0, 1), (6, .goto 4, 3), (9, .iload_n 1, 1), (10, .ireturn, 1)]
def mX10_greater : MR := (yX10_greater, cX10_greater, 2, (some .int), 0, 0, tX10_greater)
theorem okX10_greater : TabOk mX10_greater := tab_ok (by decide +kernel)
def tX10_copies : List (Nat × Instr × Nat) := [(0, .iconst 0, 1), (1, .istore 5, 2), (3, .iload 5, 2), (5, .iload 4, 2), (7, .if_icmp .ge 21, 3), (10, .aload_n 2, 1), (11, .iload_n 3, 1), (12, .iload 5, 2), (14, .iadd, 1), (15, .aload_n 0, 1), (16, .iload_n 1, 1), (17, .iload 5, 2), (19, .iadd, 1), (20, .iaload, 1), (21, .iastore, 1), (22, .iinc 5 1, 3), (25, .goto (-22), 3), (28, .return_, 1)]
def mX10_copies : MR := (yX10_copies, cX10_copies, 6, none, 0, 0, tX10_copies)
theorem okX10_copies : TabOk mX10_copies := tab_ok (by decide +kernel)
def tX10_begins : List (Nat × Instr × Nat) := [(0, .iconst 0, 1), (1, .istore_n 1, 1), (2, .iload_n 1, 1), (3, .bipush 120, 2), (5, .if_icmp .ge 16, 3), (8, .aload_n 0, 1), (9, .getfield 16, 3), (12, .iload_n 1, 1), (13, .iconst 0, 1), (14, .iastore, 1), (15, .iinc 1 1, 3), (18, .goto (-16), 3), (21, .aload_n 0, 1), (22, .getfield 16, 3), (25, .bipush 31, 2), (27, .iconst (-1), 1), (28, .iastore, 1), (29, .aload_n 0, 1), (30, .iconst 0, 1), (31, .putfield 48, 3), (34, .aload_n 0, 1), (35, .iconst 0, 1), (36, .putfield 51, 3), (39, .aload_n 0, 1), (40, .iconst 0, 1), (41, .putfield 54, 3), (44, .aload_n 0, 1), (45, .getfield 28, 3), (48, .iconst 0, 1), (49, .iconst 0, 1), (50, .bastore, 1), (51, .aload_n 0, 1), (52, .getfield 28, 3), (55, .iconst 1, 1), (56, .iconst 0, 1), (57, .bastore, 1), (58, .return_, 1)]
def mX10_begins : MR := (yX10_begins, cX10_begins, 2, none, 0, 0, tX10_begins)
theorem okX10_begins : TabOk mX10_begins := tab_ok (by decide +kernel)
def tX10_feed : List (Nat × Instr × Nat) := [(0, .iload_n 1, 1), (1, .i2l, 1), (2, .lconst 0, 1), (3, .ldc2_w 57, 3), (6, .invokestatic 59, 3), (9, .ifCond .ne 6, 3), (12, .ldc 63, 2), (14, .ireturn, 1), (15, .aload_n 0, 1), (16, .getfield 64, 3), (19, .sipush 240, 3), (22, .if_icmp .ne 6, 3), (25, .ldc 67, 2), (27, .ireturn, 1), (28, .aload_n 0, 1), (29, .getfield 32, 3), (32, .aload_n 0, 1), (33, .getfield 64, 3), (36, .iload_n 1, 1), (37, .iastore, 1), (38, .aload_n 0, 1), (39, .dup, 1), (40, .getfield 64, 3), (43, .iconst 1, 1), (44, .iadd, 1), (45, .putfield 64, 3), (48, .aload_n 0, 1), (49, .getfield 64, 3), (52, .ireturn, 1)]
def mX10_feed : MR := (yX10_feed, cX10_feed, 2, (some .int), 1, 25, tX10_feed)
theorem okX10_feed : TabOk mX10_feed := tab_ok (by decide +kernel)
def tX10_here : List (Nat × Instr × Nat) := [(0, .aload_n 0, 1), (1, .getfield 68, 3), (4, .aload_n 0, 1), (5, .getfield 64, 3), (8, .if_icmp .ge 15, 3), (11, .aload_n 0, 1), (12, .getfield 32, 3), (15, .aload_n 0, 1), (16, .getfield 68, 3), (19, .iaload, 1), (20, .goto 4, 3), (23, .iconst (-1), 1), (24, .ireturn, 1)]
def mX10_here : MR := (yX10_here, cX10_here, 1, (some .int), 0, 0, tX10_here)
theorem okX10_here : TabOk mX10_here := tab_ok (by decide +kernel)
def tX10_step : List (Nat × Instr × Nat) := [(0, .aload_n 0, 1), (1, .invokevirtual 71, 3), (4, .bipush 32, 2), (6, .if_icmp .ne 16, 3), (9, .aload_n 0, 1), (10, .dup, 1), (11, .getfield 68, 3), (14, .iconst 1, 1), (15, .iadd, 1), (16, .putfield 68, 3), (19, .goto (-19), 3), (22, .aload_n 0, 1), (23, .aload_n 0, 1), (24, .getfield 68, 3), (27, .putfield 75, 3), (30, .aload_n 0, 1), (31, .aload_n 0, 1), (32, .invokevirtual 71, 3), (35, .putfield 78, 3), (38, .aload_n 0, 1), (39, .iconst 0, 1), (40, .putfield 81, 3), (43, .aload_n 0, 1), (44, .iconst 0, 1), (45, .putfield 84, 3), (48, .aload_n 0, 1), (49, .getfield 78, 3), (52, .i2l, 1), (53, .ldc2_w 87, 3), (56, .ldc2_w 89, 3), (59, .invokestatic 59, 3), (62, .ifCond .ne 25, 3), (65, .aload_n 0, 1), (66, .dup, 1), (67, .getfield 68, 3), (70, .aload_n 0, 1), (71, .getfield 78, 3), (74, .ifCond .ge 7, 3), (77, .iconst 0, 1), (78, .goto 4, 3), (81, .iconst 1, 1), (82, .iadd, 1), (83, .putfield 68, 3), (86, .return_, 1), (87, .aload_n 0, 1), (88, .bipush 48, 2), (90, .putfield 78, 3), (93, .aload_n 0, 1), (94, .invokevirtual 71, 3), (97, .i2l, 1), (98, .ldc2_w 87, 3), (101, .ldc2_w 89, 3), (104, .invokestatic 59, 3), (107, .ifCond .eq 60, 3), (110, .aload_n 0, 1), (111, .aload_n 0, 1), (112, .getfield 81, 3), (115, .iconst 3, 1), (116, .if_icmp .ge 21, 3), (119, .bipush 10, 2), (121, .aload_n 0, 1), (122, .getfield 84, 3), (125, .imul, 1), (126, .aload_n 0, 1), (127, .invokevirtual 71, 3), (130, .iadd, 1), (131, .bipush 48, 2), (133, .isub, 1), (134, .goto 7, 3), (137, .aload_n 0, 1), (138, .getfield 84, 3), (141, .putfield 84, 3), (144, .aload_n 0, 1), (145, .dup, 1), (146, .getfield 81, 3), (149, .iconst 1, 1), (150, .iadd, 1), (151, .putfield 81, 3), (154, .aload_n 0, 1), (155, .dup, 1), (156, .getfield 68, 3), (159, .iconst 1, 1), (160, .iadd, 1), (161, .putfield 68, 3), (164, .goto (-71), 3), (167, .return_, 1)]
def mX10_step : MR := (yX10_step, cX10_step, 1, none, 1, 25, tX10_step)
theorem okX10_step : TabOk mX10_step := tab_ok (by decide +kernel)
def tX10_fails : List (Nat × Instr × Nat) := [(0, .aload_n 0, 1), (1, .iload_n 1, 1), (2, .putfield 91, 3), (5, .iconst 0, 1), (6, .ireturn, 1)]
def mX10_fails : MR := (yX10_fails, cX10_fails, 2, (some .boolean), 0, 0, tX10_fails)
theorem okX10_fails : TabOk mX10_fails := tab_ok (by decide +kernel)
def tX10_number : List (Nat × Instr × Nat) := [(0, .aload_n 0, 1), (1, .invokevirtual 94, 3), (4, .aload_n 0, 1), (5, .getfield 78, 3), (8, .bipush 48, 2), (10, .if_icmp .eq 9, 3), (13, .aload_n 0, 1), (14, .iconst 1, 1), (15, .invokevirtual 97, 3), (18, .ireturn, 1), (19, .aload_n 0, 1), (20, .getfield 81, 3), (23, .iconst 3, 1), (24, .if_icmp .gt 18, 3), (27, .aload_n 0, 1), (28, .getfield 84, 3), (31, .i2l, 1), (32, .iload_n 2, 1), (33, .i2l, 1), (34, .iload_n 3, 1), (35, .i2l, 1), (36, .invokestatic 59, 3), (39, .ifCond .ne 9, 3), (42, .aload_n 0, 1), (43, .iconst 2, 1), (44, .invokevirtual 97, 3), (47, .ireturn, 1), (48, .aload_n 0, 1), (49, .getfield 13, 3), (52, .iload_n 1, 1), (53, .aload_n 0, 1), (54, .getfield 84, 3), (57, .iastore, 1), (58, .iconst 1, 1), (59, .ireturn, 1)]
def mX10_number : MR := (yX10_number, cX10_number, 4, (some .boolean), 2, 45, tX10_number)
theorem okX10_number : TabOk mX10_number := tab_ok (by decide +kernel)
def tX10_ends : List (Nat × Instr × Nat) := [(0, .aload_n 0, 1), (1, .invokevirtual 94, 3), (4, .aload_n 0, 1), (5, .getfield 78, 3), (8, .bipush 59, 2), (10, .if_icmp .eq 11, 3), (13, .aload_n 0, 1), (14, .iconst 1, 1), (15, .invokevirtual 97, 3), (18, .ifCond .eq 7, 3), (21, .iconst 1, 1), (22, .goto 4, 3), (25, .iconst 0, 1), (26, .ireturn, 1)]
def mX10_ends : MR := (yX10_ends, cX10_ends, 1, (some .boolean), 2, 45, tX10_ends)
theorem okX10_ends : TabOk mX10_ends := tab_ok (by decide +kernel)
def tX10_readsScene : List (Nat × Instr × Nat) := [(0, .aload_n 0, 1), (1, .getfield 13, 3), (4, .iconst 1, 1), (5, .iaload, 1), (6, .istore_n 1, 1), (7, .iload_n 1, 1), (8, .bipush 8, 2), (10, .if_icmp .ne 9, 3), (13, .aload_n 0, 1), (14, .iconst 3, 1), (15, .invokevirtual 97, 3), (18, .ireturn, 1), (19, .aload_n 0, 1), (20, .getfield 13, 3), (23, .iconst 1, 1), (24, .dup2, 1), (25, .iaload, 1), (26, .iconst 1, 1), (27, .iadd, 1), (28, .iastore, 1), (29, .aload_n 0, 1), (30, .iconst 3, 1), (31, .iload_n 1, 1), (32, .iadd, 1), (33, .iconst 0, 1), (34, .iconst 3, 1), (35, .invokevirtual 101, 3), (38, .ifCond .eq 28, 3), (41, .aload_n 0, 1), (42, .bipush 11, 2), (44, .iload_n 1, 1), (45, .iadd, 1), (46, .iconst 1, 1), (47, .bipush 99, 2), (49, .invokevirtual 101, 3), (52, .ifCond .eq 14, 3), (55, .aload_n 0, 1), (56, .invokevirtual 105, 3), (59, .ifCond .eq 7, 3), (62, .iconst 1, 1), (63, .goto 4, 3), (66, .iconst 0, 1), (67, .ireturn, 1)]
def mX10_readsScene : MR := (yX10_readsScene, cX10_readsScene, 2, (some .boolean), 3, 68, tX10_readsScene)
theorem okX10_readsScene : TabOk mX10_readsScene := tab_ok (by decide +kernel)
def tX10_readsWearer : List (Nat × Instr × Nat) := [(0, .aload_n 0, 1), (1, .getfield 13, 3), (4, .iconst 2, 1), (5, .iaload, 1), (6, .istore_n 1, 1), (7, .iload_n 1, 1), (8, .bipush 6, 2), (10, .if_icmp .ne 9, 3), (13, .aload_n 0, 1), (14, .iconst 3, 1), (15, .invokevirtual 97, 3), (18, .ireturn, 1), (19, .aload_n 0, 1), (20, .getfield 13, 3), (23, .iconst 2, 1), (24, .dup2, 1), (25, .iaload, 1), (26, .iconst 1, 1), (27, .iadd, 1), (28, .iastore, 1), (29, .iconst 1, 1), (30, .istore_n 2, 1), (31, .iload_n 2, 1), (32, .ifCond .eq 94, 3), (35, .aload_n 0, 1), (36, .bipush 25, 2), (38, .bipush 6, 2), (40, .iload_n 1, 1), (41, .imul, 1), (42, .iadd, 1), (43, .aload_n 0, 1), (44, .getfield 13, 3), (47, .bipush 19, 2), (49, .iload_n 1, 1), (50, .iadd, 1), (51, .iaload, 1), (52, .iadd, 1), (53, .iconst 0, 1), (54, .aload_n 0, 1), (55, .getfield 13, 3), (58, .iconst 1, 1), (59, .iaload, 1), (60, .iconst 1, 1), (61, .isub, 1), (62, .invokevirtual 101, 3), (65, .ifCond .ne 5, 3), (68, .iconst 0, 1), (69, .ireturn, 1), (70, .aload_n 0, 1), (71, .getfield 13, 3), (74, .bipush 19, 2), (76, .iload_n 1, 1), (77, .iadd, 1), (78, .dup2, 1), (79, .iaload, 1), (80, .iconst 1, 1), (81, .iadd, 1), (82, .iastore, 1), (83, .aload_n 0, 1), (84, .invokevirtual 94, 3), (87, .aload_n 0, 1), (88, .getfield 78, 3), (91, .bipush 44, 2), (93, .if_icmp .ne 7, 3), (96, .iconst 1, 1), (97, .goto 4, 3), (100, .iconst 0, 1), (101, .istore_n 2, 1), (102, .iload_n 2, 1), (103, .ifCond .eq (-72), 3), (106, .aload_n 0, 1), (107, .getfield 13, 3), (110, .bipush 19, 2), (112, .iload_n 1, 1), (113, .iadd, 1), (114, .iaload, 1), (115, .bipush 6, 2), (117, .if_icmp .ne (-86), 3), (120, .aload_n 0, 1), (121, .iconst 1, 1), (122, .invokevirtual 97, 3), (125, .ireturn, 1), (126, .aload_n 0, 1), (127, .getfield 78, 3), (130, .bipush 59, 2), (132, .if_icmp .eq 11, 3), (135, .aload_n 0, 1), (136, .iconst 1, 1), (137, .invokevirtual 97, 3), (140, .ifCond .eq 7, 3), (143, .iconst 1, 1), (144, .goto 4, 3), (147, .iconst 0, 1), (148, .ireturn, 1)]
def mX10_readsWearer : MR := (yX10_readsWearer, cX10_readsWearer, 3, (some .boolean), 3, 68, tX10_readsWearer)
theorem okX10_readsWearer : TabOk mX10_readsWearer := tab_ok (by decide +kernel)
def tX10_readsClause : List (Nat × Instr × Nat) := [(0, .aload_n 0, 1), (1, .getfield 78, 3), (4, .bipush 99, 2), (6, .if_icmp .ne 44, 3), (9, .aload_n 0, 1), (10, .getfield 13, 3), (13, .iconst 0, 1), (14, .iaload, 1), (15, .ifCond .le 11, 3), (18, .aload_n 0, 1), (19, .iconst 3, 1), (20, .invokevirtual 97, 3), (23, .goto 26, 3), (26, .aload_n 0, 1), (27, .iconst 0, 1), (28, .iconst 1, 1), (29, .bipush 99, 2), (31, .invokevirtual 101, 3), (34, .ifCond .eq 14, 3), (37, .aload_n 0, 1), (38, .invokevirtual 105, 3), (41, .ifCond .eq 7, 3), (44, .iconst 1, 1), (45, .goto 4, 3), (48, .iconst 0, 1), (49, .ireturn, 1), (50, .aload_n 0, 1), (51, .getfield 13, 3), (54, .iconst 0, 1), (55, .iaload, 1), (56, .ifCond .ne 9, 3), (59, .aload_n 0, 1), (60, .iconst 1, 1), (61, .invokevirtual 97, 3), (64, .ireturn, 1), (65, .aload_n 0, 1), (66, .getfield 78, 3), (69, .lookupswitch 37 #[(115, 27), (119, 32)], 27), (96, .aload_n 0, 1), (97, .invokevirtual 109, 3), (100, .ireturn, 1), (101, .aload_n 0, 1), (102, .invokevirtual 112, 3), (105, .ireturn, 1), (106, .aload_n 0, 1), (107, .iconst 1, 1), (108, .invokevirtual 97, 3), (111, .ireturn, 1)]
def mX10_readsClause : MR := (yX10_readsClause, cX10_readsClause, 1, (some .boolean), 4, 90, tX10_readsClause)
theorem okX10_readsClause : TabOk mX10_readsClause := tab_ok (by decide +kernel)
def tX10_line : List (Nat × Instr × Nat) := [(0, .iconst 0, 1), (1, .istore_n 1, 1), (2, .iload_n 1, 1), (3, .bipush 61, 2), (5, .if_icmp .ge 16, 3), (8, .aload_n 0, 1), (9, .getfield 13, 3), (12, .iload_n 1, 1), (13, .iconst 0, 1), (14, .iastore, 1), (15, .iinc 1 1, 3), (18, .goto (-16), 3), (21, .aload_n 0, 1), (22, .iconst 0, 1), (23, .putfield 68, 3), (26, .aload_n 0, 1), (27, .iconst (-1), 1), (28, .putfield 35, 3), (31, .iconst 1, 1), (32, .istore_n 1, 1), (33, .aload_n 0, 1), (34, .invokevirtual 94, 3), (37, .aload_n 0, 1), (38, .getfield 78, 3), (41, .ifCond .lt 23, 3), (44, .iload_n 1, 1), (45, .ifCond .eq 19, 3), (48, .aload_n 0, 1), (49, .invokevirtual 115, 3), (52, .istore_n 1, 1), (53, .iload_n 1, 1), (54, .ifCond .eq (-17), 3), (57, .aload_n 0, 1), (58, .invokevirtual 94, 3), (61, .goto (-24), 3), (64, .aload_n 0, 1), (65, .iconst 0, 1), (66, .putfield 64, 3), (69, .iload_n 1, 1), (70, .ifCond .ne 19, 3), (73, .aload_n 0, 1), (74, .aload_n 0, 1), (75, .getfield 75, 3), (78, .putfield 35, 3), (81, .bipush (-10), 2), (83, .aload_n 0, 1), (84, .getfield 91, 3), (87, .isub, 1), (88, .ireturn, 1), (89, .aload_n 0, 1), (90, .getfield 13, 3), (93, .iconst 0, 1), (94, .aload_n 0, 1), (95, .getfield 7, 3), (98, .iconst 0, 1), (99, .bipush 61, 2), (101, .invokestatic 118, 3), (104, .aload_n 0, 1), (105, .invokevirtual 122, 3), (108, .aload_n 0, 1), (109, .getfield 7, 3), (112, .iconst 1, 1), (113, .iaload, 1), (114, .ireturn, 1)]
def mX10_line : MR := (yX10_line, cX10_line, 2, (some .int), 5, 110, tX10_line)
theorem okX10_line : TabOk mX10_line := tab_ok (by decide +kernel)
def tX10_fault : List (Nat × Instr × Nat) := [(0, .aload_n 0, 1), (1, .getfield 35, 3), (4, .ireturn, 1)]
def mX10_fault : MR := (yX10_fault, cX10_fault, 1, (some .int), 0, 0, tX10_fault)
theorem okX10_fault : TabOk mX10_fault := tab_ok (by decide +kernel)
def tX10_isScene : List (Nat × Instr × Nat) := [(0, .iload_n 1, 1), (1, .i2l, 1), (2, .lconst 0, 1), (3, .aload_n 0, 1), (4, .getfield 7, 3), (7, .iconst 1, 1), (8, .iaload, 1), (9, .iconst 1, 1), (10, .isub, 1), (11, .i2l, 1), (12, .invokestatic 59, 3), (15, .ireturn, 1)]
def mX10_isScene : MR := (yX10_isScene, cX10_isScene, 2, (some .boolean), 1, 25, tX10_isScene)
theorem okX10_isScene : TabOk mX10_isScene := tab_ok (by decide +kernel)
def tX10_isWearer : List (Nat × Instr × Nat) := [(0, .iload_n 1, 1), (1, .i2l, 1), (2, .lconst 0, 1), (3, .aload_n 0, 1), (4, .getfield 7, 3), (7, .iconst 2, 1), (8, .iaload, 1), (9, .iconst 1, 1), (10, .isub, 1), (11, .i2l, 1), (12, .invokestatic 59, 3), (15, .ireturn, 1)]
def mX10_isWearer : MR := (yX10_isWearer, cX10_isWearer, 2, (some .boolean), 1, 25, tX10_isWearer)
theorem okX10_isWearer : TabOk mX10_isWearer := tab_ok (by decide +kernel)
def tX10_isLayer : List (Nat × Instr × Nat) := [(0, .iload_n 1, 1), (1, .i2l, 1), (2, .lconst 0, 1), (3, .aload_n 0, 1), (4, .getfield 16, 3), (7, .iconst 0, 1), (8, .iaload, 1), (9, .iconst 1, 1), (10, .isub, 1), (11, .i2l, 1), (12, .invokestatic 59, 3), (15, .ireturn, 1)]
def mX10_isLayer : MR := (yX10_isLayer, cX10_isLayer, 2, (some .boolean), 1, 25, tX10_isLayer)
theorem okX10_isLayer : TabOk mX10_isLayer := tab_ok (by decide +kernel)
def tX10_half : List (Nat × Instr × Nat) := [(0, .iload_n 2, 1), (1, .aload_n 0, 1), (2, .getfield 7, 3), (5, .bipush 11, 2), (7, .iload_n 1, 1), (8, .iadd, 1), (9, .iaload, 1), (10, .iadd, 1), (11, .iconst 2, 1), (12, .idiv, 1), (13, .ireturn, 1)]
def mX10_half : MR := (yX10_half, cX10_half, 3, (some .int), 0, 0, tX10_half)
theorem okX10_half : TabOk mX10_half := tab_ok (by decide +kernel)
def tX10_takesBy : List (Nat × Instr × Nat) := [(0, .iconst (-1), 1), (1, .istore 5, 2), (3, .iconst 0, 1), (4, .istore 6, 2), (6, .iload 6, 2), (8, .aload_n 1, 1), (9, .iconst 0, 1), (10, .iaload, 1), (11, .if_icmp .ge 79, 3), (14, .iload_n 3, 1), (15, .iload 6, 2), (17, .invokestatic 125, 3), (20, .ifCond .ne 24, 3), (23, .aload_n 1, 1), (24, .bipush 21, 2), (26, .iload 6, 2), (28, .iadd, 1), (29, .iaload, 1), (30, .aload_n 0, 1), (31, .iload_n 2, 1), (32, .iload 4, 2), (34, .invokevirtual 129, 3), (37, .if_icmp .le 7, 3), (40, .iconst 1, 1), (41, .goto 4, 3), (44, .iconst 0, 1), (45, .istore 7, 2), (47, .iload 7, 2), (49, .ifCond .eq 31, 3), (52, .iload 5, 2), (54, .iconst (-1), 1), (55, .if_icmp .eq 20, 3), (58, .aload_n 1, 1), (59, .bipush 21, 2), (61, .iload 6, 2), (63, .iadd, 1), (64, .iaload, 1), (65, .aload_n 1, 1), (66, .bipush 21, 2), (68, .iload 5, 2), (70, .iadd, 1), (71, .iaload, 1), (72, .if_icmp .lt 8, 3), (75, .iload 6, 2), (77, .goto 5, 3), (80, .iload 5, 2), (82, .istore 5, 2), (84, .iinc 6 1, 3), (87, .goto (-81), 3), (90, .iload 5, 2), (92, .iconst (-1), 1), (93, .if_icmp .ne 7, 3), (96, .iload_n 2, 1), (97, .goto 9, 3), (100, .aload_n 1, 1), (101, .iconst 1, 1), (102, .iload 5, 2), (104, .iadd, 1), (105, .iaload, 1), (106, .ireturn, 1)]
def mX10_takesBy : MR := (yX10_takesBy, cX10_takesBy, 8, (some .int), 1, 22, tX10_takesBy)
theorem okX10_takesBy : TabOk mX10_takesBy := tab_ok (by decide +kernel)
def tX10_takesNow : List (Nat × Instr × Nat) := [(0, .aload_n 0, 1), (1, .aload_n 0, 1), (2, .getfield 16, 3), (5, .iload_n 1, 1), (6, .iconst 0, 1), (7, .aload_n 0, 1), (8, .getfield 7, 3), (11, .iconst 0, 1), (12, .iaload, 1), (13, .invokevirtual 133, 3), (16, .ireturn, 1)]
def mX10_takesNow : MR := (yX10_takesNow, cX10_takesNow, 2, (some .int), 2, 49, tX10_takesNow)
theorem okX10_takesNow : TabOk mX10_takesNow := tab_ok (by decide +kernel)
def tX10_strengthOn : List (Nat × Instr × Nat) := [(0, .iconst 0, 1), (1, .istore_n 3, 1), (2, .iconst 0, 1), (3, .istore 4, 2), (5, .iload 4, 2), (7, .aload_n 1, 1), (8, .iconst 0, 1), (9, .iaload, 1), (10, .if_icmp .ge 38, 3), (13, .iload_n 3, 1), (14, .iload_n 2, 1), (15, .iconst (-1), 1), (16, .if_icmp .eq 13, 3), (19, .aload_n 1, 1), (20, .iconst 1, 1), (21, .iload 4, 2), (23, .iadd, 1), (24, .iaload, 1), (25, .iload_n 2, 1), (26, .if_icmp .ne 13, 3), (29, .aload_n 1, 1), (30, .bipush 21, 2), (32, .iload 4, 2), (34, .iadd, 1), (35, .iaload, 1), (36, .goto 4, 3), (39, .iconst 0, 1), (40, .iadd, 1), (41, .istore_n 3, 1), (42, .iinc 4 1, 3), (45, .goto (-40), 3), (48, .iload_n 3, 1), (49, .ireturn, 1)]
def mX10_strengthOn : MR := (yX10_strengthOn, cX10_strengthOn, 5, (some .int), 0, 0, tX10_strengthOn)
theorem okX10_strengthOn : TabOk mX10_strengthOn := tab_ok (by decide +kernel)
def tX10_darkOn : List (Nat × Instr × Nat) := [(0, .aload_n 0, 1), (1, .aload_n 1, 1), (2, .iconst (-1), 1), (3, .invokevirtual 137, 3), (6, .bipush 10, 2), (8, .idiv, 1), (9, .ireturn, 1)]
def mX10_darkOn : MR := (yX10_darkOn, cX10_darkOn, 2, (some .int), 1, 24, tX10_darkOn)
theorem okX10_darkOn : TabOk mX10_darkOn := tab_ok (by decide +kernel)
def tX10_removes : List (Nat × Instr × Nat) := [(0, .iload_n 1, 1), (1, .istore_n 2, 1), (2, .iload_n 2, 1), (3, .aload_n 0, 1), (4, .iconst 0, 1), (5, .iaload, 1), (6, .iconst 1, 1), (7, .isub, 1), (8, .if_icmp .ge 49, 3), (11, .aload_n 0, 1), (12, .iconst 1, 1), (13, .iload_n 2, 1), (14, .iadd, 1), (15, .aload_n 0, 1), (16, .iconst 1, 1), (17, .iload_n 2, 1), (18, .iadd, 1), (19, .iconst 1, 1), (20, .iadd, 1), (21, .iaload, 1), (22, .iastore, 1), (23, .aload_n 0, 1), (24, .bipush 11, 2), (26, .iload_n 2, 1), (27, .iadd, 1), (28, .aload_n 0, 1), (29, .bipush 11, 2), (31, .iload_n 2, 1), (32, .iadd, 1), (33, .iconst 1, 1), (34, .iadd, 1), (35, .iaload, 1), (36, .iastore, 1), (37, .aload_n 0, 1), (38, .bipush 21, 2), (40, .iload_n 2, 1), (41, .iadd, 1), (42, .aload_n 0, 1), (43, .bipush 21, 2), (45, .iload_n 2, 1), (46, .iadd, 1), (47, .iconst 1, 1), (48, .iadd, 1), (49, .iaload, 1), (50, .iastore, 1), (51, .iinc 2 1, 3), (54, .goto (-52), 3), (57, .aload_n 0, 1), (58, .iconst 0, 1), (59, .dup2, 1), (60, .iaload, 1), (61, .iconst 1, 1), (62, .isub, 1), (63, .iastore, 1), (64, .return_, 1)]
def mX10_removes : MR := (yX10_removes, cX10_removes, 3, none, 0, 0, tX10_removes)
theorem okX10_removes : TabOk mX10_removes := tab_ok (by decide +kernel)
def tX10_lays : List (Nat × Instr × Nat) := [(0, .aload_n 0, 1), (1, .iconst 0, 1), (2, .iaload, 1), (3, .bipush 10, 2), (5, .if_icmp .ne 54, 3), (8, .iconst 0, 1), (9, .istore 4, 2), (11, .iconst 1, 1), (12, .istore 5, 2), (14, .iload 5, 2), (16, .bipush 10, 2), (18, .if_icmp .ge 35, 3), (21, .aload_n 0, 1), (22, .bipush 21, 2), (24, .iload 5, 2), (26, .iadd, 1), (27, .iaload, 1), (28, .aload_n 0, 1), (29, .bipush 21, 2), (31, .iload 4, 2), (33, .iadd, 1), (34, .iaload, 1), (35, .if_icmp .ge 8, 3), (38, .iload 5, 2), (40, .goto 5, 3), (43, .iload 4, 2), (45, .istore 4, 2), (47, .iinc 5 1, 3), (50, .goto (-36), 3), (53, .aload_n 0, 1), (54, .iload 4, 2), (56, .invokestatic 141, 3), (59, .aload_n 0, 1), (60, .iconst 0, 1), (61, .iaload, 1), (62, .istore 4, 2), (64, .aload_n 0, 1), (65, .iconst 1, 1), (66, .iload 4, 2), (68, .iadd, 1), (69, .iload_n 1, 1), (70, .iastore, 1), (71, .aload_n 0, 1), (72, .bipush 11, 2), (74, .iload 4, 2), (76, .iadd, 1), (77, .iload_n 2, 1), (78, .iastore, 1), (79, .aload_n 0, 1), (80, .bipush 21, 2), (82, .iload 4, 2), (84, .iadd, 1), (85, .iload_n 3, 1), (86, .iastore, 1), (87, .aload_n 0, 1), (88, .iconst 0, 1), (89, .dup2, 1), (90, .iaload, 1), (91, .iconst 1, 1), (92, .iadd, 1), (93, .iastore, 1), (94, .return_, 1)]
def mX10_lays : MR := (yX10_lays, cX10_lays, 6, none, 1, 22, tX10_lays)
theorem okX10_lays : TabOk mX10_lays := tab_ok (by decide +kernel)
def tX10_logs : List (Nat × Instr × Nat) := [(0, .aload_n 0, 1), (1, .bipush 39, 2), (3, .iaload, 1), (4, .bipush 20, 2), (6, .if_icmp .ne 43, 3), (9, .iconst 0, 1), (10, .istore 4, 2), (12, .iload 4, 2), (14, .bipush 76, 2), (16, .if_icmp .ge 25, 3), (19, .aload_n 0, 1), (20, .bipush 40, 2), (22, .iload 4, 2), (24, .iadd, 1), (25, .aload_n 0, 1), (26, .bipush 40, 2), (28, .iload 4, 2), (30, .iadd, 1), (31, .iconst 4, 1), (32, .iadd, 1), (33, .iaload, 1), (34, .iastore, 1), (35, .iinc 4 1, 3), (38, .goto (-26), 3), (41, .aload_n 0, 1), (42, .bipush 39, 2), (44, .dup2, 1), (45, .iaload, 1), (46, .iconst 1, 1), (47, .isub, 1), (48, .iastore, 1), (49, .bipush 40, 2), (51, .iconst 4, 1), (52, .aload_n 0, 1), (53, .bipush 39, 2), (55, .iaload, 1), (56, .imul, 1), (57, .iadd, 1), (58, .istore 4, 2), (60, .aload_n 0, 1), (61, .iload 4, 2), (63, .aload_n 0, 1), (64, .bipush 32, 2), (66, .iaload, 1), (67, .iastore, 1), (68, .aload_n 0, 1), (69, .iload 4, 2), (71, .iconst 1, 1), (72, .iadd, 1), (73, .iload_n 1, 1), (74, .iastore, 1), (75, .aload_n 0, 1), (76, .iload 4, 2), (78, .iconst 2, 1), (79, .iadd, 1), (80, .iload_n 2, 1), (81, .iastore, 1), (82, .aload_n 0, 1), (83, .iload 4, 2), (85, .iconst 3, 1), (86, .iadd, 1), (87, .iload_n 3, 1), (88, .iastore, 1), (89, .aload_n 0, 1), (90, .bipush 39, 2), (92, .dup2, 1), (93, .iaload, 1), (94, .iconst 1, 1), (95, .iadd, 1), (96, .iastore, 1), (97, .return_, 1)]
def mX10_logs : MR := (yX10_logs, cX10_logs, 5, none, 0, 0, tX10_logs)
theorem okX10_logs : TabOk mX10_logs := tab_ok (by decide +kernel)
def tX10_nextScene : List (Nat × Instr × Nat) := [(0, .aload_n 0, 1), (1, .getfield 7, 3), (4, .bipush 25, 2), (6, .bipush 6, 2), (8, .iload_n 2, 1), (9, .imul, 1), (10, .iadd, 1), (11, .aload_n 1, 1), (12, .bipush 33, 2), (14, .iload_n 2, 1), (15, .iadd, 1), (16, .iaload, 1), (17, .aload_n 0, 1), (18, .getfield 7, 3), (21, .bipush 19, 2), (23, .iload_n 2, 1), (24, .iadd, 1), (25, .iaload, 1), (26, .irem, 1), (27, .iadd, 1), (28, .iaload, 1), (29, .ireturn, 1)]
def mX10_nextScene : MR := (yX10_nextScene, cX10_nextScene, 3, (some .int), 0, 0, tX10_nextScene)
theorem okX10_nextScene : TabOk mX10_nextScene := tab_ok (by decide +kernel)
def tX10_looks : List (Nat × Instr × Nat) := [(0, .aload_n 0, 1), (1, .aload_n 1, 1), (2, .iload_n 2, 1), (3, .invokevirtual 145, 3), (6, .istore_n 3, 1), (7, .aload_n 1, 1), (8, .iload_n 2, 1), (9, .iload_n 3, 1), (10, .aload_n 0, 1), (11, .aload_n 1, 1), (12, .iload_n 3, 1), (13, .iconst 0, 1), (14, .aload_n 0, 1), (15, .getfield 7, 3), (18, .iconst 0, 1), (19, .iaload, 1), (20, .invokevirtual 133, 3), (23, .invokestatic 148, 3), (26, .aload_n 1, 1), (27, .bipush 33, 2), (29, .iload_n 2, 1), (30, .iadd, 1), (31, .dup2, 1), (32, .iaload, 1), (33, .iconst 1, 1), (34, .iadd, 1), (35, .iastore, 1), (36, .aload_n 0, 1), (37, .getfield 7, 3), (40, .bipush 11, 2), (42, .iload_n 3, 1), (43, .iadd, 1), (44, .iaload, 1), (45, .bipush 10, 2), (47, .idiv, 1), (48, .iconst 1, 1), (49, .iadd, 1), (50, .istore 4, 2), (52, .iconst 0, 1), (53, .istore 5, 2), (55, .iload 5, 2), (57, .aload_n 1, 1), (58, .iconst 0, 1), (59, .iaload, 1), (60, .if_icmp .ge 55, 3), (63, .aload_n 1, 1), (64, .bipush 11, 2), (66, .iload 5, 2), (68, .iadd, 1), (69, .iaload, 1), (70, .iload_n 2, 1), (71, .if_icmp .ne 38, 3), (74, .aload_n 1, 1), (75, .iconst 1, 1), (76, .iload 5, 2), (78, .iadd, 1), (79, .iaload, 1), (80, .iload_n 3, 1), (81, .if_icmp .ne 28, 3), (84, .aload_n 1, 1), (85, .bipush 21, 2), (87, .iload 5, 2), (89, .iadd, 1), (90, .bipush 99, 2), (92, .aload_n 1, 1), (93, .bipush 21, 2), (95, .iload 5, 2), (97, .iadd, 1), (98, .iaload, 1), (99, .iload 4, 2), (101, .iadd, 1), (102, .invokestatic 152, 3), (105, .iastore, 1), (106, .iload 5, 2), (108, .ireturn, 1), (109, .iinc 5 1, 3), (112, .goto (-57), 3), (115, .aload_n 1, 1), (116, .iload_n 3, 1), (117, .iload_n 2, 1), (118, .iload 4, 2), (120, .invokestatic 155, 3), (123, .aload_n 1, 1), (124, .iconst 0, 1), (125, .iaload, 1), (126, .iconst 1, 1), (127, .isub, 1), (128, .ireturn, 1)]
def mX10_looks : MR := (yX10_looks, cX10_looks, 6, (some .int), 2, 49, tX10_looks)
theorem okX10_looks : TabOk mX10_looks := tab_ok (by decide +kernel)
def tX10_fading : List (Nat × Instr × Nat) := [(0, .iload_n 1, 1), (1, .tableswitch 50 0 3 #[31, 33, 50, 40], 31), (32, .iconst 1, 1), (33, .ireturn, 1), (34, .iload_n 2, 1), (35, .bipush 10, 2), (37, .idiv, 1), (38, .iconst 1, 1), (39, .iadd, 1), (40, .ireturn, 1), (41, .iload_n 3, 1), (42, .ifCond .eq 7, 3), (45, .iconst 3, 1), (46, .goto 4, 3), (49, .iconst 0, 1), (50, .ireturn, 1), (51, .iconst 0, 1), (52, .ireturn, 1)]
def mX10_fading : MR := (yX10_fading, cX10_fading, 4, (some .int), 0, 0, tX10_fading)
theorem okX10_fading : TabOk mX10_fading := tab_ok (by decide +kernel)
def tX10_yearGoes : List (Nat × Instr × Nat) := [(0, .aload_n 1, 1), (1, .bipush 31, 2), (3, .iaload, 1), (4, .iconst (-1), 1), (5, .if_icmp .ne 7, 3), (8, .iconst (-1), 1), (9, .goto 12, 3), (12, .aload_n 0, 1), (13, .aload_n 1, 1), (14, .aload_n 1, 1), (15, .bipush 31, 2), (17, .iaload, 1), (18, .invokevirtual 158, 3), (21, .istore_n 2, 1), (22, .iconst 0, 1), (23, .istore_n 3, 1), (24, .aload_n 1, 1), (25, .iconst 0, 1), (26, .iaload, 1), (27, .istore 4, 2), (29, .iload 4, 2), (31, .ifCond .le 94, 3), (34, .iload_n 3, 1), (35, .iload_n 2, 1), (36, .if_icmp .eq 49, 3), (39, .aload_n 1, 1), (40, .bipush 21, 2), (42, .iload_n 3, 1), (43, .iadd, 1), (44, .dup2, 1), (45, .iaload, 1), (46, .aload_n 0, 1), (47, .aload_n 0, 1), (48, .getfield 7, 3), (51, .iconst 3, 1), (52, .aload_n 1, 1), (53, .iconst 1, 1), (54, .iload_n 3, 1), (55, .iadd, 1), (56, .iaload, 1), (57, .iadd, 1), (58, .iaload, 1), (59, .aload_n 1, 1), (60, .bipush 21, 2), (62, .iload_n 3, 1), (63, .iadd, 1), (64, .iaload, 1), (65, .aload_n 1, 1), (66, .bipush 32, 2), (68, .iaload, 1), (69, .iconst 2, 1), (70, .irem, 1), (71, .iconst 1, 1), (72, .if_icmp .ne 7, 3), (75, .iconst 1, 1), (76, .goto 4, 3), (79, .iconst 0, 1), (80, .invokevirtual 161, 3), (83, .isub, 1), (84, .iastore, 1), (85, .aload_n 1, 1), (86, .bipush 21, 2), (88, .iload_n 3, 1), (89, .iadd, 1), (90, .iaload, 1), (91, .iconst 1, 1), (92, .if_icmp .ge 24, 3), (95, .aload_n 1, 1), (96, .iload_n 3, 1), (97, .invokestatic 141, 3), (100, .iload_n 2, 1), (101, .iload_n 3, 1), (102, .iload_n 2, 1), (103, .if_icmp .ge 7, 3), (106, .iconst 1, 1), (107, .goto 4, 3), (110, .iconst 0, 1), (111, .isub, 1), (112, .istore_n 2, 1), (113, .goto 6, 3), (116, .iinc 3 1, 3), (119, .iinc 4 (-1), 3), (122, .goto (-93), 3), (125, .aload_n 1, 1), (126, .bipush 32, 2), (128, .dup2, 1), (129, .iaload, 1), (130, .iconst 1, 1), (131, .iadd, 1), (132, .iastore, 1), (133, .return_, 1)]
def mX10_yearGoes : MR := (yX10_yearGoes, cX10_yearGoes, 5, none, 3, 74, tX10_yearGoes)
theorem okX10_yearGoes : TabOk mX10_yearGoes := tab_ok (by decide +kernel)
def tX10_remember : List (Nat × Instr × Nat) := [(0, .aload_n 0, 1), (1, .getfield 48, 3), (4, .bipush 30, 2), (6, .if_icmp .ne 43, 3), (9, .iconst 0, 1), (10, .istore_n 1, 1), (11, .iload_n 1, 1), (12, .sipush 3480, 3), (15, .if_icmp .ge 24, 3), (18, .aload_n 0, 1), (19, .getfield 22, 3), (22, .iload_n 1, 1), (23, .aload_n 0, 1), (24, .getfield 22, 3), (27, .iload_n 1, 1), (28, .bipush 120, 2), (30, .iadd, 1), (31, .iaload, 1), (32, .iastore, 1), (33, .iinc 1 1, 3), (36, .goto (-25), 3), (39, .aload_n 0, 1), (40, .dup, 1), (41, .getfield 48, 3), (44, .iconst 1, 1), (45, .isub, 1), (46, .putfield 48, 3), (49, .aload_n 0, 1), (50, .getfield 16, 3), (53, .iconst 0, 1), (54, .aload_n 0, 1), (55, .getfield 22, 3), (58, .bipush 120, 2), (60, .aload_n 0, 1), (61, .getfield 48, 3), (64, .imul, 1), (65, .bipush 120, 2), (67, .invokestatic 118, 3), (70, .aload_n 0, 1), (71, .dup, 1), (72, .getfield 48, 3), (75, .iconst 1, 1), (76, .iadd, 1), (77, .putfield 48, 3), (80, .return_, 1)]
def mX10_remember : MR := (yX10_remember, cX10_remember, 2, none, 1, 25, tX10_remember)
theorem okX10_remember : TabOk mX10_remember := tab_ok (by decide +kernel)
def tX10_sawBy : List (Nat × Instr × Nat) := [(0, .iconst 0, 1), (1, .istore_n 2, 1), (2, .iconst 0, 1), (3, .istore_n 3, 1), (4, .iload_n 3, 1), (5, .aload_n 0, 1), (6, .getfield 16, 3), (9, .iconst 0, 1), (10, .iaload, 1), (11, .if_icmp .ge 39, 3), (14, .iload_n 2, 1), (15, .aload_n 0, 1), (16, .getfield 16, 3), (19, .bipush 11, 2), (21, .iload_n 3, 1), (22, .iadd, 1), (23, .iaload, 1), (24, .iload_n 1, 1), (25, .if_icmp .ne 16, 3), (28, .iconst 1, 1), (29, .aload_n 0, 1), (30, .getfield 16, 3), (33, .iconst 1, 1), (34, .iload_n 3, 1), (35, .iadd, 1), (36, .iaload, 1), (37, .ishl, 1), (38, .goto 4, 3), (41, .iconst 0, 1), (42, .ior, 1), (43, .istore_n 2, 1), (44, .iinc 3 1, 3), (47, .goto (-43), 3), (50, .iload_n 2, 1), (51, .ireturn, 1)]
def mX10_sawBy : MR := (yX10_sawBy, cX10_sawBy, 4, (some .int), 0, 0, tX10_sawBy)
theorem okX10_sawBy : TabOk mX10_sawBy := tab_ok (by decide +kernel)
def tX10_seenByAll : List (Nat × Instr × Nat) := [(0, .aload_n 0, 1), (1, .getfield 7, 3), (4, .iconst 2, 1), (5, .iaload, 1), (6, .ifCond .ne 7, 3), (9, .iconst 0, 1), (10, .goto 6, 3), (13, .sipush 255, 3), (16, .istore_n 1, 1), (17, .iconst 0, 1), (18, .istore_n 2, 1), (19, .iload_n 2, 1), (20, .aload_n 0, 1), (21, .getfield 7, 3), (24, .iconst 2, 1), (25, .iaload, 1), (26, .if_icmp .ge 17, 3), (29, .iload_n 1, 1), (30, .aload_n 0, 1), (31, .iload_n 2, 1), (32, .invokevirtual 165, 3), (35, .iand, 1), (36, .istore_n 1, 1), (37, .iinc 2 1, 3), (40, .goto (-21), 3), (43, .iload_n 1, 1), (44, .ireturn, 1)]
def mX10_seenByAll : MR := (yX10_seenByAll, cX10_seenByAll, 3, (some .int), 1, 23, tX10_seenByAll)
theorem okX10_seenByAll : TabOk mX10_seenByAll := tab_ok (by decide +kernel)
def tX10_kin : List (Nat × Instr × Nat) := [(0, .iconst (-1), 1), (1, .istore_n 2, 1), (2, .iconst 0, 1), (3, .istore_n 3, 1), (4, .iconst 0, 1), (5, .istore 4, 2), (7, .iload 4, 2), (9, .aload_n 0, 1), (10, .getfield 7, 3), (13, .iconst 2, 1), (14, .iaload, 1), (15, .if_icmp .ge 56, 3), (18, .iload 4, 2), (20, .iload_n 1, 1), (21, .if_icmp .ne 7, 3), (24, .iconst 0, 1), (25, .goto 18, 3), (28, .aload_n 0, 1), (29, .iload 4, 2), (31, .invokevirtual 165, 3), (34, .aload_n 0, 1), (35, .iload_n 1, 1), (36, .invokevirtual 165, 3), (39, .iand, 1), (40, .invokestatic 169, 3), (43, .istore 5, 2), (45, .iload 5, 2), (47, .iload_n 3, 1), (48, .if_icmp .le 8, 3), (51, .iload 4, 2), (53, .goto 4, 3), (56, .iload_n 2, 1), (57, .istore_n 2, 1), (58, .iload_n 3, 1), (59, .iload 5, 2), (61, .invokestatic 172, 3), (64, .istore_n 3, 1), (65, .iinc 4 1, 3), (68, .goto (-61), 3), (71, .iload_n 2, 1), (72, .ireturn, 1)]
def mX10_kin : MR := (yX10_kin, cX10_kin, 6, (some .int), 1, 23, tX10_kin)
theorem okX10_kin : TabOk mX10_kin := tab_ok (by decide +kernel)
def tX10_eyes : List (Nat × Instr × Nat) := [(0, .iconst 0, 1), (1, .istore_n 1, 1), (2, .iload_n 1, 1), (3, .aload_n 0, 1), (4, .getfield 16, 3), (7, .iconst 0, 1), (8, .iaload, 1), (9, .if_icmp .ge 24, 3), (12, .aload_n 0, 1), (13, .getfield 16, 3), (16, .bipush 11, 2), (18, .iload_n 1, 1), (19, .iadd, 1), (20, .iaload, 1), (21, .iconst (-1), 1), (22, .if_icmp .eq 5, 3), (25, .iload_n 1, 1), (26, .ireturn, 1), (27, .iinc 1 1, 3), (30, .goto (-28), 3), (33, .iconst (-1), 1), (34, .ireturn, 1)]
def mX10_eyes : MR := (yX10_eyes, cX10_eyes, 2, (some .int), 0, 0, tX10_eyes)
theorem okX10_eyes : TabOk mX10_eyes := tab_ok (by decide +kernel)
def tX10_strongest : List (Nat × Instr × Nat) := [(0, .iconst (-1), 1), (1, .istore_n 1, 1), (2, .iconst 0, 1), (3, .istore_n 2, 1), (4, .iload_n 2, 1), (5, .aload_n 0, 1), (6, .getfield 16, 3), (9, .iconst 0, 1), (10, .iaload, 1), (11, .if_icmp .ge 41, 3), (14, .iload_n 1, 1), (15, .iconst (-1), 1), (16, .if_icmp .eq 24, 3), (19, .aload_n 0, 1), (20, .getfield 16, 3), (23, .bipush 21, 2), (25, .iload_n 2, 1), (26, .iadd, 1), (27, .iaload, 1), (28, .aload_n 0, 1), (29, .getfield 16, 3), (32, .bipush 21, 2), (34, .iload_n 1, 1), (35, .iadd, 1), (36, .iaload, 1), (37, .if_icmp .lt 7, 3), (40, .iload_n 2, 1), (41, .goto 4, 3), (44, .iload_n 1, 1), (45, .istore_n 1, 1), (46, .iinc 2 1, 3), (49, .goto (-45), 3), (52, .iload_n 1, 1), (53, .ireturn, 1)]
def mX10_strongest : MR := (yX10_strongest, cX10_strongest, 3, (some .int), 0, 0, tX10_strongest)
theorem okX10_strongest : TabOk mX10_strongest := tab_ok (by decide +kernel)
def tX10_thick : List (Nat × Instr × Nat) := [(0, .iconst 0, 1), (1, .istore_n 1, 1), (2, .iconst 0, 1), (3, .istore_n 2, 1), (4, .iconst 0, 1), (5, .istore_n 3, 1), (6, .iload_n 3, 1), (7, .aload_n 0, 1), (8, .getfield 16, 3), (11, .iconst 0, 1), (12, .iaload, 1), (13, .if_icmp .ge 48, 3), (16, .iload_n 3, 1), (17, .ifCond .le 30, 3), (20, .aload_n 0, 1), (21, .getfield 16, 3), (24, .iconst 1, 1), (25, .iload_n 3, 1), (26, .iadd, 1), (27, .iaload, 1), (28, .aload_n 0, 1), (29, .getfield 16, 3), (32, .iconst 1, 1), (33, .iload_n 3, 1), (34, .iadd, 1), (35, .iconst 1, 1), (36, .isub, 1), (37, .iaload, 1), (38, .if_icmp .ne 9, 3), (41, .iload_n 2, 1), (42, .iconst 1, 1), (43, .iadd, 1), (44, .goto 4, 3), (47, .iconst 1, 1), (48, .istore_n 2, 1), (49, .iload_n 1, 1), (50, .iload_n 2, 1), (51, .invokestatic 172, 3), (54, .istore_n 1, 1), (55, .iinc 3 1, 3), (58, .goto (-52), 3), (61, .iload_n 1, 1), (62, .ireturn, 1)]
def mX10_thick : MR := (yX10_thick, cX10_thick, 4, (some .int), 1, 21, tX10_thick)
theorem okX10_thick : TabOk mX10_thick := tab_ok (by decide +kernel)
def tX10_told : List (Nat × Instr × Nat) := [(0, .iload_n 1, 1), (1, .tableswitch 166 0 15 #[79, 79, 79, 86, 91, 99, 107, 114, 123, 128, 133, 138, 143, 151, 156, 161], 79), (80, .aload_n 0, 1), (81, .getfield 7, 3), (84, .iload_n 1, 1), (85, .iaload, 1), (86, .ireturn, 1), (87, .aload_n 0, 1), (88, .getfield 64, 3), (91, .ireturn, 1), (92, .aload_n 0, 1), (93, .getfield 16, 3), (96, .bipush 32, 2), (98, .iaload, 1), (99, .ireturn, 1), (100, .aload_n 0, 1), (101, .getfield 16, 3), (104, .bipush 31, 2), (106, .iaload, 1), (107, .ireturn, 1), (108, .aload_n 0, 1), (109, .getfield 16, 3), (112, .iconst 0, 1), (113, .iaload, 1), (114, .ireturn, 1), (115, .aload_n 0, 1), (116, .aload_n 0, 1), (117, .getfield 16, 3), (120, .invokevirtual 175, 3), (123, .ireturn, 1), (124, .aload_n 0, 1), (125, .invokevirtual 179, 3), (128, .ireturn, 1), (129, .aload_n 0, 1), (130, .invokevirtual 182, 3), (133, .ireturn, 1), (134, .aload_n 0, 1), (135, .invokevirtual 185, 3), (138, .ireturn, 1), (139, .aload_n 0, 1), (140, .invokevirtual 188, 3), (143, .ireturn, 1), (144, .aload_n 0, 1), (145, .getfield 16, 3), (148, .bipush 39, 2), (150, .iaload, 1), (151, .ireturn, 1), (152, .aload_n 0, 1), (153, .getfield 51, 3), (156, .ireturn, 1), (157, .aload_n 0, 1), (158, .getfield 54, 3), (161, .ireturn, 1), (162, .aload_n 0, 1), (163, .getfield 48, 3), (166, .ireturn, 1), (167, .ldc 63, 2), (169, .ireturn, 1)]
def mX10_told : MR := (yX10_told, cX10_told, 2, (some .int), 2, 45, tX10_told)
theorem okX10_told : TabOk mX10_told := tab_ok (by decide +kernel)
def tX10_lookFor : List (Nat × Instr × Nat) := [(0, .iconst 0, 1), (1, .istore_n 2, 1), (2, .iconst 0, 1), (3, .istore_n 3, 1), (4, .iload_n 3, 1), (5, .aload_n 0, 1), (6, .getfield 7, 3), (9, .iconst 1, 1), (10, .iaload, 1), (11, .if_icmp .ge 28, 3), (14, .iload_n 2, 1), (15, .aload_n 0, 1), (16, .iload_n 3, 1), (17, .invokevirtual 191, 3), (20, .iload_n 1, 1), (21, .if_icmp .ne 9, 3), (24, .iconst 1, 1), (25, .iload_n 3, 1), (26, .ishl, 1), (27, .goto 4, 3), (30, .iconst 0, 1), (31, .ior, 1), (32, .istore_n 2, 1), (33, .iinc 3 1, 3), (36, .goto (-32), 3), (39, .iload_n 2, 1), (40, .ireturn, 1)]
def mX10_lookFor : MR := (yX10_lookFor, cX10_lookFor, 4, (some .int), 3, 70, tX10_lookFor)
theorem okX10_lookFor : TabOk mX10_lookFor := tab_ok (by decide +kernel)
def tX10_scene : List (Nat × Instr × Nat) := [(0, .aload_n 0, 1), (1, .iload_n 1, 1), (2, .invokevirtual 194, 3), (5, .ifCond .ne 6, 3), (8, .ldc 197, 2), (10, .ireturn, 1), (11, .iload_n 2, 1), (12, .tableswitch 69 0 3 #[32, 41, 51, 63], 32), (44, .aload_n 0, 1), (45, .getfield 7, 3), (48, .iconst 3, 1), (49, .iload_n 1, 1), (50, .iadd, 1), (51, .iaload, 1), (52, .ireturn, 1), (53, .aload_n 0, 1), (54, .getfield 7, 3), (57, .bipush 11, 2), (59, .iload_n 1, 1), (60, .iadd, 1), (61, .iaload, 1), (62, .ireturn, 1), (63, .aload_n 0, 1), (64, .iload_n 1, 1), (65, .aload_n 0, 1), (66, .getfield 7, 3), (69, .iconst 0, 1), (70, .iaload, 1), (71, .invokevirtual 129, 3), (74, .ireturn, 1), (75, .aload_n 0, 1), (76, .iload_n 1, 1), (77, .invokevirtual 198, 3), (80, .ireturn, 1), (81, .ldc 63, 2), (83, .ireturn, 1)]
def mX10_scene : MR := (yX10_scene, cX10_scene, 3, (some .int), 4, 93, tX10_scene)
theorem okX10_scene : TabOk mX10_scene := tab_ok (by decide +kernel)
def tX10_wearer : List (Nat × Instr × Nat) := [(0, .aload_n 0, 1), (1, .iload_n 1, 1), (2, .invokevirtual 201, 3), (5, .ifCond .ne 6, 3), (8, .ldc 197, 2), (10, .ireturn, 1), (11, .iload_n 2, 1), (12, .tableswitch 82 0 4 #[36, 46, 56, 62, 68], 36), (48, .aload_n 0, 1), (49, .getfield 7, 3), (52, .bipush 19, 2), (54, .iload_n 1, 1), (55, .iadd, 1), (56, .iaload, 1), (57, .ireturn, 1), (58, .aload_n 0, 1), (59, .getfield 16, 3), (62, .bipush 33, 2), (64, .iload_n 1, 1), (65, .iadd, 1), (66, .iaload, 1), (67, .ireturn, 1), (68, .aload_n 0, 1), (69, .iload_n 1, 1), (70, .invokevirtual 165, 3), (73, .ireturn, 1), (74, .aload_n 0, 1), (75, .iload_n 1, 1), (76, .invokevirtual 204, 3), (79, .ireturn, 1), (80, .aload_n 0, 1), (81, .aload_n 0, 1), (82, .aload_n 0, 1), (83, .getfield 16, 3), (86, .iload_n 1, 1), (87, .invokevirtual 145, 3), (90, .invokevirtual 191, 3), (93, .ireturn, 1), (94, .ldc 63, 2), (96, .ireturn, 1)]
def mX10_wearer : MR := (yX10_wearer, cX10_wearer, 3, (some .int), 3, 70, tX10_wearer)
theorem okX10_wearer : TabOk mX10_wearer := tab_ok (by decide +kernel)
def tX10_layer : List (Nat × Instr × Nat) := [(0, .aload_n 0, 1), (1, .iload_n 1, 1), (2, .invokevirtual 207, 3), (5, .ifCond .ne 6, 3), (8, .ldc 197, 2), (10, .ireturn, 1), (11, .iload_n 2, 1), (12, .i2l, 1), (13, .lconst 0, 1), (14, .ldc2_w 210, 3), (17, .invokestatic 59, 3), (20, .ifCond .eq 19, 3), (23, .aload_n 0, 1), (24, .getfield 16, 3), (27, .iconst 1, 1), (28, .bipush 10, 2), (30, .iload_n 2, 1), (31, .imul, 1), (32, .iadd, 1), (33, .iload_n 1, 1), (34, .iadd, 1), (35, .iaload, 1), (36, .goto 5, 3), (39, .ldc 63, 2), (41, .ireturn, 1)]
def mX10_layer : MR := (yX10_layer, cX10_layer, 3, (some .int), 2, 46, tX10_layer)
theorem okX10_layer : TabOk mX10_layer := tab_ok (by decide +kernel)
def tX10_logged : List (Nat × Instr × Nat) := [(0, .iload_n 2, 1), (1, .i2l, 1), (2, .lconst 0, 1), (3, .ldc2_w 212, 3), (6, .invokestatic 59, 3), (9, .ifCond .ne 6, 3), (12, .ldc 63, 2), (14, .ireturn, 1), (15, .iload_n 1, 1), (16, .i2l, 1), (17, .lconst 0, 1), (18, .aload_n 0, 1), (19, .getfield 16, 3), (22, .bipush 39, 2), (24, .iaload, 1), (25, .iconst 1, 1), (26, .isub, 1), (27, .i2l, 1), (28, .invokestatic 59, 3), (31, .ifCond .eq 29, 3), (34, .aload_n 0, 1), (35, .getfield 16, 3), (38, .bipush 40, 2), (40, .iconst 4, 1), (41, .aload_n 0, 1), (42, .getfield 16, 3), (45, .bipush 39, 2), (47, .iaload, 1), (48, .iconst 1, 1), (49, .isub, 1), (50, .iload_n 1, 1), (51, .isub, 1), (52, .imul, 1), (53, .iadd, 1), (54, .iload_n 2, 1), (55, .iadd, 1), (56, .iaload, 1), (57, .goto 4, 3), (60, .iconst (-1), 1), (61, .ireturn, 1)]
def mX10_logged : MR := (yX10_logged, cX10_logged, 3, (some .int), 1, 25, tX10_logged)
theorem okX10_logged : TabOk mX10_logged := tab_ok (by decide +kernel)
def tX10_refuses : List (Nat × Instr × Nat) := [(0, .iload_n 1, 1), (1, .i2l, 1), (2, .lconst 1, 1), (3, .ldc2_w 214, 3), (6, .invokestatic 59, 3), (9, .ifCond .ne 6, 3), (12, .ldc 63, 2), (14, .ireturn, 1), (15, .aload_n 0, 1), (16, .getfield 7, 3), (19, .iconst 0, 1), (20, .iaload, 1), (21, .ifCond .ne 8, 3), (24, .ldc 216, 2), (26, .goto 21, 3), (29, .aload_n 0, 1), (30, .getfield 16, 3), (33, .bipush 32, 2), (35, .iaload, 1), (36, .ldc 217, 2), (38, .if_icmp .le 8, 3), (41, .ldc 67, 2), (43, .goto 4, 3), (46, .iconst 0, 1), (47, .ireturn, 1)]
def mX10_refuses : MR := (yX10_refuses, cX10_refuses, 2, (some .int), 1, 25, tX10_refuses)
theorem okX10_refuses : TabOk mX10_refuses := tab_ok (by decide +kernel)
def tX10_year : List (Nat × Instr × Nat) := [(0, .aload_n 0, 1), (1, .iload_n 1, 1), (2, .invokevirtual 218, 3), (5, .istore_n 2, 1), (6, .iload_n 2, 1), (7, .ifCond .eq 5, 3), (10, .iload_n 2, 1), (11, .ireturn, 1), (12, .iconst 0, 1), (13, .istore_n 3, 1), (14, .iload_n 3, 1), (15, .iload_n 1, 1), (16, .if_icmp .ge 21, 3), (19, .aload_n 0, 1), (20, .invokevirtual 221, 3), (23, .aload_n 0, 1), (24, .aload_n 0, 1), (25, .getfield 16, 3), (28, .invokevirtual 224, 3), (31, .iinc 3 1, 3), (34, .goto (-20), 3), (37, .aload_n 0, 1), (38, .getfield 16, 3), (41, .bipush 32, 2), (43, .iaload, 1), (44, .ireturn, 1)]
def mX10_year : MR := (yX10_year, cX10_year, 4, (some .int), 4, 98, tX10_year)
theorem okX10_year : TabOk mX10_year := tab_ok (by decide +kernel)
def tX10_wear : List (Nat × Instr × Nat) := [(0, .aload_n 0, 1), (1, .iload_n 1, 1), (2, .invokevirtual 201, 3), (5, .ifCond .ne 6, 3), (8, .ldc 197, 2), (10, .ireturn, 1), (11, .aload_n 0, 1), (12, .getfield 16, 3), (15, .bipush 31, 2), (17, .iaload, 1), (18, .iload_n 1, 1), (19, .if_icmp .ne 6, 3), (22, .ldc 216, 2), (24, .ireturn, 1), (25, .aload_n 0, 1), (26, .invokevirtual 221, 3), (29, .aload_n 0, 1), (30, .getfield 16, 3), (33, .bipush 31, 2), (35, .iaload, 1), (36, .istore_n 2, 1), (37, .aload_n 0, 1), (38, .getfield 16, 3), (41, .bipush 31, 2), (43, .iload_n 1, 1), (44, .iastore, 1), (45, .iload_n 2, 1), (46, .ireturn, 1)]
def mX10_wear : MR := (yX10_wear, cX10_wear, 3, (some .int), 2, 46, tX10_wear)
theorem okX10_wear : TabOk mX10_wear := tab_ok (by decide +kernel)
def tX10_takeOff : List (Nat × Instr × Nat) := [(0, .aload_n 0, 1), (1, .getfield 16, 3), (4, .bipush 31, 2), (6, .iaload, 1), (7, .iconst (-1), 1), (8, .if_icmp .ne 6, 3), (11, .ldc 216, 2), (13, .ireturn, 1), (14, .aload_n 0, 1), (15, .invokevirtual 221, 3), (18, .aload_n 0, 1), (19, .getfield 16, 3), (22, .bipush 31, 2), (24, .iaload, 1), (25, .istore_n 1, 1), (26, .aload_n 0, 1), (27, .getfield 16, 3), (30, .bipush 31, 2), (32, .iconst (-1), 1), (33, .iastore, 1), (34, .iload_n 1, 1), (35, .ireturn, 1)]
def mX10_takeOff : MR := (yX10_takeOff, cX10_takeOff, 2, (some .int), 2, 46, tX10_takeOff)
theorem okX10_takeOff : TabOk mX10_takeOff := tab_ok (by decide +kernel)
def tX10_wipe : List (Nat × Instr × Nat) := [(0, .aload_n 0, 1), (1, .iload_n 1, 1), (2, .invokevirtual 207, 3), (5, .ifCond .ne 6, 3), (8, .ldc 197, 2), (10, .ireturn, 1), (11, .aload_n 0, 1), (12, .invokevirtual 221, 3), (15, .aload_n 0, 1), (16, .getfield 16, 3), (19, .iload_n 1, 1), (20, .invokestatic 141, 3), (23, .aload_n 0, 1), (24, .getfield 16, 3), (27, .iconst 0, 1), (28, .iaload, 1), (29, .ireturn, 1)]
def mX10_wipe : MR := (yX10_wipe, cX10_wipe, 2, (some .int), 2, 46, tX10_wipe)
theorem okX10_wipe : TabOk mX10_wipe := tab_ok (by decide +kernel)
def tX10_chip : List (Nat × Instr × Nat) := [(0, .aload_n 0, 1), (1, .iload_n 1, 1), (2, .invokevirtual 194, 3), (5, .ifCond .ne 6, 3), (8, .ldc 197, 2), (10, .ireturn, 1), (11, .iload_n 2, 1), (12, .i2l, 1), (13, .lconst 1, 1), (14, .ldc2_w 228, 3), (17, .invokestatic 59, 3), (20, .ifCond .ne 6, 3), (23, .ldc 63, 2), (25, .ireturn, 1), (26, .aload_n 0, 1), (27, .invokevirtual 221, 3), (30, .aload_n 0, 1), (31, .getfield 16, 3), (34, .iload_n 1, 1), (35, .iconst (-1), 1), (36, .iload_n 2, 1), (37, .invokestatic 155, 3), (40, .aload_n 0, 1), (41, .getfield 16, 3), (44, .iconst 0, 1), (45, .iaload, 1), (46, .ireturn, 1)]
def mX10_chip : MR := (yX10_chip, cX10_chip, 3, (some .int), 2, 47, tX10_chip)
theorem okX10_chip : TabOk mX10_chip := tab_ok (by decide +kernel)
def tX10_draw : List (Nat × Instr × Nat) := [(0, .aload_n 0, 1), (1, .aload_n 0, 1), (2, .getfield 230, 3), (5, .ldc2_w 234, 3), (8, .lmul, 1), (9, .ldc2_w 236, 3), (12, .ladd, 1), (13, .ldc2_w 238, 3), (16, .lrem, 1), (17, .putfield 230, 3), (20, .aload_n 0, 1), (21, .getfield 230, 3), (24, .ldc2_w 240, 3), (27, .ldiv, 1), (28, .iload_n 1, 1), (29, .i2l, 1), (30, .lrem, 1), (31, .l2i, 1), (32, .ireturn, 1)]
def mX10_draw : MR := (yX10_draw, cX10_draw, 2, (some .int), 0, 0, tX10_draw)
theorem okX10_draw : TabOk mX10_draw := tab_ok (by decide +kernel)
def tX10_draws : List (Nat × Instr × Nat) := [(0, .aload_n 0, 1), (1, .bipush 8, 2), (3, .invokevirtual 242, 3), (6, .istore_n 1, 1), (7, .iload_n 1, 1), (8, .ifCond .ne 32, 3), (11, .aload_n 0, 1), (12, .getfield 7, 3), (15, .iconst 2, 1), (16, .iaload, 1), (17, .ifCond .le 23, 3), (20, .aload_n 0, 1), (21, .getfield 16, 3), (24, .bipush 31, 2), (26, .aload_n 0, 1), (27, .aload_n 0, 1), (28, .getfield 7, 3), (31, .iconst 2, 1), (32, .iaload, 1), (33, .invokevirtual 242, 3), (36, .iastore, 1), (37, .goto 95, 3), (40, .iload_n 1, 1), (41, .iconst 1, 1), (42, .if_icmp .ne 32, 3), (45, .aload_n 0, 1), (46, .getfield 16, 3), (49, .iconst 0, 1), (50, .iaload, 1), (51, .ifCond .le 23, 3), (54, .aload_n 0, 1), (55, .getfield 16, 3), (58, .aload_n 0, 1), (59, .aload_n 0, 1), (60, .getfield 16, 3), (63, .iconst 0, 1), (64, .iaload, 1), (65, .invokevirtual 242, 3), (68, .invokestatic 141, 3), (71, .goto 61, 3), (74, .iload_n 1, 1), (75, .iconst 2, 1), (76, .if_icmp .ne 43, 3), (79, .aload_n 0, 1), (80, .getfield 7, 3), (83, .iconst 1, 1), (84, .iaload, 1), (85, .ifCond .le 34, 3), (88, .aload_n 0, 1), (89, .aload_n 0, 1), (90, .getfield 7, 3), (93, .iconst 1, 1), (94, .iaload, 1), (95, .invokevirtual 242, 3), (98, .istore_n 2, 1), (99, .aload_n 0, 1), (100, .getfield 16, 3), (103, .iload_n 2, 1), (104, .iconst (-1), 1), (105, .aload_n 0, 1), (106, .bipush 30, 2), (108, .invokevirtual 242, 3), (111, .iconst 1, 1), (112, .iadd, 1), (113, .invokestatic 155, 3), (116, .goto 16, 3), (119, .iload_n 1, 1), (120, .iconst 3, 1), (121, .if_icmp .ne 11, 3), (124, .aload_n 0, 1), (125, .getfield 16, 3), (128, .bipush 31, 2), (130, .iconst (-1), 1), (131, .iastore, 1), (132, .return_, 1)]
def mX10_draws : MR := (yX10_draws, cX10_draws, 3, none, 2, 47, tX10_draws)
theorem okX10_draws : TabOk mX10_draws := tab_ok (by decide +kernel)
def tX10_drift : List (Nat × Instr × Nat) := [(0, .aload_n 0, 1), (1, .iload_n 1, 1), (2, .invokevirtual 218, 3), (5, .istore_n 2, 1), (6, .iload_n 2, 1), (7, .ifCond .eq 5, 3), (10, .iload_n 2, 1), (11, .ireturn, 1), (12, .iconst 0, 1), (13, .istore_n 3, 1), (14, .iload_n 3, 1), (15, .iload_n 1, 1), (16, .if_icmp .ge 25, 3), (19, .aload_n 0, 1), (20, .invokevirtual 221, 3), (23, .aload_n 0, 1), (24, .invokevirtual 245, 3), (27, .aload_n 0, 1), (28, .aload_n 0, 1), (29, .getfield 16, 3), (32, .invokevirtual 224, 3), (35, .iinc 3 1, 3), (38, .goto (-24), 3), (41, .aload_n 0, 1), (42, .getfield 16, 3), (45, .bipush 32, 2), (47, .iaload, 1), (48, .ireturn, 1)]
def mX10_drift : MR := (yX10_drift, cX10_drift, 4, (some .int), 4, 98, tX10_drift)
theorem okX10_drift : TabOk mX10_drift := tab_ok (by decide +kernel)
def tX10_undo : List (Nat × Instr × Nat) := [(0, .iload_n 1, 1), (1, .i2l, 1), (2, .lconst 1, 1), (3, .ldc2_w 214, 3), (6, .invokestatic 59, 3), (9, .ifCond .ne 6, 3), (12, .ldc 63, 2), (14, .ireturn, 1), (15, .iload_n 1, 1), (16, .aload_n 0, 1), (17, .getfield 48, 3), (20, .if_icmp .le 6, 3), (23, .ldc 216, 2), (25, .ireturn, 1), (26, .aload_n 0, 1), (27, .dup, 1), (28, .getfield 48, 3), (31, .iload_n 1, 1), (32, .isub, 1), (33, .putfield 48, 3), (36, .aload_n 0, 1), (37, .getfield 22, 3), (40, .bipush 120, 2), (42, .aload_n 0, 1), (43, .getfield 48, 3), (46, .imul, 1), (47, .aload_n 0, 1), (48, .getfield 16, 3), (51, .iconst 0, 1), (52, .bipush 120, 2), (54, .invokestatic 118, 3), (57, .aload_n 0, 1), (58, .getfield 16, 3), (61, .bipush 32, 2), (63, .iaload, 1), (64, .ireturn, 1)]
def mX10_undo : MR := (yX10_undo, cX10_undo, 2, (some .int), 1, 25, tX10_undo)
theorem okX10_undo : TabOk mX10_undo := tab_ok (by decide +kernel)
def tX10_layAside : List (Nat × Instr × Nat) := [(0, .aload_n 0, 1), (1, .getfield 16, 3), (4, .iconst 0, 1), (5, .aload_n 0, 1), (6, .getfield 19, 3), (9, .iconst 0, 1), (10, .bipush 120, 2), (12, .invokestatic 118, 3), (15, .return_, 1)]
def mX10_layAside : MR := (yX10_layAside, cX10_layAside, 1, none, 1, 25, tX10_layAside)
theorem okX10_layAside : TabOk mX10_layAside := tab_ok (by decide +kernel)
def tX10_takes : List (Nat × Instr × Nat) := [(0, .aload_n 0, 1), (1, .iload_n 1, 1), (2, .invokevirtual 194, 3), (5, .ifCond .eq 11, 3), (8, .aload_n 0, 1), (9, .iload_n 1, 1), (10, .invokevirtual 191, 3), (13, .goto 5, 3), (16, .ldc 197, 2), (18, .ireturn, 1)]
def mX10_takes : MR := (yX10_takes, cX10_takes, 2, (some .int), 3, 70, tX10_takes)
theorem okX10_takes : TabOk mX10_takes := tab_ok (by decide +kernel)
def tX10_dark : List (Nat × Instr × Nat) := [(0, .iload_n 1, 1), (1, .i2l, 1), (2, .lconst 0, 1), (3, .ldc2_w 248, 3), (6, .invokestatic 59, 3), (9, .ifCond .ne 6, 3), (12, .ldc 63, 2), (14, .ireturn, 1), (15, .aload_n 0, 1), (16, .invokevirtual 250, 3), (19, .iconst 0, 1), (20, .istore_n 2, 1), (21, .iload_n 2, 1), (22, .iload_n 1, 1), (23, .if_icmp .ge 17, 3), (26, .aload_n 0, 1), (27, .aload_n 0, 1), (28, .getfield 19, 3), (31, .invokevirtual 224, 3), (34, .iinc 2 1, 3), (37, .goto (-16), 3), (40, .aload_n 0, 1), (41, .aload_n 0, 1), (42, .getfield 19, 3), (45, .invokevirtual 175, 3), (48, .ireturn, 1)]
def mX10_dark : MR := (yX10_dark, cX10_dark, 3, (some .int), 4, 98, tX10_dark)
theorem okX10_dark : TabOk mX10_dark := tab_ok (by decide +kernel)
def tX10_tooDark : List (Nat × Instr × Nat) := [(0, .iload_n 1, 1), (1, .i2l, 1), (2, .lconst 1, 1), (3, .ldc2_w 228, 3), (6, .invokestatic 59, 3), (9, .ifCond .ne 6, 3), (12, .ldc 63, 2), (14, .ireturn, 1), (15, .aload_n 0, 1), (16, .invokevirtual 250, 3), (19, .iconst 0, 1), (20, .istore_n 2, 1), (21, .iload_n 2, 1), (22, .sipush 201, 3), (25, .if_icmp .ge 31, 3), (28, .aload_n 0, 1), (29, .aload_n 0, 1), (30, .getfield 19, 3), (33, .invokevirtual 175, 3), (36, .iload_n 1, 1), (37, .if_icmp .lt 5, 3), (40, .iload_n 2, 1), (41, .ireturn, 1), (42, .aload_n 0, 1), (43, .aload_n 0, 1), (44, .getfield 19, 3), (47, .invokevirtual 224, 3), (50, .iinc 2 1, 3), (53, .goto (-32), 3), (56, .iconst (-1), 1), (57, .ireturn, 1)]
def mX10_tooDark : MR := (yX10_tooDark, cX10_tooDark, 3, (some .int), 4, 98, tX10_tooDark)
theorem okX10_tooDark : TabOk mX10_tooDark := tab_ok (by decide +kernel)
def tX10_willShow : List (Nat × Instr × Nat) := [(0, .aload_n 0, 1), (1, .iload_n 1, 1), (2, .invokevirtual 194, 3), (5, .ifCond .ne 6, 3), (8, .ldc 197, 2), (10, .ireturn, 1), (11, .iload_n 2, 1), (12, .i2l, 1), (13, .lconst 0, 1), (14, .ldc2_w 248, 3), (17, .invokestatic 59, 3), (20, .ifCond .ne 6, 3), (23, .ldc 63, 2), (25, .ireturn, 1), (26, .aload_n 0, 1), (27, .invokevirtual 250, 3), (30, .iconst 0, 1), (31, .istore_n 3, 1), (32, .iload_n 3, 1), (33, .iload_n 2, 1), (34, .if_icmp .ge 17, 3), (37, .aload_n 0, 1), (38, .aload_n 0, 1), (39, .getfield 19, 3), (42, .invokevirtual 224, 3), (45, .iinc 3 1, 3), (48, .goto (-16), 3), (51, .aload_n 0, 1), (52, .aload_n 0, 1), (53, .getfield 19, 3), (56, .iload_n 1, 1), (57, .invokevirtual 137, 3), (60, .ireturn, 1)]
def mX10_willShow : MR := (yX10_willShow, cX10_willShow, 4, (some .int), 4, 98, tX10_willShow)
theorem okX10_willShow : TabOk mX10_willShow := tab_ok (by decide +kernel)
def tX10_areThemselves : List (Nat × Instr × Nat) := [(0, .iconst 1, 1), (1, .istore_n 3, 1), (2, .iconst 0, 1), (3, .istore 4, 2), (5, .iload 4, 2), (7, .aload_n 0, 1), (8, .getfield 7, 3), (11, .iconst 1, 1), (12, .iaload, 1), (13, .if_icmp .ge 50, 3), (16, .iload_n 3, 1), (17, .ifCond .eq 38, 3), (20, .iload_n 1, 1), (21, .iload 4, 2), (23, .invokestatic 125, 3), (26, .ifCond .eq 25, 3), (29, .aload_n 0, 1), (30, .aload_n 0, 1), (31, .getfield 16, 3), (34, .iload 4, 2), (36, .iload_n 2, 1), (37, .aload_n 0, 1), (38, .getfield 7, 3), (41, .iconst 0, 1), (42, .iaload, 1), (43, .invokevirtual 133, 3), (46, .iload 4, 2), (48, .if_icmp .ne 7, 3), (51, .iconst 1, 1), (52, .goto 4, 3), (55, .iconst 0, 1), (56, .istore_n 3, 1), (57, .iinc 4 1, 3), (60, .goto (-55), 3), (63, .iload_n 3, 1), (64, .ireturn, 1)]
def mX10_areThemselves : MR := (yX10_areThemselves, cX10_areThemselves, 5, (some .boolean), 2, 49, tX10_areThemselves)
theorem okX10_areThemselves : TabOk mX10_areThemselves := tab_ok (by decide +kernel)
def tX10_loss : List (Nat × Instr × Nat) := [(0, .iconst 0, 1), (1, .istore_n 2, 1), (2, .iconst 0, 1), (3, .istore_n 3, 1), (4, .iload_n 3, 1), (5, .aload_n 0, 1), (6, .getfield 16, 3), (9, .iconst 0, 1), (10, .iaload, 1), (11, .if_icmp .ge 33, 3), (14, .iload_n 2, 1), (15, .iload_n 1, 1), (16, .iload_n 3, 1), (17, .invokestatic 125, 3), (20, .ifCond .eq 15, 3), (23, .aload_n 0, 1), (24, .getfield 16, 3), (27, .bipush 21, 2), (29, .iload_n 3, 1), (30, .iadd, 1), (31, .iaload, 1), (32, .goto 4, 3), (35, .iconst 0, 1), (36, .iadd, 1), (37, .istore_n 2, 1), (38, .iinc 3 1, 3), (41, .goto (-37), 3), (44, .iload_n 2, 1), (45, .ireturn, 1)]
def mX10_loss : MR := (yX10_loss, cX10_loss, 4, (some .int), 1, 21, tX10_loss)
theorem okX10_loss : TabOk mX10_loss := tab_ok (by decide +kernel)
def tX10_toWipe : List (Nat × Instr × Nat) := [(0, .iload_n 1, 1), (1, .i2l, 1), (2, .lconst 0, 1), (3, .iconst 1, 1), (4, .aload_n 0, 1), (5, .getfield 7, 3), (8, .iconst 1, 1), (9, .iaload, 1), (10, .ishl, 1), (11, .iconst 1, 1), (12, .isub, 1), (13, .i2l, 1), (14, .invokestatic 59, 3), (17, .ifCond .ne 6, 3), (20, .ldc 197, 2), (22, .ireturn, 1), (23, .iload_n 2, 1), (24, .i2l, 1), (25, .lconst 0, 1), (26, .lconst 1, 1), (27, .invokestatic 59, 3), (30, .ifCond .ne 6, 3), (33, .ldc 63, 2), (35, .ireturn, 1), (36, .iconst (-1), 1), (37, .istore_n 3, 1), (38, .iconst 0, 1), (39, .istore 4, 2), (41, .iload 4, 2), (43, .iconst 1, 1), (44, .aload_n 0, 1), (45, .getfield 16, 3), (48, .iconst 0, 1), (49, .iaload, 1), (50, .ishl, 1), (51, .if_icmp .ge 81, 3), (54, .iload_n 3, 1), (55, .iconst (-1), 1), (56, .if_icmp .eq 41, 3), (59, .iload 4, 2), (61, .invokestatic 169, 3), (64, .iload_n 3, 1), (65, .invokestatic 169, 3), (68, .if_icmp .lt 29, 3), (71, .iload 4, 2), (73, .invokestatic 169, 3), (76, .iload_n 3, 1), (77, .invokestatic 169, 3), (80, .if_icmp .ne 21, 3), (83, .aload_n 0, 1), (84, .iload 4, 2), (86, .invokevirtual 253, 3), (89, .aload_n 0, 1), (90, .iload_n 3, 1), (91, .invokevirtual 253, 3), (94, .if_icmp .ge 7, 3), (97, .iconst 1, 1), (98, .goto 4, 3), (101, .iconst 0, 1), (102, .istore 5, 2), (104, .iload 5, 2), (106, .ifCond .eq 18, 3), (109, .aload_n 0, 1), (110, .iload_n 1, 1), (111, .iload 4, 2), (113, .invokevirtual 256, 3), (116, .ifCond .eq 8, 3), (119, .iload 4, 2), (121, .goto 4, 3), (124, .iload_n 3, 1), (125, .istore_n 3, 1), (126, .iinc 4 1, 3), (129, .goto (-88), 3), (132, .iload_n 2, 1), (133, .ifCond .ne 10, 3), (136, .iload_n 3, 1), (137, .invokestatic 169, 3), (140, .goto 4, 3), (143, .iload_n 3, 1), (144, .ireturn, 1)]
def mX10_toWipe : MR := (yX10_toWipe, cX10_toWipe, 6, (some .int), 3, 73, tX10_toWipe)
theorem okX10_toWipe : TabOk mX10_toWipe := tab_ok (by decide +kernel)
def tX10_only : List (Nat × Instr × Nat) := [(0, .aload_n 0, 1), (1, .iload_n 1, 1), (2, .invokevirtual 207, 3), (5, .ifCond .eq 11, 3), (8, .aload_n 0, 1), (9, .iload_n 2, 1), (10, .invokevirtual 194, 3), (13, .ifCond .ne 6, 3), (16, .ldc 197, 2), (18, .ireturn, 1), (19, .aload_n 0, 1), (20, .getfield 16, 3), (23, .bipush 21, 2), (25, .iload_n 1, 1), (26, .iadd, 1), (27, .iaload, 1), (28, .aload_n 0, 1), (29, .iload_n 2, 1), (30, .aload_n 0, 1), (31, .getfield 7, 3), (34, .iconst 0, 1), (35, .iaload, 1), (36, .invokevirtual 129, 3), (39, .if_icmp .gt 5, 3), (42, .iconst (-1), 1), (43, .ireturn, 1), (44, .iconst 0, 1), (45, .istore_n 3, 1), (46, .iconst 0, 1), (47, .istore 4, 2), (49, .iload 4, 2), (51, .aload_n 0, 1), (52, .getfield 16, 3), (55, .iconst 0, 1), (56, .iaload, 1), (57, .if_icmp .ge 67, 3), (60, .iload_n 3, 1), (61, .aload_n 0, 1), (62, .getfield 16, 3), (65, .bipush 21, 2), (67, .iload 4, 2), (69, .iadd, 1), (70, .iaload, 1), (71, .aload_n 0, 1), (72, .getfield 16, 3), (75, .bipush 21, 2), (77, .iload_n 1, 1), (78, .iadd, 1), (79, .iaload, 1), (80, .if_icmp .gt 31, 3), (83, .aload_n 0, 1), (84, .getfield 16, 3), (87, .bipush 21, 2), (89, .iload 4, 2), (91, .iadd, 1), (92, .iaload, 1), (93, .aload_n 0, 1), (94, .getfield 16, 3), (97, .bipush 21, 2), (99, .iload_n 1, 1), (100, .iadd, 1), (101, .iaload, 1), (102, .if_icmp .ne 13, 3), (105, .iload 4, 2), (107, .iload_n 1, 1), (108, .if_icmp .le 7, 3), (111, .iconst 1, 1), (112, .goto 4, 3), (115, .iconst 0, 1), (116, .iadd, 1), (117, .istore_n 3, 1), (118, .iinc 4 1, 3), (121, .goto (-72), 3), (124, .iload_n 3, 1), (125, .ireturn, 1)]
def mX10_only : MR := (yX10_only, cX10_only, 5, (some .int), 2, 46, tX10_only)
theorem okX10_only : TabOk mX10_only := tab_ok (by decide +kernel)
def tX10_nextOrder : List (Nat × Instr × Nat) := [(0, .iload_n 1, 1), (1, .iconst 2, 1), (2, .isub, 1), (3, .istore_n 2, 1), (4, .iload_n 2, 1), (5, .ifCond .lt 26, 3), (8, .aload_n 0, 1), (9, .getfield 45, 3), (12, .iload_n 2, 1), (13, .iaload, 1), (14, .aload_n 0, 1), (15, .getfield 45, 3), (18, .iload_n 2, 1), (19, .iconst 1, 1), (20, .iadd, 1), (21, .iaload, 1), (22, .if_icmp .le 9, 3), (25, .iinc 2 (-1), 3), (28, .goto (-24), 3), (31, .iload_n 2, 1), (32, .ifCond .ge 5, 3), (35, .iconst 0, 1), (36, .ireturn, 1), (37, .iload_n 1, 1), (38, .iconst 1, 1), (39, .isub, 1), (40, .istore_n 3, 1), (41, .aload_n 0, 1), (42, .getfield 45, 3), (45, .iload_n 3, 1), (46, .iaload, 1), (47, .aload_n 0, 1), (48, .getfield 45, 3), (51, .iload_n 2, 1), (52, .iaload, 1), (53, .if_icmp .ge 9, 3), (56, .iinc 3 (-1), 3), (59, .goto (-18), 3), (62, .aload_n 0, 1), (63, .getfield 45, 3), (66, .iload_n 2, 1), (67, .iaload, 1), (68, .istore 4, 2), (70, .aload_n 0, 1), (71, .getfield 45, 3), (74, .iload_n 2, 1), (75, .aload_n 0, 1), (76, .getfield 45, 3), (79, .iload_n 3, 1), (80, .iaload, 1), (81, .iastore, 1), (82, .aload_n 0, 1), (83, .getfield 45, 3), (86, .iload_n 3, 1), (87, .iload 4, 2), (89, .iastore, 1), (90, .iload_n 2, 1), (91, .iconst 1, 1), (92, .iadd, 1), (93, .istore 5, 2), (95, .iload_n 1, 1), (96, .iconst 1, 1), (97, .isub, 1), (98, .istore 6, 2), (100, .iload 5, 2), (102, .iload 6, 2), (104, .if_icmp .ge 44, 3), (107, .aload_n 0, 1), (108, .getfield 45, 3), (111, .iload 5, 2), (113, .iaload, 1), (114, .istore 4, 2), (116, .aload_n 0, 1), (117, .getfield 45, 3), (120, .iload 5, 2), (122, .aload_n 0, 1), (123, .getfield 45, 3), (126, .iload 6, 2), (128, .iaload, 1), (129, .iastore, 1), (130, .aload_n 0, 1), (131, .getfield 45, 3), (134, .iload 6, 2), (136, .iload 4, 2), (138, .iastore, 1), (139, .iinc 5 1, 3), (142, .iinc 6 (-1), 3), (145, .goto (-45), 3), (148, .iconst 1, 1), (149, .ireturn, 1)]
def mX10_nextOrder : MR := (yX10_nextOrder, cX10_nextOrder, 7, (some .boolean), 0, 0, tX10_nextOrder)
theorem okX10_nextOrder : TabOk mX10_nextOrder := tab_ok (by decide +kernel)
def tX10_order_0 : List (Nat × Instr × Nat) := [(0, .iload_n 1, 1), (1, .i2l, 1), (2, .lconst 0, 1), (3, .iconst 1, 1), (4, .aload_n 0, 1), (5, .getfield 7, 3), (8, .iconst 2, 1), (9, .iaload, 1), (10, .ishl, 1), (11, .iconst 1, 1), (12, .isub, 1), (13, .i2l, 1), (14, .invokestatic 59, 3), (17, .ifCond .ne 6, 3), (20, .ldc 197, 2), (22, .ireturn, 1), (23, .iload_n 2, 1), (24, .i2l, 1), (25, .lconst 0, 1), (26, .lconst 1, 1), (27, .invokestatic 59, 3), (30, .ifCond .ne 6, 3), (33, .ldc 63, 2), (35, .ireturn, 1), (36, .iconst 0, 1), (37, .istore_n 3, 1), (38, .iconst 0, 1), (39, .istore 4, 2), (41, .iload 4, 2), (43, .aload_n 0, 1), (44, .getfield 7, 3), (47, .iconst 2, 1), (48, .iaload, 1), (49, .if_icmp .ge 29, 3), (52, .iload_n 1, 1), (53, .iload 4, 2), (55, .invokestatic 125, 3), (58, .ifCond .eq 14, 3), (61, .aload_n 0, 1), (62, .getfield 45, 3), (65, .iload_n 3, 1), (66, .iload 4, 2), (68, .iastore, 1), (69, .iinc 3 1, 3), (72, .iinc 4 1, 3), (75, .goto (-34), 3), (78, .iload_n 3, 1), (79, .i2l, 1), (80, .ldc2_w 210, 3), (83, .ldc2_w 259, 3), (86, .invokestatic 59, 3), (89, .ifCond .ne 6, 3), (92, .ldc 216, 2), (94, .ireturn, 1), (95, .ldc_w 261, 3), (98, .istore 4, 2), (100, .iconst 0, 1), (101, .istore 5, 2), (103, .iconst 1, 1), (104, .istore 6, 2)]
def tX10_order_1 : List (Nat × Instr × Nat) := [(106, .iload 6, 2), (108, .ifCond .eq 109, 3), (111, .iconst 0, 1), (112, .istore 7, 2), (114, .aload_n 0, 1), (115, .invokevirtual 250, 3), (118, .iconst 0, 1), (119, .istore 8, 2), (121, .iload 8, 2), (123, .iload_n 3, 1), (124, .if_icmp .ge 48, 3), (127, .aload_n 0, 1), (128, .getfield 19, 3), (131, .bipush 31, 2), (133, .aload_n 0, 1), (134, .getfield 45, 3), (137, .iload 8, 2), (139, .iaload, 1), (140, .iastore, 1), (141, .aload_n 0, 1), (142, .aload_n 0, 1), (143, .getfield 19, 3), (146, .invokevirtual 224, 3), (149, .bipush 10, 2), (151, .iload 7, 2), (153, .imul, 1), (154, .aload_n 0, 1), (155, .getfield 45, 3), (158, .iload 8, 2), (160, .iaload, 1), (161, .iadd, 1), (162, .iconst 1, 1), (163, .iadd, 1), (164, .istore 7, 2), (166, .iinc 8 1, 3), (169, .goto (-48), 3), (172, .aload_n 0, 1), (173, .aload_n 0, 1), (174, .getfield 19, 3), (177, .invokevirtual 175, 3), (180, .istore 8, 2), (182, .iload 8, 2), (184, .iload 4, 2), (186, .if_icmp .ge 8, 3), (189, .iload 7, 2), (191, .goto 5, 3), (194, .iload 5, 2), (196, .istore 5, 2), (198, .iload 8, 2), (200, .iload 4, 2), (202, .invokestatic 152, 3), (205, .istore 4, 2), (207, .aload_n 0, 1), (208, .iload_n 3, 1), (209, .invokevirtual 262, 3), (212, .istore 6, 2), (214, .goto (-108), 3), (217, .iload_n 2, 1), (218, .ifCond .ne 8, 3), (221, .iload 4, 2)]
def tX10_order_2 : List (Nat × Instr × Nat) := [(223, .goto 5, 3), (226, .iload 5, 2), (228, .ireturn, 1)]
def tX10_order : List (Nat × Instr × Nat) := tX10_order_0 ++ (tX10_order_1 ++ (tX10_order_2))
def mX10_order : MR := (yX10_order, cX10_order, 9, (some .int), 4, 98, tX10_order)
theorem okX10_order_0 : tX10_order_0.all (fun q => decide (decode cX10_order q.1 = .ok q.2)) = true := by decide +kernel
theorem okX10_order_1 : tX10_order_1.all (fun q => decide (decode cX10_order q.1 = .ok q.2)) = true := by decide +kernel
theorem okX10_order_2 : tX10_order_2.all (fun q => decide (decode cX10_order q.1 = .ok q.2)) = true := by decide +kernel
theorem okX10_order : TabOk mX10_order := by
  intro q hq
  rcases List.mem_append.mp hq with hq | hq
  · exact of_decide_eq_true (List.all_eq_true.mp okX10_order_0 q hq)
  rcases List.mem_append.mp hq with hq | hq
  · exact of_decide_eq_true (List.all_eq_true.mp okX10_order_1 q hq)
  exact of_decide_eq_true (List.all_eq_true.mp okX10_order_2 q hq)
def tX10_ground : List (Nat × Instr × Nat) := [(0, .aload_n 0, 1), (1, .iload_n 1, 1), (2, .invokevirtual 194, 3), (5, .ifCond .ne 6, 3), (8, .ldc 197, 2), (10, .ireturn, 1), (11, .iconst 0, 1), (12, .istore_n 2, 1), (13, .iload_n 2, 1), (14, .bipush 100, 2), (16, .if_icmp .ge 33, 3), (19, .aload_n 0, 1), (20, .aload_n 0, 1), (21, .getfield 16, 3), (24, .iload_n 1, 1), (25, .iconst 0, 1), (26, .aload_n 0, 1), (27, .getfield 7, 3), (30, .iconst 0, 1), (31, .iaload, 1), (32, .iload_n 2, 1), (33, .iadd, 1), (34, .invokevirtual 133, 3), (37, .iload_n 1, 1), (38, .if_icmp .ne 5, 3), (41, .iload_n 2, 1), (42, .ireturn, 1), (43, .iinc 2 1, 3), (46, .goto (-33), 3), (49, .iconst (-1), 1), (50, .ireturn, 1)]
def mX10_ground : MR := (yX10_ground, cX10_ground, 3, (some .int), 2, 49, tX10_ground)
theorem okX10_ground : TabOk mX10_ground := tab_ok (by decide +kernel)
def tX10_mist : List (Nat × Instr × Nat) := [(0, .iload_n 1, 1), (1, .i2l, 1), (2, .lconst 0, 1), (3, .ldc2_w 248, 3), (6, .invokestatic 59, 3), (9, .ifCond .eq 15, 3), (12, .iload_n 2, 1), (13, .i2l, 1), (14, .lconst 0, 1), (15, .ldc2_w 265, 3), (18, .invokestatic 59, 3), (21, .ifCond .ne 6, 3), (24, .ldc 63, 2), (26, .ireturn, 1), (27, .ldc2_w 267, 3), (30, .lstore_n 3, 1), (31, .iconst 0, 1), (32, .istore 5, 2), (34, .iload 5, 2), (36, .iload_n 1, 1), (37, .if_icmp .ge 18, 3), (40, .lload_n 3, 1), (41, .iload_n 2, 1), (42, .i2l, 1), (43, .lmul, 1), (44, .ldc2_w 265, 3), (47, .ldiv, 1), (48, .lstore_n 3, 1), (49, .iinc 5 1, 3), (52, .goto (-18), 3), (55, .lload_n 3, 1), (56, .l2i, 1), (57, .ireturn, 1)]
def mX10_mist : MR := (yX10_mist, cX10_mist, 6, (some .int), 1, 25, tX10_mist)
theorem okX10_mist : TabOk mX10_mist := tab_ok (by decide +kernel)
def tX10_meet : List (Nat × Instr × Nat) := [(0, .aload_n 0, 1), (1, .iload_n 1, 1), (2, .invokevirtual 194, 3), (5, .ifCond .ne 6, 3), (8, .ldc 197, 2), (10, .ireturn, 1), (11, .aload_n 0, 1), (12, .getfield 51, 3), (15, .bipush 6, 2), (17, .if_icmp .ne 6, 3), (20, .ldc 67, 2), (22, .ireturn, 1), (23, .aload_n 0, 1), (24, .getfield 39, 3), (27, .iconst 2, 1), (28, .aload_n 0, 1), (29, .getfield 51, 3), (32, .imul, 1), (33, .iload_n 1, 1), (34, .iastore, 1), (35, .aload_n 0, 1), (36, .getfield 39, 3), (39, .iconst 2, 1), (40, .aload_n 0, 1), (41, .getfield 51, 3), (44, .imul, 1), (45, .iconst 1, 1), (46, .iadd, 1), (47, .iload_n 2, 1), (48, .ifCond .eq 7, 3), (51, .iconst 1, 1), (52, .goto 4, 3), (55, .iconst 0, 1), (56, .iastore, 1), (57, .aload_n 0, 1), (58, .dup, 1), (59, .getfield 51, 3), (62, .iconst 1, 1), (63, .iadd, 1), (64, .putfield 51, 3), (67, .aload_n 0, 1), (68, .getfield 51, 3), (71, .ireturn, 1)]
def mX10_meet : MR := (yX10_meet, cX10_meet, 3, (some .int), 2, 46, tX10_meet)
theorem okX10_meet : TabOk mX10_meet := tab_ok (by decide +kernel)
def tX10_couldBe : List (Nat × Instr × Nat) := [(0, .iconst 0, 1), (1, .istore_n 1, 1), (2, .iconst 0, 1), (3, .istore_n 2, 1), (4, .iload_n 2, 1), (5, .aload_n 0, 1), (6, .getfield 7, 3), (9, .iconst 1, 1), (10, .iaload, 1), (11, .if_icmp .ge 96, 3), (14, .iconst 1, 1), (15, .istore_n 3, 1), (16, .iconst 0, 1), (17, .istore 4, 2), (19, .iload 4, 2), (21, .iconst 2, 1), (22, .aload_n 0, 1), (23, .getfield 51, 3), (26, .imul, 1), (27, .if_icmp .ge 60, 3), (30, .iload_n 3, 1), (31, .ifCond .eq 48, 3), (34, .aload_n 0, 1), (35, .iload_n 2, 1), (36, .invokevirtual 191, 3), (39, .aload_n 0, 1), (40, .getfield 39, 3), (43, .iload 4, 2), (45, .iaload, 1), (46, .if_icmp .ne 7, 3), (49, .iconst 1, 1), (50, .goto 4, 3), (53, .iconst 0, 1), (54, .aload_n 0, 1), (55, .getfield 39, 3), (58, .iload 4, 2), (60, .iconst 1, 1), (61, .iadd, 1), (62, .iaload, 1), (63, .iconst 1, 1), (64, .if_icmp .ne 7, 3), (67, .iconst 1, 1), (68, .goto 4, 3), (71, .iconst 0, 1), (72, .if_icmp .ne 7, 3), (75, .iconst 1, 1), (76, .goto 4, 3), (79, .iconst 0, 1), (80, .istore_n 3, 1), (81, .iinc 4 2, 3), (84, .goto (-65), 3), (87, .iload_n 1, 1), (88, .iload_n 3, 1), (89, .ifCond .eq 9, 3), (92, .iconst 1, 1), (93, .iload_n 2, 1), (94, .ishl, 1), (95, .goto 4, 3), (98, .iconst 0, 1), (99, .ior, 1), (100, .istore_n 1, 1), (101, .iinc 2 1, 3), (104, .goto (-100), 3), (107, .iload_n 1, 1), (108, .ireturn, 1)]
def mX10_couldBe : MR := (yX10_couldBe, cX10_couldBe, 5, (some .int), 3, 70, tX10_couldBe)
theorem okX10_couldBe : TabOk mX10_couldBe := tab_ok (by decide +kernel)
def tX10_ask : List (Nat × Instr × Nat) := [(0, .aload_n 0, 1), (1, .invokevirtual 269, 3), (4, .istore_n 1, 1), (5, .iload_n 1, 1), (6, .invokestatic 169, 3), (9, .istore_n 2, 1), (10, .iconst (-1), 1), (11, .istore_n 3, 1), (12, .iconst 0, 1), (13, .istore 4, 2), (15, .iload 4, 2), (17, .aload_n 0, 1), (18, .getfield 7, 3), (21, .iconst 1, 1), (22, .iaload, 1), (23, .if_icmp .ge 56, 3), (26, .iload_n 1, 1), (27, .aload_n 0, 1), (28, .iload 4, 2), (30, .invokevirtual 198, 3), (33, .iand, 1), (34, .invokestatic 169, 3), (37, .istore 5, 2), (39, .iload 5, 2), (41, .iload_n 1, 1), (42, .invokestatic 169, 3), (45, .iload 5, 2), (47, .isub, 1), (48, .invokestatic 172, 3), (51, .istore 6, 2), (53, .iload 6, 2), (55, .iload_n 2, 1), (56, .if_icmp .ge 8, 3), (59, .iload 4, 2), (61, .goto 4, 3), (64, .iload_n 3, 1), (65, .istore_n 3, 1), (66, .iload 6, 2), (68, .iload_n 2, 1), (69, .invokestatic 152, 3), (72, .istore_n 2, 1), (73, .iinc 4 1, 3), (76, .goto (-61), 3), (79, .iload_n 3, 1), (80, .ireturn, 1)]
def mX10_ask : MR := (yX10_ask, cX10_ask, 7, (some .int), 4, 94, tX10_ask)
theorem okX10_ask : TabOk mX10_ask := tab_ok (by decide +kernel)
def tX10_write : List (Nat × Instr × Nat) := [(0, .aload_n 0, 1), (1, .iload_n 1, 1), (2, .invokevirtual 194, 3), (5, .ifCond .eq 11, 3), (8, .aload_n 0, 1), (9, .iload_n 2, 1), (10, .invokevirtual 194, 3), (13, .ifCond .ne 6, 3), (16, .ldc 197, 2), (18, .ireturn, 1), (19, .aload_n 0, 1), (20, .getfield 54, 3), (23, .bipush 20, 2), (25, .if_icmp .ne 6, 3), (28, .ldc 67, 2), (30, .ireturn, 1), (31, .aload_n 0, 1), (32, .getfield 42, 3), (35, .iconst 2, 1), (36, .aload_n 0, 1), (37, .getfield 54, 3), (40, .imul, 1), (41, .iload_n 1, 1), (42, .iastore, 1), (43, .aload_n 0, 1), (44, .getfield 42, 3), (47, .iconst 2, 1), (48, .aload_n 0, 1), (49, .getfield 54, 3), (52, .imul, 1), (53, .iconst 1, 1), (54, .iadd, 1), (55, .iload_n 2, 1), (56, .iastore, 1), (57, .aload_n 0, 1), (58, .dup, 1), (59, .getfield 54, 3), (62, .iconst 1, 1), (63, .iadd, 1), (64, .putfield 54, 3), (67, .aload_n 0, 1), (68, .getfield 54, 3), (71, .ireturn, 1)]
def mX10_write : MR := (yX10_write, cX10_write, 3, (some .int), 2, 46, tX10_write)
theorem okX10_write : TabOk mX10_write := tab_ok (by decide +kernel)
def tX10_judge : List (Nat × Instr × Nat) := [(0, .iconst 0, 1), (1, .istore_n 1, 1), (2, .iload_n 1, 1), (3, .aload_n 0, 1), (4, .getfield 54, 3), (7, .if_icmp .ge 36, 3), (10, .aload_n 0, 1), (11, .aload_n 0, 1), (12, .getfield 42, 3), (15, .iconst 2, 1), (16, .iload_n 1, 1), (17, .imul, 1), (18, .iaload, 1), (19, .invokevirtual 191, 3), (22, .aload_n 0, 1), (23, .getfield 42, 3), (26, .iconst 2, 1), (27, .iload_n 1, 1), (28, .imul, 1), (29, .iconst 1, 1), (30, .iadd, 1), (31, .iaload, 1), (32, .if_icmp .eq 5, 3), (35, .iload_n 1, 1), (36, .ireturn, 1), (37, .iinc 1 1, 3), (40, .goto (-38), 3), (43, .iconst (-1), 1), (44, .ireturn, 1)]
def mX10_judge : MR := (yX10_judge, cX10_judge, 2, (some .int), 3, 70, tX10_judge)
theorem okX10_judge : TabOk mX10_judge := tab_ok (by decide +kernel)
def tX10_tear : List (Nat × Instr × Nat) := [(0, .aload_n 0, 1), (1, .getfield 51, 3), (4, .aload_n 0, 1), (5, .getfield 54, 3), (8, .iadd, 1), (9, .istore_n 1, 1), (10, .aload_n 0, 1), (11, .iconst 0, 1), (12, .putfield 51, 3), (15, .aload_n 0, 1), (16, .iconst 0, 1), (17, .putfield 54, 3), (20, .iload_n 1, 1), (21, .ireturn, 1)]
def mX10_tear : MR := (yX10_tear, cX10_tear, 2, (some .int), 0, 0, tX10_tear)
theorem okX10_tear : TabOk mX10_tear := tab_ok (by decide +kernel)
def tX10_seed : List (Nat × Instr × Nat) := [(0, .iload_n 1, 1), (1, .ifCond .ge 6, 3), (4, .ldc 63, 2), (6, .ireturn, 1), (7, .aload_n 0, 1), (8, .getfield 230, 3), (11, .l2i, 1), (12, .istore_n 2, 1), (13, .aload_n 0, 1), (14, .iload_n 1, 1), (15, .i2l, 1), (16, .putfield 230, 3), (19, .iload_n 2, 1), (20, .ireturn, 1)]
def mX10_seed : MR := (yX10_seed, cX10_seed, 3, (some .int), 0, 0, tX10_seed)
theorem okX10_seed : TabOk mX10_seed := tab_ok (by decide +kernel)
def tX10_keep : List (Nat × Instr × Nat) := [(0, .iload_n 1, 1), (1, .i2l, 1), (2, .lconst 0, 1), (3, .lconst 1, 1), (4, .invokestatic 59, 3), (7, .ifCond .ne 6, 3), (10, .ldc 197, 2), (12, .ireturn, 1), (13, .aload_n 0, 1), (14, .getfield 16, 3), (17, .iconst 0, 1), (18, .aload_n 0, 1), (19, .getfield 25, 3), (22, .bipush 121, 2), (24, .iload_n 1, 1), (25, .imul, 1), (26, .bipush 120, 2), (28, .invokestatic 118, 3), (31, .aload_n 0, 1), (32, .getfield 25, 3), (35, .bipush 121, 2), (37, .iload_n 1, 1), (38, .imul, 1), (39, .bipush 120, 2), (41, .iadd, 1), (42, .aload_n 0, 1), (43, .getfield 230, 3), (46, .l2i, 1), (47, .iastore, 1), (48, .aload_n 0, 1), (49, .getfield 28, 3), (52, .iload_n 1, 1), (53, .iconst 1, 1), (54, .bastore, 1), (55, .aload_n 0, 1), (56, .iconst 0, 1), (57, .putfield 48, 3), (60, .iconst 1, 1), (61, .ireturn, 1)]
def mX10_keep : MR := (yX10_keep, cX10_keep, 2, (some .int), 1, 25, tX10_keep)
theorem okX10_keep : TabOk mX10_keep := tab_ok (by decide +kernel)
def tX10_goBack : List (Nat × Instr × Nat) := [(0, .iload_n 1, 1), (1, .i2l, 1), (2, .lconst 0, 1), (3, .lconst 1, 1), (4, .invokestatic 59, 3), (7, .ifCond .ne 6, 3), (10, .ldc 197, 2), (12, .ireturn, 1), (13, .aload_n 0, 1), (14, .getfield 28, 3), (17, .iload_n 1, 1), (18, .baload, 1), (19, .ifCond .ne 6, 3), (22, .ldc 216, 2), (24, .ireturn, 1), (25, .aload_n 0, 1), (26, .getfield 25, 3), (29, .bipush 121, 2), (31, .iload_n 1, 1), (32, .imul, 1), (33, .aload_n 0, 1), (34, .getfield 16, 3), (37, .iconst 0, 1), (38, .bipush 120, 2), (40, .invokestatic 118, 3), (43, .aload_n 0, 1), (44, .aload_n 0, 1), (45, .getfield 25, 3), (48, .bipush 121, 2), (50, .iload_n 1, 1), (51, .imul, 1), (52, .bipush 120, 2), (54, .iadd, 1), (55, .iaload, 1), (56, .i2l, 1), (57, .putfield 230, 3), (60, .aload_n 0, 1), (61, .iconst 0, 1), (62, .putfield 48, 3), (65, .iconst 1, 1), (66, .ireturn, 1)]
def mX10_goBack : MR := (yX10_goBack, cX10_goBack, 2, (some .int), 1, 25, tX10_goBack)
theorem okX10_goBack : TabOk mX10_goBack := tab_ok (by decide +kernel)
def tL_law_0 : List (Nat × Instr × Nat) := [(0, .new 7, 3), (3, .dup, 1), (4, .invokespecial 9, 3), (7, .astore_n 1, 1), (8, .new 10, 3), (11, .dup, 1), (12, .invokespecial 12, 3), (15, .astore_n 2, 1), (16, .iconst 0, 1), (17, .istore_n 3, 1), (18, .iload_n 3, 1), (19, .aload_n 0, 1), (20, .arraylength, 1), (21, .iconst 3, 1), (22, .isub, 1), (23, .if_icmp .gt 988, 3), (26, .aload_n 0, 1), (27, .iload_n 3, 1), (28, .iaload, 1), (29, .bipush 63, 2), (31, .iand, 1), (32, .tableswitch 973 0 32 #[148, 171, 184, 197, 220, 253, 286, 319, 352, 375, 398, 411, 434, 467, 490, 513, 536, 559, 582, 615, 648, 681, 714, 737, 770, 819, 832, 845, 878, 891, 904, 927, 950], 148), (180, .aload_n 1, 1), (181, .aload_n 0, 1), (182, .iload_n 3, 1), (183, .iconst 1, 1), (184, .iadd, 1), (185, .iaload, 1), (186, .invokevirtual 13, 3), (189, .aload_n 2, 1), (190, .aload_n 0, 1), (191, .iload_n 3, 1), (192, .iconst 1, 1), (193, .iadd, 1), (194, .iaload, 1), (195, .invokevirtual 17, 3), (198, .if_icmp .eq 807, 3), (201, .iconst 0, 1), (202, .ireturn, 1), (203, .aload_n 1, 1), (204, .invokevirtual 18, 3), (207, .aload_n 2, 1), (208, .invokevirtual 22, 3), (211, .if_icmp .eq 794, 3), (214, .iconst 0, 1), (215, .ireturn, 1), (216, .aload_n 1, 1), (217, .invokevirtual 23, 3), (220, .aload_n 2, 1), (221, .invokevirtual 26, 3), (224, .if_icmp .eq 781, 3), (227, .iconst 0, 1), (228, .ireturn, 1), (229, .aload_n 1, 1), (230, .aload_n 0, 1), (231, .iload_n 3, 1), (232, .iconst 1, 1), (233, .iadd, 1), (234, .iaload, 1), (235, .invokevirtual 27, 3)]
def tL_law_1 : List (Nat × Instr × Nat) := [(238, .aload_n 2, 1), (239, .aload_n 0, 1), (240, .iload_n 3, 1), (241, .iconst 1, 1), (242, .iadd, 1), (243, .iaload, 1), (244, .invokevirtual 30, 3), (247, .if_icmp .eq 758, 3), (250, .iconst 0, 1), (251, .ireturn, 1), (252, .aload_n 1, 1), (253, .aload_n 0, 1), (254, .iload_n 3, 1), (255, .iconst 1, 1), (256, .iadd, 1), (257, .iaload, 1), (258, .aload_n 0, 1), (259, .iload_n 3, 1), (260, .iconst 2, 1), (261, .iadd, 1), (262, .iaload, 1), (263, .invokevirtual 31, 3), (266, .aload_n 2, 1), (267, .aload_n 0, 1), (268, .iload_n 3, 1), (269, .iconst 1, 1), (270, .iadd, 1), (271, .iaload, 1), (272, .aload_n 0, 1), (273, .iload_n 3, 1), (274, .iconst 2, 1), (275, .iadd, 1), (276, .iaload, 1), (277, .invokevirtual 35, 3), (280, .if_icmp .eq 725, 3), (283, .iconst 0, 1), (284, .ireturn, 1), (285, .aload_n 1, 1), (286, .aload_n 0, 1), (287, .iload_n 3, 1), (288, .iconst 1, 1), (289, .iadd, 1), (290, .iaload, 1), (291, .aload_n 0, 1), (292, .iload_n 3, 1), (293, .iconst 2, 1), (294, .iadd, 1), (295, .iaload, 1), (296, .invokevirtual 36, 3), (299, .aload_n 2, 1), (300, .aload_n 0, 1), (301, .iload_n 3, 1), (302, .iconst 1, 1), (303, .iadd, 1), (304, .iaload, 1), (305, .aload_n 0, 1), (306, .iload_n 3, 1), (307, .iconst 2, 1), (308, .iadd, 1), (309, .iaload, 1)]
def tL_law_2 : List (Nat × Instr × Nat) := [(310, .invokevirtual 39, 3), (313, .if_icmp .eq 692, 3), (316, .iconst 0, 1), (317, .ireturn, 1), (318, .aload_n 1, 1), (319, .aload_n 0, 1), (320, .iload_n 3, 1), (321, .iconst 1, 1), (322, .iadd, 1), (323, .iaload, 1), (324, .aload_n 0, 1), (325, .iload_n 3, 1), (326, .iconst 2, 1), (327, .iadd, 1), (328, .iaload, 1), (329, .invokevirtual 40, 3), (332, .aload_n 2, 1), (333, .aload_n 0, 1), (334, .iload_n 3, 1), (335, .iconst 1, 1), (336, .iadd, 1), (337, .iaload, 1), (338, .aload_n 0, 1), (339, .iload_n 3, 1), (340, .iconst 2, 1), (341, .iadd, 1), (342, .iaload, 1), (343, .invokevirtual 43, 3), (346, .if_icmp .eq 659, 3), (349, .iconst 0, 1), (350, .ireturn, 1), (351, .aload_n 1, 1), (352, .aload_n 0, 1), (353, .iload_n 3, 1), (354, .iconst 1, 1), (355, .iadd, 1), (356, .iaload, 1), (357, .aload_n 0, 1), (358, .iload_n 3, 1), (359, .iconst 2, 1), (360, .iadd, 1), (361, .iaload, 1), (362, .invokevirtual 44, 3), (365, .aload_n 2, 1), (366, .aload_n 0, 1), (367, .iload_n 3, 1), (368, .iconst 1, 1), (369, .iadd, 1), (370, .iaload, 1), (371, .aload_n 0, 1), (372, .iload_n 3, 1), (373, .iconst 2, 1), (374, .iadd, 1), (375, .iaload, 1), (376, .invokevirtual 47, 3), (379, .if_icmp .eq 626, 3), (382, .iconst 0, 1), (383, .ireturn, 1), (384, .aload_n 1, 1), (385, .aload_n 0, 1)]
def tL_law_3 : List (Nat × Instr × Nat) := [(386, .iload_n 3, 1), (387, .iconst 1, 1), (388, .iadd, 1), (389, .iaload, 1), (390, .invokevirtual 48, 3), (393, .aload_n 2, 1), (394, .aload_n 0, 1), (395, .iload_n 3, 1), (396, .iconst 1, 1), (397, .iadd, 1), (398, .iaload, 1), (399, .invokevirtual 51, 3), (402, .if_icmp .eq 603, 3), (405, .iconst 0, 1), (406, .ireturn, 1), (407, .aload_n 1, 1), (408, .aload_n 0, 1), (409, .iload_n 3, 1), (410, .iconst 1, 1), (411, .iadd, 1), (412, .iaload, 1), (413, .invokevirtual 52, 3), (416, .aload_n 2, 1), (417, .aload_n 0, 1), (418, .iload_n 3, 1), (419, .iconst 1, 1), (420, .iadd, 1), (421, .iaload, 1), (422, .invokevirtual 55, 3), (425, .if_icmp .eq 580, 3), (428, .iconst 0, 1), (429, .ireturn, 1), (430, .aload_n 1, 1), (431, .invokevirtual 56, 3), (434, .aload_n 2, 1), (435, .invokevirtual 59, 3), (438, .if_icmp .eq 567, 3), (441, .iconst 0, 1), (442, .ireturn, 1), (443, .aload_n 1, 1), (444, .aload_n 0, 1), (445, .iload_n 3, 1), (446, .iconst 1, 1), (447, .iadd, 1), (448, .iaload, 1), (449, .invokevirtual 60, 3), (452, .aload_n 2, 1), (453, .aload_n 0, 1), (454, .iload_n 3, 1), (455, .iconst 1, 1), (456, .iadd, 1), (457, .iaload, 1), (458, .invokevirtual 63, 3), (461, .if_icmp .eq 544, 3), (464, .iconst 0, 1), (465, .ireturn, 1), (466, .aload_n 1, 1), (467, .aload_n 0, 1), (468, .iload_n 3, 1), (469, .iconst 1, 1)]
def tL_law_4 : List (Nat × Instr × Nat) := [(470, .iadd, 1), (471, .iaload, 1), (472, .aload_n 0, 1), (473, .iload_n 3, 1), (474, .iconst 2, 1), (475, .iadd, 1), (476, .iaload, 1), (477, .invokevirtual 64, 3), (480, .aload_n 2, 1), (481, .aload_n 0, 1), (482, .iload_n 3, 1), (483, .iconst 1, 1), (484, .iadd, 1), (485, .iaload, 1), (486, .aload_n 0, 1), (487, .iload_n 3, 1), (488, .iconst 2, 1), (489, .iadd, 1), (490, .iaload, 1), (491, .invokevirtual 67, 3), (494, .if_icmp .eq 511, 3), (497, .iconst 0, 1), (498, .ireturn, 1), (499, .aload_n 1, 1), (500, .aload_n 0, 1), (501, .iload_n 3, 1), (502, .iconst 1, 1), (503, .iadd, 1), (504, .iaload, 1), (505, .invokevirtual 68, 3), (508, .aload_n 2, 1), (509, .aload_n 0, 1), (510, .iload_n 3, 1), (511, .iconst 1, 1), (512, .iadd, 1), (513, .iaload, 1), (514, .invokevirtual 71, 3), (517, .if_icmp .eq 488, 3), (520, .iconst 0, 1), (521, .ireturn, 1), (522, .aload_n 1, 1), (523, .aload_n 0, 1), (524, .iload_n 3, 1), (525, .iconst 1, 1), (526, .iadd, 1), (527, .iaload, 1), (528, .invokevirtual 72, 3), (531, .aload_n 2, 1), (532, .aload_n 0, 1), (533, .iload_n 3, 1), (534, .iconst 1, 1), (535, .iadd, 1), (536, .iaload, 1), (537, .invokevirtual 75, 3), (540, .if_icmp .eq 465, 3), (543, .iconst 0, 1), (544, .ireturn, 1), (545, .aload_n 1, 1), (546, .aload_n 0, 1), (547, .iload_n 3, 1)]
def tL_law_5 : List (Nat × Instr × Nat) := [(548, .iconst 1, 1), (549, .iadd, 1), (550, .iaload, 1), (551, .invokevirtual 76, 3), (554, .aload_n 2, 1), (555, .aload_n 0, 1), (556, .iload_n 3, 1), (557, .iconst 1, 1), (558, .iadd, 1), (559, .iaload, 1), (560, .invokevirtual 79, 3), (563, .if_icmp .eq 442, 3), (566, .iconst 0, 1), (567, .ireturn, 1), (568, .aload_n 1, 1), (569, .aload_n 0, 1), (570, .iload_n 3, 1), (571, .iconst 1, 1), (572, .iadd, 1), (573, .iaload, 1), (574, .invokevirtual 80, 3), (577, .aload_n 2, 1), (578, .aload_n 0, 1), (579, .iload_n 3, 1), (580, .iconst 1, 1), (581, .iadd, 1), (582, .iaload, 1), (583, .invokevirtual 83, 3), (586, .if_icmp .eq 419, 3), (589, .iconst 0, 1), (590, .ireturn, 1), (591, .aload_n 1, 1), (592, .aload_n 0, 1), (593, .iload_n 3, 1), (594, .iconst 1, 1), (595, .iadd, 1), (596, .iaload, 1), (597, .invokevirtual 84, 3), (600, .aload_n 2, 1), (601, .aload_n 0, 1), (602, .iload_n 3, 1), (603, .iconst 1, 1), (604, .iadd, 1), (605, .iaload, 1), (606, .invokevirtual 87, 3), (609, .if_icmp .eq 396, 3), (612, .iconst 0, 1), (613, .ireturn, 1), (614, .aload_n 1, 1), (615, .aload_n 0, 1), (616, .iload_n 3, 1), (617, .iconst 1, 1), (618, .iadd, 1), (619, .iaload, 1), (620, .aload_n 0, 1), (621, .iload_n 3, 1), (622, .iconst 2, 1), (623, .iadd, 1), (624, .iaload, 1), (625, .invokevirtual 88, 3)]
def tL_law_6 : List (Nat × Instr × Nat) := [(628, .aload_n 2, 1), (629, .aload_n 0, 1), (630, .iload_n 3, 1), (631, .iconst 1, 1), (632, .iadd, 1), (633, .iaload, 1), (634, .aload_n 0, 1), (635, .iload_n 3, 1), (636, .iconst 2, 1), (637, .iadd, 1), (638, .iaload, 1), (639, .invokevirtual 91, 3), (642, .if_icmp .eq 363, 3), (645, .iconst 0, 1), (646, .ireturn, 1), (647, .aload_n 1, 1), (648, .aload_n 0, 1), (649, .iload_n 3, 1), (650, .iconst 1, 1), (651, .iadd, 1), (652, .iaload, 1), (653, .aload_n 0, 1), (654, .iload_n 3, 1), (655, .iconst 2, 1), (656, .iadd, 1), (657, .iaload, 1), (658, .invokevirtual 92, 3), (661, .aload_n 2, 1), (662, .aload_n 0, 1), (663, .iload_n 3, 1), (664, .iconst 1, 1), (665, .iadd, 1), (666, .iaload, 1), (667, .aload_n 0, 1), (668, .iload_n 3, 1), (669, .iconst 2, 1), (670, .iadd, 1), (671, .iaload, 1), (672, .invokevirtual 95, 3), (675, .if_icmp .eq 330, 3), (678, .iconst 0, 1), (679, .ireturn, 1), (680, .aload_n 1, 1), (681, .aload_n 0, 1), (682, .iload_n 3, 1), (683, .iconst 1, 1), (684, .iadd, 1), (685, .iaload, 1), (686, .aload_n 0, 1), (687, .iload_n 3, 1), (688, .iconst 2, 1), (689, .iadd, 1), (690, .iaload, 1), (691, .invokevirtual 96, 3), (694, .aload_n 2, 1), (695, .aload_n 0, 1), (696, .iload_n 3, 1), (697, .iconst 1, 1), (698, .iadd, 1), (699, .iaload, 1)]
def tL_law_7 : List (Nat × Instr × Nat) := [(700, .aload_n 0, 1), (701, .iload_n 3, 1), (702, .iconst 2, 1), (703, .iadd, 1), (704, .iaload, 1), (705, .invokevirtual 99, 3), (708, .if_icmp .eq 297, 3), (711, .iconst 0, 1), (712, .ireturn, 1), (713, .aload_n 1, 1), (714, .aload_n 0, 1), (715, .iload_n 3, 1), (716, .iconst 1, 1), (717, .iadd, 1), (718, .iaload, 1), (719, .aload_n 0, 1), (720, .iload_n 3, 1), (721, .iconst 2, 1), (722, .iadd, 1), (723, .iaload, 1), (724, .invokevirtual 100, 3), (727, .aload_n 2, 1), (728, .aload_n 0, 1), (729, .iload_n 3, 1), (730, .iconst 1, 1), (731, .iadd, 1), (732, .iaload, 1), (733, .aload_n 0, 1), (734, .iload_n 3, 1), (735, .iconst 2, 1), (736, .iadd, 1), (737, .iaload, 1), (738, .invokevirtual 103, 3), (741, .if_icmp .eq 264, 3), (744, .iconst 0, 1), (745, .ireturn, 1), (746, .aload_n 1, 1), (747, .aload_n 0, 1), (748, .iload_n 3, 1), (749, .iconst 1, 1), (750, .iadd, 1), (751, .iaload, 1), (752, .invokevirtual 104, 3), (755, .aload_n 2, 1), (756, .aload_n 0, 1), (757, .iload_n 3, 1), (758, .iconst 1, 1), (759, .iadd, 1), (760, .iaload, 1), (761, .invokevirtual 107, 3), (764, .if_icmp .eq 241, 3), (767, .iconst 0, 1), (768, .ireturn, 1), (769, .aload_n 1, 1), (770, .aload_n 0, 1), (771, .iload_n 3, 1), (772, .iconst 1, 1), (773, .iadd, 1), (774, .iaload, 1), (775, .aload_n 0, 1)]
def tL_law_8 : List (Nat × Instr × Nat) := [(776, .iload_n 3, 1), (777, .iconst 2, 1), (778, .iadd, 1), (779, .iaload, 1), (780, .invokevirtual 108, 3), (783, .aload_n 2, 1), (784, .aload_n 0, 1), (785, .iload_n 3, 1), (786, .iconst 1, 1), (787, .iadd, 1), (788, .iaload, 1), (789, .aload_n 0, 1), (790, .iload_n 3, 1), (791, .iconst 2, 1), (792, .iadd, 1), (793, .iaload, 1), (794, .invokevirtual 111, 3), (797, .if_icmp .eq 208, 3), (800, .iconst 0, 1), (801, .ireturn, 1), (802, .aload_n 1, 1), (803, .aload_n 0, 1), (804, .iload_n 3, 1), (805, .iconst 1, 1), (806, .iadd, 1), (807, .iaload, 1), (808, .aload_n 0, 1), (809, .iload_n 3, 1), (810, .iconst 2, 1), (811, .iadd, 1), (812, .iaload, 1), (813, .ifCond .eq 7, 3), (816, .iconst 1, 1), (817, .goto 4, 3), (820, .iconst 0, 1), (821, .invokevirtual 112, 3), (824, .aload_n 2, 1), (825, .aload_n 0, 1), (826, .iload_n 3, 1), (827, .iconst 1, 1), (828, .iadd, 1), (829, .iaload, 1), (830, .aload_n 0, 1), (831, .iload_n 3, 1), (832, .iconst 2, 1), (833, .iadd, 1), (834, .iaload, 1), (835, .ifCond .eq 7, 3), (838, .iconst 1, 1), (839, .goto 4, 3), (842, .iconst 0, 1), (843, .invokevirtual 116, 3), (846, .if_icmp .eq 159, 3), (849, .iconst 0, 1), (850, .ireturn, 1), (851, .aload_n 1, 1), (852, .invokevirtual 117, 3), (855, .aload_n 2, 1), (856, .invokevirtual 120, 3), (859, .if_icmp .eq 146, 3)]
def tL_law_9 : List (Nat × Instr × Nat) := [(862, .iconst 0, 1), (863, .ireturn, 1), (864, .aload_n 1, 1), (865, .invokevirtual 121, 3), (868, .aload_n 2, 1), (869, .invokevirtual 124, 3), (872, .if_icmp .eq 133, 3), (875, .iconst 0, 1), (876, .ireturn, 1), (877, .aload_n 1, 1), (878, .aload_n 0, 1), (879, .iload_n 3, 1), (880, .iconst 1, 1), (881, .iadd, 1), (882, .iaload, 1), (883, .aload_n 0, 1), (884, .iload_n 3, 1), (885, .iconst 2, 1), (886, .iadd, 1), (887, .iaload, 1), (888, .invokevirtual 125, 3), (891, .aload_n 2, 1), (892, .aload_n 0, 1), (893, .iload_n 3, 1), (894, .iconst 1, 1), (895, .iadd, 1), (896, .iaload, 1), (897, .aload_n 0, 1), (898, .iload_n 3, 1), (899, .iconst 2, 1), (900, .iadd, 1), (901, .iaload, 1), (902, .invokevirtual 128, 3), (905, .if_icmp .eq 100, 3), (908, .iconst 0, 1), (909, .ireturn, 1), (910, .aload_n 1, 1), (911, .invokevirtual 129, 3), (914, .aload_n 2, 1), (915, .invokevirtual 132, 3), (918, .if_icmp .eq 87, 3), (921, .iconst 0, 1), (922, .ireturn, 1), (923, .aload_n 1, 1), (924, .invokevirtual 133, 3), (927, .aload_n 2, 1), (928, .invokevirtual 136, 3), (931, .if_icmp .eq 74, 3), (934, .iconst 0, 1), (935, .ireturn, 1), (936, .aload_n 1, 1), (937, .aload_n 0, 1), (938, .iload_n 3, 1), (939, .iconst 1, 1), (940, .iadd, 1), (941, .iaload, 1), (942, .invokevirtual 137, 3), (945, .aload_n 2, 1), (946, .aload_n 0, 1), (947, .iload_n 3, 1)]
def tL_law_10 : List (Nat × Instr × Nat) := [(948, .iconst 1, 1), (949, .iadd, 1), (950, .iaload, 1), (951, .invokevirtual 140, 3), (954, .if_icmp .eq 51, 3), (957, .iconst 0, 1), (958, .ireturn, 1), (959, .aload_n 1, 1), (960, .aload_n 0, 1), (961, .iload_n 3, 1), (962, .iconst 1, 1), (963, .iadd, 1), (964, .iaload, 1), (965, .invokevirtual 141, 3), (968, .aload_n 2, 1), (969, .aload_n 0, 1), (970, .iload_n 3, 1), (971, .iconst 1, 1), (972, .iadd, 1), (973, .iaload, 1), (974, .invokevirtual 144, 3), (977, .if_icmp .eq 28, 3), (980, .iconst 0, 1), (981, .ireturn, 1), (982, .aload_n 1, 1), (983, .aload_n 0, 1), (984, .iload_n 3, 1), (985, .iconst 1, 1), (986, .iadd, 1), (987, .iaload, 1), (988, .invokevirtual 145, 3), (991, .aload_n 2, 1), (992, .aload_n 0, 1), (993, .iload_n 3, 1), (994, .iconst 1, 1), (995, .iadd, 1), (996, .iaload, 1), (997, .invokevirtual 148, 3), (1000, .if_icmp .eq 5, 3), (1003, .iconst 0, 1), (1004, .ireturn, 1), (1005, .iinc 3 3, 3), (1008, .goto (-990), 3), (1011, .iconst 1, 1), (1012, .ireturn, 1)]
def tL_law : List (Nat × Instr × Nat) := tL_law_0 ++ (tL_law_1 ++ (tL_law_2 ++ (tL_law_3 ++ (tL_law_4 ++ (tL_law_5 ++ (tL_law_6 ++ (tL_law_7 ++ (tL_law_8 ++ (tL_law_9 ++ (tL_law_10))))))))))
def mL_law : MR := (yL_law, cL_law, 4, (some .boolean), 9, 322, tL_law)
theorem okL_law_0 : tL_law_0.all (fun q => decide (decode cL_law q.1 = .ok q.2)) = true := by decide +kernel
theorem okL_law_1 : tL_law_1.all (fun q => decide (decode cL_law q.1 = .ok q.2)) = true := by decide +kernel
theorem okL_law_2 : tL_law_2.all (fun q => decide (decode cL_law q.1 = .ok q.2)) = true := by decide +kernel
theorem okL_law_3 : tL_law_3.all (fun q => decide (decode cL_law q.1 = .ok q.2)) = true := by decide +kernel
theorem okL_law_4 : tL_law_4.all (fun q => decide (decode cL_law q.1 = .ok q.2)) = true := by decide +kernel
theorem okL_law_5 : tL_law_5.all (fun q => decide (decode cL_law q.1 = .ok q.2)) = true := by decide +kernel
theorem okL_law_6 : tL_law_6.all (fun q => decide (decode cL_law q.1 = .ok q.2)) = true := by decide +kernel
theorem okL_law_7 : tL_law_7.all (fun q => decide (decode cL_law q.1 = .ok q.2)) = true := by decide +kernel
theorem okL_law_8 : tL_law_8.all (fun q => decide (decode cL_law q.1 = .ok q.2)) = true := by decide +kernel
theorem okL_law_9 : tL_law_9.all (fun q => decide (decode cL_law q.1 = .ok q.2)) = true := by decide +kernel
theorem okL_law_10 : tL_law_10.all (fun q => decide (decode cL_law q.1 = .ok q.2)) = true := by decide +kernel
theorem okL_law : TabOk mL_law := by
  intro q hq
  rcases List.mem_append.mp hq with hq | hq
  · exact of_decide_eq_true (List.all_eq_true.mp okL_law_0 q hq)
  rcases List.mem_append.mp hq with hq | hq
  · exact of_decide_eq_true (List.all_eq_true.mp okL_law_1 q hq)
  rcases List.mem_append.mp hq with hq | hq
  · exact of_decide_eq_true (List.all_eq_true.mp okL_law_2 q hq)
  rcases List.mem_append.mp hq with hq | hq
  · exact of_decide_eq_true (List.all_eq_true.mp okL_law_3 q hq)
  rcases List.mem_append.mp hq with hq | hq
  · exact of_decide_eq_true (List.all_eq_true.mp okL_law_4 q hq)
  rcases List.mem_append.mp hq with hq | hq
  · exact of_decide_eq_true (List.all_eq_true.mp okL_law_5 q hq)
  rcases List.mem_append.mp hq with hq | hq
  · exact of_decide_eq_true (List.all_eq_true.mp okL_law_6 q hq)
  rcases List.mem_append.mp hq with hq | hq
  · exact of_decide_eq_true (List.all_eq_true.mp okL_law_7 q hq)
  rcases List.mem_append.mp hq with hq | hq
  · exact of_decide_eq_true (List.all_eq_true.mp okL_law_8 q hq)
  rcases List.mem_append.mp hq with hq | hq
  · exact of_decide_eq_true (List.all_eq_true.mp okL_law_9 q hq)
  exact of_decide_eq_true (List.all_eq_true.mp okL_law_10 q hq)
end
section
set_option maxRecDepth 20000 in
theorem fX9_10 : FOk RX9 10 9 0 := ⟨_, rfl, by decide, (lwg_of (List.mem_append_right _ (List.mem_of_getElem? (i := 233) rfl)) rfl)⟩
set_option maxRecDepth 20000 in
theorem fX9_19 : FOk RX9 19 9 1 := ⟨_, rfl, by decide, (lwg_of (List.mem_append_right _ (List.mem_of_getElem? (i := 234) rfl)) rfl)⟩
set_option maxRecDepth 20000 in
theorem fX9_25 : FOk RX9 25 9 2 := ⟨_, rfl, by decide, (lwg_of (List.mem_append_right _ (List.mem_of_getElem? (i := 235) rfl)) rfl)⟩
set_option maxRecDepth 20000 in
theorem fX9_32 : FOk RX9 32 9 3 := ⟨_, rfl, by decide, (lwg_of (List.mem_append_right _ (List.mem_of_getElem? (i := 236) rfl)) rfl)⟩
set_option maxRecDepth 20000 in
theorem fX9_36 : FOk RX9 36 9 4 := ⟨_, rfl, by decide, (lwg_of (List.mem_append_right _ (List.mem_of_getElem? (i := 237) rfl)) rfl)⟩
set_option maxRecDepth 20000 in
theorem fX9_42 : FOk RX9 42 9 5 := ⟨_, rfl, by decide, (lwg_of (List.mem_append_right _ (List.mem_of_getElem? (i := 238) rfl)) rfl)⟩
set_option maxRecDepth 20000 in
theorem fX9_49 : FOk RX9 49 9 6 := ⟨_, rfl, by decide, (lwg_of (List.mem_append_right _ (List.mem_of_getElem? (i := 239) rfl)) rfl)⟩
set_option maxRecDepth 20000 in
theorem fX9_56 : FOk RX9 56 9 7 := ⟨_, rfl, by decide, (lwg_of (List.mem_append_right _ (List.mem_of_getElem? (i := 240) rfl)) rfl)⟩
set_option maxRecDepth 20000 in
theorem fX9_63 : FOk RX9 63 9 8 := ⟨_, rfl, by decide, (lwg_of (List.mem_append_right _ (List.mem_of_getElem? (i := 241) rfl)) rfl)⟩
set_option maxRecDepth 20000 in
theorem gX9_63 : FPut RX9 63 9 8 (.object "HandedLens$Line") := ⟨_, rfl, by decide, (lwg_of (List.mem_append_right _ (List.mem_of_getElem? (i := 241) rfl)) rfl), rfl, by decide +kernel⟩
set_option maxRecDepth 20000 in
theorem fX9_67 : FOk RX9 67 9 9 := ⟨_, rfl, by decide, (lwg_of (List.mem_append_right _ (List.mem_of_getElem? (i := 242) rfl)) rfl)⟩
set_option maxRecDepth 20000 in
theorem gX9_67 : FPut RX9 67 9 9 (.object "HandedLens$Line") := ⟨_, rfl, by decide, (lwg_of (List.mem_append_right _ (List.mem_of_getElem? (i := 242) rfl)) rfl), rfl, by decide +kernel⟩
set_option maxRecDepth 20000 in
theorem fX9_70 : FOk RX9 70 9 10 := ⟨_, rfl, by decide, (lwg_of (List.mem_append_right _ (List.mem_of_getElem? (i := 243) rfl)) rfl)⟩
set_option maxRecDepth 20000 in
theorem gX9_70 : FPut RX9 70 9 10 .int := ⟨_, rfl, by decide, (lwg_of (List.mem_append_right _ (List.mem_of_getElem? (i := 243) rfl)) rfl), rfl, by decide +kernel⟩
set_option maxRecDepth 20000 in
theorem fX9_74 : FOk RX9 74 9 11 := ⟨_, rfl, by decide, (lwg_of (List.mem_append_right _ (List.mem_of_getElem? (i := 244) rfl)) rfl)⟩
set_option maxRecDepth 20000 in
theorem gX9_74 : FPut RX9 74 9 11 .int := ⟨_, rfl, by decide, (lwg_of (List.mem_append_right _ (List.mem_of_getElem? (i := 244) rfl)) rfl), rfl, by decide +kernel⟩
set_option maxRecDepth 20000 in
theorem fX9_79 : FOk RX9 79 7 1 := ⟨_, rfl, by decide, (lwg_of (List.mem_append_right _ (List.mem_of_getElem? (i := 31) rfl)) rfl)⟩
set_option maxRecDepth 20000 in
theorem fX9_91 : FOk RX9 91 7 4 := ⟨_, rfl, by decide, (lwg_of (List.mem_append_right _ (List.mem_of_getElem? (i := 35) rfl)) rfl)⟩
set_option maxRecDepth 20000 in
theorem fX9_101 : FOk RX9 101 2 2 := ⟨_, rfl, by decide, (lwg_of (List.mem_append_right _ (List.mem_of_getElem? (i := 225) rfl)) rfl)⟩
set_option maxRecDepth 20000 in
theorem gX9_101 : FPut RX9 101 2 2 .boolean := ⟨_, rfl, by decide, (lwg_of (List.mem_append_right _ (List.mem_of_getElem? (i := 225) rfl)) rfl), rfl, by decide +kernel⟩
set_option maxRecDepth 20000 in
theorem fX9_107 : FOk RX9 107 3 5 := ⟨_, rfl, by decide, (lwg_of (List.mem_append_right _ (List.mem_of_getElem? (i := 193) rfl)) rfl)⟩
set_option maxRecDepth 20000 in
theorem fX9_110 : FOk RX9 110 3 4 := ⟨_, rfl, by decide, (lwg_of (List.mem_append_right _ (List.mem_of_getElem? (i := 191) rfl)) rfl)⟩
set_option maxRecDepth 20000 in
theorem fX9_113 : FOk RX9 113 3 6 := ⟨_, rfl, by decide, (lwg_of (List.mem_append_right _ (List.mem_of_getElem? (i := 197) rfl)) rfl)⟩
set_option maxRecDepth 20000 in
theorem fX9_116 : FOk RX9 116 6 7 := ⟨_, rfl, by decide, (lwg_of (List.mem_append_right _ (List.mem_of_getElem? (i := 92) rfl)) rfl)⟩
set_option maxRecDepth 20000 in
theorem fX9_119 : FOk RX9 119 6 6 := ⟨_, rfl, by decide, (lwg_of (List.mem_append_right _ (List.mem_of_getElem? (i := 90) rfl)) rfl)⟩
set_option maxRecDepth 20000 in
theorem gX9_119 : FPut RX9 119 6 6 .int := ⟨_, rfl, by decide, (lwg_of (List.mem_append_right _ (List.mem_of_getElem? (i := 90) rfl)) rfl), rfl, by decide +kernel⟩
set_option maxRecDepth 20000 in
theorem fX9_122 : FOk RX9 122 6 5 := ⟨_, rfl, by decide, (lwg_of (List.mem_append_right _ (List.mem_of_getElem? (i := 88) rfl)) rfl)⟩
set_option maxRecDepth 20000 in
theorem fX9_142 : FOk RX9 142 6 4 := ⟨_, rfl, by decide, (lwg_of (List.mem_append_right _ (List.mem_of_getElem? (i := 86) rfl)) rfl)⟩
set_option maxRecDepth 20000 in
theorem fX9_146 : FOk RX9 146 4 2 := ⟨_, rfl, by decide, (lwg_of (List.mem_append_right _ (List.mem_of_getElem? (i := 70) rfl)) rfl)⟩
set_option maxRecDepth 20000 in
theorem fX9_151 : FOk RX9 151 5 2 := ⟨_, rfl, by decide, (lwg_of (List.mem_append_right _ (List.mem_of_getElem? (i := 149) rfl)) rfl)⟩
set_option maxRecDepth 20000 in
theorem fX9_152 : FOk RX9 152 0 2 := ⟨_, rfl, by decide, (lwg_of (List.mem_append_right _ (List.mem_of_getElem? (i := 169) rfl)) rfl)⟩
set_option maxRecDepth 20000 in
theorem fX9_153 : FOk RX9 153 1 2 := ⟨_, rfl, by decide, (lwg_of (List.mem_append_right _ (List.mem_of_getElem? (i := 113) rfl)) rfl)⟩
set_option maxRecDepth 20000 in
theorem fX9_196 : FOk RX9 196 6 0 := ⟨_, rfl, by decide, (lwg_of (List.mem_append_right _ (List.mem_of_getElem? (i := 79) rfl)) rfl)⟩
set_option maxRecDepth 20000 in
theorem fX9_200 : FOk RX9 200 6 1 := ⟨_, rfl, by decide, (lwg_of (List.mem_append_right _ (List.mem_of_getElem? (i := 81) rfl)) rfl)⟩
set_option maxRecDepth 20000 in
theorem fX9_203 : FOk RX9 203 6 2 := ⟨_, rfl, by decide, (lwg_of (List.mem_append_right _ (List.mem_of_getElem? (i := 83) rfl)) rfl)⟩
set_option maxRecDepth 20000 in
theorem fX9_298 : FOk RX9 298 0 0 := ⟨_, rfl, by decide, (lwg_of (List.mem_append_right _ (List.mem_of_getElem? (i := 165) rfl)) rfl)⟩
set_option maxRecDepth 20000 in
theorem fX9_300 : FOk RX9 300 0 1 := ⟨_, rfl, by decide, (lwg_of (List.mem_append_right _ (List.mem_of_getElem? (i := 167) rfl)) rfl)⟩
set_option maxRecDepth 20000 in
theorem fX9_303 : FOk RX9 303 2 0 := ⟨_, rfl, by decide, (lwg_of (List.mem_append_right _ (List.mem_of_getElem? (i := 221) rfl)) rfl)⟩
set_option maxRecDepth 20000 in
theorem fX9_307 : FOk RX9 307 2 1 := ⟨_, rfl, by decide, (lwg_of (List.mem_append_right _ (List.mem_of_getElem? (i := 223) rfl)) rfl)⟩
set_option maxRecDepth 20000 in
theorem gX9_307 : FPut RX9 307 2 1 .int := ⟨_, rfl, by decide, (lwg_of (List.mem_append_right _ (List.mem_of_getElem? (i := 223) rfl)) rfl), rfl, by decide +kernel⟩
set_option maxRecDepth 20000 in
theorem fX9_309 : FOk RX9 309 8 1 := ⟨_, rfl, by decide, (lwg_of (List.mem_append_right _ (List.mem_of_getElem? (i := 134) rfl)) rfl)⟩
set_option maxRecDepth 20000 in
theorem fX9_310 : FOk RX9 310 8 0 := ⟨_, rfl, by decide, (lwg_of (List.mem_append_right _ (List.mem_of_getElem? (i := 132) rfl)) rfl)⟩
set_option maxRecDepth 20000 in
theorem fX0_9 : FOk RX0 9 0 0 := ⟨_, rfl, by decide, (lwg_of (List.mem_append_right _ (List.mem_of_getElem? (i := 164) rfl)) rfl)⟩
set_option maxRecDepth 20000 in
theorem fX0_15 : FOk RX0 15 0 1 := ⟨_, rfl, by decide, (lwg_of (List.mem_append_right _ (List.mem_of_getElem? (i := 166) rfl)) rfl)⟩
set_option maxRecDepth 20000 in
theorem fX0_18 : FOk RX0 18 0 2 := ⟨_, rfl, by decide, (lwg_of (List.mem_append_right _ (List.mem_of_getElem? (i := 168) rfl)) rfl)⟩
set_option maxRecDepth 20000 in
theorem gX0_18 : FPut RX0 18 0 2 .int := ⟨_, rfl, by decide, (lwg_of (List.mem_append_right _ (List.mem_of_getElem? (i := 168) rfl)) rfl), rfl, by decide +kernel⟩
set_option maxRecDepth 20000 in
theorem fX1_11 : FOk RX1 11 1 0 := ⟨_, rfl, by decide, (lwg_of (List.mem_append_right _ (List.mem_of_getElem? (i := 110) rfl)) rfl)⟩
set_option maxRecDepth 20000 in
theorem fX1_17 : FOk RX1 17 1 1 := ⟨_, rfl, by decide, (lwg_of (List.mem_append_right _ (List.mem_of_getElem? (i := 111) rfl)) rfl)⟩
set_option maxRecDepth 20000 in
theorem gX1_17 : FPut RX1 17 1 1 .int := ⟨_, rfl, by decide, (lwg_of (List.mem_append_right _ (List.mem_of_getElem? (i := 111) rfl)) rfl), rfl, by decide +kernel⟩
set_option maxRecDepth 20000 in
theorem fX1_21 : FOk RX1 21 1 2 := ⟨_, rfl, by decide, (lwg_of (List.mem_append_right _ (List.mem_of_getElem? (i := 112) rfl)) rfl)⟩
set_option maxRecDepth 20000 in
theorem gX1_21 : FPut RX1 21 1 2 .int := ⟨_, rfl, by decide, (lwg_of (List.mem_append_right _ (List.mem_of_getElem? (i := 112) rfl)) rfl), rfl, by decide +kernel⟩
set_option maxRecDepth 20000 in
theorem fX2_10 : FOk RX2 10 2 0 := ⟨_, rfl, by decide, (lwg_of (List.mem_append_right _ (List.mem_of_getElem? (i := 220) rfl)) rfl)⟩
set_option maxRecDepth 20000 in
theorem fX2_16 : FOk RX2 16 2 1 := ⟨_, rfl, by decide, (lwg_of (List.mem_append_right _ (List.mem_of_getElem? (i := 222) rfl)) rfl)⟩
set_option maxRecDepth 20000 in
theorem gX2_16 : FPut RX2 16 2 1 .int := ⟨_, rfl, by decide, (lwg_of (List.mem_append_right _ (List.mem_of_getElem? (i := 222) rfl)) rfl), rfl, by decide +kernel⟩
set_option maxRecDepth 20000 in
theorem fX2_20 : FOk RX2 20 2 2 := ⟨_, rfl, by decide, (lwg_of (List.mem_append_right _ (List.mem_of_getElem? (i := 224) rfl)) rfl)⟩
set_option maxRecDepth 20000 in
theorem gX2_20 : FPut RX2 20 2 2 .boolean := ⟨_, rfl, by decide, (lwg_of (List.mem_append_right _ (List.mem_of_getElem? (i := 224) rfl)) rfl), rfl, by decide +kernel⟩
set_option maxRecDepth 20000 in
theorem fX3_9 : FOk RX3 9 3 0 := ⟨_, rfl, by decide, (lwg_of (List.mem_append_right _ (List.mem_of_getElem? (i := 185) rfl)) rfl)⟩
set_option maxRecDepth 20000 in
theorem fX3_15 : FOk RX3 15 3 1 := ⟨_, rfl, by decide, (lwg_of (List.mem_append_right _ (List.mem_of_getElem? (i := 186) rfl)) rfl)⟩
set_option maxRecDepth 20000 in
theorem fX3_18 : FOk RX3 18 3 2 := ⟨_, rfl, by decide, (lwg_of (List.mem_append_right _ (List.mem_of_getElem? (i := 187) rfl)) rfl)⟩
set_option maxRecDepth 20000 in
theorem fX3_23 : FOk RX3 23 3 3 := ⟨_, rfl, by decide, (lwg_of (List.mem_append_right _ (List.mem_of_getElem? (i := 188) rfl)) rfl)⟩
set_option maxRecDepth 20000 in
theorem fX3_26 : FOk RX3 26 3 4 := ⟨_, rfl, by decide, (lwg_of (List.mem_append_right _ (List.mem_of_getElem? (i := 189) rfl)) rfl)⟩
set_option maxRecDepth 20000 in
theorem gX3_26 : FPut RX3 26 3 4 .int := ⟨_, rfl, by decide, (lwg_of (List.mem_append_right _ (List.mem_of_getElem? (i := 189) rfl)) rfl), rfl, by decide +kernel⟩
set_option maxRecDepth 20000 in
theorem fX3_30 : FOk RX3 30 3 5 := ⟨_, rfl, by decide, (lwg_of (List.mem_append_right _ (List.mem_of_getElem? (i := 192) rfl)) rfl)⟩
set_option maxRecDepth 20000 in
theorem gX3_30 : FPut RX3 30 3 5 .int := ⟨_, rfl, by decide, (lwg_of (List.mem_append_right _ (List.mem_of_getElem? (i := 192) rfl)) rfl), rfl, by decide +kernel⟩
set_option maxRecDepth 20000 in
theorem fX3_33 : FOk RX3 33 3 6 := ⟨_, rfl, by decide, (lwg_of (List.mem_append_right _ (List.mem_of_getElem? (i := 195) rfl)) rfl)⟩
set_option maxRecDepth 20000 in
theorem gX3_33 : FPut RX3 33 3 6 .int := ⟨_, rfl, by decide, (lwg_of (List.mem_append_right _ (List.mem_of_getElem? (i := 195) rfl)) rfl), rfl, by decide +kernel⟩
set_option maxRecDepth 20000 in
theorem fX4_9 : FOk RX4 9 4 0 := ⟨_, rfl, by decide, (lwg_of (List.mem_append_right _ (List.mem_of_getElem? (i := 67) rfl)) rfl)⟩
set_option maxRecDepth 20000 in
theorem fX4_15 : FOk RX4 15 4 1 := ⟨_, rfl, by decide, (lwg_of (List.mem_append_right _ (List.mem_of_getElem? (i := 68) rfl)) rfl)⟩
set_option maxRecDepth 20000 in
theorem gX4_15 : FPut RX4 15 4 1 .int := ⟨_, rfl, by decide, (lwg_of (List.mem_append_right _ (List.mem_of_getElem? (i := 68) rfl)) rfl), rfl, by decide +kernel⟩
set_option maxRecDepth 20000 in
theorem fX4_19 : FOk RX4 19 4 2 := ⟨_, rfl, by decide, (lwg_of (List.mem_append_right _ (List.mem_of_getElem? (i := 69) rfl)) rfl)⟩
set_option maxRecDepth 20000 in
theorem gX4_19 : FPut RX4 19 4 2 .int := ⟨_, rfl, by decide, (lwg_of (List.mem_append_right _ (List.mem_of_getElem? (i := 69) rfl)) rfl), rfl, by decide +kernel⟩
set_option maxRecDepth 20000 in
theorem fX5_9 : FOk RX5 9 5 0 := ⟨_, rfl, by decide, (lwg_of (List.mem_append_right _ (List.mem_of_getElem? (i := 146) rfl)) rfl)⟩
set_option maxRecDepth 20000 in
theorem fX5_15 : FOk RX5 15 5 1 := ⟨_, rfl, by decide, (lwg_of (List.mem_append_right _ (List.mem_of_getElem? (i := 147) rfl)) rfl)⟩
set_option maxRecDepth 20000 in
theorem fX5_19 : FOk RX5 19 5 2 := ⟨_, rfl, by decide, (lwg_of (List.mem_append_right _ (List.mem_of_getElem? (i := 148) rfl)) rfl)⟩
set_option maxRecDepth 20000 in
theorem gX5_19 : FPut RX5 19 5 2 .int := ⟨_, rfl, by decide, (lwg_of (List.mem_append_right _ (List.mem_of_getElem? (i := 148) rfl)) rfl), rfl, by decide +kernel⟩
set_option maxRecDepth 20000 in
theorem fX6_9 : FOk RX6 9 6 0 := ⟨_, rfl, by decide, (lwg_of (List.mem_append_right _ (List.mem_of_getElem? (i := 78) rfl)) rfl)⟩
set_option maxRecDepth 20000 in
theorem fX6_15 : FOk RX6 15 6 1 := ⟨_, rfl, by decide, (lwg_of (List.mem_append_right _ (List.mem_of_getElem? (i := 80) rfl)) rfl)⟩
set_option maxRecDepth 20000 in
theorem fX6_18 : FOk RX6 18 6 2 := ⟨_, rfl, by decide, (lwg_of (List.mem_append_right _ (List.mem_of_getElem? (i := 82) rfl)) rfl)⟩
set_option maxRecDepth 20000 in
theorem fX6_21 : FOk RX6 21 6 3 := ⟨_, rfl, by decide, (lwg_of (List.mem_append_right _ (List.mem_of_getElem? (i := 84) rfl)) rfl)⟩
set_option maxRecDepth 20000 in
theorem fX6_27 : FOk RX6 27 6 4 := ⟨_, rfl, by decide, (lwg_of (List.mem_append_right _ (List.mem_of_getElem? (i := 85) rfl)) rfl)⟩
set_option maxRecDepth 20000 in
theorem fX6_31 : FOk RX6 31 6 5 := ⟨_, rfl, by decide, (lwg_of (List.mem_append_right _ (List.mem_of_getElem? (i := 87) rfl)) rfl)⟩
set_option maxRecDepth 20000 in
theorem gX6_31 : FPut RX6 31 6 5 .int := ⟨_, rfl, by decide, (lwg_of (List.mem_append_right _ (List.mem_of_getElem? (i := 87) rfl)) rfl), rfl, by decide +kernel⟩
set_option maxRecDepth 20000 in
theorem fX6_35 : FOk RX6 35 6 6 := ⟨_, rfl, by decide, (lwg_of (List.mem_append_right _ (List.mem_of_getElem? (i := 89) rfl)) rfl)⟩
set_option maxRecDepth 20000 in
theorem gX6_35 : FPut RX6 35 6 6 .int := ⟨_, rfl, by decide, (lwg_of (List.mem_append_right _ (List.mem_of_getElem? (i := 89) rfl)) rfl), rfl, by decide +kernel⟩
set_option maxRecDepth 20000 in
theorem fX6_38 : FOk RX6 38 6 7 := ⟨_, rfl, by decide, (lwg_of (List.mem_append_right _ (List.mem_of_getElem? (i := 91) rfl)) rfl)⟩
set_option maxRecDepth 20000 in
theorem gX6_38 : FPut RX6 38 6 7 .int := ⟨_, rfl, by decide, (lwg_of (List.mem_append_right _ (List.mem_of_getElem? (i := 91) rfl)) rfl), rfl, by decide +kernel⟩
set_option maxRecDepth 20000 in
theorem fX7_9 : FOk RX7 9 7 0 := ⟨_, rfl, by decide, (lwg_of (List.mem_append_right _ (List.mem_of_getElem? (i := 29) rfl)) rfl)⟩
set_option maxRecDepth 20000 in
theorem fX7_15 : FOk RX7 15 7 1 := ⟨_, rfl, by decide, (lwg_of (List.mem_append_right _ (List.mem_of_getElem? (i := 30) rfl)) rfl)⟩
set_option maxRecDepth 20000 in
theorem gX7_15 : FPut RX7 15 7 1 .int := ⟨_, rfl, by decide, (lwg_of (List.mem_append_right _ (List.mem_of_getElem? (i := 30) rfl)) rfl), rfl, by decide +kernel⟩
set_option maxRecDepth 20000 in
theorem fX7_19 : FOk RX7 19 7 2 := ⟨_, rfl, by decide, (lwg_of (List.mem_append_right _ (List.mem_of_getElem? (i := 32) rfl)) rfl)⟩
set_option maxRecDepth 20000 in
theorem gX7_19 : FPut RX7 19 7 2 .int := ⟨_, rfl, by decide, (lwg_of (List.mem_append_right _ (List.mem_of_getElem? (i := 32) rfl)) rfl), rfl, by decide +kernel⟩
set_option maxRecDepth 20000 in
theorem fX7_22 : FOk RX7 22 7 3 := ⟨_, rfl, by decide, (lwg_of (List.mem_append_right _ (List.mem_of_getElem? (i := 33) rfl)) rfl)⟩
set_option maxRecDepth 20000 in
theorem gX7_22 : FPut RX7 22 7 3 .int := ⟨_, rfl, by decide, (lwg_of (List.mem_append_right _ (List.mem_of_getElem? (i := 33) rfl)) rfl), rfl, by decide +kernel⟩
set_option maxRecDepth 20000 in
theorem fX7_25 : FOk RX7 25 7 4 := ⟨_, rfl, by decide, (lwg_of (List.mem_append_right _ (List.mem_of_getElem? (i := 34) rfl)) rfl)⟩
set_option maxRecDepth 20000 in
theorem gX7_25 : FPut RX7 25 7 4 .int := ⟨_, rfl, by decide, (lwg_of (List.mem_append_right _ (List.mem_of_getElem? (i := 34) rfl)) rfl), rfl, by decide +kernel⟩
set_option maxRecDepth 20000 in
theorem fX7_44 : FOk RX7 44 3 4 := ⟨_, rfl, by decide, (lwg_of (List.mem_append_right _ (List.mem_of_getElem? (i := 190) rfl)) rfl)⟩
set_option maxRecDepth 20000 in
theorem gX7_44 : FPut RX7 44 3 4 .int := ⟨_, rfl, by decide, (lwg_of (List.mem_append_right _ (List.mem_of_getElem? (i := 190) rfl)) rfl), rfl, by decide +kernel⟩
set_option maxRecDepth 20000 in
theorem fX7_54 : FOk RX7 54 3 5 := ⟨_, rfl, by decide, (lwg_of (List.mem_append_right _ (List.mem_of_getElem? (i := 194) rfl)) rfl)⟩
set_option maxRecDepth 20000 in
theorem fX7_60 : FOk RX7 60 3 6 := ⟨_, rfl, by decide, (lwg_of (List.mem_append_right _ (List.mem_of_getElem? (i := 196) rfl)) rfl)⟩
set_option maxRecDepth 20000 in
theorem fX8_9 : FOk RX8 9 8 0 := ⟨_, rfl, by decide, (lwg_of (List.mem_append_right _ (List.mem_of_getElem? (i := 131) rfl)) rfl)⟩
set_option maxRecDepth 20000 in
theorem fX8_15 : FOk RX8 15 8 1 := ⟨_, rfl, by decide, (lwg_of (List.mem_append_right _ (List.mem_of_getElem? (i := 133) rfl)) rfl)⟩
set_option maxRecDepth 20000 in
theorem gX8_15 : FPut RX8 15 8 1 .int := ⟨_, rfl, by decide, (lwg_of (List.mem_append_right _ (List.mem_of_getElem? (i := 133) rfl)) rfl), rfl, by decide +kernel⟩
set_option maxRecDepth 20000 in
theorem fX10_7 : FOk RX10 7 10 0 := ⟨_, rfl, by decide, (lwg_of (List.mem_append_right _ (List.mem_of_getElem? (i := 747) rfl)) rfl)⟩
set_option maxRecDepth 20000 in
theorem fX10_13 : FOk RX10 13 10 1 := ⟨_, rfl, by decide, (lwg_of (List.mem_append_right _ (List.mem_of_getElem? (i := 748) rfl)) rfl)⟩
set_option maxRecDepth 20000 in
theorem fX10_16 : FOk RX10 16 10 2 := ⟨_, rfl, by decide, (lwg_of (List.mem_append_right _ (List.mem_of_getElem? (i := 749) rfl)) rfl)⟩
set_option maxRecDepth 20000 in
theorem fX10_19 : FOk RX10 19 10 3 := ⟨_, rfl, by decide, (lwg_of (List.mem_append_right _ (List.mem_of_getElem? (i := 750) rfl)) rfl)⟩
set_option maxRecDepth 20000 in
theorem fX10_22 : FOk RX10 22 10 4 := ⟨_, rfl, by decide, (lwg_of (List.mem_append_right _ (List.mem_of_getElem? (i := 751) rfl)) rfl)⟩
set_option maxRecDepth 20000 in
theorem fX10_25 : FOk RX10 25 10 6 := ⟨_, rfl, by decide, (lwg_of (List.mem_append_right _ (List.mem_of_getElem? (i := 753) rfl)) rfl)⟩
set_option maxRecDepth 20000 in
theorem fX10_28 : FOk RX10 28 10 7 := ⟨_, rfl, by decide, (lwg_of (List.mem_append_right _ (List.mem_of_getElem? (i := 754) rfl)) rfl)⟩
set_option maxRecDepth 20000 in
theorem fX10_32 : FOk RX10 32 10 9 := ⟨_, rfl, by decide, (lwg_of (List.mem_append_right _ (List.mem_of_getElem? (i := 756) rfl)) rfl)⟩
set_option maxRecDepth 20000 in
theorem fX10_35 : FOk RX10 35 10 11 := ⟨_, rfl, by decide, (lwg_of (List.mem_append_right _ (List.mem_of_getElem? (i := 758) rfl)) rfl)⟩
set_option maxRecDepth 20000 in
theorem gX10_35 : FPut RX10 35 10 11 .int := ⟨_, rfl, by decide, (lwg_of (List.mem_append_right _ (List.mem_of_getElem? (i := 758) rfl)) rfl), rfl, by decide +kernel⟩
set_option maxRecDepth 20000 in
theorem fX10_39 : FOk RX10 39 10 12 := ⟨_, rfl, by decide, (lwg_of (List.mem_append_right _ (List.mem_of_getElem? (i := 759) rfl)) rfl)⟩
set_option maxRecDepth 20000 in
theorem fX10_42 : FOk RX10 42 10 14 := ⟨_, rfl, by decide, (lwg_of (List.mem_append_right _ (List.mem_of_getElem? (i := 761) rfl)) rfl)⟩
set_option maxRecDepth 20000 in
theorem fX10_45 : FOk RX10 45 10 22 := ⟨_, rfl, by decide, (lwg_of (List.mem_append_right _ (List.mem_of_getElem? (i := 769) rfl)) rfl)⟩
set_option maxRecDepth 20000 in
theorem fX10_48 : FOk RX10 48 10 5 := ⟨_, rfl, by decide, (lwg_of (List.mem_append_right _ (List.mem_of_getElem? (i := 752) rfl)) rfl)⟩
set_option maxRecDepth 20000 in
theorem gX10_48 : FPut RX10 48 10 5 .int := ⟨_, rfl, by decide, (lwg_of (List.mem_append_right _ (List.mem_of_getElem? (i := 752) rfl)) rfl), rfl, by decide +kernel⟩
set_option maxRecDepth 20000 in
theorem fX10_51 : FOk RX10 51 10 13 := ⟨_, rfl, by decide, (lwg_of (List.mem_append_right _ (List.mem_of_getElem? (i := 760) rfl)) rfl)⟩
set_option maxRecDepth 20000 in
theorem gX10_51 : FPut RX10 51 10 13 .int := ⟨_, rfl, by decide, (lwg_of (List.mem_append_right _ (List.mem_of_getElem? (i := 760) rfl)) rfl), rfl, by decide +kernel⟩
set_option maxRecDepth 20000 in
theorem fX10_54 : FOk RX10 54 10 15 := ⟨_, rfl, by decide, (lwg_of (List.mem_append_right _ (List.mem_of_getElem? (i := 762) rfl)) rfl)⟩
set_option maxRecDepth 20000 in
theorem gX10_54 : FPut RX10 54 10 15 .int := ⟨_, rfl, by decide, (lwg_of (List.mem_append_right _ (List.mem_of_getElem? (i := 762) rfl)) rfl), rfl, by decide +kernel⟩
set_option maxRecDepth 20000 in
theorem fX10_64 : FOk RX10 64 10 10 := ⟨_, rfl, by decide, (lwg_of (List.mem_append_right _ (List.mem_of_getElem? (i := 757) rfl)) rfl)⟩
set_option maxRecDepth 20000 in
theorem gX10_64 : FPut RX10 64 10 10 .int := ⟨_, rfl, by decide, (lwg_of (List.mem_append_right _ (List.mem_of_getElem? (i := 757) rfl)) rfl), rfl, by decide +kernel⟩
set_option maxRecDepth 20000 in
theorem fX10_68 : FOk RX10 68 10 16 := ⟨_, rfl, by decide, (lwg_of (List.mem_append_right _ (List.mem_of_getElem? (i := 763) rfl)) rfl)⟩
set_option maxRecDepth 20000 in
theorem gX10_68 : FPut RX10 68 10 16 .int := ⟨_, rfl, by decide, (lwg_of (List.mem_append_right _ (List.mem_of_getElem? (i := 763) rfl)) rfl), rfl, by decide +kernel⟩
set_option maxRecDepth 20000 in
theorem fX10_75 : FOk RX10 75 10 17 := ⟨_, rfl, by decide, (lwg_of (List.mem_append_right _ (List.mem_of_getElem? (i := 764) rfl)) rfl)⟩
set_option maxRecDepth 20000 in
theorem gX10_75 : FPut RX10 75 10 17 .int := ⟨_, rfl, by decide, (lwg_of (List.mem_append_right _ (List.mem_of_getElem? (i := 764) rfl)) rfl), rfl, by decide +kernel⟩
set_option maxRecDepth 20000 in
theorem fX10_78 : FOk RX10 78 10 18 := ⟨_, rfl, by decide, (lwg_of (List.mem_append_right _ (List.mem_of_getElem? (i := 765) rfl)) rfl)⟩
set_option maxRecDepth 20000 in
theorem gX10_78 : FPut RX10 78 10 18 .int := ⟨_, rfl, by decide, (lwg_of (List.mem_append_right _ (List.mem_of_getElem? (i := 765) rfl)) rfl), rfl, by decide +kernel⟩
set_option maxRecDepth 20000 in
theorem fX10_81 : FOk RX10 81 10 19 := ⟨_, rfl, by decide, (lwg_of (List.mem_append_right _ (List.mem_of_getElem? (i := 766) rfl)) rfl)⟩
set_option maxRecDepth 20000 in
theorem gX10_81 : FPut RX10 81 10 19 .int := ⟨_, rfl, by decide, (lwg_of (List.mem_append_right _ (List.mem_of_getElem? (i := 766) rfl)) rfl), rfl, by decide +kernel⟩
set_option maxRecDepth 20000 in
theorem fX10_84 : FOk RX10 84 10 20 := ⟨_, rfl, by decide, (lwg_of (List.mem_append_right _ (List.mem_of_getElem? (i := 767) rfl)) rfl)⟩
set_option maxRecDepth 20000 in
theorem gX10_84 : FPut RX10 84 10 20 .int := ⟨_, rfl, by decide, (lwg_of (List.mem_append_right _ (List.mem_of_getElem? (i := 767) rfl)) rfl), rfl, by decide +kernel⟩
set_option maxRecDepth 20000 in
theorem fX10_91 : FOk RX10 91 10 21 := ⟨_, rfl, by decide, (lwg_of (List.mem_append_right _ (List.mem_of_getElem? (i := 768) rfl)) rfl)⟩
set_option maxRecDepth 20000 in
theorem gX10_91 : FPut RX10 91 10 21 .int := ⟨_, rfl, by decide, (lwg_of (List.mem_append_right _ (List.mem_of_getElem? (i := 768) rfl)) rfl), rfl, by decide +kernel⟩
set_option maxRecDepth 20000 in
theorem fX10_230 : FOk RX10 230 10 8 := ⟨_, rfl, by decide, (lwg_of (List.mem_append_right _ (List.mem_of_getElem? (i := 755) rfl)) rfl)⟩
set_option maxRecDepth 20000 in
theorem gX10_230 : FPut RX10 230 10 8 .long := ⟨_, rfl, by decide, (lwg_of (List.mem_append_right _ (List.mem_of_getElem? (i := 755) rfl)) rfl), rfl, by decide +kernel⟩
set_option maxRecDepth 20000 in
theorem kX9_78 : Jvm.Cond.constant RX9 78 (Int32.ofInt (-1000000002)) ∈ lwg := (lwg_of (List.mem_append_right _ (List.mem_of_getElem? (i := 274) rfl)) rfl)
set_option maxRecDepth 20000 in
theorem kX9_82 : Jvm.Cond.constant RX9 82 (Int32.ofInt (-1000000004)) ∈ lwg := (lwg_of (List.mem_append_right _ (List.mem_of_getElem? (i := 275) rfl)) rfl)
set_option maxRecDepth 20000 in
theorem kX9_158 : Jvm.Cond.constant RX9 158 (Int32.ofInt (-1000000001)) ∈ lwg := (lwg_of (List.mem_append_right _ (List.mem_of_getElem? (i := 415) rfl)) rfl)
set_option maxRecDepth 20000 in
theorem kX9_220 : Jvm.Cond.constant RX9 220 (Int32.ofInt (-1000000003)) ∈ lwg := (lwg_of (List.mem_append_right _ (List.mem_of_getElem? (i := 497) rfl)) rfl)
set_option maxRecDepth 20000 in
theorem kX9_308 : Jvm.Cond.constant RX9 308 (Int32.ofInt (90000)) ∈ lwg := (lwg_of (List.mem_append_right _ (List.mem_of_getElem? (i := 498) rfl)) rfl)
set_option maxRecDepth 20000 in
theorem kX9_319 : Jvm.Cond.constant RX9 319 (Int32.ofInt (65536)) ∈ lwg := (lwg_of (List.mem_append_right _ (List.mem_of_getElem? (i := 599) rfl)) rfl)
set_option maxRecDepth 20000 in
theorem kX10_63 : Jvm.Cond.constant RX10 63 (Int32.ofInt (-1000000002)) ∈ lwg := (lwg_of (List.mem_append_right _ (List.mem_of_getElem? (i := 825) rfl)) rfl)
set_option maxRecDepth 20000 in
theorem kX10_67 : Jvm.Cond.constant RX10 67 (Int32.ofInt (-1000000004)) ∈ lwg := (lwg_of (List.mem_append_right _ (List.mem_of_getElem? (i := 826) rfl)) rfl)
set_option maxRecDepth 20000 in
theorem kX10_197 : Jvm.Cond.constant RX10 197 (Int32.ofInt (-1000000001)) ∈ lwg := (lwg_of (List.mem_append_right _ (List.mem_of_getElem? (i := 919) rfl)) rfl)
set_option maxRecDepth 20000 in
theorem kX10_216 : Jvm.Cond.constant RX10 216 (Int32.ofInt (-1000000003)) ∈ lwg := (lwg_of (List.mem_append_right _ (List.mem_of_getElem? (i := 981) rfl)) rfl)
set_option maxRecDepth 20000 in
theorem kX10_217 : Jvm.Cond.constant RX10 217 (Int32.ofInt (90000)) ∈ lwg := (lwg_of (List.mem_append_right _ (List.mem_of_getElem? (i := 982) rfl)) rfl)
set_option maxRecDepth 20000 in
theorem kX10_261 : Jvm.Cond.constant RX10 261 (Int32.ofInt (100000000)) ∈ lwg := (lwg_of (List.mem_append_right _ (List.mem_of_getElem? (i := 1090) rfl)) rfl)
set_option maxRecDepth 20000 in
theorem kJ6_265 : Jvm.Cond.constant RJ6 265 (Int32.ofInt (1431655765)) ∈ lwg := (lwg_of (List.mem_append_right _ (List.mem_of_getElem? (i := 468) rfl)) rfl)
set_option maxRecDepth 20000 in
theorem kJ6_266 : Jvm.Cond.constant RJ6 266 (Int32.ofInt (858993459)) ∈ lwg := (lwg_of (List.mem_append_right _ (List.mem_of_getElem? (i := 469) rfl)) rfl)
set_option maxRecDepth 20000 in
theorem kJ6_267 : Jvm.Cond.constant RJ6 267 (Int32.ofInt (252645135)) ∈ lwg := (lwg_of (List.mem_append_right _ (List.mem_of_getElem? (i := 470) rfl)) rfl)
set_option maxRecDepth 20000 in
theorem kX9_276 : Jvm.Cond.constantLong RX9 276 (Int64.ofInt (1000000000)) ∈ lwg := (lwg_of (List.mem_append_right _ (List.mem_of_getElem? (i := 688) rfl)) rfl)
set_option maxRecDepth 20000 in
theorem kX9_278 : Jvm.Cond.constantLong RX9 278 (Int64.ofInt (100)) ∈ lwg := (lwg_of (List.mem_append_right _ (List.mem_of_getElem? (i := 689) rfl)) rfl)
set_option maxRecDepth 20000 in
theorem kX9_313 : Jvm.Cond.constantLong RX9 313 (Int64.ofInt (1103515245)) ∈ lwg := (lwg_of (List.mem_append_right _ (List.mem_of_getElem? (i := 596) rfl)) rfl)
set_option maxRecDepth 20000 in
theorem kX9_315 : Jvm.Cond.constantLong RX9 315 (Int64.ofInt (12345)) ∈ lwg := (lwg_of (List.mem_append_right _ (List.mem_of_getElem? (i := 597) rfl)) rfl)
set_option maxRecDepth 20000 in
theorem kX9_317 : Jvm.Cond.constantLong RX9 317 (Int64.ofInt (2147483648)) ∈ lwg := (lwg_of (List.mem_append_right _ (List.mem_of_getElem? (i := 598) rfl)) rfl)
set_option maxRecDepth 20000 in
theorem kX10_57 : Jvm.Cond.constantLong RX10 57 (Int64.ofInt (255)) ∈ lwg := (lwg_of (List.mem_append_right _ (List.mem_of_getElem? (i := 821) rfl)) rfl)
set_option maxRecDepth 20000 in
theorem kX10_87 : Jvm.Cond.constantLong RX10 87 (Int64.ofInt (48)) ∈ lwg := (lwg_of (List.mem_append_right _ (List.mem_of_getElem? (i := 839) rfl)) rfl)
set_option maxRecDepth 20000 in
theorem kX10_89 : Jvm.Cond.constantLong RX10 89 (Int64.ofInt (57)) ∈ lwg := (lwg_of (List.mem_append_right _ (List.mem_of_getElem? (i := 840) rfl)) rfl)
set_option maxRecDepth 20000 in
theorem kX10_210 : Jvm.Cond.constantLong RX10 210 (Int64.ofInt (2)) ∈ lwg := (lwg_of (List.mem_append_right _ (List.mem_of_getElem? (i := 966) rfl)) rfl)
set_option maxRecDepth 20000 in
theorem kX10_212 : Jvm.Cond.constantLong RX10 212 (Int64.ofInt (3)) ∈ lwg := (lwg_of (List.mem_append_right _ (List.mem_of_getElem? (i := 971) rfl)) rfl)
set_option maxRecDepth 20000 in
theorem kX10_214 : Jvm.Cond.constantLong RX10 214 (Int64.ofInt (30)) ∈ lwg := (lwg_of (List.mem_append_right _ (List.mem_of_getElem? (i := 980) rfl)) rfl)
set_option maxRecDepth 20000 in
theorem kX10_228 : Jvm.Cond.constantLong RX10 228 (Int64.ofInt (99)) ∈ lwg := (lwg_of (List.mem_append_right _ (List.mem_of_getElem? (i := 1027) rfl)) rfl)
set_option maxRecDepth 20000 in
theorem kX10_234 : Jvm.Cond.constantLong RX10 234 (Int64.ofInt (1103515245)) ∈ lwg := (lwg_of (List.mem_append_right _ (List.mem_of_getElem? (i := 1040) rfl)) rfl)
set_option maxRecDepth 20000 in
theorem kX10_236 : Jvm.Cond.constantLong RX10 236 (Int64.ofInt (12345)) ∈ lwg := (lwg_of (List.mem_append_right _ (List.mem_of_getElem? (i := 1041) rfl)) rfl)
set_option maxRecDepth 20000 in
theorem kX10_238 : Jvm.Cond.constantLong RX10 238 (Int64.ofInt (2147483648)) ∈ lwg := (lwg_of (List.mem_append_right _ (List.mem_of_getElem? (i := 1042) rfl)) rfl)
set_option maxRecDepth 20000 in
theorem kX10_240 : Jvm.Cond.constantLong RX10 240 (Int64.ofInt (65536)) ∈ lwg := (lwg_of (List.mem_append_right _ (List.mem_of_getElem? (i := 1043) rfl)) rfl)
set_option maxRecDepth 20000 in
theorem kX10_248 : Jvm.Cond.constantLong RX10 248 (Int64.ofInt (60)) ∈ lwg := (lwg_of (List.mem_append_right _ (List.mem_of_getElem? (i := 1056) rfl)) rfl)
set_option maxRecDepth 20000 in
theorem kX10_259 : Jvm.Cond.constantLong RX10 259 (Int64.ofInt (5)) ∈ lwg := (lwg_of (List.mem_append_right _ (List.mem_of_getElem? (i := 1089) rfl)) rfl)
set_option maxRecDepth 20000 in
theorem kX10_265 : Jvm.Cond.constantLong RX10 265 (Int64.ofInt (100)) ∈ lwg := (lwg_of (List.mem_append_right _ (List.mem_of_getElem? (i := 1103) rfl)) rfl)
set_option maxRecDepth 20000 in
theorem kX10_267 : Jvm.Cond.constantLong RX10 267 (Int64.ofInt (1000000000)) ∈ lwg := (lwg_of (List.mem_append_right _ (List.mem_of_getElem? (i := 1104) rfl)) rfl)
set_option maxRecDepth 20000 in
theorem vmX9_areSeenWithout : VM mX9_areSeenWithout 2 := ⟨(lwg_of (List.mem_append_right _ (List.mem_of_getElem? (i := 642) rfl)) rfl), (lwg_of (List.mem_append_left _ (List.mem_of_getElem? (i := 8) rfl)) rfl), (lwg_of (List.mem_append_right _ (List.mem_of_getElem? (i := 1) rfl)) rfl), (lwg_of (List.mem_append_right _ (List.mem_of_getElem? (i := 643) rfl)) rfl), ⟨by decide, by decide, by decide⟩⟩
set_option maxRecDepth 20000 in
theorem vmX9_ask : VM mX9_ask 0 := ⟨(lwg_of (List.mem_append_right _ (List.mem_of_getElem? (i := 707) rfl)) rfl), (lwg_of (List.mem_append_right _ (List.mem_of_getElem? (i := 708) rfl)) rfl), (lwg_of (List.mem_append_right _ (List.mem_of_getElem? (i := 1) rfl)) rfl), (lwg_of (List.mem_append_right _ (List.mem_of_getElem? (i := 709) rfl)) rfl), ⟨by decide, by decide, by decide⟩⟩
set_option maxRecDepth 20000 in
theorem vmX9_chip : VM mX9_chip 2 := ⟨(lwg_of (List.mem_append_right _ (List.mem_of_getElem? (i := 580) rfl)) rfl), (lwg_of (List.mem_append_right _ (List.mem_of_getElem? (i := 581) rfl)) rfl), (lwg_of (List.mem_append_right _ (List.mem_of_getElem? (i := 1) rfl)) rfl), (lwg_of (List.mem_append_right _ (List.mem_of_getElem? (i := 582) rfl)) rfl), ⟨by decide, by decide, by decide⟩⟩
set_option maxRecDepth 20000 in
theorem vmX9_couldBe : VM mX9_couldBe 0 := ⟨(lwg_of (List.mem_append_right _ (List.mem_of_getElem? (i := 699) rfl)) rfl), (lwg_of (List.mem_append_right _ (List.mem_of_getElem? (i := 700) rfl)) rfl), (lwg_of (List.mem_append_right _ (List.mem_of_getElem? (i := 1) rfl)) rfl), (lwg_of (List.mem_append_right _ (List.mem_of_getElem? (i := 701) rfl)) rfl), ⟨by decide, by decide, by decide⟩⟩
set_option maxRecDepth 20000 in
theorem vmX9_dark : VM mX9_dark 1 := ⟨(lwg_of (List.mem_append_right _ (List.mem_of_getElem? (i := 613) rfl)) rfl), (lwg_of (List.mem_append_right _ (List.mem_of_getElem? (i := 614) rfl)) rfl), (lwg_of (List.mem_append_right _ (List.mem_of_getElem? (i := 1) rfl)) rfl), (lwg_of (List.mem_append_right _ (List.mem_of_getElem? (i := 615) rfl)) rfl), ⟨by decide, by decide, by decide⟩⟩
set_option maxRecDepth 20000 in
theorem vmX9_darkBehindTurns : VM mX9_darkBehindTurns 0 := ⟨(lwg_of (List.mem_append_right _ (List.mem_of_getElem? (i := 662) rfl)) rfl), (lwg_of (List.mem_append_left _ (List.mem_of_getElem? (i := 9) rfl)) rfl), (lwg_of (List.mem_append_right _ (List.mem_of_getElem? (i := 1) rfl)) rfl), (lwg_of (List.mem_append_right _ (List.mem_of_getElem? (i := 663) rfl)) rfl), ⟨by decide, by decide, by decide⟩⟩
set_option maxRecDepth 20000 in
theorem vmX9_doByDraw : VM mX9_doByDraw 0 := ⟨(lwg_of (List.mem_append_right _ (List.mem_of_getElem? (i := 590) rfl)) rfl), (lwg_of (List.mem_append_left _ (List.mem_of_getElem? (i := 5) rfl)) rfl), (lwg_of (List.mem_append_right _ (List.mem_of_getElem? (i := 1) rfl)) rfl), (lwg_of (List.mem_append_right _ (List.mem_of_getElem? (i := 591) rfl)) rfl), ⟨by decide, by decide, by decide⟩⟩
set_option maxRecDepth 20000 in
theorem vmX9_drawOf : VM mX9_drawOf 1 := ⟨(lwg_of (List.mem_append_right _ (List.mem_of_getElem? (i := 594) rfl)) rfl), (lwg_of (List.mem_append_left _ (List.mem_of_getElem? (i := 6) rfl)) rfl), (lwg_of (List.mem_append_right _ (List.mem_of_getElem? (i := 1) rfl)) rfl), (lwg_of (List.mem_append_right _ (List.mem_of_getElem? (i := 595) rfl)) rfl), ⟨by decide, by decide, by decide⟩⟩
set_option maxRecDepth 20000 in
theorem vmX9_drift : VM mX9_drift 1 := ⟨(lwg_of (List.mem_append_right _ (List.mem_of_getElem? (i := 585) rfl)) rfl), (lwg_of (List.mem_append_right _ (List.mem_of_getElem? (i := 586) rfl)) rfl), (lwg_of (List.mem_append_right _ (List.mem_of_getElem? (i := 1) rfl)) rfl), (lwg_of (List.mem_append_right _ (List.mem_of_getElem? (i := 587) rfl)) rfl), ⟨by decide, by decide, by decide⟩⟩
set_option maxRecDepth 20000 in
theorem vmX9_fault : VM mX9_fault 0 := ⟨(lwg_of (List.mem_append_right _ (List.mem_of_getElem? (i := 373) rfl)) rfl), (lwg_of (List.mem_append_right _ (List.mem_of_getElem? (i := 374) rfl)) rfl), (lwg_of (List.mem_append_right _ (List.mem_of_getElem? (i := 1) rfl)) rfl), (lwg_of (List.mem_append_right _ (List.mem_of_getElem? (i := 375) rfl)) rfl), ⟨by decide, by decide, by decide⟩⟩
set_option maxRecDepth 20000 in
theorem vmX9_feed : VM mX9_feed 1 := ⟨(lwg_of (List.mem_append_right _ (List.mem_of_getElem? (i := 271) rfl)) rfl), (lwg_of (List.mem_append_right _ (List.mem_of_getElem? (i := 272) rfl)) rfl), (lwg_of (List.mem_append_right _ (List.mem_of_getElem? (i := 1) rfl)) rfl), (lwg_of (List.mem_append_right _ (List.mem_of_getElem? (i := 273) rfl)) rfl), ⟨by decide, by decide, by decide⟩⟩
set_option maxRecDepth 20000 in
theorem vmX9_goBack : VM mX9_goBack 1 := ⟨(lwg_of (List.mem_append_right _ (List.mem_of_getElem? (i := 738) rfl)) rfl), (lwg_of (List.mem_append_right _ (List.mem_of_getElem? (i := 739) rfl)) rfl), (lwg_of (List.mem_append_right _ (List.mem_of_getElem? (i := 1) rfl)) rfl), (lwg_of (List.mem_append_right _ (List.mem_of_getElem? (i := 740) rfl)) rfl), ⟨by decide, by decide, by decide⟩⟩
set_option maxRecDepth 20000 in
theorem vmX9_ground : VM mX9_ground 1 := ⟨(lwg_of (List.mem_append_right _ (List.mem_of_getElem? (i := 681) rfl)) rfl), (lwg_of (List.mem_append_right _ (List.mem_of_getElem? (i := 682) rfl)) rfl), (lwg_of (List.mem_append_right _ (List.mem_of_getElem? (i := 1) rfl)) rfl), (lwg_of (List.mem_append_right _ (List.mem_of_getElem? (i := 683) rfl)) rfl), ⟨by decide, by decide, by decide⟩⟩
set_option maxRecDepth 20000 in
theorem vmX9_judge : VM mX9_judge 0 := ⟨(lwg_of (List.mem_append_right _ (List.mem_of_getElem? (i := 721) rfl)) rfl), (lwg_of (List.mem_append_right _ (List.mem_of_getElem? (i := 722) rfl)) rfl), (lwg_of (List.mem_append_right _ (List.mem_of_getElem? (i := 1) rfl)) rfl), (lwg_of (List.mem_append_right _ (List.mem_of_getElem? (i := 723) rfl)) rfl), ⟨by decide, by decide, by decide⟩⟩
set_option maxRecDepth 20000 in
theorem vmX9_keep : VM mX9_keep 1 := ⟨(lwg_of (List.mem_append_right _ (List.mem_of_getElem? (i := 733) rfl)) rfl), (lwg_of (List.mem_append_right _ (List.mem_of_getElem? (i := 734) rfl)) rfl), (lwg_of (List.mem_append_right _ (List.mem_of_getElem? (i := 1) rfl)) rfl), (lwg_of (List.mem_append_right _ (List.mem_of_getElem? (i := 735) rfl)) rfl), ⟨by decide, by decide, by decide⟩⟩
set_option maxRecDepth 20000 in
theorem vmX9_kinOf : VM mX9_kinOf 1 := ⟨(lwg_of (List.mem_append_right _ (List.mem_of_getElem? (i := 463) rfl)) rfl), (lwg_of (List.mem_append_left _ (List.mem_of_getElem? (i := 3) rfl)) rfl), (lwg_of (List.mem_append_right _ (List.mem_of_getElem? (i := 1) rfl)) rfl), (lwg_of (List.mem_append_right _ (List.mem_of_getElem? (i := 464) rfl)) rfl), ⟨by decide, by decide, by decide⟩⟩
set_option maxRecDepth 20000 in
theorem vmX9_layer : VM mX9_layer 2 := ⟨(lwg_of (List.mem_append_right _ (List.mem_of_getElem? (i := 477) rfl)) rfl), (lwg_of (List.mem_append_right _ (List.mem_of_getElem? (i := 478) rfl)) rfl), (lwg_of (List.mem_append_right _ (List.mem_of_getElem? (i := 1) rfl)) rfl), (lwg_of (List.mem_append_right _ (List.mem_of_getElem? (i := 479) rfl)) rfl), ⟨by decide, by decide, by decide⟩⟩
set_option maxRecDepth 20000 in
theorem vmX9_line : VM mX9_line 0 := ⟨(lwg_of (List.mem_append_right _ (List.mem_of_getElem? (i := 281) rfl)) rfl), (lwg_of (List.mem_append_right _ (List.mem_of_getElem? (i := 282) rfl)) rfl), (lwg_of (List.mem_append_right _ (List.mem_of_getElem? (i := 1) rfl)) rfl), (lwg_of (List.mem_append_right _ (List.mem_of_getElem? (i := 283) rfl)) rfl), ⟨by decide, by decide, by decide⟩⟩
set_option maxRecDepth 20000 in
theorem vmX9_logged : VM mX9_logged 2 := ⟨(lwg_of (List.mem_append_right _ (List.mem_of_getElem? (i := 482) rfl)) rfl), (lwg_of (List.mem_append_right _ (List.mem_of_getElem? (i := 483) rfl)) rfl), (lwg_of (List.mem_append_right _ (List.mem_of_getElem? (i := 1) rfl)) rfl), (lwg_of (List.mem_append_right _ (List.mem_of_getElem? (i := 484) rfl)) rfl), ⟨by decide, by decide, by decide⟩⟩
set_option maxRecDepth 20000 in
theorem vmX9_meet : VM mX9_meet 2 := ⟨(lwg_of (List.mem_append_right _ (List.mem_of_getElem? (i := 691) rfl)) rfl), (lwg_of (List.mem_append_right _ (List.mem_of_getElem? (i := 692) rfl)) rfl), (lwg_of (List.mem_append_right _ (List.mem_of_getElem? (i := 1) rfl)) rfl), (lwg_of (List.mem_append_right _ (List.mem_of_getElem? (i := 693) rfl)) rfl), ⟨by decide, by decide, by decide⟩⟩
set_option maxRecDepth 20000 in
theorem vmX9_mist : VM mX9_mist 2 := ⟨(lwg_of (List.mem_append_right _ (List.mem_of_getElem? (i := 685) rfl)) rfl), (lwg_of (List.mem_append_right _ (List.mem_of_getElem? (i := 686) rfl)) rfl), (lwg_of (List.mem_append_right _ (List.mem_of_getElem? (i := 1) rfl)) rfl), (lwg_of (List.mem_append_right _ (List.mem_of_getElem? (i := 687) rfl)) rfl), ⟨by decide, by decide, by decide⟩⟩
set_option maxRecDepth 20000 in
theorem vmX9_only : VM mX9_only 2 := ⟨(lwg_of (List.mem_append_right _ (List.mem_of_getElem? (i := 645) rfl)) rfl), (lwg_of (List.mem_append_right _ (List.mem_of_getElem? (i := 646) rfl)) rfl), (lwg_of (List.mem_append_right _ (List.mem_of_getElem? (i := 1) rfl)) rfl), (lwg_of (List.mem_append_right _ (List.mem_of_getElem? (i := 647) rfl)) rfl), ⟨by decide, by decide, by decide⟩⟩
set_option maxRecDepth 20000 in
theorem vmX9_order : VM mX9_order 2 := ⟨(lwg_of (List.mem_append_right _ (List.mem_of_getElem? (i := 653) rfl)) rfl), (lwg_of (List.mem_append_right _ (List.mem_of_getElem? (i := 654) rfl)) rfl), (lwg_of (List.mem_append_right _ (List.mem_of_getElem? (i := 1) rfl)) rfl), (lwg_of (List.mem_append_right _ (List.mem_of_getElem? (i := 655) rfl)) rfl), ⟨by decide, by decide, by decide⟩⟩
set_option maxRecDepth 20000 in
theorem vmX9_refusalOfYears : VM mX9_refusalOfYears 1 := ⟨(lwg_of (List.mem_append_right _ (List.mem_of_getElem? (i := 495) rfl)) rfl), (lwg_of (List.mem_append_left _ (List.mem_of_getElem? (i := 4) rfl)) rfl), (lwg_of (List.mem_append_right _ (List.mem_of_getElem? (i := 1) rfl)) rfl), (lwg_of (List.mem_append_right _ (List.mem_of_getElem? (i := 496) rfl)) rfl), ⟨by decide, by decide, by decide⟩⟩
set_option maxRecDepth 20000 in
theorem vmX9_scene : VM mX9_scene 2 := ⟨(lwg_of (List.mem_append_right _ (List.mem_of_getElem? (i := 408) rfl)) rfl), (lwg_of (List.mem_append_right _ (List.mem_of_getElem? (i := 409) rfl)) rfl), (lwg_of (List.mem_append_right _ (List.mem_of_getElem? (i := 1) rfl)) rfl), (lwg_of (List.mem_append_right _ (List.mem_of_getElem? (i := 410) rfl)) rfl), ⟨by decide, by decide, by decide⟩⟩
set_option maxRecDepth 20000 in
theorem vmX9_scenesOfAll : VM mX9_scenesOfAll 0 := ⟨(lwg_of (List.mem_append_right _ (List.mem_of_getElem? (i := 386) rfl)) rfl), (lwg_of (List.mem_append_left _ (List.mem_of_getElem? (i := 0) rfl)) rfl), (lwg_of (List.mem_append_right _ (List.mem_of_getElem? (i := 1) rfl)) rfl), (lwg_of (List.mem_append_right _ (List.mem_of_getElem? (i := 387) rfl)) rfl), ⟨by decide, by decide, by decide⟩⟩
set_option maxRecDepth 20000 in
theorem vmX9_scenesTakenFor : VM mX9_scenesTakenFor 1 := ⟨(lwg_of (List.mem_append_right _ (List.mem_of_getElem? (i := 432) rfl)) rfl), (lwg_of (List.mem_append_left _ (List.mem_of_getElem? (i := 1) rfl)) rfl), (lwg_of (List.mem_append_right _ (List.mem_of_getElem? (i := 1) rfl)) rfl), (lwg_of (List.mem_append_right _ (List.mem_of_getElem? (i := 433) rfl)) rfl), ⟨by decide, by decide, by decide⟩⟩
set_option maxRecDepth 20000 in
theorem vmX9_seed : VM mX9_seed 1 := ⟨(lwg_of (List.mem_append_right _ (List.mem_of_getElem? (i := 729) rfl)) rfl), (lwg_of (List.mem_append_right _ (List.mem_of_getElem? (i := 730) rfl)) rfl), (lwg_of (List.mem_append_right _ (List.mem_of_getElem? (i := 1) rfl)) rfl), (lwg_of (List.mem_append_right _ (List.mem_of_getElem? (i := 731) rfl)) rfl), ⟨by decide, by decide, by decide⟩⟩
set_option maxRecDepth 20000 in
theorem vmX9_takeOff : VM mX9_takeOff 0 := ⟨(lwg_of (List.mem_append_right _ (List.mem_of_getElem? (i := 571) rfl)) rfl), (lwg_of (List.mem_append_right _ (List.mem_of_getElem? (i := 572) rfl)) rfl), (lwg_of (List.mem_append_right _ (List.mem_of_getElem? (i := 1) rfl)) rfl), (lwg_of (List.mem_append_right _ (List.mem_of_getElem? (i := 573) rfl)) rfl), ⟨by decide, by decide, by decide⟩⟩
set_option maxRecDepth 20000 in
theorem vmX9_takenNow : VM mX9_takenNow 1 := ⟨(lwg_of (List.mem_append_right _ (List.mem_of_getElem? (i := 436) rfl)) rfl), (lwg_of (List.mem_append_left _ (List.mem_of_getElem? (i := 2) rfl)) rfl), (lwg_of (List.mem_append_right _ (List.mem_of_getElem? (i := 1) rfl)) rfl), (lwg_of (List.mem_append_right _ (List.mem_of_getElem? (i := 437) rfl)) rfl), ⟨by decide, by decide, by decide⟩⟩
set_option maxRecDepth 20000 in
theorem vmX9_takes : VM mX9_takes 1 := ⟨(lwg_of (List.mem_append_right _ (List.mem_of_getElem? (i := 609) rfl)) rfl), (lwg_of (List.mem_append_right _ (List.mem_of_getElem? (i := 610) rfl)) rfl), (lwg_of (List.mem_append_right _ (List.mem_of_getElem? (i := 1) rfl)) rfl), (lwg_of (List.mem_append_right _ (List.mem_of_getElem? (i := 611) rfl)) rfl), ⟨by decide, by decide, by decide⟩⟩
set_option maxRecDepth 20000 in
theorem vmX9_tear : VM mX9_tear 0 := ⟨(lwg_of (List.mem_append_right _ (List.mem_of_getElem? (i := 725) rfl)) rfl), (lwg_of (List.mem_append_right _ (List.mem_of_getElem? (i := 726) rfl)) rfl), (lwg_of (List.mem_append_right _ (List.mem_of_getElem? (i := 1) rfl)) rfl), (lwg_of (List.mem_append_right _ (List.mem_of_getElem? (i := 727) rfl)) rfl), ⟨by decide, by decide, by decide⟩⟩
set_option maxRecDepth 20000 in
theorem vmX9_toWipe : VM mX9_toWipe 2 := ⟨(lwg_of (List.mem_append_right _ (List.mem_of_getElem? (i := 634) rfl)) rfl), (lwg_of (List.mem_append_right _ (List.mem_of_getElem? (i := 635) rfl)) rfl), (lwg_of (List.mem_append_right _ (List.mem_of_getElem? (i := 1) rfl)) rfl), (lwg_of (List.mem_append_right _ (List.mem_of_getElem? (i := 636) rfl)) rfl), ⟨by decide, by decide, by decide⟩⟩
set_option maxRecDepth 20000 in
theorem vmX9_told : VM mX9_told 1 := ⟨(lwg_of (List.mem_append_right _ (List.mem_of_getElem? (i := 377) rfl)) rfl), (lwg_of (List.mem_append_right _ (List.mem_of_getElem? (i := 378) rfl)) rfl), (lwg_of (List.mem_append_right _ (List.mem_of_getElem? (i := 1) rfl)) rfl), (lwg_of (List.mem_append_right _ (List.mem_of_getElem? (i := 379) rfl)) rfl), ⟨by decide, by decide, by decide⟩⟩
set_option maxRecDepth 20000 in
theorem vmX9_tooDark : VM mX9_tooDark 1 := ⟨(lwg_of (List.mem_append_right _ (List.mem_of_getElem? (i := 622) rfl)) rfl), (lwg_of (List.mem_append_right _ (List.mem_of_getElem? (i := 623) rfl)) rfl), (lwg_of (List.mem_append_right _ (List.mem_of_getElem? (i := 1) rfl)) rfl), (lwg_of (List.mem_append_right _ (List.mem_of_getElem? (i := 624) rfl)) rfl), ⟨by decide, by decide, by decide⟩⟩
set_option maxRecDepth 20000 in
theorem vmX9_tryYears : VM mX9_tryYears 1 := ⟨(lwg_of (List.mem_append_right _ (List.mem_of_getElem? (i := 618) rfl)) rfl), (lwg_of (List.mem_append_left _ (List.mem_of_getElem? (i := 7) rfl)) rfl), (lwg_of (List.mem_append_right _ (List.mem_of_getElem? (i := 1) rfl)) rfl), (lwg_of (List.mem_append_right _ (List.mem_of_getElem? (i := 619) rfl)) rfl), ⟨by decide, by decide, by decide⟩⟩
set_option maxRecDepth 20000 in
theorem vmX9_undo : VM mX9_undo 1 := ⟨(lwg_of (List.mem_append_right _ (List.mem_of_getElem? (i := 601) rfl)) rfl), (lwg_of (List.mem_append_right _ (List.mem_of_getElem? (i := 602) rfl)) rfl), (lwg_of (List.mem_append_right _ (List.mem_of_getElem? (i := 1) rfl)) rfl), (lwg_of (List.mem_append_right _ (List.mem_of_getElem? (i := 603) rfl)) rfl), ⟨by decide, by decide, by decide⟩⟩
set_option maxRecDepth 20000 in
theorem vmX9_wear : VM mX9_wear 1 := ⟨(lwg_of (List.mem_append_right _ (List.mem_of_getElem? (i := 567) rfl)) rfl), (lwg_of (List.mem_append_right _ (List.mem_of_getElem? (i := 568) rfl)) rfl), (lwg_of (List.mem_append_right _ (List.mem_of_getElem? (i := 1) rfl)) rfl), (lwg_of (List.mem_append_right _ (List.mem_of_getElem? (i := 569) rfl)) rfl), ⟨by decide, by decide, by decide⟩⟩
set_option maxRecDepth 20000 in
theorem vmX9_wearer : VM mX9_wearer 2 := ⟨(lwg_of (List.mem_append_right _ (List.mem_of_getElem? (i := 449) rfl)) rfl), (lwg_of (List.mem_append_right _ (List.mem_of_getElem? (i := 450) rfl)) rfl), (lwg_of (List.mem_append_right _ (List.mem_of_getElem? (i := 1) rfl)) rfl), (lwg_of (List.mem_append_right _ (List.mem_of_getElem? (i := 451) rfl)) rfl), ⟨by decide, by decide, by decide⟩⟩
set_option maxRecDepth 20000 in
theorem vmX9_willShow : VM mX9_willShow 2 := ⟨(lwg_of (List.mem_append_right _ (List.mem_of_getElem? (i := 626) rfl)) rfl), (lwg_of (List.mem_append_right _ (List.mem_of_getElem? (i := 627) rfl)) rfl), (lwg_of (List.mem_append_right _ (List.mem_of_getElem? (i := 1) rfl)) rfl), (lwg_of (List.mem_append_right _ (List.mem_of_getElem? (i := 628) rfl)) rfl), ⟨by decide, by decide, by decide⟩⟩
set_option maxRecDepth 20000 in
theorem vmX9_wipe : VM mX9_wipe 1 := ⟨(lwg_of (List.mem_append_right _ (List.mem_of_getElem? (i := 575) rfl)) rfl), (lwg_of (List.mem_append_right _ (List.mem_of_getElem? (i := 576) rfl)) rfl), (lwg_of (List.mem_append_right _ (List.mem_of_getElem? (i := 1) rfl)) rfl), (lwg_of (List.mem_append_right _ (List.mem_of_getElem? (i := 577) rfl)) rfl), ⟨by decide, by decide, by decide⟩⟩
set_option maxRecDepth 20000 in
theorem vmX9_write : VM mX9_write 2 := ⟨(lwg_of (List.mem_append_right _ (List.mem_of_getElem? (i := 713) rfl)) rfl), (lwg_of (List.mem_append_right _ (List.mem_of_getElem? (i := 714) rfl)) rfl), (lwg_of (List.mem_append_right _ (List.mem_of_getElem? (i := 1) rfl)) rfl), (lwg_of (List.mem_append_right _ (List.mem_of_getElem? (i := 715) rfl)) rfl), ⟨by decide, by decide, by decide⟩⟩
set_option maxRecDepth 20000 in
theorem vmX9_year : VM mX9_year 1 := ⟨(lwg_of (List.mem_append_right _ (List.mem_of_getElem? (i := 490) rfl)) rfl), (lwg_of (List.mem_append_right _ (List.mem_of_getElem? (i := 491) rfl)) rfl), (lwg_of (List.mem_append_right _ (List.mem_of_getElem? (i := 1) rfl)) rfl), (lwg_of (List.mem_append_right _ (List.mem_of_getElem? (i := 492) rfl)) rfl), ⟨by decide, by decide, by decide⟩⟩
set_option maxRecDepth 20000 in
theorem vmX0_add : VM mX0_add 2 := ⟨(lwg_of (List.mem_append_right _ (List.mem_of_getElem? (i := 717) rfl)) rfl), (lwg_of (List.mem_append_right _ (List.mem_of_getElem? (i := 718) rfl)) rfl), (lwg_of (List.mem_append_right _ (List.mem_of_getElem? (i := 8) rfl)) rfl), (lwg_of (List.mem_append_right _ (List.mem_of_getElem? (i := 719) rfl)) rfl), ⟨by decide, by decide, by decide⟩⟩
set_option maxRecDepth 20000 in
theorem vmX0_forget : VM mX0_forget 0 := ⟨(lwg_of (List.mem_append_right _ (List.mem_of_getElem? (i := 369) rfl)) rfl), (lwg_of (List.mem_append_right _ (List.mem_of_getElem? (i := 370) rfl)) rfl), (lwg_of (List.mem_append_right _ (List.mem_of_getElem? (i := 8) rfl)) rfl), (lwg_of (List.mem_append_right _ (List.mem_of_getElem? (i := 371) rfl)) rfl), ⟨by decide, by decide, by decide⟩⟩
set_option maxRecDepth 20000 in
theorem vmX1_forget : VM mX1_forget 0 := ⟨(lwg_of (List.mem_append_right _ (List.mem_of_getElem? (i := 361) rfl)) rfl), (lwg_of (List.mem_append_right _ (List.mem_of_getElem? (i := 362) rfl)) rfl), (lwg_of (List.mem_append_right _ (List.mem_of_getElem? (i := 3) rfl)) rfl), (lwg_of (List.mem_append_right _ (List.mem_of_getElem? (i := 363) rfl)) rfl), ⟨by decide, by decide, by decide⟩⟩
set_option maxRecDepth 20000 in
theorem vmX1_remember : VM mX1_remember 1 := ⟨(lwg_of (List.mem_append_right _ (List.mem_of_getElem? (i := 500) rfl)) rfl), (lwg_of (List.mem_append_right _ (List.mem_of_getElem? (i := 501) rfl)) rfl), (lwg_of (List.mem_append_right _ (List.mem_of_getElem? (i := 3) rfl)) rfl), (lwg_of (List.mem_append_right _ (List.mem_of_getElem? (i := 502) rfl)) rfl), ⟨by decide, by decide, by decide⟩⟩
set_option maxRecDepth 20000 in
theorem vmX1_restore : VM mX1_restore 2 := ⟨(lwg_of (List.mem_append_right _ (List.mem_of_getElem? (i := 605) rfl)) rfl), (lwg_of (List.mem_append_right _ (List.mem_of_getElem? (i := 606) rfl)) rfl), (lwg_of (List.mem_append_right _ (List.mem_of_getElem? (i := 3) rfl)) rfl), (lwg_of (List.mem_append_right _ (List.mem_of_getElem? (i := 607) rfl)) rfl), ⟨by decide, by decide, by decide⟩⟩
set_option maxRecDepth 20000 in
theorem vmX3_addLook : VM mX3_addLook 1 := ⟨(lwg_of (List.mem_append_right _ (List.mem_of_getElem? (i := 341) rfl)) rfl), (lwg_of (List.mem_append_right _ (List.mem_of_getElem? (i := 342) rfl)) rfl), (lwg_of (List.mem_append_right _ (List.mem_of_getElem? (i := 9) rfl)) rfl), (lwg_of (List.mem_append_right _ (List.mem_of_getElem? (i := 343) rfl)) rfl), ⟨by decide, by decide, by decide⟩⟩
set_option maxRecDepth 20000 in
theorem vmX3_addScene : VM mX3_addScene 2 := ⟨(lwg_of (List.mem_append_right _ (List.mem_of_getElem? (i := 329) rfl)) rfl), (lwg_of (List.mem_append_right _ (List.mem_of_getElem? (i := 330) rfl)) rfl), (lwg_of (List.mem_append_right _ (List.mem_of_getElem? (i := 9) rfl)) rfl), (lwg_of (List.mem_append_right _ (List.mem_of_getElem? (i := 331) rfl)) rfl), ⟨by decide, by decide, by decide⟩⟩
set_option maxRecDepth 20000 in
theorem vmX3_addWearer : VM mX3_addWearer 0 := ⟨(lwg_of (List.mem_append_right _ (List.mem_of_getElem? (i := 337) rfl)) rfl), (lwg_of (List.mem_append_right _ (List.mem_of_getElem? (i := 338) rfl)) rfl), (lwg_of (List.mem_append_right _ (List.mem_of_getElem? (i := 9) rfl)) rfl), (lwg_of (List.mem_append_right _ (List.mem_of_getElem? (i := 339) rfl)) rfl), ⟨by decide, by decide, by decide⟩⟩
set_option maxRecDepth 20000 in
theorem vmX3_brightOf : VM mX3_brightOf 1 := ⟨(lwg_of (List.mem_append_right _ (List.mem_of_getElem? (i := 422) rfl)) rfl), (lwg_of (List.mem_append_right _ (List.mem_of_getElem? (i := 423) rfl)) rfl), (lwg_of (List.mem_append_right _ (List.mem_of_getElem? (i := 9) rfl)) rfl), (lwg_of (List.mem_append_right _ (List.mem_of_getElem? (i := 424) rfl)) rfl), ⟨by decide, by decide, by decide⟩⟩
set_option maxRecDepth 20000 in
theorem vmX3_forget : VM mX3_forget 0 := ⟨(lwg_of (List.mem_append_right _ (List.mem_of_getElem? (i := 289) rfl)) rfl), (lwg_of (List.mem_append_right _ (List.mem_of_getElem? (i := 290) rfl)) rfl), (lwg_of (List.mem_append_right _ (List.mem_of_getElem? (i := 9) rfl)) rfl), (lwg_of (List.mem_append_right _ (List.mem_of_getElem? (i := 291) rfl)) rfl), ⟨by decide, by decide, by decide⟩⟩
set_option maxRecDepth 20000 in
theorem vmX3_gain : VM mX3_gain 1 := ⟨(lwg_of (List.mem_append_right _ (List.mem_of_getElem? (i := 531) rfl)) rfl), (lwg_of (List.mem_append_right _ (List.mem_of_getElem? (i := 532) rfl)) rfl), (lwg_of (List.mem_append_right _ (List.mem_of_getElem? (i := 9) rfl)) rfl), (lwg_of (List.mem_append_right _ (List.mem_of_getElem? (i := 533) rfl)) rfl), ⟨by decide, by decide, by decide⟩⟩
set_option maxRecDepth 20000 in
theorem vmX3_hasScene : VM mX3_hasScene 1 := ⟨(lwg_of (List.mem_append_right _ (List.mem_of_getElem? (i := 412) rfl)) rfl), (lwg_of (List.mem_append_right _ (List.mem_of_getElem? (i := 413) rfl)) rfl), (lwg_of (List.mem_append_right _ (List.mem_of_getElem? (i := 9) rfl)) rfl), (lwg_of (List.mem_append_right _ (List.mem_of_getElem? (i := 414) rfl)) rfl), ⟨by decide, by decide, by decide⟩⟩
set_option maxRecDepth 20000 in
theorem vmX3_hasWearer : VM mX3_hasWearer 1 := ⟨(lwg_of (List.mem_append_right _ (List.mem_of_getElem? (i := 345) rfl)) rfl), (lwg_of (List.mem_append_right _ (List.mem_of_getElem? (i := 346) rfl)) rfl), (lwg_of (List.mem_append_right _ (List.mem_of_getElem? (i := 9) rfl)) rfl), (lwg_of (List.mem_append_right _ (List.mem_of_getElem? (i := 347) rfl)) rfl), ⟨by decide, by decide, by decide⟩⟩
set_option maxRecDepth 20000 in
theorem vmX3_kindOf : VM mX3_kindOf 1 := ⟨(lwg_of (List.mem_append_right _ (List.mem_of_getElem? (i := 417) rfl)) rfl), (lwg_of (List.mem_append_right _ (List.mem_of_getElem? (i := 418) rfl)) rfl), (lwg_of (List.mem_append_right _ (List.mem_of_getElem? (i := 9) rfl)) rfl), (lwg_of (List.mem_append_right _ (List.mem_of_getElem? (i := 419) rfl)) rfl), ⟨by decide, by decide, by decide⟩⟩
set_option maxRecDepth 20000 in
theorem vmX3_looksOf : VM mX3_looksOf 1 := ⟨(lwg_of (List.mem_append_right _ (List.mem_of_getElem? (i := 454) rfl)) rfl), (lwg_of (List.mem_append_right _ (List.mem_of_getElem? (i := 455) rfl)) rfl), (lwg_of (List.mem_append_right _ (List.mem_of_getElem? (i := 9) rfl)) rfl), (lwg_of (List.mem_append_right _ (List.mem_of_getElem? (i := 456) rfl)) rfl), ⟨by decide, by decide, by decide⟩⟩
set_option maxRecDepth 20000 in
theorem vmX3_sceneInYear : VM mX3_sceneInYear 2 := ⟨(lwg_of (List.mem_append_right _ (List.mem_of_getElem? (i := 472) rfl)) rfl), (lwg_of (List.mem_append_right _ (List.mem_of_getElem? (i := 473) rfl)) rfl), (lwg_of (List.mem_append_right _ (List.mem_of_getElem? (i := 9) rfl)) rfl), (lwg_of (List.mem_append_right _ (List.mem_of_getElem? (i := 474) rfl)) rfl), ⟨by decide, by decide, by decide⟩⟩
set_option maxRecDepth 20000 in
theorem vmX3_veil : VM mX3_veil 2 := ⟨(lwg_of (List.mem_append_right _ (List.mem_of_getElem? (i := 426) rfl)) rfl), (lwg_of (List.mem_append_right _ (List.mem_of_getElem? (i := 427) rfl)) rfl), (lwg_of (List.mem_append_right _ (List.mem_of_getElem? (i := 9) rfl)) rfl), (lwg_of (List.mem_append_right _ (List.mem_of_getElem? (i := 428) rfl)) rfl), ⟨by decide, by decide, by decide⟩⟩
set_option maxRecDepth 20000 in
theorem vmX4_add : VM mX4_add 4 := ⟨(lwg_of (List.mem_append_right _ (List.mem_of_getElem? (i := 527) rfl)) rfl), (lwg_of (List.mem_append_right _ (List.mem_of_getElem? (i := 528) rfl)) rfl), (lwg_of (List.mem_append_right _ (List.mem_of_getElem? (i := 5) rfl)) rfl), (lwg_of (List.mem_append_right _ (List.mem_of_getElem? (i := 529) rfl)) rfl), ⟨by decide, by decide, by decide⟩⟩
set_option maxRecDepth 20000 in
theorem vmX4_at : VM mX4_at 2 := ⟨(lwg_of (List.mem_append_right _ (List.mem_of_getElem? (i := 486) rfl)) rfl), (lwg_of (List.mem_append_right _ (List.mem_of_getElem? (i := 487) rfl)) rfl), (lwg_of (List.mem_append_right _ (List.mem_of_getElem? (i := 5) rfl)) rfl), (lwg_of (List.mem_append_right _ (List.mem_of_getElem? (i := 488) rfl)) rfl), ⟨by decide, by decide, by decide⟩⟩
set_option maxRecDepth 20000 in
theorem vmX4_copyAll : VM mX4_copyAll 1 := ⟨(lwg_of (List.mem_append_right _ (List.mem_of_getElem? (i := 515) rfl)) rfl), (lwg_of (List.mem_append_right _ (List.mem_of_getElem? (i := 516) rfl)) rfl), (lwg_of (List.mem_append_right _ (List.mem_of_getElem? (i := 5) rfl)) rfl), (lwg_of (List.mem_append_right _ (List.mem_of_getElem? (i := 517) rfl)) rfl), ⟨by decide, by decide, by decide⟩⟩
set_option maxRecDepth 20000 in
theorem vmX4_forget : VM mX4_forget 0 := ⟨(lwg_of (List.mem_append_right _ (List.mem_of_getElem? (i := 357) rfl)) rfl), (lwg_of (List.mem_append_right _ (List.mem_of_getElem? (i := 358) rfl)) rfl), (lwg_of (List.mem_append_right _ (List.mem_of_getElem? (i := 5) rfl)) rfl), (lwg_of (List.mem_append_right _ (List.mem_of_getElem? (i := 359) rfl)) rfl), ⟨by decide, by decide, by decide⟩⟩
set_option maxRecDepth 20000 in
theorem vmX5_add : VM mX5_add 2 := ⟨(lwg_of (List.mem_append_right _ (List.mem_of_getElem? (i := 695) rfl)) rfl), (lwg_of (List.mem_append_right _ (List.mem_of_getElem? (i := 696) rfl)) rfl), (lwg_of (List.mem_append_right _ (List.mem_of_getElem? (i := 7) rfl)) rfl), (lwg_of (List.mem_append_right _ (List.mem_of_getElem? (i := 697) rfl)) rfl), ⟨by decide, by decide, by decide⟩⟩
set_option maxRecDepth 20000 in
theorem vmX5_fits : VM mX5_fits 1 := ⟨(lwg_of (List.mem_append_right _ (List.mem_of_getElem? (i := 703) rfl)) rfl), (lwg_of (List.mem_append_right _ (List.mem_of_getElem? (i := 704) rfl)) rfl), (lwg_of (List.mem_append_right _ (List.mem_of_getElem? (i := 7) rfl)) rfl), (lwg_of (List.mem_append_right _ (List.mem_of_getElem? (i := 705) rfl)) rfl), ⟨by decide, by decide, by decide⟩⟩
set_option maxRecDepth 20000 in
theorem vmX5_forget : VM mX5_forget 0 := ⟨(lwg_of (List.mem_append_right _ (List.mem_of_getElem? (i := 365) rfl)) rfl), (lwg_of (List.mem_append_right _ (List.mem_of_getElem? (i := 366) rfl)) rfl), (lwg_of (List.mem_append_right _ (List.mem_of_getElem? (i := 7) rfl)) rfl), (lwg_of (List.mem_append_right _ (List.mem_of_getElem? (i := 367) rfl)) rfl), ⟨by decide, by decide, by decide⟩⟩
set_option maxRecDepth 20000 in
theorem vmX6_copyAll : VM mX6_copyAll 1 := ⟨(lwg_of (List.mem_append_right _ (List.mem_of_getElem? (i := 504) rfl)) rfl), (lwg_of (List.mem_append_right _ (List.mem_of_getElem? (i := 505) rfl)) rfl), (lwg_of (List.mem_append_right _ (List.mem_of_getElem? (i := 4) rfl)) rfl), (lwg_of (List.mem_append_right _ (List.mem_of_getElem? (i := 506) rfl)) rfl), ⟨by decide, by decide, by decide⟩⟩
set_option maxRecDepth 20000 in
theorem vmX6_copyGlass : VM mX6_copyGlass 1 := ⟨(lwg_of (List.mem_append_right _ (List.mem_of_getElem? (i := 508) rfl)) rfl), (lwg_of (List.mem_append_right _ (List.mem_of_getElem? (i := 509) rfl)) rfl), (lwg_of (List.mem_append_right _ (List.mem_of_getElem? (i := 4) rfl)) rfl), (lwg_of (List.mem_append_right _ (List.mem_of_getElem? (i := 510) rfl)) rfl), ⟨by decide, by decide, by decide⟩⟩
set_option maxRecDepth 20000 in
theorem vmX6_darkness : VM mX6_darkness 0 := ⟨(lwg_of (List.mem_append_right _ (List.mem_of_getElem? (i := 381) rfl)) rfl), (lwg_of (List.mem_append_right _ (List.mem_of_getElem? (i := 382) rfl)) rfl), (lwg_of (List.mem_append_right _ (List.mem_of_getElem? (i := 4) rfl)) rfl), (lwg_of (List.mem_append_right _ (List.mem_of_getElem? (i := 383) rfl)) rfl), ⟨by decide, by decide, by decide⟩⟩
set_option maxRecDepth 20000 in
theorem vmX6_deepen : VM mX6_deepen 2 := ⟨(lwg_of (List.mem_append_right _ (List.mem_of_getElem? (i := 535) rfl)) rfl), (lwg_of (List.mem_append_right _ (List.mem_of_getElem? (i := 536) rfl)) rfl), (lwg_of (List.mem_append_right _ (List.mem_of_getElem? (i := 4) rfl)) rfl), (lwg_of (List.mem_append_right _ (List.mem_of_getElem? (i := 537) rfl)) rfl), ⟨by decide, by decide, by decide⟩⟩
set_option maxRecDepth 20000 in
theorem vmX6_fadeBut : VM mX6_fadeBut 2 := ⟨(lwg_of (List.mem_append_right _ (List.mem_of_getElem? (i := 558) rfl)) rfl), (lwg_of (List.mem_append_right _ (List.mem_of_getElem? (i := 559) rfl)) rfl), (lwg_of (List.mem_append_right _ (List.mem_of_getElem? (i := 4) rfl)) rfl), (lwg_of (List.mem_append_right _ (List.mem_of_getElem? (i := 560) rfl)) rfl), ⟨by decide, by decide, by decide⟩⟩
set_option maxRecDepth 20000 in
theorem vmX6_fading : VM mX6_fading 2 := ⟨(lwg_of (List.mem_append_right _ (List.mem_of_getElem? (i := 563) rfl)) rfl), (lwg_of (List.mem_append_right _ (List.mem_of_getElem? (i := 564) rfl)) rfl), (lwg_of (List.mem_append_right _ (List.mem_of_getElem? (i := 4) rfl)) rfl), (lwg_of (List.mem_append_right _ (List.mem_of_getElem? (i := 565) rfl)) rfl), ⟨by decide, by decide, by decide⟩⟩
set_option maxRecDepth 20000 in
theorem vmX6_find : VM mX6_find 2 := ⟨(lwg_of (List.mem_append_right _ (List.mem_of_getElem? (i := 539) rfl)) rfl), (lwg_of (List.mem_append_right _ (List.mem_of_getElem? (i := 540) rfl)) rfl), (lwg_of (List.mem_append_right _ (List.mem_of_getElem? (i := 4) rfl)) rfl), (lwg_of (List.mem_append_right _ (List.mem_of_getElem? (i := 541) rfl)) rfl), ⟨by decide, by decide, by decide⟩⟩
set_option maxRecDepth 20000 in
theorem vmX6_hasLayer : VM mX6_hasLayer 1 := ⟨(lwg_of (List.mem_append_right _ (List.mem_of_getElem? (i := 444) rfl)) rfl), (lwg_of (List.mem_append_right _ (List.mem_of_getElem? (i := 445) rfl)) rfl), (lwg_of (List.mem_append_right _ (List.mem_of_getElem? (i := 4) rfl)) rfl), (lwg_of (List.mem_append_right _ (List.mem_of_getElem? (i := 446) rfl)) rfl), ⟨by decide, by decide, by decide⟩⟩
set_option maxRecDepth 20000 in
theorem vmX6_lay : VM mX6_lay 3 := ⟨(lwg_of (List.mem_append_right _ (List.mem_of_getElem? (i := 543) rfl)) rfl), (lwg_of (List.mem_append_right _ (List.mem_of_getElem? (i := 544) rfl)) rfl), (lwg_of (List.mem_append_right _ (List.mem_of_getElem? (i := 4) rfl)) rfl), (lwg_of (List.mem_append_right _ (List.mem_of_getElem? (i := 545) rfl)) rfl), ⟨by decide, by decide, by decide⟩⟩
set_option maxRecDepth 20000 in
theorem vmX6_layersBefore : VM mX6_layersBefore 1 := ⟨(lwg_of (List.mem_append_right _ (List.mem_of_getElem? (i := 649) rfl)) rfl), (lwg_of (List.mem_append_right _ (List.mem_of_getElem? (i := 650) rfl)) rfl), (lwg_of (List.mem_append_right _ (List.mem_of_getElem? (i := 4) rfl)) rfl), (lwg_of (List.mem_append_right _ (List.mem_of_getElem? (i := 651) rfl)) rfl), ⟨by decide, by decide, by decide⟩⟩
set_option maxRecDepth 20000 in
theorem vmX6_lowestOfWearers : VM mX6_lowestOfWearers 0 := ⟨(lwg_of (List.mem_append_right _ (List.mem_of_getElem? (i := 393) rfl)) rfl), (lwg_of (List.mem_append_right _ (List.mem_of_getElem? (i := 394) rfl)) rfl), (lwg_of (List.mem_append_right _ (List.mem_of_getElem? (i := 4) rfl)) rfl), (lwg_of (List.mem_append_right _ (List.mem_of_getElem? (i := 395) rfl)) rfl), ⟨by decide, by decide, by decide⟩⟩
set_option maxRecDepth 20000 in
theorem vmX6_passYear : VM mX6_passYear 1 := ⟨(lwg_of (List.mem_append_right _ (List.mem_of_getElem? (i := 520) rfl)) rfl), (lwg_of (List.mem_append_right _ (List.mem_of_getElem? (i := 521) rfl)) rfl), (lwg_of (List.mem_append_right _ (List.mem_of_getElem? (i := 4) rfl)) rfl), (lwg_of (List.mem_append_right _ (List.mem_of_getElem? (i := 522) rfl)) rfl), ⟨by decide, by decide, by decide⟩⟩
set_option maxRecDepth 20000 in
theorem vmX6_remove : VM mX6_remove 1 := ⟨(lwg_of (List.mem_append_right _ (List.mem_of_getElem? (i := 551) rfl)) rfl), (lwg_of (List.mem_append_right _ (List.mem_of_getElem? (i := 552) rfl)) rfl), (lwg_of (List.mem_append_right _ (List.mem_of_getElem? (i := 4) rfl)) rfl), (lwg_of (List.mem_append_right _ (List.mem_of_getElem? (i := 553) rfl)) rfl), ⟨by decide, by decide, by decide⟩⟩
set_option maxRecDepth 20000 in
theorem vmX6_reset : VM mX6_reset 0 := ⟨(lwg_of (List.mem_append_right _ (List.mem_of_getElem? (i := 353) rfl)) rfl), (lwg_of (List.mem_append_right _ (List.mem_of_getElem? (i := 354) rfl)) rfl), (lwg_of (List.mem_append_right _ (List.mem_of_getElem? (i := 4) rfl)) rfl), (lwg_of (List.mem_append_right _ (List.mem_of_getElem? (i := 355) rfl)) rfl), ⟨by decide, by decide, by decide⟩⟩
set_option maxRecDepth 20000 in
theorem vmX6_scenesOf : VM mX6_scenesOf 1 := ⟨(lwg_of (List.mem_append_right _ (List.mem_of_getElem? (i := 389) rfl)) rfl), (lwg_of (List.mem_append_right _ (List.mem_of_getElem? (i := 390) rfl)) rfl), (lwg_of (List.mem_append_right _ (List.mem_of_getElem? (i := 4) rfl)) rfl), (lwg_of (List.mem_append_right _ (List.mem_of_getElem? (i := 391) rfl)) rfl), ⟨by decide, by decide, by decide⟩⟩
set_option maxRecDepth 20000 in
theorem vmX6_strengthOfScene : VM mX6_strengthOfScene 1 := ⟨(lwg_of (List.mem_append_right _ (List.mem_of_getElem? (i := 630) rfl)) rfl), (lwg_of (List.mem_append_right _ (List.mem_of_getElem? (i := 631) rfl)) rfl), (lwg_of (List.mem_append_right _ (List.mem_of_getElem? (i := 4) rfl)) rfl), (lwg_of (List.mem_append_right _ (List.mem_of_getElem? (i := 632) rfl)) rfl), ⟨by decide, by decide, by decide⟩⟩
set_option maxRecDepth 20000 in
theorem vmX6_strongestBut : VM mX6_strongestBut 1 := ⟨(lwg_of (List.mem_append_right _ (List.mem_of_getElem? (i := 397) rfl)) rfl), (lwg_of (List.mem_append_right _ (List.mem_of_getElem? (i := 398) rfl)) rfl), (lwg_of (List.mem_append_right _ (List.mem_of_getElem? (i := 4) rfl)) rfl), (lwg_of (List.mem_append_right _ (List.mem_of_getElem? (i := 399) rfl)) rfl), ⟨by decide, by decide, by decide⟩⟩
set_option maxRecDepth 20000 in
theorem vmX6_takenFor : VM mX6_takenFor 4 := ⟨(lwg_of (List.mem_append_right _ (List.mem_of_getElem? (i := 439) rfl)) rfl), (lwg_of (List.mem_append_right _ (List.mem_of_getElem? (i := 440) rfl)) rfl), (lwg_of (List.mem_append_right _ (List.mem_of_getElem? (i := 4) rfl)) rfl), (lwg_of (List.mem_append_right _ (List.mem_of_getElem? (i := 441) rfl)) rfl), ⟨by decide, by decide, by decide⟩⟩
set_option maxRecDepth 20000 in
theorem vmX6_thickest : VM mX6_thickest 0 := ⟨(lwg_of (List.mem_append_right _ (List.mem_of_getElem? (i := 401) rfl)) rfl), (lwg_of (List.mem_append_right _ (List.mem_of_getElem? (i := 402) rfl)) rfl), (lwg_of (List.mem_append_right _ (List.mem_of_getElem? (i := 4) rfl)) rfl), (lwg_of (List.mem_append_right _ (List.mem_of_getElem? (i := 403) rfl)) rfl), ⟨by decide, by decide, by decide⟩⟩
set_option maxRecDepth 20000 in
theorem vmX6_weakest : VM mX6_weakest 0 := ⟨(lwg_of (List.mem_append_right _ (List.mem_of_getElem? (i := 547) rfl)) rfl), (lwg_of (List.mem_append_right _ (List.mem_of_getElem? (i := 548) rfl)) rfl), (lwg_of (List.mem_append_right _ (List.mem_of_getElem? (i := 4) rfl)) rfl), (lwg_of (List.mem_append_right _ (List.mem_of_getElem? (i := 549) rfl)) rfl), ⟨by decide, by decide, by decide⟩⟩
set_option maxRecDepth 20000 in
theorem vmX6_yearsOf : VM mX6_yearsOf 1 := ⟨(lwg_of (List.mem_append_right _ (List.mem_of_getElem? (i := 458) rfl)) rfl), (lwg_of (List.mem_append_right _ (List.mem_of_getElem? (i := 459) rfl)) rfl), (lwg_of (List.mem_append_right _ (List.mem_of_getElem? (i := 4) rfl)) rfl), (lwg_of (List.mem_append_right _ (List.mem_of_getElem? (i := 460) rfl)) rfl), ⟨by decide, by decide, by decide⟩⟩
set_option maxRecDepth 20000 in
theorem vmX7_accept : VM mX7_accept 2 := ⟨(lwg_of (List.mem_append_right _ (List.mem_of_getElem? (i := 305) rfl)) rfl), (lwg_of (List.mem_append_right _ (List.mem_of_getElem? (i := 306) rfl)) rfl), (lwg_of (List.mem_append_right _ (List.mem_of_getElem? (i := 2) rfl)) rfl), (lwg_of (List.mem_append_right _ (List.mem_of_getElem? (i := 307) rfl)) rfl), ⟨by decide, by decide, by decide⟩⟩
set_option maxRecDepth 20000 in
theorem vmX7_append : VM mX7_append 1 := ⟨(lwg_of (List.mem_append_right _ (List.mem_of_getElem? (i := 277) rfl)) rfl), (lwg_of (List.mem_append_right _ (List.mem_of_getElem? (i := 278) rfl)) rfl), (lwg_of (List.mem_append_right _ (List.mem_of_getElem? (i := 2) rfl)) rfl), (lwg_of (List.mem_append_right _ (List.mem_of_getElem? (i := 279) rfl)) rfl), ⟨by decide, by decide, by decide⟩⟩
set_option maxRecDepth 20000 in
theorem vmX7_blame : VM mX7_blame 2 := ⟨(lwg_of (List.mem_append_right _ (List.mem_of_getElem? (i := 309) rfl)) rfl), (lwg_of (List.mem_append_right _ (List.mem_of_getElem? (i := 310) rfl)) rfl), (lwg_of (List.mem_append_right _ (List.mem_of_getElem? (i := 2) rfl)) rfl), (lwg_of (List.mem_append_right _ (List.mem_of_getElem? (i := 311) rfl)) rfl), ⟨by decide, by decide, by decide⟩⟩
set_option maxRecDepth 20000 in
theorem vmX7_empty : VM mX7_empty 0 := ⟨(lwg_of (List.mem_append_right _ (List.mem_of_getElem? (i := 349) rfl)) rfl), (lwg_of (List.mem_append_right _ (List.mem_of_getElem? (i := 350) rfl)) rfl), (lwg_of (List.mem_append_right _ (List.mem_of_getElem? (i := 2) rfl)) rfl), (lwg_of (List.mem_append_right _ (List.mem_of_getElem? (i := 351) rfl)) rfl), ⟨by decide, by decide, by decide⟩⟩
set_option maxRecDepth 20000 in
theorem vmX7_isFigure : VM mX7_isFigure 1 := ⟨(lwg_of (List.mem_append_right _ (List.mem_of_getElem? (i := 321) rfl)) rfl), (lwg_of (List.mem_append_right _ (List.mem_of_getElem? (i := 322) rfl)) rfl), (lwg_of (List.mem_append_right _ (List.mem_of_getElem? (i := 2) rfl)) rfl), (lwg_of (List.mem_append_right _ (List.mem_of_getElem? (i := 323) rfl)) rfl), ⟨by decide, by decide, by decide⟩⟩
set_option maxRecDepth 20000 in
theorem vmX7_letterHere : VM mX7_letterHere 0 := ⟨(lwg_of (List.mem_append_right _ (List.mem_of_getElem? (i := 301) rfl)) rfl), (lwg_of (List.mem_append_right _ (List.mem_of_getElem? (i := 302) rfl)) rfl), (lwg_of (List.mem_append_right _ (List.mem_of_getElem? (i := 2) rfl)) rfl), (lwg_of (List.mem_append_right _ (List.mem_of_getElem? (i := 303) rfl)) rfl), ⟨by decide, by decide, by decide⟩⟩
set_option maxRecDepth 20000 in
theorem vmX7_readClause : VM mX7_readClause 1 := ⟨(lwg_of (List.mem_append_right _ (List.mem_of_getElem? (i := 297) rfl)) rfl), (lwg_of (List.mem_append_right _ (List.mem_of_getElem? (i := 298) rfl)) rfl), (lwg_of (List.mem_append_right _ (List.mem_of_getElem? (i := 2) rfl)) rfl), (lwg_of (List.mem_append_right _ (List.mem_of_getElem? (i := 299) rfl)) rfl), ⟨by decide, by decide, by decide⟩⟩
set_option maxRecDepth 20000 in
theorem vmX7_readClear : VM mX7_readClear 1 := ⟨(lwg_of (List.mem_append_right _ (List.mem_of_getElem? (i := 313) rfl)) rfl), (lwg_of (List.mem_append_right _ (List.mem_of_getElem? (i := 314) rfl)) rfl), (lwg_of (List.mem_append_right _ (List.mem_of_getElem? (i := 2) rfl)) rfl), (lwg_of (List.mem_append_right _ (List.mem_of_getElem? (i := 315) rfl)) rfl), ⟨by decide, by decide, by decide⟩⟩
set_option maxRecDepth 20000 in
theorem vmX7_readInto : VM mX7_readInto 1 := ⟨(lwg_of (List.mem_append_right _ (List.mem_of_getElem? (i := 285) rfl)) rfl), (lwg_of (List.mem_append_right _ (List.mem_of_getElem? (i := 286) rfl)) rfl), (lwg_of (List.mem_append_right _ (List.mem_of_getElem? (i := 2) rfl)) rfl), (lwg_of (List.mem_append_right _ (List.mem_of_getElem? (i := 287) rfl)) rfl), ⟨by decide, by decide, by decide⟩⟩
set_option maxRecDepth 20000 in
theorem vmX7_readNumber : VM mX7_readNumber 2 := ⟨(lwg_of (List.mem_append_right _ (List.mem_of_getElem? (i := 317) rfl)) rfl), (lwg_of (List.mem_append_right _ (List.mem_of_getElem? (i := 318) rfl)) rfl), (lwg_of (List.mem_append_right _ (List.mem_of_getElem? (i := 2) rfl)) rfl), (lwg_of (List.mem_append_right _ (List.mem_of_getElem? (i := 319) rfl)) rfl), ⟨by decide, by decide, by decide⟩⟩
set_option maxRecDepth 20000 in
theorem vmX7_readScene : VM mX7_readScene 1 := ⟨(lwg_of (List.mem_append_right _ (List.mem_of_getElem? (i := 325) rfl)) rfl), (lwg_of (List.mem_append_right _ (List.mem_of_getElem? (i := 326) rfl)) rfl), (lwg_of (List.mem_append_right _ (List.mem_of_getElem? (i := 2) rfl)) rfl), (lwg_of (List.mem_append_right _ (List.mem_of_getElem? (i := 327) rfl)) rfl), ⟨by decide, by decide, by decide⟩⟩
set_option maxRecDepth 20000 in
theorem vmX7_readWearer : VM mX7_readWearer 1 := ⟨(lwg_of (List.mem_append_right _ (List.mem_of_getElem? (i := 333) rfl)) rfl), (lwg_of (List.mem_append_right _ (List.mem_of_getElem? (i := 334) rfl)) rfl), (lwg_of (List.mem_append_right _ (List.mem_of_getElem? (i := 2) rfl)) rfl), (lwg_of (List.mem_append_right _ (List.mem_of_getElem? (i := 335) rfl)) rfl), ⟨by decide, by decide, by decide⟩⟩
set_option maxRecDepth 20000 in
theorem vmX7_skipBlanks : VM mX7_skipBlanks 0 := ⟨(lwg_of (List.mem_append_right _ (List.mem_of_getElem? (i := 293) rfl)) rfl), (lwg_of (List.mem_append_right _ (List.mem_of_getElem? (i := 294) rfl)) rfl), (lwg_of (List.mem_append_right _ (List.mem_of_getElem? (i := 2) rfl)) rfl), (lwg_of (List.mem_append_right _ (List.mem_of_getElem? (i := 295) rfl)) rfl), ⟨by decide, by decide, by decide⟩⟩
set_option maxRecDepth 20000 in
theorem vmX8_advance : VM mX8_advance 0 := ⟨(lwg_of (List.mem_append_right _ (List.mem_of_getElem? (i := 669) rfl)) rfl), (lwg_of (List.mem_append_right _ (List.mem_of_getElem? (i := 670) rfl)) rfl), (lwg_of (List.mem_append_right _ (List.mem_of_getElem? (i := 6) rfl)) rfl), (lwg_of (List.mem_append_right _ (List.mem_of_getElem? (i := 671) rfl)) rfl), ⟨by decide, by decide, by decide⟩⟩
set_option maxRecDepth 20000 in
theorem vmX8_begin : VM mX8_begin 1 := ⟨(lwg_of (List.mem_append_right _ (List.mem_of_getElem? (i := 657) rfl)) rfl), (lwg_of (List.mem_append_right _ (List.mem_of_getElem? (i := 658) rfl)) rfl), (lwg_of (List.mem_append_right _ (List.mem_of_getElem? (i := 6) rfl)) rfl), (lwg_of (List.mem_append_right _ (List.mem_of_getElem? (i := 659) rfl)) rfl), ⟨by decide, by decide, by decide⟩⟩
set_option maxRecDepth 20000 in
theorem vmX8_figures : VM mX8_figures 0 := ⟨(lwg_of (List.mem_append_right _ (List.mem_of_getElem? (i := 665) rfl)) rfl), (lwg_of (List.mem_append_right _ (List.mem_of_getElem? (i := 666) rfl)) rfl), (lwg_of (List.mem_append_right _ (List.mem_of_getElem? (i := 6) rfl)) rfl), (lwg_of (List.mem_append_right _ (List.mem_of_getElem? (i := 667) rfl)) rfl), ⟨by decide, by decide, by decide⟩⟩
set_option maxRecDepth 20000 in
theorem vmX8_lastRise : VM mX8_lastRise 0 := ⟨(lwg_of (List.mem_append_right _ (List.mem_of_getElem? (i := 673) rfl)) rfl), (lwg_of (List.mem_append_right _ (List.mem_of_getElem? (i := 674) rfl)) rfl), (lwg_of (List.mem_append_right _ (List.mem_of_getElem? (i := 6) rfl)) rfl), (lwg_of (List.mem_append_right _ (List.mem_of_getElem? (i := 675) rfl)) rfl), ⟨by decide, by decide, by decide⟩⟩
set_option maxRecDepth 20000 in
theorem vmX8_swap : VM mX8_swap 2 := ⟨(lwg_of (List.mem_append_right _ (List.mem_of_getElem? (i := 677) rfl)) rfl), (lwg_of (List.mem_append_right _ (List.mem_of_getElem? (i := 678) rfl)) rfl), (lwg_of (List.mem_append_right _ (List.mem_of_getElem? (i := 6) rfl)) rfl), (lwg_of (List.mem_append_right _ (List.mem_of_getElem? (i := 679) rfl)) rfl), ⟨by decide, by decide, by decide⟩⟩
set_option maxRecDepth 20000 in
theorem vmX10_areThemselves : VM mX10_areThemselves 2 := ⟨(lwg_of (List.mem_append_right _ (List.mem_of_getElem? (i := 1079) rfl)) rfl), (lwg_of (List.mem_append_left _ (List.mem_of_getElem? (i := 44) rfl)) rfl), (lwg_of (List.mem_append_right _ (List.mem_of_getElem? (i := 11) rfl)) rfl), (lwg_of (List.mem_append_right _ (List.mem_of_getElem? (i := 1080) rfl)) rfl), ⟨by decide, by decide, by decide⟩⟩
set_option maxRecDepth 20000 in
theorem vmX10_ask : VM mX10_ask 0 := ⟨(lwg_of (List.mem_append_right _ (List.mem_of_getElem? (i := 1114) rfl)) rfl), (lwg_of (List.mem_append_right _ (List.mem_of_getElem? (i := 1115) rfl)) rfl), (lwg_of (List.mem_append_right _ (List.mem_of_getElem? (i := 11) rfl)) rfl), (lwg_of (List.mem_append_right _ (List.mem_of_getElem? (i := 1116) rfl)) rfl), ⟨by decide, by decide, by decide⟩⟩
set_option maxRecDepth 20000 in
theorem vmX10_begins : VM mX10_begins 0 := ⟨(lwg_of (List.mem_append_right _ (List.mem_of_getElem? (i := 870) rfl)) rfl), (lwg_of (List.mem_append_left _ (List.mem_of_getElem? (i := 18) rfl)) rfl), (lwg_of (List.mem_append_right _ (List.mem_of_getElem? (i := 11) rfl)) rfl), (lwg_of (List.mem_append_right _ (List.mem_of_getElem? (i := 871) rfl)) rfl), ⟨by decide, by decide, by decide⟩⟩
set_option maxRecDepth 20000 in
theorem vmX10_chip : VM mX10_chip 2 := ⟨(lwg_of (List.mem_append_right _ (List.mem_of_getElem? (i := 1024) rfl)) rfl), (lwg_of (List.mem_append_right _ (List.mem_of_getElem? (i := 1025) rfl)) rfl), (lwg_of (List.mem_append_right _ (List.mem_of_getElem? (i := 11) rfl)) rfl), (lwg_of (List.mem_append_right _ (List.mem_of_getElem? (i := 1026) rfl)) rfl), ⟨by decide, by decide, by decide⟩⟩
set_option maxRecDepth 20000 in
theorem vmX10_couldBe : VM mX10_couldBe 0 := ⟨(lwg_of (List.mem_append_right _ (List.mem_of_getElem? (i := 1110) rfl)) rfl), (lwg_of (List.mem_append_right _ (List.mem_of_getElem? (i := 1111) rfl)) rfl), (lwg_of (List.mem_append_right _ (List.mem_of_getElem? (i := 11) rfl)) rfl), (lwg_of (List.mem_append_right _ (List.mem_of_getElem? (i := 1112) rfl)) rfl), ⟨by decide, by decide, by decide⟩⟩
set_option maxRecDepth 20000 in
theorem vmX10_dark : VM mX10_dark 1 := ⟨(lwg_of (List.mem_append_right _ (List.mem_of_getElem? (i := 1053) rfl)) rfl), (lwg_of (List.mem_append_right _ (List.mem_of_getElem? (i := 1054) rfl)) rfl), (lwg_of (List.mem_append_right _ (List.mem_of_getElem? (i := 11) rfl)) rfl), (lwg_of (List.mem_append_right _ (List.mem_of_getElem? (i := 1055) rfl)) rfl), ⟨by decide, by decide, by decide⟩⟩
set_option maxRecDepth 20000 in
theorem vmX10_darkOn : VM mX10_darkOn 1 := ⟨(lwg_of (List.mem_append_right _ (List.mem_of_getElem? (i := 882) rfl)) rfl), (lwg_of (List.mem_append_left _ (List.mem_of_getElem? (i := 19) rfl)) rfl), (lwg_of (List.mem_append_right _ (List.mem_of_getElem? (i := 11) rfl)) rfl), (lwg_of (List.mem_append_right _ (List.mem_of_getElem? (i := 883) rfl)) rfl), ⟨by decide, by decide, by decide⟩⟩
set_option maxRecDepth 20000 in
theorem vmX10_draw : VM mX10_draw 1 := ⟨(lwg_of (List.mem_append_right _ (List.mem_of_getElem? (i := 1038) rfl)) rfl), (lwg_of (List.mem_append_left _ (List.mem_of_getElem? (i := 41) rfl)) rfl), (lwg_of (List.mem_append_right _ (List.mem_of_getElem? (i := 11) rfl)) rfl), (lwg_of (List.mem_append_right _ (List.mem_of_getElem? (i := 1039) rfl)) rfl), ⟨by decide, by decide, by decide⟩⟩
set_option maxRecDepth 20000 in
theorem vmX10_draws : VM mX10_draws 0 := ⟨(lwg_of (List.mem_append_right _ (List.mem_of_getElem? (i := 1034) rfl)) rfl), (lwg_of (List.mem_append_left _ (List.mem_of_getElem? (i := 40) rfl)) rfl), (lwg_of (List.mem_append_right _ (List.mem_of_getElem? (i := 11) rfl)) rfl), (lwg_of (List.mem_append_right _ (List.mem_of_getElem? (i := 1035) rfl)) rfl), ⟨by decide, by decide, by decide⟩⟩
set_option maxRecDepth 20000 in
theorem vmX10_drift : VM mX10_drift 1 := ⟨(lwg_of (List.mem_append_right _ (List.mem_of_getElem? (i := 1029) rfl)) rfl), (lwg_of (List.mem_append_right _ (List.mem_of_getElem? (i := 1030) rfl)) rfl), (lwg_of (List.mem_append_right _ (List.mem_of_getElem? (i := 11) rfl)) rfl), (lwg_of (List.mem_append_right _ (List.mem_of_getElem? (i := 1031) rfl)) rfl), ⟨by decide, by decide, by decide⟩⟩
set_option maxRecDepth 20000 in
theorem vmX10_ends : VM mX10_ends 0 := ⟨(lwg_of (List.mem_append_right _ (List.mem_of_getElem? (i := 855) rfl)) rfl), (lwg_of (List.mem_append_left _ (List.mem_of_getElem? (i := 15) rfl)) rfl), (lwg_of (List.mem_append_right _ (List.mem_of_getElem? (i := 11) rfl)) rfl), (lwg_of (List.mem_append_right _ (List.mem_of_getElem? (i := 856) rfl)) rfl), ⟨by decide, by decide, by decide⟩⟩
set_option maxRecDepth 20000 in
theorem vmX10_eyes : VM mX10_eyes 0 := ⟨(lwg_of (List.mem_append_right _ (List.mem_of_getElem? (i := 898) rfl)) rfl), (lwg_of (List.mem_append_left _ (List.mem_of_getElem? (i := 23) rfl)) rfl), (lwg_of (List.mem_append_right _ (List.mem_of_getElem? (i := 11) rfl)) rfl), (lwg_of (List.mem_append_right _ (List.mem_of_getElem? (i := 899) rfl)) rfl), ⟨by decide, by decide, by decide⟩⟩
set_option maxRecDepth 20000 in
theorem vmX10_fading : VM mX10_fading 3 := ⟨(lwg_of (List.mem_append_right _ (List.mem_of_getElem? (i := 1009) rfl)) rfl), (lwg_of (List.mem_append_left _ (List.mem_of_getElem? (i := 39) rfl)) rfl), (lwg_of (List.mem_append_right _ (List.mem_of_getElem? (i := 11) rfl)) rfl), (lwg_of (List.mem_append_right _ (List.mem_of_getElem? (i := 1010) rfl)) rfl), ⟨by decide, by decide, by decide⟩⟩
set_option maxRecDepth 20000 in
theorem vmX10_fails : VM mX10_fails 1 := ⟨(lwg_of (List.mem_append_right _ (List.mem_of_getElem? (i := 847) rfl)) rfl), (lwg_of (List.mem_append_left _ (List.mem_of_getElem? (i := 13) rfl)) rfl), (lwg_of (List.mem_append_right _ (List.mem_of_getElem? (i := 11) rfl)) rfl), (lwg_of (List.mem_append_right _ (List.mem_of_getElem? (i := 848) rfl)) rfl), ⟨by decide, by decide, by decide⟩⟩
set_option maxRecDepth 20000 in
theorem vmX10_fault : VM mX10_fault 0 := ⟨(lwg_of (List.mem_append_right _ (List.mem_of_getElem? (i := 873) rfl)) rfl), (lwg_of (List.mem_append_right _ (List.mem_of_getElem? (i := 874) rfl)) rfl), (lwg_of (List.mem_append_right _ (List.mem_of_getElem? (i := 11) rfl)) rfl), (lwg_of (List.mem_append_right _ (List.mem_of_getElem? (i := 875) rfl)) rfl), ⟨by decide, by decide, by decide⟩⟩
set_option maxRecDepth 20000 in
theorem vmX10_feed : VM mX10_feed 1 := ⟨(lwg_of (List.mem_append_right _ (List.mem_of_getElem? (i := 818) rfl)) rfl), (lwg_of (List.mem_append_right _ (List.mem_of_getElem? (i := 819) rfl)) rfl), (lwg_of (List.mem_append_right _ (List.mem_of_getElem? (i := 11) rfl)) rfl), (lwg_of (List.mem_append_right _ (List.mem_of_getElem? (i := 820) rfl)) rfl), ⟨by decide, by decide, by decide⟩⟩
set_option maxRecDepth 20000 in
theorem vmX10_goBack : VM mX10_goBack 1 := ⟨(lwg_of (List.mem_append_right _ (List.mem_of_getElem? (i := 1139) rfl)) rfl), (lwg_of (List.mem_append_right _ (List.mem_of_getElem? (i := 1140) rfl)) rfl), (lwg_of (List.mem_append_right _ (List.mem_of_getElem? (i := 11) rfl)) rfl), (lwg_of (List.mem_append_right _ (List.mem_of_getElem? (i := 1141) rfl)) rfl), ⟨by decide, by decide, by decide⟩⟩
set_option maxRecDepth 20000 in
theorem vmX10_ground : VM mX10_ground 1 := ⟨(lwg_of (List.mem_append_right _ (List.mem_of_getElem? (i := 1096) rfl)) rfl), (lwg_of (List.mem_append_right _ (List.mem_of_getElem? (i := 1097) rfl)) rfl), (lwg_of (List.mem_append_right _ (List.mem_of_getElem? (i := 11) rfl)) rfl), (lwg_of (List.mem_append_right _ (List.mem_of_getElem? (i := 1098) rfl)) rfl), ⟨by decide, by decide, by decide⟩⟩
set_option maxRecDepth 20000 in
theorem vmX10_half : VM mX10_half 2 := ⟨(lwg_of (List.mem_append_right _ (List.mem_of_getElem? (i := 922) rfl)) rfl), (lwg_of (List.mem_append_left _ (List.mem_of_getElem? (i := 27) rfl)) rfl), (lwg_of (List.mem_append_right _ (List.mem_of_getElem? (i := 11) rfl)) rfl), (lwg_of (List.mem_append_right _ (List.mem_of_getElem? (i := 923) rfl)) rfl), ⟨by decide, by decide, by decide⟩⟩
set_option maxRecDepth 20000 in
theorem vmX10_here : VM mX10_here 0 := ⟨(lwg_of (List.mem_append_right _ (List.mem_of_getElem? (i := 837) rfl)) rfl), (lwg_of (List.mem_append_left _ (List.mem_of_getElem? (i := 11) rfl)) rfl), (lwg_of (List.mem_append_right _ (List.mem_of_getElem? (i := 11) rfl)) rfl), (lwg_of (List.mem_append_right _ (List.mem_of_getElem? (i := 838) rfl)) rfl), ⟨by decide, by decide, by decide⟩⟩
set_option maxRecDepth 20000 in
theorem vmX10_isLayer : VM mX10_isLayer 1 := ⟨(lwg_of (List.mem_append_right _ (List.mem_of_getElem? (i := 964) rfl)) rfl), (lwg_of (List.mem_append_left _ (List.mem_of_getElem? (i := 34) rfl)) rfl), (lwg_of (List.mem_append_right _ (List.mem_of_getElem? (i := 11) rfl)) rfl), (lwg_of (List.mem_append_right _ (List.mem_of_getElem? (i := 965) rfl)) rfl), ⟨by decide, by decide, by decide⟩⟩
set_option maxRecDepth 20000 in
theorem vmX10_isScene : VM mX10_isScene 1 := ⟨(lwg_of (List.mem_append_right _ (List.mem_of_getElem? (i := 917) rfl)) rfl), (lwg_of (List.mem_append_left _ (List.mem_of_getElem? (i := 26) rfl)) rfl), (lwg_of (List.mem_append_right _ (List.mem_of_getElem? (i := 11) rfl)) rfl), (lwg_of (List.mem_append_right _ (List.mem_of_getElem? (i := 918) rfl)) rfl), ⟨by decide, by decide, by decide⟩⟩
set_option maxRecDepth 20000 in
theorem vmX10_isWearer : VM mX10_isWearer 1 := ⟨(lwg_of (List.mem_append_right _ (List.mem_of_getElem? (i := 945) rfl)) rfl), (lwg_of (List.mem_append_left _ (List.mem_of_getElem? (i := 31) rfl)) rfl), (lwg_of (List.mem_append_right _ (List.mem_of_getElem? (i := 11) rfl)) rfl), (lwg_of (List.mem_append_right _ (List.mem_of_getElem? (i := 946) rfl)) rfl), ⟨by decide, by decide, by decide⟩⟩
set_option maxRecDepth 20000 in
theorem vmX10_judge : VM mX10_judge 0 := ⟨(lwg_of (List.mem_append_right _ (List.mem_of_getElem? (i := 1123) rfl)) rfl), (lwg_of (List.mem_append_right _ (List.mem_of_getElem? (i := 1124) rfl)) rfl), (lwg_of (List.mem_append_right _ (List.mem_of_getElem? (i := 11) rfl)) rfl), (lwg_of (List.mem_append_right _ (List.mem_of_getElem? (i := 1125) rfl)) rfl), ⟨by decide, by decide, by decide⟩⟩
set_option maxRecDepth 20000 in
theorem vmX10_keep : VM mX10_keep 1 := ⟨(lwg_of (List.mem_append_right _ (List.mem_of_getElem? (i := 1135) rfl)) rfl), (lwg_of (List.mem_append_right _ (List.mem_of_getElem? (i := 1136) rfl)) rfl), (lwg_of (List.mem_append_right _ (List.mem_of_getElem? (i := 11) rfl)) rfl), (lwg_of (List.mem_append_right _ (List.mem_of_getElem? (i := 1137) rfl)) rfl), ⟨by decide, by decide, by decide⟩⟩
set_option maxRecDepth 20000 in
theorem vmX10_kin : VM mX10_kin 1 := ⟨(lwg_of (List.mem_append_right _ (List.mem_of_getElem? (i := 949) rfl)) rfl), (lwg_of (List.mem_append_left _ (List.mem_of_getElem? (i := 32) rfl)) rfl), (lwg_of (List.mem_append_right _ (List.mem_of_getElem? (i := 11) rfl)) rfl), (lwg_of (List.mem_append_right _ (List.mem_of_getElem? (i := 950) rfl)) rfl), ⟨by decide, by decide, by decide⟩⟩
set_option maxRecDepth 20000 in
theorem vmX10_layAside : VM mX10_layAside 0 := ⟨(lwg_of (List.mem_append_right _ (List.mem_of_getElem? (i := 1059) rfl)) rfl), (lwg_of (List.mem_append_left _ (List.mem_of_getElem? (i := 42) rfl)) rfl), (lwg_of (List.mem_append_right _ (List.mem_of_getElem? (i := 11) rfl)) rfl), (lwg_of (List.mem_append_right _ (List.mem_of_getElem? (i := 1060) rfl)) rfl), ⟨by decide, by decide, by decide⟩⟩
set_option maxRecDepth 20000 in
theorem vmX10_layer : VM mX10_layer 2 := ⟨(lwg_of (List.mem_append_right _ (List.mem_of_getElem? (i := 959) rfl)) rfl), (lwg_of (List.mem_append_right _ (List.mem_of_getElem? (i := 960) rfl)) rfl), (lwg_of (List.mem_append_right _ (List.mem_of_getElem? (i := 11) rfl)) rfl), (lwg_of (List.mem_append_right _ (List.mem_of_getElem? (i := 961) rfl)) rfl), ⟨by decide, by decide, by decide⟩⟩
set_option maxRecDepth 20000 in
theorem vmX10_line : VM mX10_line 0 := ⟨(lwg_of (List.mem_append_right _ (List.mem_of_getElem? (i := 828) rfl)) rfl), (lwg_of (List.mem_append_right _ (List.mem_of_getElem? (i := 829) rfl)) rfl), (lwg_of (List.mem_append_right _ (List.mem_of_getElem? (i := 11) rfl)) rfl), (lwg_of (List.mem_append_right _ (List.mem_of_getElem? (i := 830) rfl)) rfl), ⟨by decide, by decide, by decide⟩⟩
set_option maxRecDepth 20000 in
theorem vmX10_logged : VM mX10_logged 2 := ⟨(lwg_of (List.mem_append_right _ (List.mem_of_getElem? (i := 968) rfl)) rfl), (lwg_of (List.mem_append_right _ (List.mem_of_getElem? (i := 969) rfl)) rfl), (lwg_of (List.mem_append_right _ (List.mem_of_getElem? (i := 11) rfl)) rfl), (lwg_of (List.mem_append_right _ (List.mem_of_getElem? (i := 970) rfl)) rfl), ⟨by decide, by decide, by decide⟩⟩
set_option maxRecDepth 20000 in
theorem vmX10_lookFor : VM mX10_lookFor 1 := ⟨(lwg_of (List.mem_append_right _ (List.mem_of_getElem? (i := 926) rfl)) rfl), (lwg_of (List.mem_append_left _ (List.mem_of_getElem? (i := 28) rfl)) rfl), (lwg_of (List.mem_append_right _ (List.mem_of_getElem? (i := 11) rfl)) rfl), (lwg_of (List.mem_append_right _ (List.mem_of_getElem? (i := 927) rfl)) rfl), ⟨by decide, by decide, by decide⟩⟩
set_option maxRecDepth 20000 in
theorem vmX10_looks : VM mX10_looks 2 := ⟨(lwg_of (List.mem_append_right _ (List.mem_of_getElem? (i := 993) rfl)) rfl), (lwg_of (List.mem_append_left _ (List.mem_of_getElem? (i := 38) rfl)) rfl), (lwg_of (List.mem_append_right _ (List.mem_of_getElem? (i := 11) rfl)) rfl), (lwg_of (List.mem_append_right _ (List.mem_of_getElem? (i := 994) rfl)) rfl), ⟨by decide, by decide, by decide⟩⟩
set_option maxRecDepth 20000 in
theorem vmX10_loss : VM mX10_loss 1 := ⟨(lwg_of (List.mem_append_right _ (List.mem_of_getElem? (i := 1075) rfl)) rfl), (lwg_of (List.mem_append_left _ (List.mem_of_getElem? (i := 43) rfl)) rfl), (lwg_of (List.mem_append_right _ (List.mem_of_getElem? (i := 11) rfl)) rfl), (lwg_of (List.mem_append_right _ (List.mem_of_getElem? (i := 1076) rfl)) rfl), ⟨by decide, by decide, by decide⟩⟩
set_option maxRecDepth 20000 in
theorem vmX10_meet : VM mX10_meet 2 := ⟨(lwg_of (List.mem_append_right _ (List.mem_of_getElem? (i := 1106) rfl)) rfl), (lwg_of (List.mem_append_right _ (List.mem_of_getElem? (i := 1107) rfl)) rfl), (lwg_of (List.mem_append_right _ (List.mem_of_getElem? (i := 11) rfl)) rfl), (lwg_of (List.mem_append_right _ (List.mem_of_getElem? (i := 1108) rfl)) rfl), ⟨by decide, by decide, by decide⟩⟩
set_option maxRecDepth 20000 in
theorem vmX10_mist : VM mX10_mist 2 := ⟨(lwg_of (List.mem_append_right _ (List.mem_of_getElem? (i := 1100) rfl)) rfl), (lwg_of (List.mem_append_right _ (List.mem_of_getElem? (i := 1101) rfl)) rfl), (lwg_of (List.mem_append_right _ (List.mem_of_getElem? (i := 11) rfl)) rfl), (lwg_of (List.mem_append_right _ (List.mem_of_getElem? (i := 1102) rfl)) rfl), ⟨by decide, by decide, by decide⟩⟩
set_option maxRecDepth 20000 in
theorem vmX10_nextOrder : VM mX10_nextOrder 1 := ⟨(lwg_of (List.mem_append_right _ (List.mem_of_getElem? (i := 1093) rfl)) rfl), (lwg_of (List.mem_append_left _ (List.mem_of_getElem? (i := 45) rfl)) rfl), (lwg_of (List.mem_append_right _ (List.mem_of_getElem? (i := 11) rfl)) rfl), (lwg_of (List.mem_append_right _ (List.mem_of_getElem? (i := 1094) rfl)) rfl), ⟨by decide, by decide, by decide⟩⟩
set_option maxRecDepth 20000 in
theorem vmX10_nextScene : VM mX10_nextScene 2 := ⟨(lwg_of (List.mem_append_right _ (List.mem_of_getElem? (i := 956) rfl)) rfl), (lwg_of (List.mem_append_left _ (List.mem_of_getElem? (i := 33) rfl)) rfl), (lwg_of (List.mem_append_right _ (List.mem_of_getElem? (i := 11) rfl)) rfl), (lwg_of (List.mem_append_right _ (List.mem_of_getElem? (i := 957) rfl)) rfl), ⟨by decide, by decide, by decide⟩⟩
set_option maxRecDepth 20000 in
theorem vmX10_number : VM mX10_number 3 := ⟨(lwg_of (List.mem_append_right _ (List.mem_of_getElem? (i := 851) rfl)) rfl), (lwg_of (List.mem_append_left _ (List.mem_of_getElem? (i := 14) rfl)) rfl), (lwg_of (List.mem_append_right _ (List.mem_of_getElem? (i := 11) rfl)) rfl), (lwg_of (List.mem_append_right _ (List.mem_of_getElem? (i := 852) rfl)) rfl), ⟨by decide, by decide, by decide⟩⟩
set_option maxRecDepth 20000 in
theorem vmX10_only : VM mX10_only 2 := ⟨(lwg_of (List.mem_append_right _ (List.mem_of_getElem? (i := 1082) rfl)) rfl), (lwg_of (List.mem_append_right _ (List.mem_of_getElem? (i := 1083) rfl)) rfl), (lwg_of (List.mem_append_right _ (List.mem_of_getElem? (i := 11) rfl)) rfl), (lwg_of (List.mem_append_right _ (List.mem_of_getElem? (i := 1084) rfl)) rfl), ⟨by decide, by decide, by decide⟩⟩
set_option maxRecDepth 20000 in
theorem vmX10_order : VM mX10_order 2 := ⟨(lwg_of (List.mem_append_right _ (List.mem_of_getElem? (i := 1086) rfl)) rfl), (lwg_of (List.mem_append_right _ (List.mem_of_getElem? (i := 1087) rfl)) rfl), (lwg_of (List.mem_append_right _ (List.mem_of_getElem? (i := 11) rfl)) rfl), (lwg_of (List.mem_append_right _ (List.mem_of_getElem? (i := 1088) rfl)) rfl), ⟨by decide, by decide, by decide⟩⟩
set_option maxRecDepth 20000 in
theorem vmX10_readsClause : VM mX10_readsClause 0 := ⟨(lwg_of (List.mem_append_right _ (List.mem_of_getElem? (i := 843) rfl)) rfl), (lwg_of (List.mem_append_left _ (List.mem_of_getElem? (i := 12) rfl)) rfl), (lwg_of (List.mem_append_right _ (List.mem_of_getElem? (i := 11) rfl)) rfl), (lwg_of (List.mem_append_right _ (List.mem_of_getElem? (i := 844) rfl)) rfl), ⟨by decide, by decide, by decide⟩⟩
set_option maxRecDepth 20000 in
theorem vmX10_readsScene : VM mX10_readsScene 0 := ⟨(lwg_of (List.mem_append_right _ (List.mem_of_getElem? (i := 859) rfl)) rfl), (lwg_of (List.mem_append_left _ (List.mem_of_getElem? (i := 16) rfl)) rfl), (lwg_of (List.mem_append_right _ (List.mem_of_getElem? (i := 11) rfl)) rfl), (lwg_of (List.mem_append_right _ (List.mem_of_getElem? (i := 860) rfl)) rfl), ⟨by decide, by decide, by decide⟩⟩
set_option maxRecDepth 20000 in
theorem vmX10_readsWearer : VM mX10_readsWearer 0 := ⟨(lwg_of (List.mem_append_right _ (List.mem_of_getElem? (i := 863) rfl)) rfl), (lwg_of (List.mem_append_left _ (List.mem_of_getElem? (i := 17) rfl)) rfl), (lwg_of (List.mem_append_right _ (List.mem_of_getElem? (i := 11) rfl)) rfl), (lwg_of (List.mem_append_right _ (List.mem_of_getElem? (i := 864) rfl)) rfl), ⟨by decide, by decide, by decide⟩⟩
set_option maxRecDepth 20000 in
theorem vmX10_refuses : VM mX10_refuses 1 := ⟨(lwg_of (List.mem_append_right _ (List.mem_of_getElem? (i := 978) rfl)) rfl), (lwg_of (List.mem_append_left _ (List.mem_of_getElem? (i := 35) rfl)) rfl), (lwg_of (List.mem_append_right _ (List.mem_of_getElem? (i := 11) rfl)) rfl), (lwg_of (List.mem_append_right _ (List.mem_of_getElem? (i := 979) rfl)) rfl), ⟨by decide, by decide, by decide⟩⟩
set_option maxRecDepth 20000 in
theorem vmX10_remember : VM mX10_remember 0 := ⟨(lwg_of (List.mem_append_right _ (List.mem_of_getElem? (i := 985) rfl)) rfl), (lwg_of (List.mem_append_left _ (List.mem_of_getElem? (i := 36) rfl)) rfl), (lwg_of (List.mem_append_right _ (List.mem_of_getElem? (i := 11) rfl)) rfl), (lwg_of (List.mem_append_right _ (List.mem_of_getElem? (i := 986) rfl)) rfl), ⟨by decide, by decide, by decide⟩⟩
set_option maxRecDepth 20000 in
theorem vmX10_sawBy : VM mX10_sawBy 1 := ⟨(lwg_of (List.mem_append_right _ (List.mem_of_getElem? (i := 894) rfl)) rfl), (lwg_of (List.mem_append_left _ (List.mem_of_getElem? (i := 22) rfl)) rfl), (lwg_of (List.mem_append_right _ (List.mem_of_getElem? (i := 11) rfl)) rfl), (lwg_of (List.mem_append_right _ (List.mem_of_getElem? (i := 895) rfl)) rfl), ⟨by decide, by decide, by decide⟩⟩
set_option maxRecDepth 20000 in
theorem vmX10_scene : VM mX10_scene 2 := ⟨(lwg_of (List.mem_append_right _ (List.mem_of_getElem? (i := 912) rfl)) rfl), (lwg_of (List.mem_append_right _ (List.mem_of_getElem? (i := 913) rfl)) rfl), (lwg_of (List.mem_append_right _ (List.mem_of_getElem? (i := 11) rfl)) rfl), (lwg_of (List.mem_append_right _ (List.mem_of_getElem? (i := 914) rfl)) rfl), ⟨by decide, by decide, by decide⟩⟩
set_option maxRecDepth 20000 in
theorem vmX10_seed : VM mX10_seed 1 := ⟨(lwg_of (List.mem_append_right _ (List.mem_of_getElem? (i := 1131) rfl)) rfl), (lwg_of (List.mem_append_right _ (List.mem_of_getElem? (i := 1132) rfl)) rfl), (lwg_of (List.mem_append_right _ (List.mem_of_getElem? (i := 11) rfl)) rfl), (lwg_of (List.mem_append_right _ (List.mem_of_getElem? (i := 1133) rfl)) rfl), ⟨by decide, by decide, by decide⟩⟩
set_option maxRecDepth 20000 in
theorem vmX10_seenByAll : VM mX10_seenByAll 0 := ⟨(lwg_of (List.mem_append_right _ (List.mem_of_getElem? (i := 890) rfl)) rfl), (lwg_of (List.mem_append_left _ (List.mem_of_getElem? (i := 21) rfl)) rfl), (lwg_of (List.mem_append_right _ (List.mem_of_getElem? (i := 11) rfl)) rfl), (lwg_of (List.mem_append_right _ (List.mem_of_getElem? (i := 891) rfl)) rfl), ⟨by decide, by decide, by decide⟩⟩
set_option maxRecDepth 20000 in
theorem vmX10_step : VM mX10_step 0 := ⟨(lwg_of (List.mem_append_right _ (List.mem_of_getElem? (i := 833) rfl)) rfl), (lwg_of (List.mem_append_left _ (List.mem_of_getElem? (i := 10) rfl)) rfl), (lwg_of (List.mem_append_right _ (List.mem_of_getElem? (i := 11) rfl)) rfl), (lwg_of (List.mem_append_right _ (List.mem_of_getElem? (i := 834) rfl)) rfl), ⟨by decide, by decide, by decide⟩⟩
set_option maxRecDepth 20000 in
theorem vmX10_strengthOn : VM mX10_strengthOn 2 := ⟨(lwg_of (List.mem_append_right _ (List.mem_of_getElem? (i := 886) rfl)) rfl), (lwg_of (List.mem_append_left _ (List.mem_of_getElem? (i := 20) rfl)) rfl), (lwg_of (List.mem_append_right _ (List.mem_of_getElem? (i := 11) rfl)) rfl), (lwg_of (List.mem_append_right _ (List.mem_of_getElem? (i := 887) rfl)) rfl), ⟨by decide, by decide, by decide⟩⟩
set_option maxRecDepth 20000 in
theorem vmX10_strongest : VM mX10_strongest 0 := ⟨(lwg_of (List.mem_append_right _ (List.mem_of_getElem? (i := 902) rfl)) rfl), (lwg_of (List.mem_append_left _ (List.mem_of_getElem? (i := 24) rfl)) rfl), (lwg_of (List.mem_append_right _ (List.mem_of_getElem? (i := 11) rfl)) rfl), (lwg_of (List.mem_append_right _ (List.mem_of_getElem? (i := 903) rfl)) rfl), ⟨by decide, by decide, by decide⟩⟩
set_option maxRecDepth 20000 in
theorem vmX10_takeOff : VM mX10_takeOff 0 := ⟨(lwg_of (List.mem_append_right _ (List.mem_of_getElem? (i := 1016) rfl)) rfl), (lwg_of (List.mem_append_right _ (List.mem_of_getElem? (i := 1017) rfl)) rfl), (lwg_of (List.mem_append_right _ (List.mem_of_getElem? (i := 11) rfl)) rfl), (lwg_of (List.mem_append_right _ (List.mem_of_getElem? (i := 1018) rfl)) rfl), ⟨by decide, by decide, by decide⟩⟩
set_option maxRecDepth 20000 in
theorem vmX10_takes : VM mX10_takes 1 := ⟨(lwg_of (List.mem_append_right _ (List.mem_of_getElem? (i := 1049) rfl)) rfl), (lwg_of (List.mem_append_right _ (List.mem_of_getElem? (i := 1050) rfl)) rfl), (lwg_of (List.mem_append_right _ (List.mem_of_getElem? (i := 11) rfl)) rfl), (lwg_of (List.mem_append_right _ (List.mem_of_getElem? (i := 1051) rfl)) rfl), ⟨by decide, by decide, by decide⟩⟩
set_option maxRecDepth 20000 in
theorem vmX10_takesBy : VM mX10_takesBy 4 := ⟨(lwg_of (List.mem_append_right _ (List.mem_of_getElem? (i := 934) rfl)) rfl), (lwg_of (List.mem_append_left _ (List.mem_of_getElem? (i := 30) rfl)) rfl), (lwg_of (List.mem_append_right _ (List.mem_of_getElem? (i := 11) rfl)) rfl), (lwg_of (List.mem_append_right _ (List.mem_of_getElem? (i := 935) rfl)) rfl), ⟨by decide, by decide, by decide⟩⟩
set_option maxRecDepth 20000 in
theorem vmX10_takesNow : VM mX10_takesNow 1 := ⟨(lwg_of (List.mem_append_right _ (List.mem_of_getElem? (i := 930) rfl)) rfl), (lwg_of (List.mem_append_left _ (List.mem_of_getElem? (i := 29) rfl)) rfl), (lwg_of (List.mem_append_right _ (List.mem_of_getElem? (i := 11) rfl)) rfl), (lwg_of (List.mem_append_right _ (List.mem_of_getElem? (i := 931) rfl)) rfl), ⟨by decide, by decide, by decide⟩⟩
set_option maxRecDepth 20000 in
theorem vmX10_tear : VM mX10_tear 0 := ⟨(lwg_of (List.mem_append_right _ (List.mem_of_getElem? (i := 1127) rfl)) rfl), (lwg_of (List.mem_append_right _ (List.mem_of_getElem? (i := 1128) rfl)) rfl), (lwg_of (List.mem_append_right _ (List.mem_of_getElem? (i := 11) rfl)) rfl), (lwg_of (List.mem_append_right _ (List.mem_of_getElem? (i := 1129) rfl)) rfl), ⟨by decide, by decide, by decide⟩⟩
set_option maxRecDepth 20000 in
theorem vmX10_thick : VM mX10_thick 0 := ⟨(lwg_of (List.mem_append_right _ (List.mem_of_getElem? (i := 906) rfl)) rfl), (lwg_of (List.mem_append_left _ (List.mem_of_getElem? (i := 25) rfl)) rfl), (lwg_of (List.mem_append_right _ (List.mem_of_getElem? (i := 11) rfl)) rfl), (lwg_of (List.mem_append_right _ (List.mem_of_getElem? (i := 907) rfl)) rfl), ⟨by decide, by decide, by decide⟩⟩
set_option maxRecDepth 20000 in
theorem vmX10_toWipe : VM mX10_toWipe 2 := ⟨(lwg_of (List.mem_append_right _ (List.mem_of_getElem? (i := 1070) rfl)) rfl), (lwg_of (List.mem_append_right _ (List.mem_of_getElem? (i := 1071) rfl)) rfl), (lwg_of (List.mem_append_right _ (List.mem_of_getElem? (i := 11) rfl)) rfl), (lwg_of (List.mem_append_right _ (List.mem_of_getElem? (i := 1072) rfl)) rfl), ⟨by decide, by decide, by decide⟩⟩
set_option maxRecDepth 20000 in
theorem vmX10_told : VM mX10_told 1 := ⟨(lwg_of (List.mem_append_right _ (List.mem_of_getElem? (i := 877) rfl)) rfl), (lwg_of (List.mem_append_right _ (List.mem_of_getElem? (i := 878) rfl)) rfl), (lwg_of (List.mem_append_right _ (List.mem_of_getElem? (i := 11) rfl)) rfl), (lwg_of (List.mem_append_right _ (List.mem_of_getElem? (i := 879) rfl)) rfl), ⟨by decide, by decide, by decide⟩⟩
set_option maxRecDepth 20000 in
theorem vmX10_tooDark : VM mX10_tooDark 1 := ⟨(lwg_of (List.mem_append_right _ (List.mem_of_getElem? (i := 1062) rfl)) rfl), (lwg_of (List.mem_append_right _ (List.mem_of_getElem? (i := 1063) rfl)) rfl), (lwg_of (List.mem_append_right _ (List.mem_of_getElem? (i := 11) rfl)) rfl), (lwg_of (List.mem_append_right _ (List.mem_of_getElem? (i := 1064) rfl)) rfl), ⟨by decide, by decide, by decide⟩⟩
set_option maxRecDepth 20000 in
theorem vmX10_undo : VM mX10_undo 1 := ⟨(lwg_of (List.mem_append_right _ (List.mem_of_getElem? (i := 1045) rfl)) rfl), (lwg_of (List.mem_append_right _ (List.mem_of_getElem? (i := 1046) rfl)) rfl), (lwg_of (List.mem_append_right _ (List.mem_of_getElem? (i := 11) rfl)) rfl), (lwg_of (List.mem_append_right _ (List.mem_of_getElem? (i := 1047) rfl)) rfl), ⟨by decide, by decide, by decide⟩⟩
set_option maxRecDepth 20000 in
theorem vmX10_wear : VM mX10_wear 1 := ⟨(lwg_of (List.mem_append_right _ (List.mem_of_getElem? (i := 1012) rfl)) rfl), (lwg_of (List.mem_append_right _ (List.mem_of_getElem? (i := 1013) rfl)) rfl), (lwg_of (List.mem_append_right _ (List.mem_of_getElem? (i := 11) rfl)) rfl), (lwg_of (List.mem_append_right _ (List.mem_of_getElem? (i := 1014) rfl)) rfl), ⟨by decide, by decide, by decide⟩⟩
set_option maxRecDepth 20000 in
theorem vmX10_wearer : VM mX10_wearer 2 := ⟨(lwg_of (List.mem_append_right _ (List.mem_of_getElem? (i := 940) rfl)) rfl), (lwg_of (List.mem_append_right _ (List.mem_of_getElem? (i := 941) rfl)) rfl), (lwg_of (List.mem_append_right _ (List.mem_of_getElem? (i := 11) rfl)) rfl), (lwg_of (List.mem_append_right _ (List.mem_of_getElem? (i := 942) rfl)) rfl), ⟨by decide, by decide, by decide⟩⟩
set_option maxRecDepth 20000 in
theorem vmX10_willShow : VM mX10_willShow 2 := ⟨(lwg_of (List.mem_append_right _ (List.mem_of_getElem? (i := 1066) rfl)) rfl), (lwg_of (List.mem_append_right _ (List.mem_of_getElem? (i := 1067) rfl)) rfl), (lwg_of (List.mem_append_right _ (List.mem_of_getElem? (i := 11) rfl)) rfl), (lwg_of (List.mem_append_right _ (List.mem_of_getElem? (i := 1068) rfl)) rfl), ⟨by decide, by decide, by decide⟩⟩
set_option maxRecDepth 20000 in
theorem vmX10_wipe : VM mX10_wipe 1 := ⟨(lwg_of (List.mem_append_right _ (List.mem_of_getElem? (i := 1020) rfl)) rfl), (lwg_of (List.mem_append_right _ (List.mem_of_getElem? (i := 1021) rfl)) rfl), (lwg_of (List.mem_append_right _ (List.mem_of_getElem? (i := 11) rfl)) rfl), (lwg_of (List.mem_append_right _ (List.mem_of_getElem? (i := 1022) rfl)) rfl), ⟨by decide, by decide, by decide⟩⟩
set_option maxRecDepth 20000 in
theorem vmX10_write : VM mX10_write 2 := ⟨(lwg_of (List.mem_append_right _ (List.mem_of_getElem? (i := 1119) rfl)) rfl), (lwg_of (List.mem_append_right _ (List.mem_of_getElem? (i := 1120) rfl)) rfl), (lwg_of (List.mem_append_right _ (List.mem_of_getElem? (i := 11) rfl)) rfl), (lwg_of (List.mem_append_right _ (List.mem_of_getElem? (i := 1121) rfl)) rfl), ⟨by decide, by decide, by decide⟩⟩
set_option maxRecDepth 20000 in
theorem vmX10_year : VM mX10_year 1 := ⟨(lwg_of (List.mem_append_right _ (List.mem_of_getElem? (i := 973) rfl)) rfl), (lwg_of (List.mem_append_right _ (List.mem_of_getElem? (i := 974) rfl)) rfl), (lwg_of (List.mem_append_right _ (List.mem_of_getElem? (i := 11) rfl)) rfl), (lwg_of (List.mem_append_right _ (List.mem_of_getElem? (i := 975) rfl)) rfl), ⟨by decide, by decide, by decide⟩⟩
set_option maxRecDepth 20000 in
theorem vmX10_yearGoes : VM mX10_yearGoes 1 := ⟨(lwg_of (List.mem_append_right _ (List.mem_of_getElem? (i := 989) rfl)) rfl), (lwg_of (List.mem_append_left _ (List.mem_of_getElem? (i := 37) rfl)) rfl), (lwg_of (List.mem_append_right _ (List.mem_of_getElem? (i := 11) rfl)) rfl), (lwg_of (List.mem_append_right _ (List.mem_of_getElem? (i := 990) rfl)) rfl), ⟨by decide, by decide, by decide⟩⟩
set_option maxRecDepth 20000 in
theorem smX9_isSetOf : SM mX9_isSetOf 2 := ⟨(lwg_of (List.mem_append_right _ (List.mem_of_getElem? (i := 638) rfl)) rfl), (lwg_of (List.mem_append_right _ (List.mem_of_getElem? (i := 1) rfl)) rfl), (lwg_of (List.mem_append_right _ (List.mem_of_getElem? (i := 639) rfl)) rfl), ⟨by decide, by decide, by decide⟩⟩
set_option maxRecDepth 20000 in
theorem smX10_bits : SM mX10_bits 1 := ⟨(lwg_of (List.mem_append_right _ (List.mem_of_getElem? (i := 952) rfl)) rfl), (lwg_of (List.mem_append_right _ (List.mem_of_getElem? (i := 11) rfl)) rfl), (lwg_of (List.mem_append_right _ (List.mem_of_getElem? (i := 953) rfl)) rfl), ⟨by decide, by decide, by decide⟩⟩
set_option maxRecDepth 20000 in
theorem smX10_copies : SM mX10_copies 5 := ⟨(lwg_of (List.mem_append_right _ (List.mem_of_getElem? (i := 866) rfl)) rfl), (lwg_of (List.mem_append_right _ (List.mem_of_getElem? (i := 11) rfl)) rfl), (lwg_of (List.mem_append_right _ (List.mem_of_getElem? (i := 867) rfl)) rfl), ⟨by decide, by decide, by decide⟩⟩
set_option maxRecDepth 20000 in
theorem smX10_greater : SM mX10_greater 2 := ⟨(lwg_of (List.mem_append_right _ (List.mem_of_getElem? (i := 909) rfl)) rfl), (lwg_of (List.mem_append_right _ (List.mem_of_getElem? (i := 11) rfl)) rfl), (lwg_of (List.mem_append_right _ (List.mem_of_getElem? (i := 910) rfl)) rfl), ⟨by decide, by decide, by decide⟩⟩
set_option maxRecDepth 20000 in
theorem smX10_has : SM mX10_has 2 := ⟨(lwg_of (List.mem_append_right _ (List.mem_of_getElem? (i := 937) rfl)) rfl), (lwg_of (List.mem_append_right _ (List.mem_of_getElem? (i := 11) rfl)) rfl), (lwg_of (List.mem_append_right _ (List.mem_of_getElem? (i := 938) rfl)) rfl), ⟨by decide, by decide, by decide⟩⟩
set_option maxRecDepth 20000 in
theorem smX10_in : SM mX10_in 3 := ⟨(lwg_of (List.mem_append_right _ (List.mem_of_getElem? (i := 823) rfl)) rfl), (lwg_of (List.mem_append_right _ (List.mem_of_getElem? (i := 11) rfl)) rfl), (lwg_of (List.mem_append_right _ (List.mem_of_getElem? (i := 824) rfl)) rfl), ⟨by decide, by decide, by decide⟩⟩
set_option maxRecDepth 20000 in
theorem smX10_lays : SM mX10_lays 4 := ⟨(lwg_of (List.mem_append_right _ (List.mem_of_getElem? (i := 1002) rfl)) rfl), (lwg_of (List.mem_append_right _ (List.mem_of_getElem? (i := 11) rfl)) rfl), (lwg_of (List.mem_append_right _ (List.mem_of_getElem? (i := 1003) rfl)) rfl), ⟨by decide, by decide, by decide⟩⟩
set_option maxRecDepth 20000 in
theorem smX10_lesser : SM mX10_lesser 2 := ⟨(lwg_of (List.mem_append_right _ (List.mem_of_getElem? (i := 999) rfl)) rfl), (lwg_of (List.mem_append_right _ (List.mem_of_getElem? (i := 11) rfl)) rfl), (lwg_of (List.mem_append_right _ (List.mem_of_getElem? (i := 1000) rfl)) rfl), ⟨by decide, by decide, by decide⟩⟩
set_option maxRecDepth 20000 in
theorem smX10_logs : SM mX10_logs 4 := ⟨(lwg_of (List.mem_append_right _ (List.mem_of_getElem? (i := 996) rfl)) rfl), (lwg_of (List.mem_append_right _ (List.mem_of_getElem? (i := 11) rfl)) rfl), (lwg_of (List.mem_append_right _ (List.mem_of_getElem? (i := 997) rfl)) rfl), ⟨by decide, by decide, by decide⟩⟩
set_option maxRecDepth 20000 in
theorem smX10_removes : SM mX10_removes 2 := ⟨(lwg_of (List.mem_append_right _ (List.mem_of_getElem? (i := 1005) rfl)) rfl), (lwg_of (List.mem_append_right _ (List.mem_of_getElem? (i := 11) rfl)) rfl), (lwg_of (List.mem_append_right _ (List.mem_of_getElem? (i := 1006) rfl)) rfl), ⟨by decide, by decide, by decide⟩⟩
set_option maxRecDepth 20000 in
theorem smJ6_bitCount_0f7a4 : SM mJ6_bitCount_0f7a4 1 := ⟨(lwg_of (List.mem_append_right _ (List.mem_of_getElem? (i := 466) rfl)) rfl), (lwg_of (List.mem_append_right _ (List.mem_of_getElem? (i := 13) rfl)) rfl), (lwg_of (List.mem_append_right _ (List.mem_of_getElem? (i := 467) rfl)) rfl), ⟨by decide, by decide, by decide⟩⟩
set_option maxRecDepth 20000 in
theorem smJ9_max_7cf53 : SM mJ9_max_7cf53 2 := ⟨(lwg_of (List.mem_append_right _ (List.mem_of_getElem? (i := 405) rfl)) rfl), (lwg_of (List.mem_append_right _ (List.mem_of_getElem? (i := 12) rfl)) rfl), (lwg_of (List.mem_append_right _ (List.mem_of_getElem? (i := 406) rfl)) rfl), ⟨by decide, by decide, by decide⟩⟩
set_option maxRecDepth 20000 in
theorem smJ9_min_7cf53 : SM mJ9_min_7cf53 2 := ⟨(lwg_of (List.mem_append_right _ (List.mem_of_getElem? (i := 555) rfl)) rfl), (lwg_of (List.mem_append_right _ (List.mem_of_getElem? (i := 12) rfl)) rfl), (lwg_of (List.mem_append_right _ (List.mem_of_getElem? (i := 556) rfl)) rfl), ⟨by decide, by decide, by decide⟩⟩
set_option maxRecDepth 20000 in
theorem lX9_83 : VL RX9 83 mX7_append 1 := ⟨(lwg_of (List.mem_append_right _ (List.mem_of_getElem? (i := 276) rfl)) rfl), vmX7_append⟩
set_option maxRecDepth 20000 in
theorem lX9_87 : VL RX9 87 mX7_readInto 1 := ⟨(lwg_of (List.mem_append_right _ (List.mem_of_getElem? (i := 284) rfl)) rfl), vmX7_readInto⟩
set_option maxRecDepth 20000 in
theorem lX9_92 : VL RX9 92 mX7_empty 0 := ⟨(lwg_of (List.mem_append_right _ (List.mem_of_getElem? (i := 348) rfl)) rfl), vmX7_empty⟩
set_option maxRecDepth 20000 in
theorem lX9_95 : VL RX9 95 mX6_reset 0 := ⟨(lwg_of (List.mem_append_right _ (List.mem_of_getElem? (i := 352) rfl)) rfl), vmX6_reset⟩
set_option maxRecDepth 20000 in
theorem lX9_98 : VL RX9 98 mX1_forget 0 := ⟨(lwg_of (List.mem_append_right _ (List.mem_of_getElem? (i := 360) rfl)) rfl), vmX1_forget⟩
set_option maxRecDepth 20000 in
theorem lX9_105 : VL RX9 105 mX5_forget 0 := ⟨(lwg_of (List.mem_append_right _ (List.mem_of_getElem? (i := 364) rfl)) rfl), vmX5_forget⟩
set_option maxRecDepth 20000 in
theorem lX9_106 : VL RX9 106 mX0_forget 0 := ⟨(lwg_of (List.mem_append_right _ (List.mem_of_getElem? (i := 368) rfl)) rfl), vmX0_forget⟩
set_option maxRecDepth 20000 in
theorem lX9_125 : VL RX9 125 mX6_darkness 0 := ⟨(lwg_of (List.mem_append_right _ (List.mem_of_getElem? (i := 380) rfl)) rfl), vmX6_darkness⟩
set_option maxRecDepth 20000 in
theorem lX9_129 : VL RX9 129 mX9_scenesOfAll 0 := ⟨(lwg_of (List.mem_append_right _ (List.mem_of_getElem? (i := 384) rfl)) rfl), vmX9_scenesOfAll⟩
set_option maxRecDepth 20000 in
theorem lX9_132 : VL RX9 132 mX6_lowestOfWearers 0 := ⟨(lwg_of (List.mem_append_right _ (List.mem_of_getElem? (i := 392) rfl)) rfl), vmX6_lowestOfWearers⟩
set_option maxRecDepth 20000 in
theorem lX9_135 : VL RX9 135 mX6_strongestBut 1 := ⟨(lwg_of (List.mem_append_right _ (List.mem_of_getElem? (i := 396) rfl)) rfl), vmX6_strongestBut⟩
set_option maxRecDepth 20000 in
theorem lX9_139 : VL RX9 139 mX6_thickest 0 := ⟨(lwg_of (List.mem_append_right _ (List.mem_of_getElem? (i := 400) rfl)) rfl), vmX6_thickest⟩
set_option maxRecDepth 20000 in
theorem lX9_154 : VL RX9 154 mX3_hasScene 1 := ⟨(lwg_of (List.mem_append_right _ (List.mem_of_getElem? (i := 411) rfl)) rfl), vmX3_hasScene⟩
set_option maxRecDepth 20000 in
theorem lX9_159 : VL RX9 159 mX3_kindOf 1 := ⟨(lwg_of (List.mem_append_right _ (List.mem_of_getElem? (i := 416) rfl)) rfl), vmX3_kindOf⟩
set_option maxRecDepth 20000 in
theorem lX9_162 : VL RX9 162 mX3_brightOf 1 := ⟨(lwg_of (List.mem_append_right _ (List.mem_of_getElem? (i := 421) rfl)) rfl), vmX3_brightOf⟩
set_option maxRecDepth 20000 in
theorem lX9_165 : VL RX9 165 mX3_veil 2 := ⟨(lwg_of (List.mem_append_right _ (List.mem_of_getElem? (i := 425) rfl)) rfl), vmX3_veil⟩
set_option maxRecDepth 20000 in
theorem lX9_169 : VL RX9 169 mX9_scenesTakenFor 1 := ⟨(lwg_of (List.mem_append_right _ (List.mem_of_getElem? (i := 430) rfl)) rfl), vmX9_scenesTakenFor⟩
set_option maxRecDepth 20000 in
theorem lX9_172 : VL RX9 172 mX3_hasWearer 1 := ⟨(lwg_of (List.mem_append_right _ (List.mem_of_getElem? (i := 452) rfl)) rfl), vmX3_hasWearer⟩
set_option maxRecDepth 20000 in
theorem lX9_175 : VL RX9 175 mX3_looksOf 1 := ⟨(lwg_of (List.mem_append_right _ (List.mem_of_getElem? (i := 453) rfl)) rfl), vmX3_looksOf⟩
set_option maxRecDepth 20000 in
theorem lX9_178 : VL RX9 178 mX6_yearsOf 1 := ⟨(lwg_of (List.mem_append_right _ (List.mem_of_getElem? (i := 457) rfl)) rfl), vmX6_yearsOf⟩
set_option maxRecDepth 20000 in
theorem lX9_181 : VL RX9 181 mX6_scenesOf 1 := ⟨(lwg_of (List.mem_append_right _ (List.mem_of_getElem? (i := 388) rfl)) rfl), vmX6_scenesOf⟩
set_option maxRecDepth 20000 in
theorem lX9_184 : VL RX9 184 mX9_kinOf 1 := ⟨(lwg_of (List.mem_append_right _ (List.mem_of_getElem? (i := 461) rfl)) rfl), vmX9_kinOf⟩
set_option maxRecDepth 20000 in
theorem lX9_187 : VL RX9 187 mX3_sceneInYear 2 := ⟨(lwg_of (List.mem_append_right _ (List.mem_of_getElem? (i := 471) rfl)) rfl), vmX3_sceneInYear⟩
set_option maxRecDepth 20000 in
theorem lX9_190 : VL RX9 190 mX9_takenNow 1 := ⟨(lwg_of (List.mem_append_right _ (List.mem_of_getElem? (i := 434) rfl)) rfl), vmX9_takenNow⟩
set_option maxRecDepth 20000 in
theorem lX9_193 : VL RX9 193 mX6_hasLayer 1 := ⟨(lwg_of (List.mem_append_right _ (List.mem_of_getElem? (i := 480) rfl)) rfl), vmX6_hasLayer⟩
set_option maxRecDepth 20000 in
theorem lX9_206 : VL RX9 206 mX4_at 2 := ⟨(lwg_of (List.mem_append_right _ (List.mem_of_getElem? (i := 485) rfl)) rfl), vmX4_at⟩
set_option maxRecDepth 20000 in
theorem lX9_209 : VL RX9 209 mX9_refusalOfYears 1 := ⟨(lwg_of (List.mem_append_right _ (List.mem_of_getElem? (i := 493) rfl)) rfl), vmX9_refusalOfYears⟩
set_option maxRecDepth 20000 in
theorem lX9_212 : VL RX9 212 mX1_remember 1 := ⟨(lwg_of (List.mem_append_right _ (List.mem_of_getElem? (i := 499) rfl)) rfl), vmX1_remember⟩
set_option maxRecDepth 20000 in
theorem lX9_216 : VL RX9 216 mX6_passYear 1 := ⟨(lwg_of (List.mem_append_right _ (List.mem_of_getElem? (i := 519) rfl)) rfl), vmX6_passYear⟩
set_option maxRecDepth 20000 in
theorem lX9_221 : VL RX9 221 mX6_remove 1 := ⟨(lwg_of (List.mem_append_right _ (List.mem_of_getElem? (i := 578) rfl)) rfl), vmX6_remove⟩
set_option maxRecDepth 20000 in
theorem lX9_224 : VL RX9 224 mX6_lay 3 := ⟨(lwg_of (List.mem_append_right _ (List.mem_of_getElem? (i := 583) rfl)) rfl), vmX6_lay⟩
set_option maxRecDepth 20000 in
theorem lX9_228 : VL RX9 228 mX9_doByDraw 0 := ⟨(lwg_of (List.mem_append_right _ (List.mem_of_getElem? (i := 588) rfl)) rfl), vmX9_doByDraw⟩
set_option maxRecDepth 20000 in
theorem lX9_231 : VL RX9 231 mX1_restore 2 := ⟨(lwg_of (List.mem_append_right _ (List.mem_of_getElem? (i := 604) rfl)) rfl), vmX1_restore⟩
set_option maxRecDepth 20000 in
theorem lX9_235 : VL RX9 235 mX9_tryYears 1 := ⟨(lwg_of (List.mem_append_right _ (List.mem_of_getElem? (i := 616) rfl)) rfl), vmX9_tryYears⟩
set_option maxRecDepth 20000 in
theorem lX9_238 : VL RX9 238 mX6_copyGlass 1 := ⟨(lwg_of (List.mem_append_right _ (List.mem_of_getElem? (i := 620) rfl)) rfl), vmX6_copyGlass⟩
set_option maxRecDepth 20000 in
theorem lX9_241 : VL RX9 241 mX6_strengthOfScene 1 := ⟨(lwg_of (List.mem_append_right _ (List.mem_of_getElem? (i := 629) rfl)) rfl), vmX6_strengthOfScene⟩
set_option maxRecDepth 20000 in
theorem lX9_248 : VL RX9 248 mX9_areSeenWithout 2 := ⟨(lwg_of (List.mem_append_right _ (List.mem_of_getElem? (i := 640) rfl)) rfl), vmX9_areSeenWithout⟩
set_option maxRecDepth 20000 in
theorem lX9_256 : VL RX9 256 mX6_layersBefore 1 := ⟨(lwg_of (List.mem_append_right _ (List.mem_of_getElem? (i := 648) rfl)) rfl), vmX6_layersBefore⟩
set_option maxRecDepth 20000 in
theorem lX9_259 : VL RX9 259 mX8_begin 1 := ⟨(lwg_of (List.mem_append_right _ (List.mem_of_getElem? (i := 656) rfl)) rfl), vmX8_begin⟩
set_option maxRecDepth 20000 in
theorem lX9_262 : VL RX9 262 mX9_darkBehindTurns 0 := ⟨(lwg_of (List.mem_append_right _ (List.mem_of_getElem? (i := 660) rfl)) rfl), vmX9_darkBehindTurns⟩
set_option maxRecDepth 20000 in
theorem lX9_265 : VL RX9 265 mX8_figures 0 := ⟨(lwg_of (List.mem_append_right _ (List.mem_of_getElem? (i := 664) rfl)) rfl), vmX8_figures⟩
set_option maxRecDepth 20000 in
theorem lX9_268 : VL RX9 268 mX8_advance 0 := ⟨(lwg_of (List.mem_append_right _ (List.mem_of_getElem? (i := 668) rfl)) rfl), vmX8_advance⟩
set_option maxRecDepth 20000 in
theorem lX9_272 : VL RX9 272 mX6_takenFor 4 := ⟨(lwg_of (List.mem_append_right _ (List.mem_of_getElem? (i := 438) rfl)) rfl), vmX6_takenFor⟩
set_option maxRecDepth 20000 in
theorem lX9_280 : VL RX9 280 mX5_add 2 := ⟨(lwg_of (List.mem_append_right _ (List.mem_of_getElem? (i := 694) rfl)) rfl), vmX5_add⟩
set_option maxRecDepth 20000 in
theorem lX9_284 : VL RX9 284 mX5_fits 1 := ⟨(lwg_of (List.mem_append_right _ (List.mem_of_getElem? (i := 702) rfl)) rfl), vmX5_fits⟩
set_option maxRecDepth 20000 in
theorem lX9_287 : VL RX9 287 mX9_couldBe 0 := ⟨(lwg_of (List.mem_append_right _ (List.mem_of_getElem? (i := 710) rfl)) rfl), vmX9_couldBe⟩
set_option maxRecDepth 20000 in
theorem lX9_295 : VL RX9 295 mX0_add 2 := ⟨(lwg_of (List.mem_append_right _ (List.mem_of_getElem? (i := 716) rfl)) rfl), vmX0_add⟩
set_option maxRecDepth 20000 in
theorem lX9_304 : VL RX9 304 mX6_copyAll 1 := ⟨(lwg_of (List.mem_append_right _ (List.mem_of_getElem? (i := 736) rfl)) rfl), vmX6_copyAll⟩
set_option maxRecDepth 20000 in
theorem lX9_320 : VL RX9 320 mX9_drawOf 1 := ⟨(lwg_of (List.mem_append_right _ (List.mem_of_getElem? (i := 592) rfl)) rfl), vmX9_drawOf⟩
set_option maxRecDepth 20000 in
theorem lX1_25 : VL RX1 25 mX6_copyAll 1 := ⟨(lwg_of (List.mem_append_right _ (List.mem_of_getElem? (i := 503) rfl)) rfl), vmX6_copyAll⟩
set_option maxRecDepth 20000 in
theorem lX3_36 : VL RX3 36 mX3_hasWearer 1 := ⟨(lwg_of (List.mem_append_right _ (List.mem_of_getElem? (i := 344) rfl)) rfl), vmX3_hasWearer⟩
set_option maxRecDepth 20000 in
theorem lX3_40 : VL RX3 40 mX3_hasScene 1 := ⟨(lwg_of (List.mem_append_right _ (List.mem_of_getElem? (i := 420) rfl)) rfl), vmX3_hasScene⟩
set_option maxRecDepth 20000 in
theorem lX3_43 : VL RX3 43 mX3_looksOf 1 := ⟨(lwg_of (List.mem_append_right _ (List.mem_of_getElem? (i := 475) rfl)) rfl), vmX3_looksOf⟩
set_option maxRecDepth 20000 in
theorem lX3_47 : VL RX3 47 mX3_brightOf 1 := ⟨(lwg_of (List.mem_append_right _ (List.mem_of_getElem? (i := 429) rfl)) rfl), vmX3_brightOf⟩
set_option maxRecDepth 20000 in
theorem lX6_41 : VL RX6 41 mX4_forget 0 := ⟨(lwg_of (List.mem_append_right _ (List.mem_of_getElem? (i := 356) rfl)) rfl), vmX4_forget⟩
set_option maxRecDepth 20000 in
theorem lX6_44 : VL RX6 44 mX6_copyGlass 1 := ⟨(lwg_of (List.mem_append_right _ (List.mem_of_getElem? (i := 507) rfl)) rfl), vmX6_copyGlass⟩
set_option maxRecDepth 20000 in
theorem lX6_48 : VL RX6 48 mX4_copyAll 1 := ⟨(lwg_of (List.mem_append_right _ (List.mem_of_getElem? (i := 514) rfl)) rfl), vmX4_copyAll⟩
set_option maxRecDepth 20000 in
theorem lX6_58 : VL RX6 58 mX3_hasWearer 1 := ⟨(lwg_of (List.mem_append_right _ (List.mem_of_getElem? (i := 523) rfl)) rfl), vmX3_hasWearer⟩
set_option maxRecDepth 20000 in
theorem lX6_64 : VL RX6 64 mX3_sceneInYear 2 := ⟨(lwg_of (List.mem_append_right _ (List.mem_of_getElem? (i := 524) rfl)) rfl), vmX3_sceneInYear⟩
set_option maxRecDepth 20000 in
theorem lX6_68 : VL RX6 68 mX6_takenFor 4 := ⟨(lwg_of (List.mem_append_right _ (List.mem_of_getElem? (i := 525) rfl)) rfl), vmX6_takenFor⟩
set_option maxRecDepth 20000 in
theorem lX6_72 : VL RX6 72 mX4_add 4 := ⟨(lwg_of (List.mem_append_right _ (List.mem_of_getElem? (i := 526) rfl)) rfl), vmX4_add⟩
set_option maxRecDepth 20000 in
theorem lX6_76 : VL RX6 76 mX3_gain 1 := ⟨(lwg_of (List.mem_append_right _ (List.mem_of_getElem? (i := 530) rfl)) rfl), vmX3_gain⟩
set_option maxRecDepth 20000 in
theorem lX6_80 : VL RX6 80 mX6_deepen 2 := ⟨(lwg_of (List.mem_append_right _ (List.mem_of_getElem? (i := 534) rfl)) rfl), vmX6_deepen⟩
set_option maxRecDepth 20000 in
theorem lX6_83 : VL RX6 83 mX6_fadeBut 2 := ⟨(lwg_of (List.mem_append_right _ (List.mem_of_getElem? (i := 557) rfl)) rfl), vmX6_fadeBut⟩
set_option maxRecDepth 20000 in
theorem lX6_87 : VL RX6 87 mX6_find 2 := ⟨(lwg_of (List.mem_append_right _ (List.mem_of_getElem? (i := 538) rfl)) rfl), vmX6_find⟩
set_option maxRecDepth 20000 in
theorem lX6_90 : VL RX6 90 mX6_hasLayer 1 := ⟨(lwg_of (List.mem_append_right _ (List.mem_of_getElem? (i := 443) rfl)) rfl), vmX6_hasLayer⟩
set_option maxRecDepth 20000 in
theorem lX6_93 : VL RX6 93 mX6_lay 3 := ⟨(lwg_of (List.mem_append_right _ (List.mem_of_getElem? (i := 542) rfl)) rfl), vmX6_lay⟩
set_option maxRecDepth 20000 in
theorem lX6_102 : VL RX6 102 mX6_weakest 0 := ⟨(lwg_of (List.mem_append_right _ (List.mem_of_getElem? (i := 546) rfl)) rfl), vmX6_weakest⟩
set_option maxRecDepth 20000 in
theorem lX6_106 : VL RX6 106 mX6_remove 1 := ⟨(lwg_of (List.mem_append_right _ (List.mem_of_getElem? (i := 550) rfl)) rfl), vmX6_remove⟩
set_option maxRecDepth 20000 in
theorem lX6_110 : VL RX6 110 mX3_kindOf 1 := ⟨(lwg_of (List.mem_append_right _ (List.mem_of_getElem? (i := 561) rfl)) rfl), vmX3_kindOf⟩
set_option maxRecDepth 20000 in
theorem lX6_113 : VL RX6 113 mX6_fading 2 := ⟨(lwg_of (List.mem_append_right _ (List.mem_of_getElem? (i := 562) rfl)) rfl), vmX6_fading⟩
set_option maxRecDepth 20000 in
theorem lX6_116 : VL RX6 116 mX6_strongestBut 1 := ⟨(lwg_of (List.mem_append_right _ (List.mem_of_getElem? (i := 442) rfl)) rfl), vmX6_strongestBut⟩
set_option maxRecDepth 20000 in
theorem lX6_119 : VL RX6 119 mX3_veil 2 := ⟨(lwg_of (List.mem_append_right _ (List.mem_of_getElem? (i := 447) rfl)) rfl), vmX3_veil⟩
set_option maxRecDepth 20000 in
theorem lX7_28 : VL RX7 28 mX3_forget 0 := ⟨(lwg_of (List.mem_append_right _ (List.mem_of_getElem? (i := 288) rfl)) rfl), vmX3_forget⟩
set_option maxRecDepth 20000 in
theorem lX7_33 : VL RX7 33 mX7_skipBlanks 0 := ⟨(lwg_of (List.mem_append_right _ (List.mem_of_getElem? (i := 292) rfl)) rfl), vmX7_skipBlanks⟩
set_option maxRecDepth 20000 in
theorem lX7_36 : VL RX7 36 mX7_readClause 1 := ⟨(lwg_of (List.mem_append_right _ (List.mem_of_getElem? (i := 296) rfl)) rfl), vmX7_readClause⟩
set_option maxRecDepth 20000 in
theorem lX7_40 : VL RX7 40 mX7_letterHere 0 := ⟨(lwg_of (List.mem_append_right _ (List.mem_of_getElem? (i := 300) rfl)) rfl), vmX7_letterHere⟩
set_option maxRecDepth 20000 in
theorem lX7_47 : VL RX7 47 mX7_accept 2 := ⟨(lwg_of (List.mem_append_right _ (List.mem_of_getElem? (i := 304) rfl)) rfl), vmX7_accept⟩
set_option maxRecDepth 20000 in
theorem lX7_51 : VL RX7 51 mX7_readClear 1 := ⟨(lwg_of (List.mem_append_right _ (List.mem_of_getElem? (i := 312) rfl)) rfl), vmX7_readClear⟩
set_option maxRecDepth 20000 in
theorem lX7_57 : VL RX7 57 mX7_readScene 1 := ⟨(lwg_of (List.mem_append_right _ (List.mem_of_getElem? (i := 324) rfl)) rfl), vmX7_readScene⟩
set_option maxRecDepth 20000 in
theorem lX7_63 : VL RX7 63 mX7_readWearer 1 := ⟨(lwg_of (List.mem_append_right _ (List.mem_of_getElem? (i := 332) rfl)) rfl), vmX7_readWearer⟩
set_option maxRecDepth 20000 in
theorem lX7_66 : VL RX7 66 mX7_blame 2 := ⟨(lwg_of (List.mem_append_right _ (List.mem_of_getElem? (i := 308) rfl)) rfl), vmX7_blame⟩
set_option maxRecDepth 20000 in
theorem lX7_70 : VL RX7 70 mX7_readNumber 2 := ⟨(lwg_of (List.mem_append_right _ (List.mem_of_getElem? (i := 316) rfl)) rfl), vmX7_readNumber⟩
set_option maxRecDepth 20000 in
theorem lX7_74 : VL RX7 74 mX3_addScene 2 := ⟨(lwg_of (List.mem_append_right _ (List.mem_of_getElem? (i := 328) rfl)) rfl), vmX3_addScene⟩
set_option maxRecDepth 20000 in
theorem lX7_77 : VL RX7 77 mX3_addWearer 0 := ⟨(lwg_of (List.mem_append_right _ (List.mem_of_getElem? (i := 336) rfl)) rfl), vmX3_addWearer⟩
set_option maxRecDepth 20000 in
theorem lX7_80 : VL RX7 80 mX3_addLook 1 := ⟨(lwg_of (List.mem_append_right _ (List.mem_of_getElem? (i := 340) rfl)) rfl), vmX3_addLook⟩
set_option maxRecDepth 20000 in
theorem lX7_84 : VL RX7 84 mX7_isFigure 1 := ⟨(lwg_of (List.mem_append_right _ (List.mem_of_getElem? (i := 320) rfl)) rfl), vmX7_isFigure⟩
set_option maxRecDepth 20000 in
theorem lX8_19 : VL RX8 19 mX8_lastRise 0 := ⟨(lwg_of (List.mem_append_right _ (List.mem_of_getElem? (i := 672) rfl)) rfl), vmX8_lastRise⟩
set_option maxRecDepth 20000 in
theorem lX8_23 : VL RX8 23 mX8_swap 2 := ⟨(lwg_of (List.mem_append_right _ (List.mem_of_getElem? (i := 676) rfl)) rfl), vmX8_swap⟩
set_option maxRecDepth 20000 in
theorem lL_13 : VL RL 13 mX9_feed 1 := ⟨(lwg_of (List.mem_append_right _ (List.mem_of_getElem? (i := 270) rfl)) rfl), vmX9_feed⟩
set_option maxRecDepth 20000 in
theorem lL_17 : VL RL 17 mX10_feed 1 := ⟨(lwg_of (List.mem_append_right _ (List.mem_of_getElem? (i := 817) rfl)) rfl), vmX10_feed⟩
set_option maxRecDepth 20000 in
theorem lL_18 : VL RL 18 mX9_line 0 := ⟨(lwg_of (List.mem_append_right _ (List.mem_of_getElem? (i := 280) rfl)) rfl), vmX9_line⟩
set_option maxRecDepth 20000 in
theorem lL_22 : VL RL 22 mX10_line 0 := ⟨(lwg_of (List.mem_append_right _ (List.mem_of_getElem? (i := 827) rfl)) rfl), vmX10_line⟩
set_option maxRecDepth 20000 in
theorem lL_23 : VL RL 23 mX9_fault 0 := ⟨(lwg_of (List.mem_append_right _ (List.mem_of_getElem? (i := 372) rfl)) rfl), vmX9_fault⟩
set_option maxRecDepth 20000 in
theorem lL_26 : VL RL 26 mX10_fault 0 := ⟨(lwg_of (List.mem_append_right _ (List.mem_of_getElem? (i := 872) rfl)) rfl), vmX10_fault⟩
set_option maxRecDepth 20000 in
theorem lL_27 : VL RL 27 mX9_told 1 := ⟨(lwg_of (List.mem_append_right _ (List.mem_of_getElem? (i := 376) rfl)) rfl), vmX9_told⟩
set_option maxRecDepth 20000 in
theorem lL_30 : VL RL 30 mX10_told 1 := ⟨(lwg_of (List.mem_append_right _ (List.mem_of_getElem? (i := 876) rfl)) rfl), vmX10_told⟩
set_option maxRecDepth 20000 in
theorem lL_31 : VL RL 31 mX9_scene 2 := ⟨(lwg_of (List.mem_append_right _ (List.mem_of_getElem? (i := 407) rfl)) rfl), vmX9_scene⟩
set_option maxRecDepth 20000 in
theorem lL_35 : VL RL 35 mX10_scene 2 := ⟨(lwg_of (List.mem_append_right _ (List.mem_of_getElem? (i := 911) rfl)) rfl), vmX10_scene⟩
set_option maxRecDepth 20000 in
theorem lL_36 : VL RL 36 mX9_wearer 2 := ⟨(lwg_of (List.mem_append_right _ (List.mem_of_getElem? (i := 448) rfl)) rfl), vmX9_wearer⟩
set_option maxRecDepth 20000 in
theorem lL_39 : VL RL 39 mX10_wearer 2 := ⟨(lwg_of (List.mem_append_right _ (List.mem_of_getElem? (i := 939) rfl)) rfl), vmX10_wearer⟩
set_option maxRecDepth 20000 in
theorem lL_40 : VL RL 40 mX9_layer 2 := ⟨(lwg_of (List.mem_append_right _ (List.mem_of_getElem? (i := 476) rfl)) rfl), vmX9_layer⟩
set_option maxRecDepth 20000 in
theorem lL_43 : VL RL 43 mX10_layer 2 := ⟨(lwg_of (List.mem_append_right _ (List.mem_of_getElem? (i := 958) rfl)) rfl), vmX10_layer⟩
set_option maxRecDepth 20000 in
theorem lL_44 : VL RL 44 mX9_logged 2 := ⟨(lwg_of (List.mem_append_right _ (List.mem_of_getElem? (i := 481) rfl)) rfl), vmX9_logged⟩
set_option maxRecDepth 20000 in
theorem lL_47 : VL RL 47 mX10_logged 2 := ⟨(lwg_of (List.mem_append_right _ (List.mem_of_getElem? (i := 967) rfl)) rfl), vmX10_logged⟩
set_option maxRecDepth 20000 in
theorem lL_48 : VL RL 48 mX9_year 1 := ⟨(lwg_of (List.mem_append_right _ (List.mem_of_getElem? (i := 489) rfl)) rfl), vmX9_year⟩
set_option maxRecDepth 20000 in
theorem lL_51 : VL RL 51 mX10_year 1 := ⟨(lwg_of (List.mem_append_right _ (List.mem_of_getElem? (i := 972) rfl)) rfl), vmX10_year⟩
set_option maxRecDepth 20000 in
theorem lL_52 : VL RL 52 mX9_wear 1 := ⟨(lwg_of (List.mem_append_right _ (List.mem_of_getElem? (i := 566) rfl)) rfl), vmX9_wear⟩
set_option maxRecDepth 20000 in
theorem lL_55 : VL RL 55 mX10_wear 1 := ⟨(lwg_of (List.mem_append_right _ (List.mem_of_getElem? (i := 1011) rfl)) rfl), vmX10_wear⟩
set_option maxRecDepth 20000 in
theorem lL_56 : VL RL 56 mX9_takeOff 0 := ⟨(lwg_of (List.mem_append_right _ (List.mem_of_getElem? (i := 570) rfl)) rfl), vmX9_takeOff⟩
set_option maxRecDepth 20000 in
theorem lL_59 : VL RL 59 mX10_takeOff 0 := ⟨(lwg_of (List.mem_append_right _ (List.mem_of_getElem? (i := 1015) rfl)) rfl), vmX10_takeOff⟩
set_option maxRecDepth 20000 in
theorem lL_60 : VL RL 60 mX9_wipe 1 := ⟨(lwg_of (List.mem_append_right _ (List.mem_of_getElem? (i := 574) rfl)) rfl), vmX9_wipe⟩
set_option maxRecDepth 20000 in
theorem lL_63 : VL RL 63 mX10_wipe 1 := ⟨(lwg_of (List.mem_append_right _ (List.mem_of_getElem? (i := 1019) rfl)) rfl), vmX10_wipe⟩
set_option maxRecDepth 20000 in
theorem lL_64 : VL RL 64 mX9_chip 2 := ⟨(lwg_of (List.mem_append_right _ (List.mem_of_getElem? (i := 579) rfl)) rfl), vmX9_chip⟩
set_option maxRecDepth 20000 in
theorem lL_67 : VL RL 67 mX10_chip 2 := ⟨(lwg_of (List.mem_append_right _ (List.mem_of_getElem? (i := 1023) rfl)) rfl), vmX10_chip⟩
set_option maxRecDepth 20000 in
theorem lL_68 : VL RL 68 mX9_drift 1 := ⟨(lwg_of (List.mem_append_right _ (List.mem_of_getElem? (i := 584) rfl)) rfl), vmX9_drift⟩
set_option maxRecDepth 20000 in
theorem lL_71 : VL RL 71 mX10_drift 1 := ⟨(lwg_of (List.mem_append_right _ (List.mem_of_getElem? (i := 1028) rfl)) rfl), vmX10_drift⟩
set_option maxRecDepth 20000 in
theorem lL_72 : VL RL 72 mX9_undo 1 := ⟨(lwg_of (List.mem_append_right _ (List.mem_of_getElem? (i := 600) rfl)) rfl), vmX9_undo⟩
set_option maxRecDepth 20000 in
theorem lL_75 : VL RL 75 mX10_undo 1 := ⟨(lwg_of (List.mem_append_right _ (List.mem_of_getElem? (i := 1044) rfl)) rfl), vmX10_undo⟩
set_option maxRecDepth 20000 in
theorem lL_76 : VL RL 76 mX9_takes 1 := ⟨(lwg_of (List.mem_append_right _ (List.mem_of_getElem? (i := 608) rfl)) rfl), vmX9_takes⟩
set_option maxRecDepth 20000 in
theorem lL_79 : VL RL 79 mX10_takes 1 := ⟨(lwg_of (List.mem_append_right _ (List.mem_of_getElem? (i := 1048) rfl)) rfl), vmX10_takes⟩
set_option maxRecDepth 20000 in
theorem lL_80 : VL RL 80 mX9_dark 1 := ⟨(lwg_of (List.mem_append_right _ (List.mem_of_getElem? (i := 612) rfl)) rfl), vmX9_dark⟩
set_option maxRecDepth 20000 in
theorem lL_83 : VL RL 83 mX10_dark 1 := ⟨(lwg_of (List.mem_append_right _ (List.mem_of_getElem? (i := 1052) rfl)) rfl), vmX10_dark⟩
set_option maxRecDepth 20000 in
theorem lL_84 : VL RL 84 mX9_tooDark 1 := ⟨(lwg_of (List.mem_append_right _ (List.mem_of_getElem? (i := 621) rfl)) rfl), vmX9_tooDark⟩
set_option maxRecDepth 20000 in
theorem lL_87 : VL RL 87 mX10_tooDark 1 := ⟨(lwg_of (List.mem_append_right _ (List.mem_of_getElem? (i := 1061) rfl)) rfl), vmX10_tooDark⟩
set_option maxRecDepth 20000 in
theorem lL_88 : VL RL 88 mX9_willShow 2 := ⟨(lwg_of (List.mem_append_right _ (List.mem_of_getElem? (i := 625) rfl)) rfl), vmX9_willShow⟩
set_option maxRecDepth 20000 in
theorem lL_91 : VL RL 91 mX10_willShow 2 := ⟨(lwg_of (List.mem_append_right _ (List.mem_of_getElem? (i := 1065) rfl)) rfl), vmX10_willShow⟩
set_option maxRecDepth 20000 in
theorem lL_92 : VL RL 92 mX9_toWipe 2 := ⟨(lwg_of (List.mem_append_right _ (List.mem_of_getElem? (i := 633) rfl)) rfl), vmX9_toWipe⟩
set_option maxRecDepth 20000 in
theorem lL_95 : VL RL 95 mX10_toWipe 2 := ⟨(lwg_of (List.mem_append_right _ (List.mem_of_getElem? (i := 1069) rfl)) rfl), vmX10_toWipe⟩
set_option maxRecDepth 20000 in
theorem lL_96 : VL RL 96 mX9_only 2 := ⟨(lwg_of (List.mem_append_right _ (List.mem_of_getElem? (i := 644) rfl)) rfl), vmX9_only⟩
set_option maxRecDepth 20000 in
theorem lL_99 : VL RL 99 mX10_only 2 := ⟨(lwg_of (List.mem_append_right _ (List.mem_of_getElem? (i := 1081) rfl)) rfl), vmX10_only⟩
set_option maxRecDepth 20000 in
theorem lL_100 : VL RL 100 mX9_order 2 := ⟨(lwg_of (List.mem_append_right _ (List.mem_of_getElem? (i := 652) rfl)) rfl), vmX9_order⟩
set_option maxRecDepth 20000 in
theorem lL_103 : VL RL 103 mX10_order 2 := ⟨(lwg_of (List.mem_append_right _ (List.mem_of_getElem? (i := 1085) rfl)) rfl), vmX10_order⟩
set_option maxRecDepth 20000 in
theorem lL_104 : VL RL 104 mX9_ground 1 := ⟨(lwg_of (List.mem_append_right _ (List.mem_of_getElem? (i := 680) rfl)) rfl), vmX9_ground⟩
set_option maxRecDepth 20000 in
theorem lL_107 : VL RL 107 mX10_ground 1 := ⟨(lwg_of (List.mem_append_right _ (List.mem_of_getElem? (i := 1095) rfl)) rfl), vmX10_ground⟩
set_option maxRecDepth 20000 in
theorem lL_108 : VL RL 108 mX9_mist 2 := ⟨(lwg_of (List.mem_append_right _ (List.mem_of_getElem? (i := 684) rfl)) rfl), vmX9_mist⟩
set_option maxRecDepth 20000 in
theorem lL_111 : VL RL 111 mX10_mist 2 := ⟨(lwg_of (List.mem_append_right _ (List.mem_of_getElem? (i := 1099) rfl)) rfl), vmX10_mist⟩
set_option maxRecDepth 20000 in
theorem lL_112 : VL RL 112 mX9_meet 2 := ⟨(lwg_of (List.mem_append_right _ (List.mem_of_getElem? (i := 690) rfl)) rfl), vmX9_meet⟩
set_option maxRecDepth 20000 in
theorem lL_116 : VL RL 116 mX10_meet 2 := ⟨(lwg_of (List.mem_append_right _ (List.mem_of_getElem? (i := 1105) rfl)) rfl), vmX10_meet⟩
set_option maxRecDepth 20000 in
theorem lL_117 : VL RL 117 mX9_couldBe 0 := ⟨(lwg_of (List.mem_append_right _ (List.mem_of_getElem? (i := 698) rfl)) rfl), vmX9_couldBe⟩
set_option maxRecDepth 20000 in
theorem lL_120 : VL RL 120 mX10_couldBe 0 := ⟨(lwg_of (List.mem_append_right _ (List.mem_of_getElem? (i := 1109) rfl)) rfl), vmX10_couldBe⟩
set_option maxRecDepth 20000 in
theorem lL_121 : VL RL 121 mX9_ask 0 := ⟨(lwg_of (List.mem_append_right _ (List.mem_of_getElem? (i := 706) rfl)) rfl), vmX9_ask⟩
set_option maxRecDepth 20000 in
theorem lL_124 : VL RL 124 mX10_ask 0 := ⟨(lwg_of (List.mem_append_right _ (List.mem_of_getElem? (i := 1113) rfl)) rfl), vmX10_ask⟩
set_option maxRecDepth 20000 in
theorem lL_125 : VL RL 125 mX9_write 2 := ⟨(lwg_of (List.mem_append_right _ (List.mem_of_getElem? (i := 712) rfl)) rfl), vmX9_write⟩
set_option maxRecDepth 20000 in
theorem lL_128 : VL RL 128 mX10_write 2 := ⟨(lwg_of (List.mem_append_right _ (List.mem_of_getElem? (i := 1118) rfl)) rfl), vmX10_write⟩
set_option maxRecDepth 20000 in
theorem lL_129 : VL RL 129 mX9_judge 0 := ⟨(lwg_of (List.mem_append_right _ (List.mem_of_getElem? (i := 720) rfl)) rfl), vmX9_judge⟩
set_option maxRecDepth 20000 in
theorem lL_132 : VL RL 132 mX10_judge 0 := ⟨(lwg_of (List.mem_append_right _ (List.mem_of_getElem? (i := 1122) rfl)) rfl), vmX10_judge⟩
set_option maxRecDepth 20000 in
theorem lL_133 : VL RL 133 mX9_tear 0 := ⟨(lwg_of (List.mem_append_right _ (List.mem_of_getElem? (i := 724) rfl)) rfl), vmX9_tear⟩
set_option maxRecDepth 20000 in
theorem lL_136 : VL RL 136 mX10_tear 0 := ⟨(lwg_of (List.mem_append_right _ (List.mem_of_getElem? (i := 1126) rfl)) rfl), vmX10_tear⟩
set_option maxRecDepth 20000 in
theorem lL_137 : VL RL 137 mX9_seed 1 := ⟨(lwg_of (List.mem_append_right _ (List.mem_of_getElem? (i := 728) rfl)) rfl), vmX9_seed⟩
set_option maxRecDepth 20000 in
theorem lL_140 : VL RL 140 mX10_seed 1 := ⟨(lwg_of (List.mem_append_right _ (List.mem_of_getElem? (i := 1130) rfl)) rfl), vmX10_seed⟩
set_option maxRecDepth 20000 in
theorem lL_141 : VL RL 141 mX9_keep 1 := ⟨(lwg_of (List.mem_append_right _ (List.mem_of_getElem? (i := 732) rfl)) rfl), vmX9_keep⟩
set_option maxRecDepth 20000 in
theorem lL_144 : VL RL 144 mX10_keep 1 := ⟨(lwg_of (List.mem_append_right _ (List.mem_of_getElem? (i := 1134) rfl)) rfl), vmX10_keep⟩
set_option maxRecDepth 20000 in
theorem lL_145 : VL RL 145 mX9_goBack 1 := ⟨(lwg_of (List.mem_append_right _ (List.mem_of_getElem? (i := 737) rfl)) rfl), vmX9_goBack⟩
set_option maxRecDepth 20000 in
theorem lL_148 : VL RL 148 mX10_goBack 1 := ⟨(lwg_of (List.mem_append_right _ (List.mem_of_getElem? (i := 1138) rfl)) rfl), vmX10_goBack⟩
set_option maxRecDepth 20000 in
theorem lX10_71 : VL RX10 71 mX10_here 0 := ⟨(lwg_of (List.mem_append_right _ (List.mem_of_getElem? (i := 835) rfl)) rfl), vmX10_here⟩
set_option maxRecDepth 20000 in
theorem lX10_94 : VL RX10 94 mX10_step 0 := ⟨(lwg_of (List.mem_append_right _ (List.mem_of_getElem? (i := 831) rfl)) rfl), vmX10_step⟩
set_option maxRecDepth 20000 in
theorem lX10_97 : VL RX10 97 mX10_fails 1 := ⟨(lwg_of (List.mem_append_right _ (List.mem_of_getElem? (i := 845) rfl)) rfl), vmX10_fails⟩
set_option maxRecDepth 20000 in
theorem lX10_101 : VL RX10 101 mX10_number 3 := ⟨(lwg_of (List.mem_append_right _ (List.mem_of_getElem? (i := 849) rfl)) rfl), vmX10_number⟩
set_option maxRecDepth 20000 in
theorem lX10_105 : VL RX10 105 mX10_ends 0 := ⟨(lwg_of (List.mem_append_right _ (List.mem_of_getElem? (i := 853) rfl)) rfl), vmX10_ends⟩
set_option maxRecDepth 20000 in
theorem lX10_109 : VL RX10 109 mX10_readsScene 0 := ⟨(lwg_of (List.mem_append_right _ (List.mem_of_getElem? (i := 857) rfl)) rfl), vmX10_readsScene⟩
set_option maxRecDepth 20000 in
theorem lX10_112 : VL RX10 112 mX10_readsWearer 0 := ⟨(lwg_of (List.mem_append_right _ (List.mem_of_getElem? (i := 861) rfl)) rfl), vmX10_readsWearer⟩
set_option maxRecDepth 20000 in
theorem lX10_115 : VL RX10 115 mX10_readsClause 0 := ⟨(lwg_of (List.mem_append_right _ (List.mem_of_getElem? (i := 841) rfl)) rfl), vmX10_readsClause⟩
set_option maxRecDepth 20000 in
theorem lX10_122 : VL RX10 122 mX10_begins 0 := ⟨(lwg_of (List.mem_append_right _ (List.mem_of_getElem? (i := 868) rfl)) rfl), vmX10_begins⟩
set_option maxRecDepth 20000 in
theorem lX10_129 : VL RX10 129 mX10_half 2 := ⟨(lwg_of (List.mem_append_right _ (List.mem_of_getElem? (i := 920) rfl)) rfl), vmX10_half⟩
set_option maxRecDepth 20000 in
theorem lX10_133 : VL RX10 133 mX10_takesBy 4 := ⟨(lwg_of (List.mem_append_right _ (List.mem_of_getElem? (i := 932) rfl)) rfl), vmX10_takesBy⟩
set_option maxRecDepth 20000 in
theorem lX10_137 : VL RX10 137 mX10_strengthOn 2 := ⟨(lwg_of (List.mem_append_right _ (List.mem_of_getElem? (i := 884) rfl)) rfl), vmX10_strengthOn⟩
set_option maxRecDepth 20000 in
theorem lX10_145 : VL RX10 145 mX10_nextScene 2 := ⟨(lwg_of (List.mem_append_right _ (List.mem_of_getElem? (i := 954) rfl)) rfl), vmX10_nextScene⟩
set_option maxRecDepth 20000 in
theorem lX10_158 : VL RX10 158 mX10_looks 2 := ⟨(lwg_of (List.mem_append_right _ (List.mem_of_getElem? (i := 991) rfl)) rfl), vmX10_looks⟩
set_option maxRecDepth 20000 in
theorem lX10_161 : VL RX10 161 mX10_fading 3 := ⟨(lwg_of (List.mem_append_right _ (List.mem_of_getElem? (i := 1007) rfl)) rfl), vmX10_fading⟩
set_option maxRecDepth 20000 in
theorem lX10_165 : VL RX10 165 mX10_sawBy 1 := ⟨(lwg_of (List.mem_append_right _ (List.mem_of_getElem? (i := 892) rfl)) rfl), vmX10_sawBy⟩
set_option maxRecDepth 20000 in
theorem lX10_175 : VL RX10 175 mX10_darkOn 1 := ⟨(lwg_of (List.mem_append_right _ (List.mem_of_getElem? (i := 880) rfl)) rfl), vmX10_darkOn⟩
set_option maxRecDepth 20000 in
theorem lX10_179 : VL RX10 179 mX10_seenByAll 0 := ⟨(lwg_of (List.mem_append_right _ (List.mem_of_getElem? (i := 888) rfl)) rfl), vmX10_seenByAll⟩
set_option maxRecDepth 20000 in
theorem lX10_182 : VL RX10 182 mX10_eyes 0 := ⟨(lwg_of (List.mem_append_right _ (List.mem_of_getElem? (i := 896) rfl)) rfl), vmX10_eyes⟩
set_option maxRecDepth 20000 in
theorem lX10_185 : VL RX10 185 mX10_strongest 0 := ⟨(lwg_of (List.mem_append_right _ (List.mem_of_getElem? (i := 900) rfl)) rfl), vmX10_strongest⟩
set_option maxRecDepth 20000 in
theorem lX10_188 : VL RX10 188 mX10_thick 0 := ⟨(lwg_of (List.mem_append_right _ (List.mem_of_getElem? (i := 904) rfl)) rfl), vmX10_thick⟩
set_option maxRecDepth 20000 in
theorem lX10_191 : VL RX10 191 mX10_takesNow 1 := ⟨(lwg_of (List.mem_append_right _ (List.mem_of_getElem? (i := 928) rfl)) rfl), vmX10_takesNow⟩
set_option maxRecDepth 20000 in
theorem lX10_194 : VL RX10 194 mX10_isScene 1 := ⟨(lwg_of (List.mem_append_right _ (List.mem_of_getElem? (i := 915) rfl)) rfl), vmX10_isScene⟩
set_option maxRecDepth 20000 in
theorem lX10_198 : VL RX10 198 mX10_lookFor 1 := ⟨(lwg_of (List.mem_append_right _ (List.mem_of_getElem? (i := 924) rfl)) rfl), vmX10_lookFor⟩
set_option maxRecDepth 20000 in
theorem lX10_201 : VL RX10 201 mX10_isWearer 1 := ⟨(lwg_of (List.mem_append_right _ (List.mem_of_getElem? (i := 943) rfl)) rfl), vmX10_isWearer⟩
set_option maxRecDepth 20000 in
theorem lX10_204 : VL RX10 204 mX10_kin 1 := ⟨(lwg_of (List.mem_append_right _ (List.mem_of_getElem? (i := 947) rfl)) rfl), vmX10_kin⟩
set_option maxRecDepth 20000 in
theorem lX10_207 : VL RX10 207 mX10_isLayer 1 := ⟨(lwg_of (List.mem_append_right _ (List.mem_of_getElem? (i := 962) rfl)) rfl), vmX10_isLayer⟩
set_option maxRecDepth 20000 in
theorem lX10_218 : VL RX10 218 mX10_refuses 1 := ⟨(lwg_of (List.mem_append_right _ (List.mem_of_getElem? (i := 976) rfl)) rfl), vmX10_refuses⟩
set_option maxRecDepth 20000 in
theorem lX10_221 : VL RX10 221 mX10_remember 0 := ⟨(lwg_of (List.mem_append_right _ (List.mem_of_getElem? (i := 983) rfl)) rfl), vmX10_remember⟩
set_option maxRecDepth 20000 in
theorem lX10_224 : VL RX10 224 mX10_yearGoes 1 := ⟨(lwg_of (List.mem_append_right _ (List.mem_of_getElem? (i := 987) rfl)) rfl), vmX10_yearGoes⟩
set_option maxRecDepth 20000 in
theorem lX10_242 : VL RX10 242 mX10_draw 1 := ⟨(lwg_of (List.mem_append_right _ (List.mem_of_getElem? (i := 1036) rfl)) rfl), vmX10_draw⟩
set_option maxRecDepth 20000 in
theorem lX10_245 : VL RX10 245 mX10_draws 0 := ⟨(lwg_of (List.mem_append_right _ (List.mem_of_getElem? (i := 1032) rfl)) rfl), vmX10_draws⟩
set_option maxRecDepth 20000 in
theorem lX10_250 : VL RX10 250 mX10_layAside 0 := ⟨(lwg_of (List.mem_append_right _ (List.mem_of_getElem? (i := 1057) rfl)) rfl), vmX10_layAside⟩
set_option maxRecDepth 20000 in
theorem lX10_253 : VL RX10 253 mX10_loss 1 := ⟨(lwg_of (List.mem_append_right _ (List.mem_of_getElem? (i := 1073) rfl)) rfl), vmX10_loss⟩
set_option maxRecDepth 20000 in
theorem lX10_256 : VL RX10 256 mX10_areThemselves 2 := ⟨(lwg_of (List.mem_append_right _ (List.mem_of_getElem? (i := 1077) rfl)) rfl), vmX10_areThemselves⟩
set_option maxRecDepth 20000 in
theorem lX10_262 : VL RX10 262 mX10_nextOrder 1 := ⟨(lwg_of (List.mem_append_right _ (List.mem_of_getElem? (i := 1091) rfl)) rfl), vmX10_nextOrder⟩
set_option maxRecDepth 20000 in
theorem lX10_269 : VL RX10 269 mX10_couldBe 0 := ⟨(lwg_of (List.mem_append_right _ (List.mem_of_getElem? (i := 1117) rfl)) rfl), vmX10_couldBe⟩
set_option maxRecDepth 20000 in
theorem lX9_244 : SL RX9 244 mX9_isSetOf 2 := ⟨(lwg_of (List.mem_append_right _ (List.mem_of_getElem? (i := 637) rfl)) rfl), smX9_isSetOf⟩
set_option maxRecDepth 20000 in
theorem lX9_251 : SL RX9 251 mJ6_bitCount_0f7a4 1 := ⟨(lwg_of (List.mem_append_right _ (List.mem_of_getElem? (i := 465) rfl)) rfl), smJ6_bitCount_0f7a4⟩
set_option maxRecDepth 20000 in
theorem lX9_290 : SL RX9 290 mJ9_max_7cf53 2 := ⟨(lwg_of (List.mem_append_right _ (List.mem_of_getElem? (i := 711) rfl)) rfl), smJ9_max_7cf53⟩
set_option maxRecDepth 20000 in
theorem lX6_97 : SL RX6 97 mJ9_min_7cf53 2 := ⟨(lwg_of (List.mem_append_right _ (List.mem_of_getElem? (i := 554) rfl)) rfl), smJ9_min_7cf53⟩
set_option maxRecDepth 20000 in
theorem lX6_122 : SL RX6 122 mJ9_max_7cf53 2 := ⟨(lwg_of (List.mem_append_right _ (List.mem_of_getElem? (i := 404) rfl)) rfl), smJ9_max_7cf53⟩
set_option maxRecDepth 20000 in
theorem lX10_59 : SL RX10 59 mX10_in 3 := ⟨(lwg_of (List.mem_append_right _ (List.mem_of_getElem? (i := 822) rfl)) rfl), smX10_in⟩
set_option maxRecDepth 20000 in
theorem lX10_118 : SL RX10 118 mX10_copies 5 := ⟨(lwg_of (List.mem_append_right _ (List.mem_of_getElem? (i := 865) rfl)) rfl), smX10_copies⟩
set_option maxRecDepth 20000 in
theorem lX10_125 : SL RX10 125 mX10_has 2 := ⟨(lwg_of (List.mem_append_right _ (List.mem_of_getElem? (i := 936) rfl)) rfl), smX10_has⟩
set_option maxRecDepth 20000 in
theorem lX10_141 : SL RX10 141 mX10_removes 2 := ⟨(lwg_of (List.mem_append_right _ (List.mem_of_getElem? (i := 1004) rfl)) rfl), smX10_removes⟩
set_option maxRecDepth 20000 in
theorem lX10_148 : SL RX10 148 mX10_logs 4 := ⟨(lwg_of (List.mem_append_right _ (List.mem_of_getElem? (i := 995) rfl)) rfl), smX10_logs⟩
set_option maxRecDepth 20000 in
theorem lX10_152 : SL RX10 152 mX10_lesser 2 := ⟨(lwg_of (List.mem_append_right _ (List.mem_of_getElem? (i := 998) rfl)) rfl), smX10_lesser⟩
set_option maxRecDepth 20000 in
theorem lX10_155 : SL RX10 155 mX10_lays 4 := ⟨(lwg_of (List.mem_append_right _ (List.mem_of_getElem? (i := 1001) rfl)) rfl), smX10_lays⟩
set_option maxRecDepth 20000 in
theorem lX10_169 : SL RX10 169 mX10_bits 1 := ⟨(lwg_of (List.mem_append_right _ (List.mem_of_getElem? (i := 951) rfl)) rfl), smX10_bits⟩
set_option maxRecDepth 20000 in
theorem lX10_172 : SL RX10 172 mX10_greater 2 := ⟨(lwg_of (List.mem_append_right _ (List.mem_of_getElem? (i := 908) rfl)) rfl), smX10_greater⟩
set_option maxRecDepth 20000 in
theorem lX4_22 : Jvm.Cond.methodLink RX4 22 arraycopyName ∈ lwg := (lwg_of (List.mem_append_right _ (List.mem_of_getElem? (i := 518) rfl)) rfl)
set_option maxRecDepth 20000 in
theorem lX6_52 : Jvm.Cond.methodLink RX6 52 arraycopyName ∈ lwg := (lwg_of (List.mem_append_right _ (List.mem_of_getElem? (i := 511) rfl)) rfl)
set_option maxRecDepth 20000 in
theorem w_copy : Jvm.Cond.native arraycopyName ∈ lwg ∧ Jvm.Cond.static arraycopyName ∈ lwg ∧ Jvm.Cond.initialized "java/lang/System" ∈ lwg := ⟨(lwg_of (List.mem_append_right _ (List.mem_of_getElem? (i := 513) rfl)) rfl), (lwg_of (List.mem_append_right _ (List.mem_of_getElem? (i := 512) rfl)) rfl), (lwg_of (List.mem_append_right _ (List.mem_of_getElem? (i := 14) rfl)) rfl)⟩
end
section
theorem aupN {M M' : AM} {k o : Nat} {c x : AE} (e : M' = aup M k c) (h : M o = some x) (hn : o ≠ k) : M' o = some x := by
  rw [e]; unfold aup; rw [if_neg hn]; exact h
theorem aupE {M M' : AM} {k : Nat} {c : AE} (e : M' = aup M k c) : M' k = some c := by
  rw [e]; unfold aup; rw [if_pos rfl]
/-- outside of it the memory is the same -/
def Fr (F : Nat → Prop) (M M' : AM) : Prop := ∀ q, F q → M' q = M q
theorem Fr.rf {F : Nat → Prop} {M : AM} : Fr F M M := fun _ _ => rfl
theorem Fr.tr {F : Nat → Prop} {M M' M'' : AM} (h : Fr F M M') (h2 : Fr F M' M'') : Fr F M M'' := fun q hq => (h2 q hq).trans (h q hq)
theorem Fr.up {F : Nat → Prop} {M M' M'' : AM} {k : Nat} {c : AE} (h : Fr F M M') (e : M'' = aup M' k c) (hn : ¬ F k) : Fr F M M'' := fun q hq => by
  rw [e]; unfold aup; rw [if_neg (show ¬ q = k from fun z => hn (by rw [← z]; exact hq))]; exact h q hq
theorem Fr.weak {F G : Nat → Prop} {M M' : AM} (h : Fr F M M') (hg : ∀ q, G q → F q) : Fr G M M' := fun q hq => h q (hg q hq)
theorem Fr.at {F : Nat → Prop} {M M' : AM} {o : Nat} {x : AE} (h : Fr F M M') (hM : M o = some x) (hf : F o) : M' o = some x := (h o hf).trans hM
section PM
variable {sc : Option (Nat × (Nat → Int32))} {mr : MR} {pc : Nat} {L st : List Value} {M : AM} {Q : Option Value → AM → Prop}
theorem P_gen {X : AM} (h : ∀ M', M' = X → P sc mr pc L st M' Q) : P sc mr pc L st X Q := h X rfl
theorem p_lconst0 {i : Nat} (hi : (mrT mr)[i]? = some (pc, .lconst 0, 1)) (h : P sc mr (pc + 1) L (zJ 0 :: st) M Q) : P sc mr pc L st M Q := p_lconst hi h
theorem p_lconst1 {i : Nat} (hi : (mrT mr)[i]? = some (pc, .lconst 1, 1)) (h : P sc mr (pc + 1) L (zJ 1 :: st) M Q) : P sc mr pc L st M Q := p_lconst hi h
/-- an index that is a number: its place -/
theorem p_iaN {i o n k : Nat} {g : Nat → Int} (hi : (mrT mr)[i]? = some (pc, .iaload, 1)) (hM : M o = some (zA n g)) (ha : k < n) (hn : n < 2147483648) (h : P sc mr (pc + 1) L (zI (g k) :: st) M Q) : P sc mr pc L (zI (k : Int) :: .ref o :: st) M Q :=
  p_iald hi hM (by omega) hn h
theorem p_iaX {i o n : Nat} {a : Int} (k : Nat) {g : Nat → Int} (hi : (mrT mr)[i]? = some (pc, .iaload, 1)) (hM : M o = some (zA n g)) (he : a = (k : Int)) (ha : k < n) (hn : n < 2147483648) (h : P sc mr (pc + 1) L (zI (g k) :: st) M Q) : P sc mr pc L (zI a :: .ref o :: st) M Q := by
  subst he; exact p_iaN hi hM ha hn h
theorem p_zaX {i o n : Nat} {a : Int} (k : Nat) {g : Nat → Int} (hi : (mrT mr)[i]? = some (pc, .baload, 1)) (hM : M o = some (zB n g)) (he : a = (k : Int)) (ha : k < n) (hn : n < 2147483648) (h : P sc mr (pc + 1) L (zI (g k) :: st) M Q) : P sc mr pc L (zI a :: .ref o :: st) M Q := by
  subst he; exact p_zald hi hM (by omega) hn h
theorem p_isX {i o n : Nat} {a v : Int} (k : Nat) {g : Nat → Int} (hi : (mrT mr)[i]? = some (pc, .iastore, 1)) (hM : M o = some (zA n g)) (he : a = (k : Int)) (ha : k < n) (hn : n < 2147483648) (h : P sc mr (pc + 1) L st (aup M o (zA n (zup g k v))) Q) : P sc mr pc L (zI v :: zI a :: .ref o :: st) M Q := by
  subst he; exact p_iast hi hM (by omega) hn h
theorem p_zsX {i o n : Nat} {a v : Int} (k : Nat) {g : Nat → Int} (hi : (mrT mr)[i]? = some (pc, .bastore, 1)) (hM : M o = some (zB n g)) (he : a = (k : Int)) (ha : k < n) (hn : n < 2147483648) (hv : v = 0 ∨ v = 1) (h : P sc mr (pc + 1) L st (aup M o (zB n (zup g k v))) Q) : P sc mr pc L (zI v :: zI a :: .ref o :: st) M Q := by
  subst he; exact p_zast hi hM (by omega) hn hv h
theorem p_aaX {i o n t j : Nat} {a : Int} (k : Nat) {g : Nat → Option Nat} (hi : (mrT mr)[i]? = some (pc, .aaload, 1)) (hM : M o = some (zR t n g)) (ht : t = 2 ∨ t = 3 ∨ t = 4) (he : a = (k : Int)) (ha : k < n) (hn : n < 2147483648) (hg : g k = some j) (h : P sc mr (pc + 1) L (.ref j :: st) M Q) : P sc mr pc L (zI a :: .ref o :: st) M Q := by
  subst he; exact p_aald hi hM ht (by omega) hn hg h
/-- a top of stack by another name -/
theorem p_top {a b : Int} (e : a = b) (h : P sc mr pc L (zI b :: st) M Q) : P sc mr pc L (zI a :: st) M Q := e ▸ h
theorem p_top32 {x : Int32} {b : Int} (e : x = Int32.ofInt b) (h : P sc mr pc L (zI b :: st) M Q) : P sc mr pc L (.int x :: st) M Q := by rw [e]; exact h
theorem zI_and (a b : Nat) : Int32.ofInt (a : Int) &&& Int32.ofInt (b : Int) = Int32.ofInt ((a &&& b : Nat) : Int) := by
  rw [Int32.ofInt_eq_ofNat, Int32.ofInt_eq_ofNat, Int32.ofInt_eq_ofNat]
  apply Int32.toBitVec.inj
  simp [Int32.toBitVec_and, BitVec.ofNat_and]
theorem zI_or (a b : Nat) : Int32.ofInt (a : Int) ||| Int32.ofInt (b : Int) = Int32.ofInt ((a ||| b : Nat) : Int) := by
  rw [Int32.ofInt_eq_ofNat, Int32.ofInt_eq_ofNat, Int32.ofInt_eq_ofNat]
  apply Int32.toBitVec.inj
  simp [Int32.toBitVec_or, BitVec.ofNat_or]
theorem zI_amt : ∀ k, k < 32 → ((Int32.ofInt ((k : Nat) : Int) &&& 31).toBitVec.smod 32).toNat = k := by decide
theorem zI_shr {a k : Nat} (ha : a < 2147483648) (hk : k < 32) : Int32.ofInt (a : Int) >>> (Int32.ofInt (k : Int) &&& 31) = Int32.ofInt ((a / 2 ^ k : Nat) : Int) := by
  rw [Int32.ofInt_eq_ofNat (n := a), Int32.ofInt_eq_ofNat (n := a / 2 ^ k)]
  exact pk_shrN (n := a) ha _ k (zI_amt k hk)
theorem zI_shl {a k : Nat} (ha : a * 2 ^ k < 4294967296) (hk : k < 32) : Int32.ofInt (a : Int) <<< (Int32.ofInt (k : Int) &&& 31) = Int32.ofInt ((a * 2 ^ k : Nat) : Int) := by
  rw [Int32.ofInt_eq_ofNat (n := a), Int32.ofInt_eq_ofNat (n := a * 2 ^ k)]
  exact pk_shlN (n := a) _ k (zI_amt k hk) ha
theorem p_iandN {i a b : Nat} (hi : (mrT mr)[i]? = some (pc, .iand, 1)) (h : P sc mr (pc + 1) L (zI ((a &&& b : Nat) : Int) :: st) M Q) : P sc mr pc L (zI (b : Int) :: zI (a : Int) :: st) M Q := p_iand hi (p_top32 (zI_and a b) h)
theorem p_iand1 {i a : Nat} (hi : (mrT mr)[i]? = some (pc, .iand, 1)) (h : P sc mr (pc + 1) L (zI ((a % 2 : Nat) : Int) :: st) M Q) : P sc mr pc L (zI 1 :: zI (a : Int) :: st) M Q := p_iand hi (p_top32 ((zI_and a 1).trans (by rw [Nat.and_one_is_mod])) h)
theorem p_iorN {i a b : Nat} (hi : (mrT mr)[i]? = some (pc, .ior, 1)) (h : P sc mr (pc + 1) L (zI ((a ||| b : Nat) : Int) :: st) M Q) : P sc mr pc L (zI (b : Int) :: zI (a : Int) :: st) M Q := p_ior hi (p_top32 (zI_or a b) h)
theorem p_ishrN {i a k : Nat} (hi : (mrT mr)[i]? = some (pc, .ishr, 1)) (ha : a < 2147483648) (hk : k < 32) (h : P sc mr (pc + 1) L (zI ((a / 2 ^ k : Nat) : Int) :: st) M Q) : P sc mr pc L (zI (k : Int) :: zI (a : Int) :: st) M Q := p_ishr hi (p_top32 (zI_shr ha hk) h)
theorem p_ishl1 {i k : Nat} (hi : (mrT mr)[i]? = some (pc, .ishl, 1)) (hk : k < 31) (h : P sc mr (pc + 1) L (zI ((2 ^ k : Nat) : Int) :: st) M Q) : P sc mr pc L (zI (k : Int) :: zI 1 :: st) M Q := p_ishl hi (p_top32 ((zI_shl (a := 1) (k := k) (by have : 2 ^ k ≤ 2 ^ 30 := Nat.pow_le_pow_right (by decide) (by omega); omega) (by omega)).trans (by rw [Nat.one_mul])) h)
end PM
end
section
/-! ===== what a state is: layers, the pair, the line ===== -/
abbrev LY : Type := Int × Int × Int
abbrev LN : Type := Int × List (Int × Int) × List (List Int)
abbrev GS : Type := List LY × Int × Int × List Int × List (Int × Int × Int × Int)
def lS (Ls : List LY) (k : Nat) : Int := (Ls.getD k (0, 0, 0)).1
def lW (Ls : List LY) (k : Nat) : Int := (Ls.getD k (0, 0, 0)).2.1
def lT (Ls : List LY) (k : Nat) : Int := (Ls.getD k (0, 0, 0)).2.2
def nS (ln : LN) : Nat := ln.2.1.length
def nW (ln : LN) : Nat := ln.2.2.length
def kd (ln : LN) (x : Nat) : Int := (ln.2.1.getD x (0, 0)).1
def br (ln : LN) (x : Nat) : Int := (ln.2.1.getD x (0, 0)).2
def lkN (ln : LN) (w : Nat) : Nat := (ln.2.2.getD w []).length
def lk (ln : LN) (w j : Nat) : Int := (ln.2.2.getD w []).getD j 0
/-- a line that was read without a fault (or none at all) -/
def LnOk (ln : LN) : Prop := 0 ≤ ln.1 ∧ ln.1 ≤ 99 ∧ nS ln ≤ 8 ∧ nW ln ≤ 6 ∧ (∀ x, x < nS ln → 0 ≤ kd ln x ∧ kd ln x ≤ 3 ∧ 1 ≤ br ln x ∧ br ln x ≤ 99) ∧ (∀ w, w < nW ln → 1 ≤ lkN ln w ∧ lkN ln w ≤ 6 ∧ ∀ j, j < lkN ln w → 0 ≤ lk ln w j ∧ lk ln w j < nS ln) ∧ (ln.1 = 0 → nS ln = 0 ∧ nW ln = 0)
/-- the cells of a Line of the class -/
def LineAt (M : AM) (b : Nat) (kf bf lc : Nat → Int) (lk : Nat → Nat → Int) (c s w : Int) : Prop :=
  M b = some (zO 3 [.ref (b + 1), .ref (b + 2), .ref (b + 3), .ref (b + 4), zI c, zI s, zI w]) ∧ M (b + 1) = some (zA 8 kf) ∧ M (b + 2) = some (zA 8 bf) ∧ M (b + 3) = some (zA 6 lc) ∧ (∃ g, M (b + 4) = some (zR 4 6 g) ∧ ∀ i, i < 6 → g i = some (b + 5 + i)) ∧ ∀ i, i < 6 → M (b + 5 + i) = some (zA 6 (lk i))
def LineA (M : AM) (b : Nat) (ln : LN) : Prop :=
  LnOk ln ∧ ∃ (kf bf lc : Nat → Int) (lkf : Nat → Nat → Int), LineAt M b kf bf lc lkf ln.1 (nS ln : Nat) (nW ln : Nat) ∧ (∀ x, x < nS ln → kf x = kd ln x ∧ bf x = br ln x) ∧ ∀ w, w < nW ln → lc w = lkN ln w ∧ ∀ j, j < lkN ln w → lkf w j = lk ln w j
theorem LineA.fr {M M' : AM} {b : Nat} {ln : LN} {F : Nat → Prop} (h : LineA M b ln) (hf : Fr F M M') (hF : ∀ q, b ≤ q ∧ q < b + 11 → F q) : LineA M' b ln := by
  obtain ⟨h0, kf, bf, lc, lkf, ⟨h1, h2, h3, h4, ⟨g, h5, h6⟩, h7⟩, h8, h9⟩ := h
  exact ⟨h0, kf, bf, lc, lkf, ⟨hf.at h1 (hF _ (by omega)), hf.at h2 (hF _ (by omega)), hf.at h3 (hF _ (by omega)), hf.at h4 (hF _ (by omega)), ⟨g, hf.at h5 (hF _ (by omega)), h6⟩, fun i hi => hf.at (h7 i hi) (hF _ (by omega))⟩, h8, h9⟩
/-- the cells of a Pair of the class, with its Log -/
def PairAt (M : AM) (p : Nat) (sc wh st hs lr : Nat → Int) (lf lz n w y : Int) : Prop :=
  M p = some (zO 6 [.ref (p + 1), .ref (p + 2), .ref (p + 3), .ref (p + 4), .ref (p + 5), zI n, zI w, zI y]) ∧ M (p + 1) = some (zA 10 sc) ∧ M (p + 2) = some (zA 10 wh) ∧ M (p + 3) = some (zA 10 st) ∧ M (p + 4) = some (zA 6 hs) ∧ M (p + 5) = some (zO 4 [.ref (p + 6), zI lf, zI lz]) ∧ M (p + 6) = some (zA 80 lr)
/-- what holds of every pair, a stale one too -/
def PairR (M : AM) (p : Nat) : Prop := ∃ (sc wh st hs lr : Nat → Int) (lf lz n w y : Int), PairAt M p sc wh st hs lr lf lz n w y ∧ 0 ≤ lf ∧ lf < 20 ∧ 0 ≤ lz ∧ lz ≤ 20
/-- the bounds of a pair's state, for a line of so many scenes and wearers -/
def GOk (ns nw : Nat) (g : GS) : Prop := g.1.length ≤ 10 ∧ (∀ k, k < g.1.length → 0 ≤ lS g.1 k ∧ lS g.1 k < ns ∧ -1 ≤ lW g.1 k ∧ lW g.1 k < nw ∧ 1 ≤ lT g.1 k ∧ lT g.1 k ≤ 99) ∧ -1 ≤ g.2.1 ∧ g.2.1 < nw ∧ 0 ≤ g.2.2.1 ∧ g.2.2.1 ≤ 100000 ∧ g.2.2.2.1.length = 6 ∧ (∀ j, j < 6 → 0 ≤ g.2.2.2.1.getD j 0 ∧ g.2.2.2.1.getD j 0 ≤ g.2.2.1) ∧ g.2.2.2.2.length ≤ 20 ∧ ns ≤ 8 ∧ nw ≤ 6
/-- the log in a ring: oldest first -/
def RLog (lr : Nat → Int) (lf lz : Int) (lg : List (Int × Int × Int × Int)) : Prop := lz = lg.length ∧ 0 ≤ lf ∧ lf < 20 ∧ lg.length ≤ 20 ∧ ∀ i, i < lg.length → ∀ r : Nat, (r : Int) = (lf + i) % 20 → lr (4 * r) = (lg.getD i (0, 0, 0, 0)).1 ∧ lr (4 * r + 1) = (lg.getD i (0, 0, 0, 0)).2.1 ∧ lr (4 * r + 2) = (lg.getD i (0, 0, 0, 0)).2.2.1 ∧ lr (4 * r + 3) = (lg.getD i (0, 0, 0, 0)).2.2.2
def RLay (sc wh st : Nat → Int) (Ls : List LY) : Prop := ∀ k, k < Ls.length → sc k = lS Ls k ∧ wh k = lW Ls k ∧ st k = lT Ls k
def RHis (hs : Nat → Int) (h : List Int) : Prop := ∀ j, j < 6 → hs j = h.getD j 0
/-- with its log (true), or the log being anything (false) -/
def RLogB (b : Bool) (lr : Nat → Int) (lf lz : Int) (lg : List (Int × Int × Int × Int)) : Prop := 0 ≤ lf ∧ lf < 20 ∧ 0 ≤ lz ∧ lz ≤ 20 ∧ (b = true → RLog lr lf lz lg)
def LogB (M : AM) (l : Nat) (b : Bool) (lg : List (Int × Int × Int × Int)) : Prop := ∃ (lr : Nat → Int) (lf lz : Int), M l = some (zO 4 [.ref (l + 1), zI lf, zI lz]) ∧ M (l + 1) = some (zA 80 lr) ∧ RLogB b lr lf lz lg
def PairB (b : Bool) (M : AM) (p : Nat) (ns nw : Nat) (g : GS) : Prop := GOk ns nw g ∧ ∃ (sc wh st hs lr : Nat → Int) (lf lz : Int), PairAt M p sc wh st hs lr lf lz (g.1.length : Nat) g.2.1 g.2.2.1 ∧ RLay sc wh st g.1 ∧ RHis hs g.2.2.2.1 ∧ RLogB b lr lf lz g.2.2.2.2
theorem PairB.g {b : Bool} {M : AM} {p ns nw : Nat} {g : GS} (h : PairB b M p ns nw g) : PairB false M p ns nw g := by
  obtain ⟨h0, sc, wh, st, hs, lr, lf, lz, h1, h2, h3, h4⟩ := h
  exact ⟨h0, sc, wh, st, hs, lr, lf, lz, h1, h2, h3, h4.1, h4.2.1, h4.2.2.1, h4.2.2.2.1, fun q => by cases q⟩
theorem PairB.r {b : Bool} {M : AM} {p ns nw : Nat} {g : GS} (h : PairB b M p ns nw g) : PairR M p := by
  obtain ⟨h0, sc, wh, st, hs, lr, lf, lz, h1, h2, h3, h4⟩ := h
  exact ⟨sc, wh, st, hs, lr, lf, lz, _, _, _, h1, h4.1, h4.2.1, h4.2.2.1, h4.2.2.2.1⟩
theorem PairAt.fr {M M' : AM} {p : Nat} {sc wh st hs lr : Nat → Int} {lf lz n w y : Int} {F : Nat → Prop} (h : PairAt M p sc wh st hs lr lf lz n w y) (hf : Fr F M M') (hF : ∀ q, p ≤ q ∧ q < p + 7 → F q) : PairAt M' p sc wh st hs lr lf lz n w y := by
  obtain ⟨h1, h2, h3, h4, h5, h6, h7⟩ := h
  exact ⟨hf.at h1 (hF _ (by omega)), hf.at h2 (hF _ (by omega)), hf.at h3 (hF _ (by omega)), hf.at h4 (hF _ (by omega)), hf.at h5 (hF _ (by omega)), hf.at h6 (hF _ (by omega)), hf.at h7 (hF _ (by omega))⟩
theorem PairB.fr {b : Bool} {M M' : AM} {p ns nw : Nat} {g : GS} {F : Nat → Prop} (h : PairB b M p ns nw g) (hf : Fr F M M') (hF : ∀ q, p ≤ q ∧ q < p + 7 → F q) : PairB b M' p ns nw g := by
  obtain ⟨h0, sc, wh, st, hs, lr, lf, lz, h1, h2⟩ := h
  exact ⟨h0, sc, wh, st, hs, lr, lf, lz, h1.fr hf hF, h2⟩
theorem PairR.fr {M M' : AM} {p : Nat} {F : Nat → Prop} (h : PairR M p) (hf : Fr F M M') (hF : ∀ q, p ≤ q ∧ q < p + 7 → F q) : PairR M' p := by
  obtain ⟨sc, wh, st, hs, lr, lf, lz, n, w, y, h1, h2⟩ := h
  exact ⟨sc, wh, st, hs, lr, lf, lz, n, w, y, h1.fr hf hF, h2⟩
def logAdd (lg : List (Int × Int × Int × Int)) (e : Int × Int × Int × Int) : List (Int × Int × Int × Int) := (if lg.length = 20 then lg.drop 1 else lg) ++ [e]
def logAt (lg : List (Int × Int × Int × Int)) (i : Int) (c : Nat) : Int := if 0 ≤ i ∧ i < lg.length then (match c with
  | 0 => (lg.getD (lg.length - 1 - i.toNat) (0, 0, 0, 0)).1
  | 1 => (lg.getD (lg.length - 1 - i.toNat) (0, 0, 0, 0)).2.1
  | 2 => (lg.getD (lg.length - 1 - i.toNat) (0, 0, 0, 0)).2.2.1
  | _ => (lg.getD (lg.length - 1 - i.toNat) (0, 0, 0, 0)).2.2.2) else -1
theorem gd_app_l {α : Type} {l r : List α} {i : Nat} {d : α} (h : i < l.length) : (l ++ r).getD i d = l.getD i d := by
  rw [List.getD_eq_getElem?_getD, List.getD_eq_getElem?_getD, List.getElem?_append_left h]
theorem gd_app_last {α : Type} {l : List α} {x d : α} : (l ++ [x]).getD l.length d = x := by
  rw [List.getD_eq_getElem?_getD, List.getElem?_append_right (Nat.le_refl _), Nat.sub_self]; rfl
theorem gd_drop {α : Type} {l : List α} {n i : Nat} {d : α} : (l.drop n).getD i d = l.getD (n + i) d := by
  rw [List.getD_eq_getElem?_getD, List.getD_eq_getElem?_getD, List.getElem?_drop]
theorem logAdd_len {lg : List (Int × Int × Int × Int)} {e : Int × Int × Int × Int} (h : lg.length ≤ 20) : (logAdd lg e).length = if lg.length = 20 then 20 else lg.length + 1 := by
  unfold logAdd
  split <;> simp <;> omega
theorem RLog.add {lr lr' : Nat → Int} {lf lz lf' lz' : Int} {lg : List (Int × Int × Int × Int)} {y w x t : Int} (h : RLog lr lf lz lg) (hz : lz' = if lz = 20 then 20 else lz + 1) (hf : lf' = if lz = 20 then (lf + 1) % 20 else lf)
    (r : Nat) (hr : (r : Int) = (lf + lz) % 20) (h0 : lr' (4 * r) = y) (h1 : lr' (4 * r + 1) = w) (h2 : lr' (4 * r + 2) = x) (h3 : lr' (4 * r + 3) = t) (ho : ∀ j, ¬ (4 * r ≤ j ∧ j < 4 * r + 4) → lr' j = lr j) : RLog lr' lf' lz' (logAdd lg (y, w, x, t)) := by
  obtain ⟨a1, a2, a3, a4, a5⟩ := h
  have hl := logAdd_len (e := (y, w, x, t)) a4
  refine ⟨?_, ?_, ?_, ?_, ?_⟩
  · rw [hl, hz]; split <;> split <;> omega
  · rw [hf]; split <;> omega
  · rw [hf]; split <;> omega
  · rw [hl]; split <;> omega
  · intro i hi q hq
    rw [hl] at hi
    by_cases c : lg.length = 20
    · rw [if_pos c] at hi
      have e1 : logAdd lg (y, w, x, t) = lg.drop 1 ++ [(y, w, x, t)] := by unfold logAdd; rw [if_pos c]
      have e2 : (lg.drop 1).length = 19 := by rw [List.length_drop, c]
      rw [e1]
      by_cases c2 : i = 19
      · have e3 : (lg.drop 1 ++ [(y, w, x, t)]).getD i (0, 0, 0, 0) = (y, w, x, t) := by rw [c2, ← e2]; exact gd_app_last
        have e4 : q = r := by rw [hf, if_pos (by omega)] at hq; omega
        rw [e3, e4]
        exact ⟨h0, h1, h2, h3⟩
      · have e3 : (lg.drop 1 ++ [(y, w, x, t)]).getD i (0, 0, 0, 0) = lg.getD (1 + i) (0, 0, 0, 0) := by rw [gd_app_l (by omega), gd_drop]
        rw [e3]
        have e5 := a5 (1 + i) (by omega) q (by rw [hf, if_pos (by omega)] at hq; omega)
        have e6 : q ≠ r := by rw [hf, if_pos (by omega)] at hq; omega
        rw [ho _ (by omega), ho _ (by omega), ho _ (by omega), ho _ (by omega)]
        exact e5
    · rw [if_neg c] at hi
      have e1 : logAdd lg (y, w, x, t) = lg ++ [(y, w, x, t)] := by unfold logAdd; rw [if_neg c]
      rw [e1]
      by_cases c2 : i = lg.length
      · have e3 : (lg ++ [(y, w, x, t)]).getD i (0, 0, 0, 0) = (y, w, x, t) := by rw [c2]; exact gd_app_last
        have e4 : q = r := by rw [hf, if_neg (by omega)] at hq; omega
        rw [e3, e4]
        exact ⟨h0, h1, h2, h3⟩
      · have e3 : (lg ++ [(y, w, x, t)]).getD i (0, 0, 0, 0) = lg.getD i (0, 0, 0, 0) := gd_app_l (by omega)
        rw [e3]
        have e5 := a5 i (by omega) q (by rw [hf, if_neg (by omega)] at hq; omega)
        have e6 : q ≠ r := by rw [hf, if_neg (by omega)] at hq; omega
        rw [ho _ (by omega), ho _ (by omega), ho _ (by omega), ho _ (by omega)]
        exact e5
/-- the memory is the same but for these n places -/
def FrI (p n : Nat) (M M' : AM) : Prop := Fr (fun q => q < p ∨ p + n ≤ q) M M'
theorem FrI.rf {p n : Nat} {M : AM} : FrI p n M M := Fr.rf
theorem FrI.tr {p n : Nat} {M M' M'' : AM} (h : FrI p n M M') (h2 : FrI p n M' M'') : FrI p n M M'' := Fr.tr h h2
theorem FrI.up {p n k : Nat} {M M' M'' : AM} {c : AE} (h : FrI p n M M') (e : M'' = aup M' k c) (hk : p ≤ k ∧ k < p + n) : FrI p n M M'' := Fr.up h e (fun z => by
  have z : k < p ∨ p + n ≤ k := z
  omega)
theorem FrI.at {p n o : Nat} {M M' : AM} {x : AE} (h : FrI p n M M') (hM : M o = some x) (ho : o < p ∨ p + n ≤ o) : M' o = some x := Fr.at h hM ho
theorem FrI.weak {p n p' n' : Nat} {M M' : AM} (h : FrI p n M M') (hw : p' ≤ p ∧ p + n ≤ p' + n') : FrI p' n' M M' := Fr.weak h (fun q hq => by
  have hq : q < p' ∨ p' + n' ≤ q := hq
  show q < p ∨ p + n ≤ q
  omega)
theorem PairB.fi {b : Bool} {M M' : AM} {p ns nw a n : Nat} {g : GS} (h : PairB b M p ns nw g) (hf : FrI a n M M') (hd : p + 7 ≤ a ∨ a + n ≤ p) : PairB b M' p ns nw g := h.fr hf (fun q hq => by show q < a ∨ a + n ≤ q; omega)
theorem PairR.fi {M M' : AM} {p a n : Nat} (h : PairR M p) (hf : FrI a n M M') (hd : p + 7 ≤ a ∨ a + n ≤ p) : PairR M' p := h.fr hf (fun q hq => by show q < a ∨ a + n ≤ q; omega)
theorem LineA.fi {M M' : AM} {b a n : Nat} {ln : LN} (h : LineA M b ln) (hf : FrI a n M M') (hd : b + 11 ≤ a ∨ a + n ≤ b) : LineA M' b ln := h.fr hf (fun q hq => by show q < a ∨ a + n ≤ q; omega)
end
section
-- Line of the class: reads
theorem x_hasScene {M : AM} {b : Nat} {ln : LN} {x : Int} {Q : Option Value → AM → Prop} (hL : LineA M b ln) (hx : -2147483648 ≤ x ∧ x ≤ 2147483647) (h1 : 0 ≤ x ∧ x < nS ln → Q (some (zI 1)) M) (h0 : ¬ (0 ≤ x ∧ x < nS ln) → Q (some (zI 0)) M) : C mX3_hasScene [.ref b, zI x] M Q := by
  obtain ⟨⟨o1, o2, o3, o4, o5, o6, o7⟩, kf, bf, lc, lkf, ⟨hb, hk, hr, hc, ⟨gg, hg, hgi⟩, hrow⟩, hkb, hlk⟩ := hL
  refine C_of okX3_hasScene (by decide) (Nat.le_of_ble_eq_true rfl) ?_
  show P none mX3_hasScene 0 [.ref b, zI x] [] _ _
  refine p_iload_n (i := 0) rfl rfl ?_
  refine p_if_lt (i := 1) 22 rfl (by decide) (by omega) (fun c1 => ?_) (fun c1 => ?_)
  · refine p_iconst (i := 11) rfl ?_
    refine p_iret (i := 12) rfl rfl (by decide) ?_
    exact h0 (by omega)
  · refine p_iload_n (i := 2) rfl rfl ?_
    refine p_aload_n (i := 3) rfl rfl ?_
    refine p_getf (i := 4) rfl fX3_30 hb rfl ?_
    refine p_icmp_ge (i := 5) 22 rfl (by decide) (by omega) (by omega) (fun c9 => ?_) (fun c9 => ?_)
    · refine p_iconst (i := 11) rfl ?_
      refine p_iret (i := 12) rfl rfl (by decide) ?_
      exact h0 (by omega)
    · refine p_iload_n (i := 6) rfl rfl ?_
      refine p_bipush (i := 7) rfl (by decide) ?_
      refine p_icmp_ge (i := 8) 22 rfl (by decide) (by omega) (by omega) (fun c15 => by exfalso; omega) (fun c15 => ?_)
      refine p_iconst (i := 9) rfl ?_
      refine p_goto (i := 10) 23 rfl (by decide) ?_
      refine p_iret (i := 12) rfl rfl (by decide) ?_
      exact h1 (by omega)
theorem x_hasWearer {M : AM} {b : Nat} {ln : LN} {x : Int} {Q : Option Value → AM → Prop} (hL : LineA M b ln) (hx : -2147483648 ≤ x ∧ x ≤ 2147483647) (h1 : 0 ≤ x ∧ x < nW ln → Q (some (zI 1)) M) (h0 : ¬ (0 ≤ x ∧ x < nW ln) → Q (some (zI 0)) M) : C mX3_hasWearer [.ref b, zI x] M Q := by
  obtain ⟨⟨o1, o2, o3, o4, o5, o6, o7⟩, kf, bf, lc, lkf, ⟨hb, hk, hr, hc, ⟨gg, hg, hgi⟩, hrow⟩, hkb, hlk⟩ := hL
  refine C_of okX3_hasWearer (by decide) (Nat.le_of_ble_eq_true rfl) ?_
  show P none mX3_hasWearer 0 [.ref b, zI x] [] _ _
  refine p_iload_n (i := 0) rfl rfl ?_
  refine p_if_lt (i := 1) 22 rfl (by decide) (by omega) (fun c1 => ?_) (fun c1 => ?_)
  · refine p_iconst (i := 11) rfl ?_
    refine p_iret (i := 12) rfl rfl (by decide) ?_
    exact h0 (by omega)
  · refine p_iload_n (i := 2) rfl rfl ?_
    refine p_aload_n (i := 3) rfl rfl ?_
    refine p_getf (i := 4) rfl fX3_33 hb rfl ?_
    refine p_icmp_ge (i := 5) 22 rfl (by decide) (by omega) (by omega) (fun c9 => ?_) (fun c9 => ?_)
    · refine p_iconst (i := 11) rfl ?_
      refine p_iret (i := 12) rfl rfl (by decide) ?_
      exact h0 (by omega)
    · refine p_iload_n (i := 6) rfl rfl ?_
      refine p_bipush (i := 7) rfl (by decide) ?_
      refine p_icmp_ge (i := 8) 22 rfl (by decide) (by omega) (by omega) (fun c15 => by exfalso; omega) (fun c15 => ?_)
      refine p_iconst (i := 9) rfl ?_
      refine p_goto (i := 10) 23 rfl (by decide) ?_
      refine p_iret (i := 12) rfl rfl (by decide) ?_
      exact h1 (by omega)
theorem x_kindOf {M : AM} {b : Nat} {ln : LN} {x : Int} {Q : Option Value → AM → Prop} (hL : LineA M b ln) (hx : 0 ≤ x ∧ x < nS ln) (h : Q (some (zI (kd ln x.toNat))) M) : C mX3_kindOf [.ref b, zI x] M Q := by
  obtain ⟨⟨o1, o2, o3, o4, o5, o6, o7⟩, kf, bf, lc, lkf, ⟨hb, hk, hr, hc, ⟨gg, hg, hgi⟩, hrow⟩, hkb, hlk⟩ := id hL
  refine C_of okX3_kindOf (by decide) (Nat.le_of_ble_eq_true rfl) ?_
  show P none mX3_kindOf 0 [.ref b, zI x] [] _ _
  refine p_aload_n (i := 0) rfl rfl ?_
  refine p_iload_n (i := 1) rfl rfl ?_
  refine p_cV1 (i := 2) rfl ⟨lX3_40, rfl, rfl⟩ hb ⟨_, rfl, rfl⟩ rfl (x_hasScene hL (by omega) (fun q => ?_) (fun q => ?_))
  · refine p_if_eq (i := 3) 17 rfl (by decide) (by omega) (fun c5 => by exfalso; omega) (fun c5 => ?_)
    refine p_aload_n (i := 4) rfl rfl ?_
    refine p_getf (i := 5) rfl fX3_9 hb rfl ?_
    refine p_iload_n (i := 6) rfl rfl ?_
    refine p_iaX (i := 7) (x.toNat) rfl hk (by omega) (by omega) (by decide) ?_
    refine p_goto (i := 8) 18 rfl (by decide) ?_
    refine p_iret (i := 10) rfl rfl (rfl) ?_
    rw [(hkb x.toNat (by omega)).1]
    exact h
  · exact absurd hx q
theorem x_brightOf {M : AM} {b : Nat} {ln : LN} {x : Int} {Q : Option Value → AM → Prop} (hL : LineA M b ln) (hx : 0 ≤ x ∧ x < nS ln) (h : Q (some (zI (br ln x.toNat))) M) : C mX3_brightOf [.ref b, zI x] M Q := by
  obtain ⟨⟨o1, o2, o3, o4, o5, o6, o7⟩, kf, bf, lc, lkf, ⟨hb, hk, hr, hc, ⟨gg, hg, hgi⟩, hrow⟩, hkb, hlk⟩ := id hL
  refine C_of okX3_brightOf (by decide) (Nat.le_of_ble_eq_true rfl) ?_
  show P none mX3_brightOf 0 [.ref b, zI x] [] _ _
  refine p_aload_n (i := 0) rfl rfl ?_
  refine p_iload_n (i := 1) rfl rfl ?_
  refine p_cV1 (i := 2) rfl ⟨lX3_40, rfl, rfl⟩ hb ⟨_, rfl, rfl⟩ rfl (x_hasScene hL (by omega) (fun q => ?_) (fun q => ?_))
  · refine p_if_eq (i := 3) 17 rfl (by decide) (by omega) (fun c5 => by exfalso; omega) (fun c5 => ?_)
    refine p_aload_n (i := 4) rfl rfl ?_
    refine p_getf (i := 5) rfl fX3_15 hb rfl ?_
    refine p_iload_n (i := 6) rfl rfl ?_
    refine p_iaX (i := 7) (x.toNat) rfl hr (by omega) (by omega) (by decide) ?_
    refine p_goto (i := 8) 18 rfl (by decide) ?_
    refine p_iret (i := 10) rfl rfl (rfl) ?_
    rw [(hkb x.toNat (by omega)).2]
    exact h
  · exact absurd hx q
theorem x_looksOf {M : AM} {b : Nat} {ln : LN} {x : Int} {Q : Option Value → AM → Prop} (hL : LineA M b ln) (hx : 0 ≤ x ∧ x < nW ln) (h : Q (some (zI (lkN ln x.toNat : Nat))) M) : C mX3_looksOf [.ref b, zI x] M Q := by
  obtain ⟨⟨o1, o2, o3, o4, o5, o6, o7⟩, kf, bf, lc, lkf, ⟨hb, hk, hr, hc, ⟨gg, hg, hgi⟩, hrow⟩, hkb, hlk⟩ := id hL
  refine C_of okX3_looksOf (by decide) (Nat.le_of_ble_eq_true rfl) ?_
  show P none mX3_looksOf 0 [.ref b, zI x] [] _ _
  refine p_aload_n (i := 0) rfl rfl ?_
  refine p_iload_n (i := 1) rfl rfl ?_
  refine p_cV1 (i := 2) rfl ⟨lX3_36, rfl, rfl⟩ hb ⟨_, rfl, rfl⟩ rfl (x_hasWearer hL (by omega) (fun q => ?_) (fun q => ?_))
  · refine p_if_eq (i := 3) 17 rfl (by decide) (by omega) (fun c5 => by exfalso; omega) (fun c5 => ?_)
    refine p_aload_n (i := 4) rfl rfl ?_
    refine p_getf (i := 5) rfl fX3_18 hb rfl ?_
    refine p_iload_n (i := 6) rfl rfl ?_
    refine p_iaX (i := 7) (x.toNat) rfl hc (by omega) (by omega) (by decide) ?_
    refine p_goto (i := 8) 18 rfl (by decide) ?_
    refine p_iret (i := 10) rfl rfl (rfl) ?_
    rw [(hlk x.toNat (by omega)).1]
    exact h
  · exact absurd hx q
theorem x_sceneInYear {M : AM} {b : Nat} {ln : LN} {w y : Int} {Q : Option Value → AM → Prop} (hL : LineA M b ln) (hw : 0 ≤ w ∧ w < nW ln) (hy : 0 ≤ y ∧ y ≤ 2147483647) (h : Q (some (zI (lk ln w.toNat (y.toNat % lkN ln w.toNat)))) M) : C mX3_sceneInYear [.ref b, zI w, zI y] M Q := by
  obtain ⟨⟨o1, o2, o3, o4, o5, o6, o7⟩, kf, bf, lc, lkf, ⟨hb, hk, hr, hc, ⟨gg, hg, hgi⟩, hrow⟩, hkb, hlk⟩ := id hL
  obtain ⟨n1, n2, n3⟩ := o6 w.toNat (by omega)
  refine C_of okX3_sceneInYear (by decide) (Nat.le_of_ble_eq_true rfl) ?_
  show P none mX3_sceneInYear 0 [.ref b, zI w, zI y, .retAddr 0] [] _ _
  refine p_aload_n (i := 0) rfl rfl ?_
  refine p_iload_n (i := 1) rfl rfl ?_
  refine p_cV1 (i := 2) rfl ⟨lX3_43, rfl, rfl⟩ hb ⟨_, rfl, rfl⟩ rfl (x_looksOf hL hw ?_)
  refine p_istore_n (i := 3) rfl rfl ?_
  refine p_iload_n (i := 4) rfl rfl ?_
  refine p_iconst (i := 5) rfl ?_
  refine p_icmp_lt (i := 6) 21 rfl (by decide) (by omega) (by omega) (fun c8 => by exfalso; omega) (fun c8 => ?_)
  refine p_iload_n (i := 7) rfl rfl ?_
  refine p_bipush (i := 8) rfl (by decide) ?_
  refine p_icmp_gt (i := 9) 21 rfl (by decide) (by omega) (by omega) (fun c14 => by exfalso; omega) (fun c14 => ?_)
  refine p_iload_n (i := 10) rfl rfl ?_
  refine p_if_ge (i := 11) 23 rfl (by decide) (by omega) (fun c18 => ?_) (fun c18 => by exfalso; omega)
  refine p_aload_n (i := 14) rfl rfl ?_
  refine p_getf (i := 15) rfl fX3_23 hb rfl ?_
  refine p_iload_n (i := 16) rfl rfl ?_
  refine p_aaX (i := 17) (w.toNat) rfl hg (by omega) (by omega) (by omega) (by decide) (hgi _ (by omega)) ?_
  have hrw := hrow w.toNat (by omega)
  have e1 : y % (lkN ln w.toNat : Int) = ((y.toNat % lkN ln w.toNat : Nat) : Int) := by
    rw [Int.natCast_emod]
    congr 1
    omega
  have e2 : y.toNat % lkN ln w.toNat < lkN ln w.toNat := Nat.mod_lt _ (by omega)
  refine p_iload_n (i := 18) rfl rfl ?_
  refine p_iload_n (i := 19) rfl rfl ?_
  refine p_irem (i := 20) rfl (by omega) (by omega) ?_
  refine p_iaX (i := 21) (y.toNat % lkN ln w.toNat) rfl hrw (by omega) (by omega) (by decide) ?_
  refine p_iret (i := 22) rfl rfl (rfl) ?_
  rw [(hlk w.toNat (by omega)).2 _ e2]
  exact h
theorem x_veil {M : AM} {b : Nat} {ln : LN} {x m : Int} {Q : Option Value → AM → Prop} (hL : LineA M b ln) (hx : 0 ≤ x ∧ x < nS ln) (hm : 0 ≤ m ∧ m ≤ 99) (h : Q (some (zI ((ln.1 + m + br ln x.toNat) / 2))) M) : C mX3_veil [.ref b, zI x, zI m] M Q := by
  obtain ⟨⟨o1, o2, o3, o4, o5, o6, o7⟩, kf, bf, lc, lkf, ⟨hb, hk, hr, hc, ⟨gg, hg, hgi⟩, hrow⟩, hkb, hlk⟩ := id hL
  obtain ⟨n1, n2, n3, n4⟩ := o5 x.toNat (by omega)
  refine C_of okX3_veil (by decide) (Nat.le_of_ble_eq_true rfl) ?_
  show P none mX3_veil 0 [.ref b, zI x, zI m] [] _ _
  refine p_aload_n (i := 0) rfl rfl ?_
  refine p_getf (i := 1) rfl fX3_26 hb rfl ?_
  refine p_iload_n (i := 2) rfl rfl ?_
  refine p_iadd (i := 3) rfl ?_
  refine p_aload_n (i := 4) rfl rfl ?_
  refine p_iload_n (i := 5) rfl rfl ?_
  refine p_cV1 (i := 6) rfl ⟨lX3_47, rfl, rfl⟩ hb ⟨_, rfl, rfl⟩ rfl (x_brightOf hL hx ?_)
  refine p_iadd (i := 7) rfl ?_
  refine p_iconst (i := 8) rfl ?_
  refine p_idiv (i := 9) rfl (by omega) (by omega) ?_
  refine p_iret (i := 10) rfl rfl (rfl) ?_
  exact h
theorem x_gain {M : AM} {b : Nat} {ln : LN} {x : Int} {Q : Option Value → AM → Prop} (hL : LineA M b ln) (hx : 0 ≤ x ∧ x < nS ln) (h : Q (some (zI (br ln x.toNat / 10 + 1))) M) : C mX3_gain [.ref b, zI x] M Q := by
  obtain ⟨⟨o1, o2, o3, o4, o5, o6, o7⟩, kf, bf, lc, lkf, ⟨hb, hk, hr, hc, ⟨gg, hg, hgi⟩, hrow⟩, hkb, hlk⟩ := id hL
  obtain ⟨n1, n2, n3, n4⟩ := o5 x.toNat (by omega)
  refine C_of okX3_gain (by decide) (Nat.le_of_ble_eq_true rfl) ?_
  show P none mX3_gain 0 [.ref b, zI x] [] _ _
  refine p_aload_n (i := 0) rfl rfl ?_
  refine p_iload_n (i := 1) rfl rfl ?_
  refine p_cV1 (i := 2) rfl ⟨lX3_47, rfl, rfl⟩ hb ⟨_, rfl, rfl⟩ rfl (x_brightOf hL hx ?_)
  refine p_bipush (i := 3) rfl (by decide) ?_
  refine p_idiv (i := 4) rfl (by omega) (by omega) ?_
  refine p_iconst (i := 5) rfl ?_
  refine p_iadd (i := 6) rfl ?_
  refine p_iret (i := 7) rfl rfl (rfl) ?_
  exact h
end
section
-- Log of the class
theorem zup_e {g : Nat → Int} {k : Nat} {v : Int} : zup g k v k = v := if_pos rfl
theorem zup_n {g : Nat → Int} {k j : Nat} {v : Int} (h : j ≠ k) : zup g k v j = g j := if_neg h
theorem x_logAdd {M : AM} {l : Nat} {b : Bool} {lg : List (Int × Int × Int × Int)} {y w x t : Int} {Q : Option Value → AM → Prop} (h : LogB M l b lg) (k : ∀ M', LogB M' l b (logAdd lg (y, w, x, t)) → FrI l 2 M M' → Q none M') : C mX4_add [.ref l, zI y, zI w, zI x, zI t] M Q := by
  obtain ⟨lr, lf, lz, hG, hR, r1, r2, r3, r4, r5⟩ := h
  obtain ⟨r, hr⟩ : ∃ r : Nat, (r : Int) = (lf + lz) % 20 := ⟨((lf + lz) % 20).toNat, by omega⟩
  have tail : ∀ (M1 : AM) (f2 z2 : Int), M1 l = some (zO 4 [.ref (l + 1), zI f2, zI z2]) → M1 (l + 1) = some (zA 80 lr) → FrI l 2 M M1 → z2 = (if lz = 20 then 20 else lz + 1) → f2 = (if lz = 20 then (lf + 1) % 20 else lf) → P none mX4_add 49 [.ref l, zI y, zI w, zI x, zI t, zI ((lf + lz) % 20), .retAddr 0] []  M1 Q := by
    intro M f2 z2 hG hR fr hz hf
    refine p_iload (i := 27) rfl rfl ?_
    refine p_iconst (i := 28) rfl ?_
    refine p_imul (i := 29) rfl ?_
    refine p_istore (i := 30) rfl rfl ?_
    refine p_aload_n (i := 31) rfl rfl ?_
    refine p_getf (i := 32) rfl fX4_9 hG rfl ?_
    refine p_iload (i := 33) rfl rfl ?_
    refine p_iload_n (i := 34) rfl rfl ?_
    refine p_isX (i := 35) (4 * r) rfl hR (by omega) (by omega) (by decide) (P_gen fun M e => ?_)
    have hG := aupN e hG (by omega)
    have fr := fr.up e (by omega)
    have hR := aupE e
    refine p_aload_n (i := 36) rfl rfl ?_
    refine p_getf (i := 37) rfl fX4_9 hG rfl ?_
    refine p_iload (i := 38) rfl rfl ?_
    refine p_iconst (i := 39) rfl ?_
    refine p_iadd (i := 40) rfl ?_
    refine p_iload_n (i := 41) rfl rfl ?_
    refine p_isX (i := 42) (4 * r + 1) rfl hR (by omega) (by omega) (by decide) (P_gen fun M e => ?_)
    have hG := aupN e hG (by omega)
    have fr := fr.up e (by omega)
    have hR := aupE e
    refine p_aload_n (i := 43) rfl rfl ?_
    refine p_getf (i := 44) rfl fX4_9 hG rfl ?_
    refine p_iload (i := 45) rfl rfl ?_
    refine p_iconst (i := 46) rfl ?_
    refine p_iadd (i := 47) rfl ?_
    refine p_iload_n (i := 48) rfl rfl ?_
    refine p_isX (i := 49) (4 * r + 2) rfl hR (by omega) (by omega) (by decide) (P_gen fun M e => ?_)
    have hG := aupN e hG (by omega)
    have fr := fr.up e (by omega)
    have hR := aupE e
    refine p_aload_n (i := 50) rfl rfl ?_
    refine p_getf (i := 51) rfl fX4_9 hG rfl ?_
    refine p_iload (i := 52) rfl rfl ?_
    refine p_iconst (i := 53) rfl ?_
    refine p_iadd (i := 54) rfl ?_
    refine p_iload (i := 55) rfl rfl ?_
    refine p_isX (i := 56) (4 * r + 3) rfl hR (by omega) (by omega) (by decide) (P_gen fun M e => ?_)
    have hG := aupN e hG (by omega)
    have fr := fr.up e (by omega)
    have hR := aupE e
    refine p_ret (i := 57) rfl rfl ?_
    refine k M ⟨_, f2, z2, hG, hR, by rw [hf]; split <;> omega, by rw [hf]; split <;> omega, by rw [hz]; split <;> omega, by rw [hz]; split <;> omega, fun hb => ?_⟩ fr
    refine (r5 hb).add hz hf r hr ?_ ?_ ?_ ?_ ?_
    · rw [zup_n (by omega), zup_n (by omega), zup_n (by omega), zup_e]
    · rw [zup_n (by omega), zup_n (by omega), zup_e]
    · rw [zup_n (by omega), zup_e]
    · rw [zup_e]
    · intro j hj
      rw [zup_n (by omega), zup_n (by omega), zup_n (by omega), zup_n (by omega)]
  have fr : FrI l 2 M M := FrI.rf
  refine C_of okX4_add (by decide) (Nat.le_of_ble_eq_true rfl) ?_
  show P none mX4_add 0 [.ref l, zI y, zI w, zI x, zI t, .retAddr 0, .retAddr 0] [] _ _
  refine p_aload_n (i := 0) rfl rfl ?_
  refine p_getf (i := 1) rfl fX4_15 hG rfl ?_
  refine p_aload_n (i := 2) rfl rfl ?_
  refine p_getf (i := 3) rfl fX4_19 hG rfl ?_
  refine p_iadd (i := 4) rfl ?_
  refine p_bipush (i := 5) rfl (by decide) ?_
  refine p_irem (i := 6) rfl (by omega) (by omega) ?_
  refine p_istore (i := 7) rfl rfl ?_
  refine p_aload_n (i := 8) rfl rfl ?_
  refine p_getf (i := 9) rfl fX4_19 hG rfl ?_
  refine p_bipush (i := 10) rfl (by decide) ?_
  refine p_icmp_ge (i := 11) 36 rfl (by decide) (by omega) (by omega) (fun c20 => ?_) (fun c20 => ?_)
  ·
    refine p_aload_n (i := 19) rfl rfl ?_
    refine p_aload_n (i := 20) rfl rfl ?_
    refine p_getf (i := 21) rfl fX4_15 hG rfl ?_
    refine p_iconst (i := 22) rfl ?_
    refine p_iadd (i := 23) rfl ?_
    refine p_bipush (i := 24) rfl (by decide) ?_
    refine p_irem (i := 25) rfl (by omega) (by omega) ?_
    refine p_puti (i := 26) rfl gX4_15 hG rfl (P_gen fun M e => ?_)
    have hR := aupN e hR (by omega)
    have fr := fr.up e (by omega)
    have hG := aupE e
    exact tail _ _ _ hG hR fr (by rw [if_pos (by omega)]; omega) (by rw [if_pos (by omega)])
  ·
    refine p_aload_n (i := 12) rfl rfl ?_
    refine p_dup (i := 13) rfl rfl ?_
    refine p_getf (i := 14) rfl fX4_19 hG rfl ?_
    refine p_iconst (i := 15) rfl ?_
    refine p_iadd (i := 16) rfl ?_
    refine p_puti (i := 17) rfl gX4_19 hG rfl (P_gen fun M e => ?_)
    have hR := aupN e hR (by omega)
    have fr := fr.up e (by omega)
    have hG := aupE e
    refine p_goto (i := 18) 49 rfl (by decide) ?_
    exact tail _ _ _ hG hR fr (by rw [if_neg (by omega)]) (by rw [if_neg (by omega)])
theorem x_logAt {M : AM} {l : Nat} {lg : List (Int × Int × Int × Int)} {i : Int} {c : Nat} {Q : Option Value → AM → Prop} (h : LogB M l true lg) (hi : -2147483648 ≤ i ∧ i ≤ 2147483647) (hc : c < 4) (k : Q (some (zI (logAt lg i c))) M) : C mX4_at [.ref l, zI i, zI (c : Int)] M Q := by
  obtain ⟨lr, lf, lz, hG, hR, r1, r2, r3, r4, r5⟩ := h
  obtain ⟨a1, a2, a3, a4, a5⟩ := r5 rfl
  refine C_of okX4_at (by decide) (Nat.le_of_ble_eq_true rfl) ?_
  show P none mX4_at 0 [.ref l, zI i, zI (c : Int)] [] _ _
  refine p_iload_n (i := 0) rfl rfl ?_
  refine p_if_lt (i := 1) 21 rfl (by decide) (by omega) (fun c1 => ?_) (fun c1 => ?_)
  · refine p_iconst (i := 11) rfl ?_
    refine p_iret (i := 12) rfl rfl (rfl) ?_
    unfold logAt at k
    rw [if_neg (by omega)] at k
    exact k
  · refine p_iload_n (i := 2) rfl rfl ?_
    refine p_aload_n (i := 3) rfl rfl ?_
    refine p_getf (i := 4) rfl fX4_19 hG rfl ?_
    refine p_icmp_ge (i := 5) 21 rfl (by decide) (by omega) (by omega) (fun c9 => ?_) (fun c9 => ?_)
    · refine p_iconst (i := 11) rfl ?_
      refine p_iret (i := 12) rfl rfl (rfl) ?_
      unfold logAt at k
      rw [if_neg (by omega)] at k
      exact k
    · refine p_iload_n (i := 6) rfl rfl ?_
      refine p_if_lt (i := 7) 21 rfl (by decide) (by omega) (fun c13 => by exfalso; omega) (fun c13 => ?_)
      refine p_iload_n (i := 8) rfl rfl ?_
      refine p_iconst (i := 9) rfl ?_
      refine p_icmp_lt (i := 10) 23 rfl (by decide) (by omega) (by omega) (fun c18 => ?_) (fun c18 => by exfalso; omega)
      obtain ⟨r, hr⟩ : ∃ r : Nat, (r : Int) = (lf + lz - 1 - i) % 20 := ⟨((lf + lz - 1 - i) % 20).toNat, by omega⟩
      refine p_aload_n (i := 13) rfl rfl ?_
      refine p_getf (i := 14) rfl fX4_9 hG rfl ?_
      refine p_aload_n (i := 15) rfl rfl ?_
      refine p_getf (i := 16) rfl fX4_15 hG rfl ?_
      refine p_aload_n (i := 17) rfl rfl ?_
      refine p_getf (i := 18) rfl fX4_19 hG rfl ?_
      refine p_iadd (i := 19) rfl ?_
      refine p_iconst (i := 20) rfl ?_
      refine p_isub (i := 21) rfl ?_
      refine p_iload_n (i := 22) rfl rfl ?_
      refine p_isub (i := 23) rfl ?_
      refine p_bipush (i := 24) rfl (by decide) ?_
      refine p_irem (i := 25) rfl (by omega) (by omega) ?_
      refine p_iconst (i := 26) rfl ?_
      refine p_imul (i := 27) rfl ?_
      refine p_iload_n (i := 28) rfl rfl ?_
      refine p_iadd (i := 29) rfl ?_
      refine p_iaX (i := 30) (4 * r + c) rfl hR (by omega) (by omega) (by decide) ?_
      refine p_iret (i := 31) rfl rfl (rfl) ?_
      unfold logAt at k
      rw [if_pos (by omega)] at k
      obtain ⟨g1, g2, g3, g4⟩ := a5 (lg.length - 1 - i.toNat) (by omega) r (by rw [hr]; congr 1; omega)
      match c, hc, k with
      | 0, _, k => rw [Nat.add_zero, g1]; exact k
      | 1, _, k => rw [g2]; exact k
      | 2, _, k => rw [g3]; exact k
      | 3, _, k => rw [g4]; exact k
theorem x_logCopy {M : AM} {l o : Nat} {lg : List (Int × Int × Int × Int)} {lr0 : Nat → Int} {lf0 lz0 : Int} {Q : Option Value → AM → Prop} (h : LogB M o true lg) (h0 : M l = some (zO 4 [.ref (l + 1), zI lf0, zI lz0])) (h1 : M (l + 1) = some (zA 80 lr0)) (hd : l + 2 ≤ o ∨ o + 2 ≤ l) (k : ∀ M', LogB M' l true lg → FrI l 2 M M' → Q none M') : C mX4_copyAll [.ref l, .ref o] M Q := by
  obtain ⟨lr, lf, lz, hG, hR, r1, r2, r3, r4, r5⟩ := h
  have fr : FrI l 2 M M := FrI.rf
  refine C_of okX4_copyAll (by decide) (Nat.le_of_ble_eq_true rfl) ?_
  show P none mX4_copyAll 0 [.ref l, .ref o] [] _ _
  refine p_aload_n (i := 0) rfl rfl ?_
  refine p_aload_n (i := 1) rfl rfl ?_
  refine p_getf (i := 2) rfl fX4_15 hG rfl ?_
  refine p_puti (i := 3) rfl gX4_15 h0 rfl (P_gen fun M e => ?_)
  have h1 := aupN e h1 (by omega)
  have hG := aupN e hG (by omega)
  have hR := aupN e hR (by omega)
  have fr := fr.up e (by omega)
  have h0 := aupE e
  refine p_aload_n (i := 4) rfl rfl ?_
  refine p_aload_n (i := 5) rfl rfl ?_
  refine p_getf (i := 6) rfl fX4_19 hG rfl ?_
  refine p_puti (i := 7) rfl gX4_19 h0 rfl (P_gen fun M e => ?_)
  have h1 := aupN e h1 (by omega)
  have hG := aupN e hG (by omega)
  have hR := aupN e hR (by omega)
  have fr := fr.up e (by omega)
  have h0 := aupE e
  refine p_aload_n (i := 8) rfl rfl ?_
  refine p_getf (i := 9) rfl fX4_9 hG rfl ?_
  refine p_iconst (i := 10) rfl ?_
  refine p_aload_n (i := 11) rfl rfl ?_
  refine p_getf (i := 12) rfl fX4_9 h0 rfl ?_
  refine p_iconst (i := 13) rfl ?_
  refine p_bipush (i := 14) rfl (by decide) ?_
  refine p_copy (i := 15) rfl lX4_22 w_copy hR h1 (by omega) (by decide) (by decide) (P_gen fun M e => ?_)
  have h0 := aupN e h0 (by omega)
  have hG := aupN e hG (by omega)
  have hR := aupN e hR (by omega)
  have fr := fr.up e (by omega)
  have h1 := aupE e
  refine p_ret (i := 16) rfl rfl ?_
  refine k M ⟨_, lf, lz, h0, h1, r1, r2, r3, r4, fun hb => ?_⟩ fr
  obtain ⟨a1, a2, a3, a4, a5⟩ := r5 hb
  refine ⟨a1, a2, a3, a4, fun i hi r hr => ?_⟩
  obtain ⟨g1, g2, g3, g4⟩ := a5 i hi r hr
  have e : ∀ j, j < 80 → va_cpy lr lr0 (0 : Int).toNat (0 : Int).toNat (80 : Int).toNat j = lr j := fun j hj => by
    show (if 0 ≤ j ∧ j < 0 + 80 then lr (0 + (j - 0)) else lr0 j) = lr j
    rw [if_pos (by omega)]
    congr 1
    omega
  rw [e _ (by omega), e _ (by omega), e _ (by omega), e _ (by omega)]
  exact ⟨g1, g2, g3, g4⟩
theorem x_logForget {M : AM} {l : Nat} {b : Bool} {lr0 : Nat → Int} {lf0 lz0 : Int} {Q : Option Value → AM → Prop} (h0 : M l = some (zO 4 [.ref (l + 1), zI lf0, zI lz0])) (h1 : M (l + 1) = some (zA 80 lr0)) (k : ∀ M', LogB M' l b [] → FrI l 2 M M' → Q none M') : C mX4_forget [.ref l] M Q := by
  have fr : FrI l 2 M M := FrI.rf
  refine C_of okX4_forget (by decide) (Nat.le_of_ble_eq_true rfl) ?_
  show P none mX4_forget 0 [.ref l] [] _ _
  refine p_aload_n (i := 0) rfl rfl ?_
  refine p_iconst (i := 1) rfl ?_
  refine p_puti (i := 2) rfl gX4_15 h0 rfl (P_gen fun M e => ?_)
  have h1 := aupN e h1 (by omega)
  have fr := fr.up e (by omega)
  have h0 := aupE e
  refine p_aload_n (i := 3) rfl rfl ?_
  refine p_iconst (i := 4) rfl ?_
  refine p_puti (i := 5) rfl gX4_19 h0 rfl (P_gen fun M e => ?_)
  have h1 := aupN e h1 (by omega)
  have fr := fr.up e (by omega)
  have h0 := aupE e
  refine p_ret (i := 6) rfl rfl ?_
  exact k M ⟨_, 0, 0, h0, h1, by omega, by omega, by omega, by omega, fun hb => ⟨rfl, by omega, by omega, by decide, fun i hi => absurd hi (Nat.not_lt_zero i)⟩⟩ fr
end
section
/-! ===== loops as functions ===== -/
def fo {σ : Type} (step : Nat → σ → σ) : Nat → Nat → σ → σ
  | 0, _, s => s
  | f + 1, k, s => fo step f (k + 1) (step k s)
def fi (p : Nat → Bool) : Nat → Nat → Int
  | 0, _ => -1
  | f + 1, k => if p k = true then (k : Int) else fi p f (k + 1)
theorem fo_congr {σ : Type} {s1 s2 : Nat → σ → σ} : ∀ (f k : Nat) (s : σ), (∀ j t, k ≤ j → j < k + f → s1 j t = s2 j t) → fo s1 f k s = fo s2 f k s
  | 0, _, _, _ => rfl
  | f + 1, k, s, h => by
    show fo s1 f (k + 1) (s1 k s) = fo s2 f (k + 1) (s2 k s)
    rw [h k s (Nat.le_refl k) (by omega)]
    exact fo_congr f (k + 1) _ (fun j t h1 h2 => h j t (by omega) (by omega))
theorem fo_inv {σ : Type} {step : Nat → σ → σ} (I : Nat → σ → Prop) : ∀ (f k : Nat) (s : σ), I k s → (∀ j t, k ≤ j → j < k + f → I j t → I (j + 1) (step j t)) → I (k + f) (fo step f k s)
  | 0, _, _, h, _ => h
  | f + 1, k, s, h, hs => by
    show I (k + (f + 1)) (fo step f (k + 1) (step k s))
    rw [show k + (f + 1) = k + 1 + f by omega]
    exact fo_inv I f (k + 1) _ (hs k s (Nat.le_refl k) (by omega) h) (fun j t h1 h2 h3 => hs j t (by omega) (by omega) h3)
theorem fo_last {σ : Type} {step : Nat → σ → σ} : ∀ (f k : Nat) (s : σ), fo step (f + 1) k s = step (k + f) (fo step f k s)
  | 0, _, _ => rfl
  | f + 1, k, s => by
    show fo step (f + 1) (k + 1) (step k s) = step (k + (f + 1)) (fo step f (k + 1) (step k s))
    rw [fo_last f (k + 1) (step k s), show k + 1 + f = k + (f + 1) by omega]
theorem fi_congr {p q : Nat → Bool} : ∀ (f k : Nat), (∀ j, k ≤ j → j < k + f → p j = q j) → fi p f k = fi q f k
  | 0, _, _ => rfl
  | f + 1, k, h => by
    show (if p k = true then (k : Int) else fi p f (k + 1)) = if q k = true then (k : Int) else fi q f (k + 1)
    rw [h k (Nat.le_refl k) (by omega), fi_congr f (k + 1) (fun j h1 h2 => h j (by omega) (by omega))]
theorem fi_rng {p : Nat → Bool} : ∀ (f k : Nat), fi p f k = -1 ∨ (k ≤ fi p f k ∧ fi p f k < k + f ∧ p (fi p f k).toNat = true)
  | 0, _ => Or.inl rfl
  | f + 1, k => by
    unfold fi
    by_cases h : p k = true
    · rw [if_pos h]
      exact Or.inr ⟨by omega, by omega, h⟩
    · rw [if_neg h]
      rcases fi_rng (p := p) f (k + 1) with e | ⟨e1, e2, e3⟩
      · exact Or.inl e
      · exact Or.inr ⟨by omega, by omega, e3⟩
def sbStep (Ls : List LY) (wi : Nat) (k : Nat) (s : Int × Int) : Int × Int := if wi / 2 ^ k % 2 = 0 ∧ s.2 ≤ lT Ls k then ((k : Int), lT Ls k) else s
def sb (Ls : List LY) (wi : Nat) : Int := (fo (sbStep Ls wi) Ls.length 0 (-1, 0)).1
def wkStep (Ls : List LY) (k : Nat) (s : Int × Int) : Int × Int := if lT Ls k < s.2 then ((k : Int), lT Ls k) else s
def wk (Ls : List LY) : Int := (fo (wkStep Ls) Ls.length 0 (-1, 100)).1
def lbStep (Ls : List LY) (k i : Nat) (c : Int) : Int := if lT Ls k < lT Ls i ∨ (lT Ls i = lT Ls k ∧ k < i) then c + 1 else c
def lb (Ls : List LY) (k : Nat) : Int := fo (lbStep Ls k) Ls.length 0 0
def fnd (Ls : List LY) (w x : Int) : Int := fi (fun k => decide (lW Ls k = w ∧ lS Ls k = x)) Ls.length 0
def smAll (Ls : List LY) : Int := fo (fun k s => s + lT Ls k) Ls.length 0 0
def smOf (Ls : List LY) (x : Int) : Int := fo (fun k s => if lS Ls k = x then s + lT Ls k else s) Ls.length 0 0
def scOf (Ls : List LY) (w : Int) : Nat := fo (fun k s => if lW Ls k = w then s ||| 2 ^ (lS Ls k).toNat else s) Ls.length 0 0
def low (Ls : List LY) : Int := fi (fun k => decide (lW Ls k ≠ -1)) Ls.length 0
def thStep (Ls : List LY) (k : Nat) (s : Int × Int) : Int × Int := if 0 < k ∧ lS Ls k = lS Ls (k - 1) then (max s.1 (s.2 + 1), s.2 + 1) else (max s.1 1, 1)
def thk (Ls : List LY) : Int := (fo (thStep Ls) Ls.length 0 (0, 0)).1
def veil (ln : LN) (x more : Int) : Int := (ln.1 + more + br ln x.toNat) / 2
def tk (ln : LN) (Ls : List LY) (x more : Int) (wi : Nat) : Int := if 0 ≤ sb Ls wi ∧ veil ln x more < lT Ls (sb Ls wi).toNat then lS Ls (sb Ls wi).toNat else x
def fdg (kind t y : Int) : Int := if kind = 0 then 1 else if kind = 1 then t / 10 + 1 else if kind = 3 then (if y % 2 = 1 then 3 else 0) else 0
theorem sb_rng (Ls : List LY) (wi : Nat) : -1 ≤ sb Ls wi ∧ sb Ls wi < Ls.length := by
  have h := fo_inv (step := sbStep Ls wi) (fun j s => -1 ≤ s.1 ∧ s.1 < j) Ls.length 0 (-1, 0) ⟨by decide, by decide⟩ (fun j t _ _ h => by
    unfold sbStep
    split
    · exact ⟨by show (-1 : Int) ≤ (j : Int); omega, by show (j : Int) < ((j + 1 : Nat) : Int); omega⟩
    · exact ⟨h.1, by have := h.2; omega⟩)
  rw [Nat.zero_add] at h
  exact h
section PX
variable {sc : Option (Nat × (Nat → Int32))} {mr : MR} {pc : Nat} {L st : List Value} {M : AM} {Q : Option Value → AM → Prop}
theorem p_max {i idx : Nat} {a b : Int} (hi : (mrT mr)[i]? = some (pc, .invokestatic idx, 3)) (hs : SL (mrY mr).cls idx mJ9_max_7cf53 2) (hr : Nat.ble 1 (mrF mr) = true ∧ Nat.ble ((st.map fun v => v.category).sum + 13) (mrW mr) = true) (ha : -2147483648 ≤ a ∧ a ≤ 2147483647) (hb : -2147483648 ≤ b ∧ b ≤ 2147483647) (h : P sc mr (pc + 3) L (zI (max a b) :: st) M Q) : P sc mr pc L (zI b :: zI a :: st) M Q := by
  intro p l e R s m args below meth c D cA ad n H0 H locs cells slots ls Z hC hsc hW hS hL hk
  have h1 := h p l e R s m args below meth c D cA ad n H0 H locs cells slots ls Z hC hsc hW hS hL hk
  have hts := hC.2.2.2.2.1
  refine va_mmax hC.1 hC.2.1 (hC.2.2.1.trans hL.1.symm) hC.2.2.2.1 (hts _ hs.1) (hts _ hs.2.1) (hts _ hs.2.2.1) (hts _ hs.2.2.2.1) (Nat.le_trans (Nat.le_of_ble_eq_true hr.1) hC.2.2.2.2.2.2.1) (by rw [cv_sum]; exact Nat.le_trans (Nat.le_of_ble_eq_true hr.2) hC.2.2.2.2.2.2.2.1) hC.2.2.2.2.2.2.2.2.2.1 hC.2.2.2.2.2.2.2.2.2.2 (hC.dec hi) ?_
  have e : (if Int32.ofInt a < Int32.ofInt b then Int32.ofInt b else Int32.ofInt a) = Int32.ofInt (max a b) := by
    by_cases q : a < b
    · rw [if_pos ((zI_lt ha hb).mpr q), show max a b = b by omega]
    · rw [if_neg (fun z => q ((zI_lt ha hb).mp z)), show max a b = a by omega]
  rw [e]
  exact h1
theorem p_min {i idx : Nat} {a b : Int} (hi : (mrT mr)[i]? = some (pc, .invokestatic idx, 3)) (hs : SL (mrY mr).cls idx mJ9_min_7cf53 2) (hr : Nat.ble 1 (mrF mr) = true ∧ Nat.ble ((st.map fun v => v.category).sum + 13) (mrW mr) = true) (ha : -2147483648 ≤ a ∧ a ≤ 2147483647) (hb : -2147483648 ≤ b ∧ b ≤ 2147483647) (h : P sc mr (pc + 3) L (zI (min a b) :: st) M Q) : P sc mr pc L (zI b :: zI a :: st) M Q := by
  intro p l e R s m args below meth c D cA ad n H0 H locs cells slots ls Z hC hsc hW hS hL hk
  have h1 := h p l e R s m args below meth c D cA ad n H0 H locs cells slots ls Z hC hsc hW hS hL hk
  have hts := hC.2.2.2.2.1
  refine va_mmin hC.1 hC.2.1 (hC.2.2.1.trans hL.1.symm) hC.2.2.2.1 (hts _ hs.1) (hts _ hs.2.1) (hts _ hs.2.2.1) (hts _ hs.2.2.2.1) (Nat.le_trans (Nat.le_of_ble_eq_true hr.1) hC.2.2.2.2.2.2.1) (by rw [cv_sum]; exact Nat.le_trans (Nat.le_of_ble_eq_true hr.2) hC.2.2.2.2.2.2.2.1) hC.2.2.2.2.2.2.2.2.2.1 hC.2.2.2.2.2.2.2.2.2.2 (hC.dec hi) ?_
  have e : (if Int32.ofInt b < Int32.ofInt a then Int32.ofInt b else Int32.ofInt a) = Int32.ofInt (min a b) := by
    by_cases q : b < a
    · rw [if_pos ((zI_lt hb ha).mpr q), show min a b = b by omega]
    · rw [if_neg (fun z => q ((zI_lt hb ha).mp z)), show min a b = a by omega]
  rw [e]
  exact h1
end PX
end
section
-- Pair of the class: reads
theorem x_hasLayer {b : Bool} {M : AM} {p ns nw : Nat} {g : GS} {k : Int} {Q : Option Value → AM → Prop} (hP : PairB b M p ns nw g) (hk : -2147483648 ≤ k ∧ k ≤ 2147483647) (h1 : 0 ≤ k ∧ k < g.1.length → Q (some (zI 1)) M) (h0 : ¬ (0 ≤ k ∧ k < g.1.length) → Q (some (zI 0)) M) : C mX6_hasLayer [.ref p, zI k] M Q := by
  obtain ⟨⟨q1, q2, q3, q4, q5, q6, q7, q8, q9, q10, q11⟩, sc, wh, st, hs, lr, lf, lz, ⟨hp, hS, hW, hT, hH, hG, hR⟩, rL, rH, rG⟩ := id hP
  refine C_of okX6_hasLayer (by decide) (Nat.le_of_ble_eq_true rfl) ?_
  show P none mX6_hasLayer 0 [.ref p, zI k] [] _ _
  refine p_iload_n (i := 0) rfl rfl ?_
  refine p_if_lt (i := 1) 22 rfl (by decide) (by omega) (fun c1 => ?_) (fun c1 => ?_)
  · refine p_iconst (i := 11) rfl ?_
    refine p_iret (i := 12) rfl rfl (by decide) ?_
    exact h0 (by omega)
  · refine p_iload_n (i := 2) rfl rfl ?_
    refine p_aload_n (i := 3) rfl rfl ?_
    refine p_getf (i := 4) rfl fX6_31 hp rfl ?_
    refine p_icmp_ge (i := 5) 22 rfl (by decide) (by omega) (by omega) (fun c9 => ?_) (fun c9 => ?_)
    · refine p_iconst (i := 11) rfl ?_
      refine p_iret (i := 12) rfl rfl (by decide) ?_
      exact h0 (by omega)
    · refine p_iload_n (i := 6) rfl rfl ?_
      refine p_bipush (i := 7) rfl (by decide) ?_
      refine p_icmp_ge (i := 8) 22 rfl (by decide) (by omega) (by omega) (fun c15 => by exfalso; omega) (fun c15 => ?_)
      refine p_iconst (i := 9) rfl ?_
      refine p_goto (i := 10) 23 rfl (by decide) ?_
      refine p_iret (i := 12) rfl rfl (by decide) ?_
      exact h1 (by omega)
theorem x_yearsOf {b : Bool} {M : AM} {p ns nw : Nat} {g : GS} {w : Int} {Q : Option Value → AM → Prop} (hP : PairB b M p ns nw g) (hw : 0 ≤ w ∧ w < 6) (h : Q (some (zI (g.2.2.2.1.getD w.toNat 0))) M) : C mX6_yearsOf [.ref p, zI w] M Q := by
  obtain ⟨⟨q1, q2, q3, q4, q5, q6, q7, q8, q9, q10, q11⟩, sc, wh, st, hs, lr, lf, lz, ⟨hp, hS, hW, hT, hH, hG, hR⟩, rL, rH, rG⟩ := id hP
  refine C_of okX6_yearsOf (by decide) (Nat.le_of_ble_eq_true rfl) ?_
  show P none mX6_yearsOf 0 [.ref p, zI w] [] _ _
  refine p_iload_n (i := 0) rfl rfl ?_
  refine p_if_lt (i := 1) 19 rfl (by decide) (by omega) (fun c1 => by exfalso; omega) (fun c1 => ?_)
  refine p_iload_n (i := 2) rfl rfl ?_
  refine p_bipush (i := 3) rfl (by decide) ?_
  refine p_icmp_ge (i := 4) 19 rfl (by decide) (by omega) (by omega) (fun c7 => by exfalso; omega) (fun c7 => ?_)
  refine p_aload_n (i := 5) rfl rfl ?_
  refine p_getf (i := 6) rfl fX6_21 hp rfl ?_
  refine p_iload_n (i := 7) rfl rfl ?_
  refine p_iaX (i := 8) (w.toNat) rfl hH (by omega) (by omega) (by decide) ?_
  refine p_goto (i := 9) 20 rfl (by decide) ?_
  refine p_iret (i := 11) rfl rfl (rfl) ?_
  rw [rH _ (by omega)]
  exact h
theorem x_strongestBut {b : Bool} {M : AM} {p ns nw : Nat} {g : GS} {wi : Nat} {Q : Option Value → AM → Prop} (hP : PairB b M p ns nw g) (hw : wi < 2147483648) (h : Q (some (zI (sb g.1 wi))) M) : C mX6_strongestBut [.ref p, zI (wi : Int)] M Q := by
  obtain ⟨⟨q1, q2, q3, q4, q5, q6, q7, q8, q9, q10, q11⟩, sc, wh, st, hs, lr, lf, lz, ⟨hp, hS, hW, hT, hH, hG, hR⟩, rL, rH, rG⟩ := id hP
  have loop : ∀ (f k : Nat) (s : Int × Int), k + f = g.1.length → 0 ≤ s.2 ∧ s.2 ≤ 99 → Q (some (zI (fo (sbStep g.1 wi) f k s).1)) M → P none mX6_strongestBut 7 [.ref p, zI (wi : Int), zI s.1, zI s.2, zI (k : Int)] []  M Q := by
    intro f
    induction f with
    | zero =>
      intro k s hk hs hq
      refine p_iload (i := 6) rfl rfl ?_
      refine p_aload_n (i := 7) rfl rfl ?_
      refine p_getf (i := 8) rfl fX6_31 hp rfl ?_
      refine p_icmp_ge (i := 9) 60 rfl (by decide) (by omega) (by omega) (fun c13 => ?_) (fun c13 => by exfalso; omega)
      refine p_iload_n (i := 34) rfl rfl ?_
      refine p_iret (i := 35) rfl rfl (rfl) ?_
      exact hq
    | succ f ih =>
      intro k s hk hs hq
      obtain ⟨e1, e2, e3⟩ := rL k (by omega)
      have e4 := q2 k (by omega)
      have hq : Q (some (zI (fo (sbStep g.1 wi) f (k + 1) (sbStep g.1 wi k s)).1)) M := hq
      unfold sbStep at hq
      refine p_iload (i := 6) rfl rfl ?_
      refine p_aload_n (i := 7) rfl rfl ?_
      refine p_getf (i := 8) rfl fX6_31 hp rfl ?_
      refine p_icmp_ge (i := 9) 60 rfl (by decide) (by omega) (by omega) (fun c13 => by exfalso; omega) (fun c13 => ?_)
      refine p_iload (i := 10) rfl rfl ?_
      refine p_bipush (i := 11) rfl (by decide) ?_
      refine p_icmp_ge (i := 12) 60 rfl (by decide) (by omega) (by omega) (fun c20 => by exfalso; omega) (fun c20 => ?_)
      refine p_iload_n (i := 13) rfl rfl ?_
      refine p_iload (i := 14) rfl rfl ?_
      refine p_ishrN (i := 15) rfl (by omega) (by omega) ?_
      refine p_iconst (i := 16) rfl ?_
      refine p_iand1 (i := 17) rfl ?_
      have e5 : wi / 2 ^ k % 2 < 2 := Nat.mod_lt _ (by decide)
      refine p_if_ne (i := 18) 54 rfl (by decide) (by omega) (fun c29 => ?_) (fun c29 => ?_)
      · refine p_iinc (i := 32) rfl rfl rfl ?_
        refine p_goto (i := 33) 7 rfl (by decide) ?_
        rw [if_neg (by omega)] at hq
        exact ih (k + 1) s (by omega) hs hq
      · refine p_aload_n (i := 19) rfl rfl ?_
        refine p_getf (i := 20) rfl fX6_18 hp rfl ?_
        refine p_iload (i := 21) rfl rfl ?_
        refine p_iaX (i := 22) _ rfl hT rfl (by omega) (by decide) ?_
        refine p_iload_n (i := 23) rfl rfl ?_
        refine p_icmp_lt (i := 24) 54 rfl (by decide) (by omega) (by omega) (fun c40 => ?_) (fun c40 => ?_)
        · refine p_iinc (i := 32) rfl rfl rfl ?_
          refine p_goto (i := 33) 7 rfl (by decide) ?_
          rw [if_neg (by omega)] at hq
          exact ih (k + 1) s (by omega) hs hq
        · refine p_aload_n (i := 25) rfl rfl ?_
          refine p_getf (i := 26) rfl fX6_18 hp rfl ?_
          refine p_iload (i := 27) rfl rfl ?_
          refine p_iaX (i := 28) _ rfl hT rfl (by omega) (by decide) ?_
          refine p_istore_n (i := 29) rfl rfl ?_
          refine p_iload (i := 30) rfl rfl ?_
          refine p_istore_n (i := 31) rfl rfl ?_
          refine p_iinc (i := 32) rfl rfl rfl ?_
          refine p_goto (i := 33) 7 rfl (by decide) ?_
          rw [if_pos (by omega)] at hq
          rw [e3]
          exact ih (k + 1) _ (by omega) (by show 0 ≤ lT g.1 k ∧ lT g.1 k ≤ 99; omega) hq
  refine C_of okX6_strongestBut (by decide) (Nat.le_of_ble_eq_true rfl) ?_
  show P none mX6_strongestBut 0 [.ref p, zI (wi : Int), .retAddr 0, .retAddr 0, .retAddr 0] [] _ _
  refine p_iconst (i := 0) rfl ?_
  refine p_istore_n (i := 1) rfl rfl ?_
  refine p_iconst (i := 2) rfl ?_
  refine p_istore_n (i := 3) rfl rfl ?_
  refine p_iconst (i := 4) rfl ?_
  refine p_istore (i := 5) rfl rfl ?_
  exact loop g.1.length 0 (-1, 0) (by omega) (by decide) h
theorem x_weakest {b : Bool} {M : AM} {p ns nw : Nat} {g : GS} {Q : Option Value → AM → Prop} (hP : PairB b M p ns nw g) (h : Q (some (zI (wk g.1))) M) : C mX6_weakest [.ref p] M Q := by
  obtain ⟨⟨q1, q2, q3, q4, q5, q6, q7, q8, q9, q10, q11⟩, sc, wh, st, hs, lr, lf, lz, ⟨hp, hS, hW, hT, hH, hG, hR⟩, rL, rH, rG⟩ := id hP
  have loop : ∀ (f k : Nat) (s : Int × Int), k + f = g.1.length → 0 ≤ s.2 ∧ s.2 ≤ 100 → Q (some (zI (fo (wkStep g.1) f k s).1)) M → P none mX6_weakest 7 [.ref p, zI s.1, zI s.2, zI (k : Int)] []  M Q := by
    intro f
    induction f with
    | zero =>
      intro k s hk hs hq
      refine p_iload_n (i := 6) rfl rfl ?_
      refine p_aload_n (i := 7) rfl rfl ?_
      refine p_getf (i := 8) rfl fX6_31 hp rfl ?_
      refine p_icmp_ge (i := 9) 46 rfl (by decide) (by omega) (by omega) (fun c12 => ?_) (fun c12 => by exfalso; omega)
      refine p_iload_n (i := 28) rfl rfl ?_
      refine p_iret (i := 29) rfl rfl (rfl) ?_
      exact hq
    | succ f ih =>
      intro k s hk hs hq
      obtain ⟨e1, e2, e3⟩ := rL k (by omega)
      have e4 := q2 k (by omega)
      have hq : Q (some (zI (fo (wkStep g.1) f (k + 1) (wkStep g.1 k s)).1)) M := hq
      unfold wkStep at hq
      refine p_iload_n (i := 6) rfl rfl ?_
      refine p_aload_n (i := 7) rfl rfl ?_
      refine p_getf (i := 8) rfl fX6_31 hp rfl ?_
      refine p_icmp_ge (i := 9) 46 rfl (by decide) (by omega) (by omega) (fun c12 => by exfalso; omega) (fun c12 => ?_)
      refine p_iload_n (i := 10) rfl rfl ?_
      refine p_bipush (i := 11) rfl (by decide) ?_
      refine p_icmp_ge (i := 12) 46 rfl (by decide) (by omega) (by omega) (fun c18 => by exfalso; omega) (fun c18 => ?_)
      refine p_aload_n (i := 13) rfl rfl ?_
      refine p_getf (i := 14) rfl fX6_18 hp rfl ?_
      refine p_iload_n (i := 15) rfl rfl ?_
      refine p_iaX (i := 16) _ rfl hT rfl (by omega) (by decide) ?_
      refine p_iload_n (i := 17) rfl rfl ?_
      refine p_icmp_ge (i := 18) 40 rfl (by decide) (by omega) (by omega) (fun c28 => ?_) (fun c28 => ?_)
      · refine p_iinc (i := 26) rfl rfl rfl ?_
        refine p_goto (i := 27) 7 rfl (by decide) ?_
        rw [if_neg (by omega)] at hq
        exact ih (k + 1) s (by omega) hs hq
      · refine p_aload_n (i := 19) rfl rfl ?_
        refine p_getf (i := 20) rfl fX6_18 hp rfl ?_
        refine p_iload_n (i := 21) rfl rfl ?_
        refine p_iaX (i := 22) _ rfl hT rfl (by omega) (by decide) ?_
        refine p_istore_n (i := 23) rfl rfl ?_
        refine p_iload_n (i := 24) rfl rfl ?_
        refine p_istore_n (i := 25) rfl rfl ?_
        refine p_iinc (i := 26) rfl rfl rfl ?_
        refine p_goto (i := 27) 7 rfl (by decide) ?_
        rw [if_pos (by omega)] at hq
        rw [e3]
        exact ih (k + 1) _ (by omega) (by show 0 ≤ lT g.1 k ∧ lT g.1 k ≤ 100; omega) hq
  refine C_of okX6_weakest (by decide) (Nat.le_of_ble_eq_true rfl) ?_
  show P none mX6_weakest 0 [.ref p, .retAddr 0, .retAddr 0, .retAddr 0] [] _ _
  refine p_iconst (i := 0) rfl ?_
  refine p_istore_n (i := 1) rfl rfl ?_
  refine p_bipush (i := 2) rfl (by decide) ?_
  refine p_istore_n (i := 3) rfl rfl ?_
  refine p_iconst (i := 4) rfl ?_
  refine p_istore_n (i := 5) rfl rfl ?_
  exact loop g.1.length 0 (-1, 100) (by omega) (by decide) h
theorem x_layersBefore {b : Bool} {M : AM} {p ns nw : Nat} {g : GS} {k0 : Nat} {Q : Option Value → AM → Prop} (hP : PairB b M p ns nw g) (hk0 : k0 < g.1.length) (h : Q (some (zI (lb g.1 k0))) M) : C mX6_layersBefore [.ref p, zI (k0 : Int)] M Q := by
  obtain ⟨⟨q1, q2, q3, q4, q5, q6, q7, q8, q9, q10, q11⟩, sc, wh, st, hs, lr, lf, lz, ⟨hp, hS, hW, hT, hH, hG, hR⟩, rL, rH, rG⟩ := id hP
  obtain ⟨u1, u2, u3⟩ := rL k0 (by omega)
  have u4 := q2 k0 (by omega)
  have loop : ∀ (f k : Nat) (s : Int), k + f = g.1.length → 0 ≤ s ∧ s ≤ k → Q (some (zI (fo (lbStep g.1 k0) f k s))) M → P none mX6_layersBefore 14 [.ref p, zI (k0 : Int), zI s, zI (k : Int)] []  M Q := by
    intro f
    induction f with
    | zero =>
      intro k s hk hs hq
      refine p_iload_n (i := 10) rfl rfl ?_
      refine p_aload_n (i := 11) rfl rfl ?_
      refine p_getf (i := 12) rfl fX6_31 hp rfl ?_
      refine p_icmp_ge (i := 13) 72 rfl (by decide) (by omega) (by omega) (fun c19 => ?_) (fun c19 => by exfalso; omega)
      refine p_iload_n (i := 41) rfl rfl ?_
      refine p_iret (i := 42) rfl rfl (rfl) ?_
      exact hq
    | succ f ih =>
      intro k s hk hs hq
      obtain ⟨e1, e2, e3⟩ := rL k (by omega)
      have e4 := q2 k (by omega)
      have hq : Q (some (zI (fo (lbStep g.1 k0) f (k + 1) (lbStep g.1 k0 k s)))) M := hq
      unfold lbStep at hq
      refine p_iload_n (i := 10) rfl rfl ?_
      refine p_aload_n (i := 11) rfl rfl ?_
      refine p_getf (i := 12) rfl fX6_31 hp rfl ?_
      refine p_icmp_ge (i := 13) 72 rfl (by decide) (by omega) (by omega) (fun c19 => by exfalso; omega) (fun c19 => ?_)
      refine p_iload_n (i := 14) rfl rfl ?_
      refine p_bipush (i := 15) rfl (by decide) ?_
      refine p_icmp_ge (i := 16) 72 rfl (by decide) (by omega) (by omega) (fun c25 => by exfalso; omega) (fun c25 => ?_)
      refine p_aload_n (i := 17) rfl rfl ?_
      refine p_getf (i := 18) rfl fX6_18 hp rfl ?_
      refine p_iload_n (i := 19) rfl rfl ?_
      refine p_iaX (i := 20) _ rfl hT rfl (by omega) (by decide) ?_
      refine p_aload_n (i := 21) rfl rfl ?_
      refine p_getf (i := 22) rfl fX6_18 hp rfl ?_
      refine p_iload_n (i := 23) rfl rfl ?_
      refine p_iaX (i := 24) _ rfl hT rfl (by omega) (by decide) ?_
      refine p_icmp_gt (i := 25) 63 rfl (by decide) (by omega) (by omega) (fun c40 => ?_) (fun c40 => ?_)
      · refine p_iinc (i := 38) rfl rfl rfl ?_
        refine p_iinc (i := 39) rfl rfl rfl ?_
        refine p_goto (i := 40) 14 rfl (by decide) ?_
        rw [if_pos (by omega)] at hq
        exact ih (k + 1) _ (by omega) (by omega) hq
      · refine p_aload_n (i := 26) rfl rfl ?_
        refine p_getf (i := 27) rfl fX6_18 hp rfl ?_
        refine p_iload_n (i := 28) rfl rfl ?_
        refine p_iaX (i := 29) _ rfl hT rfl (by omega) (by decide) ?_
        refine p_aload_n (i := 30) rfl rfl ?_
        refine p_getf (i := 31) rfl fX6_18 hp rfl ?_
        refine p_iload_n (i := 32) rfl rfl ?_
        refine p_iaX (i := 33) _ rfl hT rfl (by omega) (by decide) ?_
        refine p_icmp_ne (i := 34) 66 rfl (by decide) (by omega) (by omega) (fun c55 => ?_) (fun c55 => ?_)
        · refine p_iinc (i := 39) rfl rfl rfl ?_
          refine p_goto (i := 40) 14 rfl (by decide) ?_
          rw [if_neg (by omega)] at hq
          exact ih (k + 1) _ (by omega) (by omega) hq
        · refine p_iload_n (i := 35) rfl rfl ?_
          refine p_iload_n (i := 36) rfl rfl ?_
          refine p_icmp_le (i := 37) 66 rfl (by decide) (by omega) (by omega) (fun c60 => ?_) (fun c60 => ?_)
          · refine p_iinc (i := 39) rfl rfl rfl ?_
            refine p_goto (i := 40) 14 rfl (by decide) ?_
            rw [if_neg (by omega)] at hq
            exact ih (k + 1) _ (by omega) (by omega) hq
          · refine p_iinc (i := 38) rfl rfl rfl ?_
            refine p_iinc (i := 39) rfl rfl rfl ?_
            refine p_goto (i := 40) 14 rfl (by decide) ?_
            rw [if_pos (by omega)] at hq
            exact ih (k + 1) _ (by omega) (by omega) hq
  refine C_of okX6_layersBefore (by decide) (Nat.le_of_ble_eq_true rfl) ?_
  show P none mX6_layersBefore 0 [.ref p, zI (k0 : Int), .retAddr 0, .retAddr 0] [] _ _
  refine p_aload_n (i := 0) rfl rfl ?_
  refine p_iload_n (i := 1) rfl rfl ?_
  refine p_cV1 (i := 2) rfl ⟨lX6_90, rfl, rfl⟩ hp ⟨_, rfl, rfl⟩ rfl (x_hasLayer hP (by omega) (fun q => ?_) (fun q => by exfalso; omega))
  · refine p_if_ne (i := 3) 10 rfl (by decide) (by omega) (fun c5 => ?_) (fun c5 => by exfalso; omega)
    refine p_iconst (i := 6) rfl ?_
    refine p_istore_n (i := 7) rfl rfl ?_
    refine p_iconst (i := 8) rfl ?_
    refine p_istore_n (i := 9) rfl rfl ?_
    exact loop g.1.length 0 0 (by omega) (by decide) h
theorem x_find {b : Bool} {M : AM} {p ns nw : Nat} {g : GS} {w x : Int} {Q : Option Value → AM → Prop} (hP : PairB b M p ns nw g) (hw : -1 ≤ w ∧ w ≤ 10) (hx : 0 ≤ x ∧ x ≤ 10) (h : Q (some (zI (fnd g.1 w x))) M) : C mX6_find [.ref p, zI w, zI x] M Q := by
  obtain ⟨⟨q1, q2, q3, q4, q5, q6, q7, q8, q9, q10, q11⟩, sc, wh, st, hs, lr, lf, lz, ⟨hp, hS, hW, hT, hH, hG, hR⟩, rL, rH, rG⟩ := id hP
  have loop : ∀ (f k : Nat), k + f = g.1.length → Q (some (zI (fi (fun k => decide (lW g.1 k = w ∧ lS g.1 k = x)) f k))) M → P none mX6_find 2 [.ref p, zI w, zI x, zI (k : Int)] []  M Q := by
    intro f
    induction f with
    | zero =>
      intro k hk hq
      refine p_iload_n (i := 2) rfl rfl ?_
      refine p_aload_n (i := 3) rfl rfl ?_
      refine p_getf (i := 4) rfl fX6_31 hp rfl ?_
      refine p_icmp_ge (i := 5) 44 rfl (by decide) (by omega) (by omega) (fun c7 => ?_) (fun c7 => by exfalso; omega)
      refine p_iconst (i := 25) rfl ?_
      refine p_iret (i := 26) rfl rfl (rfl) ?_
      exact hq
    | succ f ih =>
      intro k hk hq
      obtain ⟨e1, e2, e3⟩ := rL k (by omega)
      have e4 := q2 k (by omega)
      unfold fi at hq
      refine p_iload_n (i := 2) rfl rfl ?_
      refine p_aload_n (i := 3) rfl rfl ?_
      refine p_getf (i := 4) rfl fX6_31 hp rfl ?_
      refine p_icmp_ge (i := 5) 44 rfl (by decide) (by omega) (by omega) (fun c7 => by exfalso; omega) (fun c7 => ?_)
      refine p_iload_n (i := 6) rfl rfl ?_
      refine p_bipush (i := 7) rfl (by decide) ?_
      refine p_icmp_ge (i := 8) 44 rfl (by decide) (by omega) (by omega) (fun c13 => by exfalso; omega) (fun c13 => ?_)
      refine p_aload_n (i := 9) rfl rfl ?_
      refine p_getf (i := 10) rfl fX6_15 hp rfl ?_
      refine p_iload_n (i := 11) rfl rfl ?_
      refine p_iaX (i := 12) _ rfl hW rfl (by omega) (by decide) ?_
      refine p_iload_n (i := 13) rfl rfl ?_
      refine p_icmp_ne (i := 14) 38 rfl (by decide) (by omega) (by omega) (fun c23 => ?_) (fun c23 => ?_)
      · refine p_iinc (i := 23) rfl rfl rfl ?_
        refine p_goto (i := 24) 2 rfl (by decide) ?_
        rw [if_neg (by rw [decide_eq_true_eq]; omega)] at hq
        exact ih (k + 1) (by omega) hq
      · refine p_aload_n (i := 15) rfl rfl ?_
        refine p_getf (i := 16) rfl fX6_9 hp rfl ?_
        refine p_iload_n (i := 17) rfl rfl ?_
        refine p_iaX (i := 18) _ rfl hS rfl (by omega) (by decide) ?_
        refine p_iload_n (i := 19) rfl rfl ?_
        refine p_icmp_ne (i := 20) 38 rfl (by decide) (by omega) (by omega) (fun c33 => ?_) (fun c33 => ?_)
        · refine p_iinc (i := 23) rfl rfl rfl ?_
          refine p_goto (i := 24) 2 rfl (by decide) ?_
          rw [if_neg (by rw [decide_eq_true_eq]; omega)] at hq
          exact ih (k + 1) (by omega) hq
        · refine p_iload_n (i := 21) rfl rfl ?_
          refine p_iret (i := 22) rfl rfl (rfl) ?_
          rw [if_pos (by rw [decide_eq_true_eq]; omega)] at hq
          exact hq
  refine C_of okX6_find (by decide) (Nat.le_of_ble_eq_true rfl) ?_
  show P none mX6_find 0 [.ref p, zI w, zI x, .retAddr 0] [] _ _
  refine p_iconst (i := 0) rfl ?_
  refine p_istore_n (i := 1) rfl rfl ?_
  exact loop g.1.length 0 (by omega) h
theorem x_darkness {b : Bool} {M : AM} {p ns nw : Nat} {g : GS} {Q : Option Value → AM → Prop} (hP : PairB b M p ns nw g) (h : Q (some (zI (smAll g.1 / 10))) M) : C mX6_darkness [.ref p] M Q := by
  obtain ⟨⟨q1, q2, q3, q4, q5, q6, q7, q8, q9, q10, q11⟩, sc, wh, st, hs, lr, lf, lz, ⟨hp, hS, hW, hT, hH, hG, hR⟩, rL, rH, rG⟩ := id hP
  have loop : ∀ (f k : Nat) (s : Int), k + f = g.1.length → 0 ≤ s ∧ s ≤ 99 * k → Q (some (zI (fo (fun k s => s + lT g.1 k) f k s / 10))) M → P none mX6_darkness 4 [.ref p, zI s, zI (k : Int)] []  M Q := by
    intro f
    induction f with
    | zero =>
      intro k s hk hs hq
      refine p_iload_n (i := 4) rfl rfl ?_
      refine p_aload_n (i := 5) rfl rfl ?_
      refine p_getf (i := 6) rfl fX6_31 hp rfl ?_
      refine p_icmp_ge (i := 7) 33 rfl (by decide) (by omega) (by omega) (fun c9 => ?_) (fun c9 => by exfalso; omega)
      refine p_iload_n (i := 20) rfl rfl ?_
      refine p_bipush (i := 21) rfl (by decide) ?_
      refine p_idiv (i := 22) rfl (by omega) (by omega) ?_
      refine p_iret (i := 23) rfl rfl (rfl) ?_
      exact hq
    | succ f ih =>
      intro k s hk hs hq
      obtain ⟨e1, e2, e3⟩ := rL k (by omega)
      have e4 := q2 k (by omega)
      refine p_iload_n (i := 4) rfl rfl ?_
      refine p_aload_n (i := 5) rfl rfl ?_
      refine p_getf (i := 6) rfl fX6_31 hp rfl ?_
      refine p_icmp_ge (i := 7) 33 rfl (by decide) (by omega) (by omega) (fun c9 => by exfalso; omega) (fun c9 => ?_)
      refine p_iload_n (i := 8) rfl rfl ?_
      refine p_bipush (i := 9) rfl (by decide) ?_
      refine p_icmp_ge (i := 10) 33 rfl (by decide) (by omega) (by omega) (fun c15 => by exfalso; omega) (fun c15 => ?_)
      refine p_iload_n (i := 11) rfl rfl ?_
      refine p_aload_n (i := 12) rfl rfl ?_
      refine p_getf (i := 13) rfl fX6_18 hp rfl ?_
      refine p_iload_n (i := 14) rfl rfl ?_
      refine p_iaX (i := 15) _ rfl hT rfl (by omega) (by decide) ?_
      refine p_iadd (i := 16) rfl ?_
      refine p_istore_n (i := 17) rfl rfl ?_
      refine p_iinc (i := 18) rfl rfl rfl ?_
      refine p_goto (i := 19) 4 rfl (by decide) ?_
      rw [e3]
      exact ih (k + 1) _ (by omega) (by omega) hq
  refine C_of okX6_darkness (by decide) (Nat.le_of_ble_eq_true rfl) ?_
  show P none mX6_darkness 0 [.ref p, .retAddr 0, .retAddr 0] [] _ _
  refine p_iconst (i := 0) rfl ?_
  refine p_istore_n (i := 1) rfl rfl ?_
  refine p_iconst (i := 2) rfl ?_
  refine p_istore_n (i := 3) rfl rfl ?_
  exact loop g.1.length 0 0 (by omega) (by decide) h
theorem x_strengthOfScene {b : Bool} {M : AM} {p ns nw : Nat} {g : GS} {x : Int} {Q : Option Value → AM → Prop} (hP : PairB b M p ns nw g) (hx : 0 ≤ x ∧ x ≤ 10) (h : Q (some (zI (smOf g.1 x))) M) : C mX6_strengthOfScene [.ref p, zI x] M Q := by
  obtain ⟨⟨q1, q2, q3, q4, q5, q6, q7, q8, q9, q10, q11⟩, sc, wh, st, hs, lr, lf, lz, ⟨hp, hS, hW, hT, hH, hG, hR⟩, rL, rH, rG⟩ := id hP
  have loop : ∀ (f k : Nat) (s : Int), k + f = g.1.length → 0 ≤ s ∧ s ≤ 99 * k → Q (some (zI (fo (fun k s => if lS g.1 k = x then s + lT g.1 k else s) f k s))) M → P none mX6_strengthOfScene 4 [.ref p, zI x, zI s, zI (k : Int)] []  M Q := by
    intro f
    induction f with
    | zero =>
      intro k s hk hs hq
      refine p_iload_n (i := 4) rfl rfl ?_
      refine p_aload_n (i := 5) rfl rfl ?_
      refine p_getf (i := 6) rfl fX6_31 hp rfl ?_
      refine p_icmp_ge (i := 7) 43 rfl (by decide) (by omega) (by omega) (fun c9 => ?_) (fun c9 => by exfalso; omega)
      refine p_iload_n (i := 26) rfl rfl ?_
      refine p_iret (i := 27) rfl rfl (rfl) ?_
      exact hq
    | succ f ih =>
      intro k s hk hs hq
      obtain ⟨e1, e2, e3⟩ := rL k (by omega)
      have e4 := q2 k (by omega)
      have hq : Q (some (zI (fo (fun k s => if lS g.1 k = x then s + lT g.1 k else s) f (k + 1) (if lS g.1 k = x then s + lT g.1 k else s)))) M := hq
      refine p_iload_n (i := 4) rfl rfl ?_
      refine p_aload_n (i := 5) rfl rfl ?_
      refine p_getf (i := 6) rfl fX6_31 hp rfl ?_
      refine p_icmp_ge (i := 7) 43 rfl (by decide) (by omega) (by omega) (fun c9 => by exfalso; omega) (fun c9 => ?_)
      refine p_iload_n (i := 8) rfl rfl ?_
      refine p_bipush (i := 9) rfl (by decide) ?_
      refine p_icmp_ge (i := 10) 43 rfl (by decide) (by omega) (by omega) (fun c15 => by exfalso; omega) (fun c15 => ?_)
      refine p_aload_n (i := 11) rfl rfl ?_
      refine p_getf (i := 12) rfl fX6_9 hp rfl ?_
      refine p_iload_n (i := 13) rfl rfl ?_
      refine p_iaX (i := 14) _ rfl hS rfl (by omega) (by decide) ?_
      refine p_iload_n (i := 15) rfl rfl ?_
      refine p_icmp_ne (i := 16) 37 rfl (by decide) (by omega) (by omega) (fun c25 => ?_) (fun c25 => ?_)
      · refine p_iinc (i := 24) rfl rfl rfl ?_
        refine p_goto (i := 25) 4 rfl (by decide) ?_
        rw [if_neg (show ¬ lS g.1 k = x by omega)] at hq
        exact ih (k + 1) _ (by omega) (by omega) hq
      · refine p_iload_n (i := 17) rfl rfl ?_
        refine p_aload_n (i := 18) rfl rfl ?_
        refine p_getf (i := 19) rfl fX6_18 hp rfl ?_
        refine p_iload_n (i := 20) rfl rfl ?_
        refine p_iaX (i := 21) _ rfl hT rfl (by omega) (by decide) ?_
        refine p_iadd (i := 22) rfl ?_
        refine p_istore_n (i := 23) rfl rfl ?_
        refine p_iinc (i := 24) rfl rfl rfl ?_
        refine p_goto (i := 25) 4 rfl (by decide) ?_
        rw [if_pos (show lS g.1 k = x by omega)] at hq
        rw [e3]
        exact ih (k + 1) _ (by omega) (by omega) hq
  refine C_of okX6_strengthOfScene (by decide) (Nat.le_of_ble_eq_true rfl) ?_
  show P none mX6_strengthOfScene 0 [.ref p, zI x, .retAddr 0, .retAddr 0] [] _ _
  refine p_iconst (i := 0) rfl ?_
  refine p_istore_n (i := 1) rfl rfl ?_
  refine p_iconst (i := 2) rfl ?_
  refine p_istore_n (i := 3) rfl rfl ?_
  exact loop g.1.length 0 0 (by omega) (by decide) h
theorem x_scenesOf {b : Bool} {M : AM} {p ns nw : Nat} {g : GS} {w : Int} {Q : Option Value → AM → Prop} (hP : PairB b M p ns nw g) (hw : -1 ≤ w ∧ w ≤ 10) (h : Q (some (zI (scOf g.1 w : Nat))) M) : C mX6_scenesOf [.ref p, zI w] M Q := by
  obtain ⟨⟨q1, q2, q3, q4, q5, q6, q7, q8, q9, q10, q11⟩, sc, wh, st, hs, lr, lf, lz, ⟨hp, hS, hW, hT, hH, hG, hR⟩, rL, rH, rG⟩ := id hP
  have loop : ∀ (f k : Nat) (s : Nat), k + f = g.1.length → Q (some (zI ((fo (fun k s => if lW g.1 k = w then s ||| 2 ^ (lS g.1 k).toNat else s) f k s : Nat) : Int))) M → P none mX6_scenesOf 4 [.ref p, zI w, zI (s : Int), zI (k : Int)] []  M Q := by
    intro f
    induction f with
    | zero =>
      intro k s hk hq
      refine p_iload_n (i := 4) rfl rfl ?_
      refine p_aload_n (i := 5) rfl rfl ?_
      refine p_getf (i := 6) rfl fX6_31 hp rfl ?_
      refine p_icmp_ge (i := 7) 45 rfl (by decide) (by omega) (by omega) (fun c9 => ?_) (fun c9 => by exfalso; omega)
      refine p_iload_n (i := 28) rfl rfl ?_
      refine p_iret (i := 29) rfl rfl (rfl) ?_
      exact hq
    | succ f ih =>
      intro k s hk hq
      obtain ⟨e1, e2, e3⟩ := rL k (by omega)
      have e4 := q2 k (by omega)
      have hq : Q (some (zI ((fo (fun k s => if lW g.1 k = w then s ||| 2 ^ (lS g.1 k).toNat else s) f (k + 1) (if lW g.1 k = w then s ||| 2 ^ (lS g.1 k).toNat else s) : Nat) : Int))) M := hq
      refine p_iload_n (i := 4) rfl rfl ?_
      refine p_aload_n (i := 5) rfl rfl ?_
      refine p_getf (i := 6) rfl fX6_31 hp rfl ?_
      refine p_icmp_ge (i := 7) 45 rfl (by decide) (by omega) (by omega) (fun c9 => by exfalso; omega) (fun c9 => ?_)
      refine p_iload_n (i := 8) rfl rfl ?_
      refine p_bipush (i := 9) rfl (by decide) ?_
      refine p_icmp_ge (i := 10) 45 rfl (by decide) (by omega) (by omega) (fun c15 => by exfalso; omega) (fun c15 => ?_)
      refine p_aload_n (i := 11) rfl rfl ?_
      refine p_getf (i := 12) rfl fX6_15 hp rfl ?_
      refine p_iload_n (i := 13) rfl rfl ?_
      refine p_iaX (i := 14) _ rfl hW rfl (by omega) (by decide) ?_
      refine p_iload_n (i := 15) rfl rfl ?_
      refine p_icmp_ne (i := 16) 39 rfl (by decide) (by omega) (by omega) (fun c25 => ?_) (fun c25 => ?_)
      · refine p_iinc (i := 26) rfl rfl rfl ?_
        refine p_goto (i := 27) 4 rfl (by decide) ?_
        rw [if_neg (show ¬ lW g.1 k = w by omega)] at hq
        exact ih (k + 1) _ (by omega) hq
      ·
        refine p_iload_n (i := 17) rfl rfl ?_
        refine p_iconst (i := 18) rfl ?_
        refine p_aload_n (i := 19) rfl rfl ?_
        refine p_getf (i := 20) rfl fX6_9 hp rfl ?_
        refine p_iload_n (i := 21) rfl rfl ?_
        refine p_iaX (i := 22) _ rfl hS rfl (by omega) (by decide) ?_
        rw [if_pos (show lW g.1 k = w by omega)] at hq
        refine p_top (b := (((lS g.1 k).toNat : Nat) : Int)) (by omega) ?_
        refine p_ishl1 (i := 23) rfl (by omega) ?_
        refine p_iorN (i := 24) rfl ?_
        refine p_istore_n (i := 25) rfl rfl ?_
        refine p_iinc (i := 26) rfl rfl rfl ?_
        refine p_goto (i := 27) 4 rfl (by decide) ?_
        exact ih (k + 1) _ (by omega) hq
  refine C_of okX6_scenesOf (by decide) (Nat.le_of_ble_eq_true rfl) ?_
  show P none mX6_scenesOf 0 [.ref p, zI w, .retAddr 0, .retAddr 0] [] _ _
  refine p_iconst (i := 0) rfl ?_
  refine p_istore_n (i := 1) rfl rfl ?_
  refine p_iconst (i := 2) rfl ?_
  refine p_istore_n (i := 3) rfl rfl ?_
  exact loop g.1.length 0 0 (by omega) h
theorem x_lowestOfWearers {b : Bool} {M : AM} {p ns nw : Nat} {g : GS} {Q : Option Value → AM → Prop} (hP : PairB b M p ns nw g) (h : Q (some (zI (low g.1))) M) : C mX6_lowestOfWearers [.ref p] M Q := by
  obtain ⟨⟨q1, q2, q3, q4, q5, q6, q7, q8, q9, q10, q11⟩, sc, wh, st, hs, lr, lf, lz, ⟨hp, hS, hW, hT, hH, hG, hR⟩, rL, rH, rG⟩ := id hP
  have loop : ∀ (f k : Nat), k + f = g.1.length → Q (some (zI (fi (fun k => decide (lW g.1 k ≠ -1)) f k))) M → P none mX6_lowestOfWearers 2 [.ref p, zI (k : Int)] []  M Q := by
    intro f
    induction f with
    | zero =>
      intro k hk hq
      refine p_iload_n (i := 2) rfl rfl ?_
      refine p_aload_n (i := 3) rfl rfl ?_
      refine p_getf (i := 4) rfl fX6_31 hp rfl ?_
      refine p_icmp_ge (i := 5) 34 rfl (by decide) (by omega) (by omega) (fun c7 => ?_) (fun c7 => by exfalso; omega)
      refine p_iconst (i := 19) rfl ?_
      refine p_iret (i := 20) rfl rfl (rfl) ?_
      exact hq
    | succ f ih =>
      intro k hk hq
      obtain ⟨e1, e2, e3⟩ := rL k (by omega)
      have e4 := q2 k (by omega)
      unfold fi at hq
      refine p_iload_n (i := 2) rfl rfl ?_
      refine p_aload_n (i := 3) rfl rfl ?_
      refine p_getf (i := 4) rfl fX6_31 hp rfl ?_
      refine p_icmp_ge (i := 5) 34 rfl (by decide) (by omega) (by omega) (fun c7 => by exfalso; omega) (fun c7 => ?_)
      refine p_iload_n (i := 6) rfl rfl ?_
      refine p_bipush (i := 7) rfl (by decide) ?_
      refine p_icmp_ge (i := 8) 34 rfl (by decide) (by omega) (by omega) (fun c13 => by exfalso; omega) (fun c13 => ?_)
      refine p_aload_n (i := 9) rfl rfl ?_
      refine p_getf (i := 10) rfl fX6_15 hp rfl ?_
      refine p_iload_n (i := 11) rfl rfl ?_
      refine p_iaX (i := 12) _ rfl hW rfl (by omega) (by decide) ?_
      refine p_iconst (i := 13) rfl ?_
      refine p_icmp_eq (i := 14) 28 rfl (by decide) (by omega) (by omega) (fun c23 => ?_) (fun c23 => ?_)
      · refine p_iinc (i := 17) rfl rfl rfl ?_
        refine p_goto (i := 18) 2 rfl (by decide) ?_
        rw [if_neg (by rw [decide_eq_true_eq]; omega)] at hq
        exact ih (k + 1) (by omega) hq
      · refine p_iload_n (i := 15) rfl rfl ?_
        refine p_iret (i := 16) rfl rfl (rfl) ?_
        rw [if_pos (by rw [decide_eq_true_eq]; omega)] at hq
        exact hq
  refine C_of okX6_lowestOfWearers (by decide) (Nat.le_of_ble_eq_true rfl) ?_
  show P none mX6_lowestOfWearers 0 [.ref p, .retAddr 0] [] _ _
  refine p_iconst (i := 0) rfl ?_
  refine p_istore_n (i := 1) rfl rfl ?_
  exact loop g.1.length 0 (by omega) h
theorem x_thickest {b : Bool} {M : AM} {p ns nw : Nat} {g : GS} {Q : Option Value → AM → Prop} (hP : PairB b M p ns nw g) (h : Q (some (zI (thk g.1))) M) : C mX6_thickest [.ref p] M Q := by
  obtain ⟨⟨q1, q2, q3, q4, q5, q6, q7, q8, q9, q10, q11⟩, sc, wh, st, hs, lr, lf, lz, ⟨hp, hS, hW, hT, hH, hG, hR⟩, rL, rH, rG⟩ := id hP
  have loop : ∀ (f k : Nat) (s : Int × Int), k + f = g.1.length → 0 ≤ s.1 ∧ s.1 ≤ k ∧ 0 ≤ s.2 ∧ s.2 ≤ k → Q (some (zI (fo (thStep g.1) f k s).1)) M → P none mX6_thickest 6 [.ref p, zI s.1, zI s.2, zI (k : Int)] []  M Q := by
    intro f
    induction f with
    | zero =>
      intro k s hk hs hq
      refine p_iload_n (i := 6) rfl rfl ?_
      refine p_aload_n (i := 7) rfl rfl ?_
      refine p_getf (i := 8) rfl fX6_31 hp rfl ?_
      refine p_icmp_ge (i := 9) 61 rfl (by decide) (by omega) (by omega) (fun c11 => ?_) (fun c11 => by exfalso; omega)
      refine p_iload_n (i := 38) rfl rfl ?_
      refine p_iret (i := 39) rfl rfl (rfl) ?_
      exact hq
    | succ f ih =>
      intro k s hk hs hq
      obtain ⟨e1, e2, e3⟩ := rL k (by omega)
      have e4 := q2 k (by omega)
      have hq : Q (some (zI (fo (thStep g.1) f (k + 1) (thStep g.1 k s)).1)) M := hq
      unfold thStep at hq
      refine p_iload_n (i := 6) rfl rfl ?_
      refine p_aload_n (i := 7) rfl rfl ?_
      refine p_getf (i := 8) rfl fX6_31 hp rfl ?_
      refine p_icmp_ge (i := 9) 61 rfl (by decide) (by omega) (by omega) (fun c11 => by exfalso; omega) (fun c11 => ?_)
      refine p_iload_n (i := 10) rfl rfl ?_
      refine p_bipush (i := 11) rfl (by decide) ?_
      refine p_icmp_ge (i := 12) 61 rfl (by decide) (by omega) (by omega) (fun c17 => by exfalso; omega) (fun c17 => ?_)
      refine p_iload_n (i := 13) rfl rfl ?_
      refine p_if_le (i := 14) 47 rfl (by decide) (by omega) (fun c21 => ?_) (fun c21 => ?_)
      · refine p_iconst (i := 30) rfl ?_
        refine p_istore_n (i := 31) rfl rfl ?_
        refine p_iload_n (i := 32) rfl rfl ?_
        refine p_iload_n (i := 33) rfl rfl ?_
        refine p_max (i := 34) rfl lX6_122 ⟨rfl, rfl⟩ (by omega) (by omega) ?_
        refine p_istore_n (i := 35) rfl rfl ?_
        refine p_iinc (i := 36) rfl rfl rfl ?_
        refine p_goto (i := 37) 6 rfl (by decide) ?_
        rw [if_neg (by omega)] at hq
        exact ih (k + 1) _ (by omega) (by show 0 ≤ max s.1 1 ∧ max s.1 1 ≤ ((k + 1 : Nat) : Int) ∧ (0 : Int) ≤ 1 ∧ (1 : Int) ≤ ((k + 1 : Nat) : Int); omega) hq
      · obtain ⟨d1, d2, d3⟩ := rL (k - 1) (by omega)
        have d4 := q2 (k - 1) (by omega)
        refine p_aload_n (i := 15) rfl rfl ?_
        refine p_getf (i := 16) rfl fX6_9 hp rfl ?_
        refine p_iload_n (i := 17) rfl rfl ?_
        refine p_iaX (i := 18) _ rfl hS rfl (by omega) (by decide) ?_
        refine p_aload_n (i := 19) rfl rfl ?_
        refine p_getf (i := 20) rfl fX6_9 hp rfl ?_
        refine p_iload_n (i := 21) rfl rfl ?_
        refine p_iconst (i := 22) rfl ?_
        refine p_isub (i := 23) rfl ?_
        refine p_iaX (i := 24) (k - 1) rfl hS (by omega) (by omega) (by decide) ?_
        refine p_icmp_ne (i := 25) 47 rfl (by decide) (by omega) (by omega) (fun c38 => ?_) (fun c38 => ?_)
        · refine p_iconst (i := 30) rfl ?_
          refine p_istore_n (i := 31) rfl rfl ?_
          refine p_iload_n (i := 32) rfl rfl ?_
          refine p_iload_n (i := 33) rfl rfl ?_
          refine p_max (i := 34) rfl lX6_122 ⟨rfl, rfl⟩ (by omega) (by omega) ?_
          refine p_istore_n (i := 35) rfl rfl ?_
          refine p_iinc (i := 36) rfl rfl rfl ?_
          refine p_goto (i := 37) 6 rfl (by decide) ?_
          rw [if_neg (by omega)] at hq
          exact ih (k + 1) _ (by omega) (by show 0 ≤ max s.1 1 ∧ max s.1 1 ≤ ((k + 1 : Nat) : Int) ∧ (0 : Int) ≤ 1 ∧ (1 : Int) ≤ ((k + 1 : Nat) : Int); omega) hq
        · refine p_iload_n (i := 26) rfl rfl ?_
          refine p_iconst (i := 27) rfl ?_
          refine p_iadd (i := 28) rfl ?_
          refine p_goto (i := 29) 48 rfl (by decide) ?_
          refine p_istore_n (i := 31) rfl rfl ?_
          refine p_iload_n (i := 32) rfl rfl ?_
          refine p_iload_n (i := 33) rfl rfl ?_
          refine p_max (i := 34) rfl lX6_122 ⟨rfl, rfl⟩ (by omega) (by omega) ?_
          refine p_istore_n (i := 35) rfl rfl ?_
          refine p_iinc (i := 36) rfl rfl rfl ?_
          refine p_goto (i := 37) 6 rfl (by decide) ?_
          rw [if_pos (by omega)] at hq
          exact ih (k + 1) _ (by omega) (by show 0 ≤ max s.1 (s.2 + 1) ∧ max s.1 (s.2 + 1) ≤ ((k + 1 : Nat) : Int) ∧ (0 : Int) ≤ s.2 + 1 ∧ s.2 + 1 ≤ ((k + 1 : Nat) : Int); omega) hq
  refine C_of okX6_thickest (by decide) (Nat.le_of_ble_eq_true rfl) ?_
  show P none mX6_thickest 0 [.ref p, .retAddr 0, .retAddr 0, .retAddr 0] [] _ _
  refine p_iconst (i := 0) rfl ?_
  refine p_istore_n (i := 1) rfl rfl ?_
  refine p_iconst (i := 2) rfl ?_
  refine p_istore_n (i := 3) rfl rfl ?_
  refine p_iconst (i := 4) rfl ?_
  refine p_istore_n (i := 5) rfl rfl ?_
  exact loop g.1.length 0 (0, 0) (by omega) (by decide) h
theorem x_takenFor {b : Bool} {M : AM} {p ns nw lb : Nat} {g : GS} {ln : LN} {x m : Int} {wi : Nat} {Q : Option Value → AM → Prop} (hP : PairB b M p ns nw g) (hL : LineA M lb ln) (hx : 0 ≤ x ∧ x < nS ln) (hm : 0 ≤ m ∧ m ≤ 99) (hw : wi < 2147483648) (h : Q (some (zI (tk ln g.1 x m wi))) M) : C mX6_takenFor [.ref p, .ref lb, zI x, zI m, zI (wi : Int)] M Q := by
  obtain ⟨⟨q1, q2, q3, q4, q5, q6, q7, q8, q9, q10, q11⟩, sc, wh, st, hs, lr, lf, lz, ⟨hp, hS, hW, hT, hH, hG, hR⟩, rL, rH, rG⟩ := id hP
  obtain ⟨⟨o1, o2, o3, o4, o5, o6, o7⟩, kf, bf, lc, lkf, ⟨hb, hk, hr, hc, ⟨gg, hg, hgi⟩, hrow⟩, hkb, hlk⟩ := id hL
  have hsb := sb_rng g.1 wi
  obtain ⟨n1, n2, n3, n4⟩ := o5 x.toNat (by omega)
  unfold tk veil at h
  refine C_of okX6_takenFor (by decide) (Nat.le_of_ble_eq_true rfl) ?_
  show P none mX6_takenFor 0 [.ref p, .ref lb, zI x, zI m, zI (wi : Int), .retAddr 0] [] _ _
  refine p_aload_n (i := 0) rfl rfl ?_
  refine p_iload (i := 1) rfl rfl ?_
  refine p_cV1 (i := 2) rfl ⟨lX6_116, rfl, rfl⟩ hp ⟨_, rfl, rfl⟩ rfl (x_strongestBut hP hw ?_)
  refine p_istore (i := 3) rfl rfl ?_
  refine p_aload_n (i := 4) rfl rfl ?_
  refine p_iload (i := 5) rfl rfl ?_
  refine p_cV1 (i := 6) rfl ⟨lX6_90, rfl, rfl⟩ hp ⟨_, rfl, rfl⟩ rfl (x_hasLayer hP (by omega) (fun q => ?_) (fun q => ?_))
  · refine p_if_eq (i := 7) 43 rfl (by decide) (by omega) (fun c14 => by exfalso; omega) (fun c14 => ?_)
    obtain ⟨e1, e2, e3⟩ := rL (sb g.1 wi).toNat (by omega)
    have e4 := q2 (sb g.1 wi).toNat (by omega)
    refine p_aload_n (i := 8) rfl rfl ?_
    refine p_getf (i := 9) rfl fX6_18 hp rfl ?_
    refine p_iload (i := 10) rfl rfl ?_
    refine p_iaX (i := 11) ((sb g.1 wi).toNat) rfl hT (by omega) (by omega) (by decide) ?_
    refine p_aload_n (i := 12) rfl rfl ?_
    refine p_iload_n (i := 13) rfl rfl ?_
    refine p_iload_n (i := 14) rfl rfl ?_
    refine p_cV2 (i := 15) rfl ⟨lX6_119, rfl, rfl⟩ hb ⟨_, rfl, rfl⟩ rfl (x_veil hL hx hm ?_)
    refine p_icmp_le (i := 16) 43 rfl (by decide) (by omega) (by omega) (fun c30 => ?_) (fun c30 => ?_)
    · refine p_iload_n (i := 22) rfl rfl ?_
      refine p_iret (i := 23) rfl rfl (rfl) ?_
      rw [if_neg (by omega)] at h
      exact h
    · refine p_aload_n (i := 17) rfl rfl ?_
      refine p_getf (i := 18) rfl fX6_9 hp rfl ?_
      refine p_iload (i := 19) rfl rfl ?_
      refine p_iaX (i := 20) ((sb g.1 wi).toNat) rfl hS (by omega) (by omega) (by decide) ?_
      refine p_goto (i := 21) 44 rfl (by decide) ?_
      refine p_iret (i := 23) rfl rfl (rfl) ?_
      rw [if_pos (by omega)] at h
      rw [e1]
      exact h
  · refine p_if_eq (i := 7) 43 rfl (by decide) (by omega) (fun c14 => ?_) (fun c14 => by exfalso; omega)
    refine p_iload_n (i := 22) rfl rfl ?_
    refine p_iret (i := 23) rfl rfl (rfl) ?_
    rw [if_neg (by omega)] at h
    exact h
theorem x_fading {b : Bool} {M : AM} {p ns nw : Nat} {g : GS} {k t : Int} {Q : Option Value → AM → Prop} (hP : PairB b M p ns nw g) (hk : 0 ≤ k ∧ k ≤ 3) (ht : 0 ≤ t ∧ t ≤ 1000) (h : Q (some (zI (fdg k t g.2.2.1))) M) : C mX6_fading [.ref p, zI k, zI t] M Q := by
  obtain ⟨⟨q1, q2, q3, q4, q5, q6, q7, q8, q9, q10, q11⟩, sc, wh, st, hs, lr, lf, lz, ⟨hp, hS, hW, hT, hH, hG, hR⟩, rL, rH, rG⟩ := id hP
  have hc : k = 0 ∨ k = 1 ∨ k = 2 ∨ k = 3 := by omega
  refine C_of okX6_fading (by decide) (Nat.le_of_ble_eq_true rfl) ?_
  show P none mX6_fading 0 [.ref p, zI k, zI t] [] _ _
  refine p_iload_n (i := 0) rfl rfl ?_
  rcases hc with rfl | rfl | rfl | rfl
  · refine p_tsIn (i := 1) 32 rfl (by omega) (by omega) (by rfl) (by decide) ?_
    refine p_iconst (i := 2) rfl ?_
    refine p_iret (i := 3) rfl rfl (rfl) ?_
    exact h
  ·
    refine p_tsIn (i := 1) 34 rfl (by omega) (by omega) (by rfl) (by decide) ?_
    refine p_iload_n (i := 4) rfl rfl ?_
    refine p_bipush (i := 5) rfl (by decide) ?_
    refine p_idiv (i := 6) rfl (by omega) (by omega) ?_
    refine p_iconst (i := 7) rfl ?_
    refine p_iadd (i := 8) rfl ?_
    refine p_iret (i := 9) rfl rfl (rfl) ?_
    exact h
  ·
    refine p_tsIn (i := 1) 57 rfl (by omega) (by omega) (by rfl) (by decide) ?_
    refine p_iconst (i := 20) rfl ?_
    refine p_iret (i := 21) rfl rfl (rfl) ?_
    exact h
  ·
    refine p_tsIn (i := 1) 41 rfl (by omega) (by omega) (by rfl) (by decide) ?_
    refine p_aload_n (i := 10) rfl rfl ?_
    refine p_getf (i := 11) rfl fX6_38 hp rfl ?_
    refine p_iconst (i := 12) rfl ?_
    refine p_irem (i := 13) rfl (by omega) (by omega) ?_
    refine p_iconst (i := 14) rfl ?_
    refine p_icmp_ne (i := 15) 55 rfl (by decide) (by omega) (by omega) (fun c48 => ?_) (fun c48 => ?_)
    · refine p_iconst (i := 18) rfl ?_
      refine p_iret (i := 19) rfl rfl (rfl) ?_
      have e : fdg 3 t g.2.2.1 = 0 := by unfold fdg; rw [if_neg (by decide), if_neg (by decide), if_pos rfl, if_neg (by omega)]
      rw [e] at h
      exact h
    · refine p_iconst (i := 16) rfl ?_
      refine p_goto (i := 17) 56 rfl (by decide) ?_
      refine p_iret (i := 19) rfl rfl (rfl) ?_
      have e : fdg 3 t g.2.2.1 = 3 := by unfold fdg; rw [if_neg (by decide), if_neg (by decide), if_pos rfl, if_pos (by omega)]
      rw [e] at h
      exact h
end
section
/-! ===== what is done with layers ===== -/
def PairW (M : AM) (p : Nat) (Ls : List LY) (w y : Int) (hs lr : Nat → Int) (lf lz : Int) : Prop := Ls.length ≤ 10 ∧ ∃ (sc wh st : Nat → Int), PairAt M p sc wh st hs lr lf lz (Ls.length : Nat) w y ∧ RLay sc wh st Ls
theorem PairB.w {b : Bool} {M : AM} {p ns nw : Nat} {g : GS} (h : PairB b M p ns nw g) : GOk ns nw g ∧ ∃ (hs lr : Nat → Int) (lf lz : Int), PairW M p g.1 g.2.1 g.2.2.1 hs lr lf lz ∧ RHis hs g.2.2.2.1 ∧ RLogB b lr lf lz g.2.2.2.2 := by
  obtain ⟨h0, sc, wh, st, hs, lr, lf, lz, h1, h2, h3, h4⟩ := h
  exact ⟨h0, hs, lr, lf, lz, ⟨h0.1, sc, wh, st, h1, h2⟩, h3, h4⟩
theorem PairW.b {b : Bool} {M : AM} {p ns nw : Nat} {g : GS} {hs lr : Nat → Int} {lf lz : Int} (h : PairW M p g.1 g.2.1 g.2.2.1 hs lr lf lz) (h0 : GOk ns nw g) (h3 : RHis hs g.2.2.2.1) (h4 : RLogB b lr lf lz g.2.2.2.2) : PairB b M p ns nw g := by
  obtain ⟨-, sc, wh, st, h1, h2⟩ := h
  exact ⟨h0, sc, wh, st, hs, lr, lf, lz, h1, h2, h3, h4⟩
def layL (Ls : List LY) (e : LY) : List LY := (if 10 ≤ Ls.length then Ls.eraseIdx (wk Ls).toNat else Ls) ++ [e]
def deepL (Ls : List LY) (w x gain : Int) : List LY × Int := if 0 ≤ fnd Ls w x then (Ls.set (fnd Ls w x).toNat (x, w, min 99 (lT Ls (fnd Ls w x).toNat + gain)), fnd Ls w x) else (layL Ls (x, w, gain), ((layL Ls (x, w, gain)).length : Int) - 1)
def fadeL (ln : LN) (y own : Int) : Nat → List LY → List LY
  | _, [] => []
  | i, e :: r => if (i : Int) = own then e :: fadeL ln y own (i + 1) r else if e.2.2 - fdg (kd ln e.1.toNat) e.2.2 y ≤ 0 then fadeL ln y own (i + 1) r else (e.1, e.2.1, e.2.2 - fdg (kd ln e.1.toNat) e.2.2 y) :: fadeL ln y own (i + 1) r
def nxt (ln : LN) (g : GS) (w : Int) : Int := lk ln w.toNat ((g.2.2.2.1.getD w.toNat 0).toNat % lkN ln w.toNat)
def passY (ln : LN) (g : GS) : GS := if 0 ≤ g.2.1 then
    (fadeL ln g.2.2.1 (deepL g.1 g.2.1 (nxt ln g g.2.1) (br ln (nxt ln g g.2.1).toNat / 10 + 1)).2 0 (deepL g.1 g.2.1 (nxt ln g g.2.1) (br ln (nxt ln g g.2.1).toNat / 10 + 1)).1, g.2.1, g.2.2.1 + 1, g.2.2.2.1.set g.2.1.toNat (g.2.2.2.1.getD g.2.1.toNat 0 + 1), logAdd g.2.2.2.2 (g.2.2.1, g.2.1, nxt ln g g.2.1, tk ln g.1 (nxt ln g g.2.1) 0 0))
  else (fadeL ln g.2.2.1 (-1) 0 g.1, g.2.1, g.2.2.1 + 1, g.2.2.2.1, g.2.2.2.2)
theorem er_getD {α : Type} (l : List α) (i j : Nat) (d : α) : (l.eraseIdx i).getD j d = if j < i then l.getD j d else l.getD (j + 1) d := by
  rw [List.getD_eq_getElem?_getD, List.getElem?_eraseIdx]
  split <;> rw [List.getD_eq_getElem?_getD]
theorem er_len {α : Type} {l : List α} {i : Nat} (h : i < l.length) : (l.eraseIdx i).length = l.length - 1 := List.length_eraseIdx_of_lt h
theorem st_getD {α : Type} (l : List α) (i j : Nat) (x d : α) (h : i < l.length) : (l.set i x).getD j d = if j = i then x else l.getD j d := by
  rw [List.getD_eq_getElem?_getD, List.getElem?_set]
  by_cases e : i = j
  · subst e; rw [if_pos rfl, if_pos h, if_pos rfl]; rfl
  · rw [if_neg e, if_neg (fun q => e q.symm), List.getD_eq_getElem?_getD]
def shf (f : Nat → Int) (k i : Nat) : Nat → Int := fun j => if k ≤ j ∧ j + 1 < i then f (j + 1) else f j
theorem shf_0 (f : Nat → Int) (k : Nat) : shf f k (k + 1) = f := by
  funext j
  unfold shf
  rw [if_neg (by omega)]
theorem shf_s (f : Nat → Int) (k i : Nat) (h : k < i) : zup (shf f k i) (i - 1) (shf f k i i) = shf f k (i + 1) := by
  funext j
  unfold shf zup
  by_cases e : j = i - 1
  · rw [if_pos e, if_neg (by omega), if_pos (by omega), show j + 1 = i by omega]
  · rw [if_neg e]
    show (if k ≤ j ∧ j + 1 < i then f (j + 1) else f j) = _
    by_cases e2 : k ≤ j ∧ j + 1 < i
    · rw [if_pos e2, if_pos (by omega)]
    · rw [if_neg e2, if_neg (by omega)]
theorem RLay.er {sc wh st : Nat → Int} {Ls : List LY} {k : Nat} (h : RLay sc wh st Ls) (hk : k < Ls.length) : RLay (shf sc k Ls.length) (shf wh k Ls.length) (shf st k Ls.length) (Ls.eraseIdx k) := by
  intro j hj
  rw [er_len hk] at hj
  unfold lS lW lT shf
  rw [er_getD]
  by_cases e : j < k
  · rw [if_pos e, if_neg (by omega), if_neg (by omega), if_neg (by omega)]
    exact h j (by omega)
  · rw [if_neg e, if_pos (by omega), if_pos (by omega), if_pos (by omega)]
    exact h (j + 1) (by omega)
theorem RLay.app {sc wh st : Nat → Int} {Ls : List LY} {x w t : Int} (h : RLay sc wh st Ls) : RLay (zup sc Ls.length x) (zup wh Ls.length w) (zup st Ls.length t) (Ls ++ [(x, w, t)]) := by
  intro j hj
  rw [List.length_append] at hj
  unfold lS lW lT
  by_cases e : j = Ls.length
  · subst e
    rw [gd_app_last, zup_e, zup_e, zup_e]
    exact ⟨rfl, rfl, rfl⟩
  · have hj' : j < Ls.length := by simp at hj; omega
    rw [gd_app_l hj', zup_n e, zup_n e, zup_n e]
    exact h j hj'
theorem RLay.setT {sc wh st : Nat → Int} {Ls : List LY} {k : Nat} {t : Int} (h : RLay sc wh st Ls) (hk : k < Ls.length) : RLay sc wh (zup st k t) (Ls.set k (lS Ls k, lW Ls k, t)) := by
  intro j hj
  rw [List.length_set] at hj
  obtain ⟨h1, h2, h3⟩ := h j hj
  unfold lS at h1
  unfold lW at h2
  unfold lT at h3
  unfold lS lW lT
  rw [st_getD _ _ _ _ _ hk]
  by_cases e : j = k
  · subst e
    rw [if_pos rfl, zup_e]
    exact ⟨h1, h2, rfl⟩
  · rw [if_neg e, zup_n e]
    exact ⟨h1, h2, h3⟩
theorem ly_drop {Ls : List LY} {k : Nat} (h : k < Ls.length) : Ls.drop k = (lS Ls k, lW Ls k, lT Ls k) :: Ls.drop (k + 1) := by
  rw [List.drop_eq_getElem_cons h]
  unfold lS lW lT
  rw [List.getD_eq_getElem?_getD, List.getElem?_eq_getElem h]
  rfl
theorem wk_rng {Ls : List LY} (h0 : 0 < Ls.length) (h : ∀ k, k < Ls.length → lT Ls k ≤ 99) : 0 ≤ wk Ls ∧ wk Ls < Ls.length := by
  have hi := fo_inv (step := wkStep Ls) (fun j s => s.2 ≤ 100 ∧ s.1 < j ∧ (0 < j → 0 ≤ s.1) ∧ (j = 0 → s.2 = 100)) Ls.length 0 (-1, 100) ⟨by decide, by decide, fun q => absurd q (by decide), fun _ => rfl⟩ (fun j t _ hj ⟨a1, a2, a3, a4⟩ => by
    have hj := h j (by omega)
    unfold wkStep
    split
    · exact ⟨by show lT Ls j ≤ 100; omega, by show (j : Int) < ((j + 1 : Nat) : Int); omega, fun _ => by show (0 : Int) ≤ (j : Int); omega, fun q => by omega⟩
    · refine ⟨a1, by omega, fun _ => a3 ?_, fun q => by omega⟩
      rcases Nat.eq_zero_or_pos j with e | e
      · have := a4 e; omega
      · exact e)
  rw [Nat.zero_add] at hi
  exact ⟨hi.2.2.1 h0, hi.2.1⟩
theorem fadeL_len (ln : LN) (y own : Int) : ∀ (l : List LY) (i : Nat), (fadeL ln y own i l).length ≤ l.length
  | [], _ => Nat.le_refl _
  | e :: r, i => by
    unfold fadeL
    have := fadeL_len ln y own r (i + 1)
    split
    · simp; omega
    · split <;> simp <;> omega
theorem fdg_nn {k t y : Int} (ht : 0 ≤ t) : 0 ≤ fdg k t y := by
  unfold fdg
  split
  · decide
  · split
    · omega
    · split
      · split <;> decide
      · decide
theorem fadeL_mem (ln : LN) (y own : Int) : ∀ (l : List LY) (i : Nat) (e : LY), (∀ a ∈ l, 1 ≤ a.2.2) → e ∈ fadeL ln y own i l → ∃ a ∈ l, e.1 = a.1 ∧ e.2.1 = a.2.1 ∧ 1 ≤ e.2.2 ∧ e.2.2 ≤ a.2.2
  | [], _, _, _, h => by cases h
  | a :: r, i, e, h1, h => by
    unfold fadeL at h
    have ha := h1 a List.mem_cons_self
    have hn := fdg_nn (k := kd ln a.1.toNat) (y := y) (t := a.2.2) (by omega)
    have rec' : e ∈ fadeL ln y own (i + 1) r → ∃ b ∈ a :: r, e.1 = b.1 ∧ e.2.1 = b.2.1 ∧ 1 ≤ e.2.2 ∧ e.2.2 ≤ b.2.2 := fun q => by
      obtain ⟨b, hb, z⟩ := fadeL_mem ln y own r (i + 1) e (fun c hc => h1 c (List.mem_cons_of_mem _ hc)) q
      exact ⟨b, List.mem_cons_of_mem _ hb, z⟩
    split at h
    · rcases List.mem_cons.mp h with q | q
      · subst q; exact ⟨e, List.mem_cons_self, rfl, rfl, ha, Int.le_refl _⟩
      · exact rec' q
    · split at h
      · exact rec' h
      · rcases List.mem_cons.mp h with q | q
        · subst q; exact ⟨a, List.mem_cons_self, rfl, rfl, by show 1 ≤ a.2.2 - _; omega, by show a.2.2 - _ ≤ a.2.2; omega⟩
        · exact rec' q
theorem ly_mem {Ls : List LY} {k : Nat} (h : k < Ls.length) : (lS Ls k, lW Ls k, lT Ls k) ∈ Ls := by
  unfold lS lW lT
  rw [List.getD_eq_getElem?_getD, List.getElem?_eq_getElem h]
  exact List.getElem_mem h
theorem ly_of_mem {Ls : List LY} {e : LY} (h : e ∈ Ls) : ∃ k, k < Ls.length ∧ e = (lS Ls k, lW Ls k, lT Ls k) := by
  obtain ⟨k, hk, he⟩ := List.getElem_of_mem h
  refine ⟨k, hk, ?_⟩
  unfold lS lW lT
  rw [List.getD_eq_getElem?_getD, List.getElem?_eq_getElem hk, ← he]
  rfl
/-- every layer within its bounds -/
def LyOk (ns nw : Nat) (e : LY) : Prop := 0 ≤ e.1 ∧ e.1 < ns ∧ -1 ≤ e.2.1 ∧ e.2.1 < nw ∧ 1 ≤ e.2.2 ∧ e.2.2 ≤ 99
def LsOk (ns nw : Nat) (Ls : List LY) : Prop := Ls.length ≤ 10 ∧ ∀ e ∈ Ls, LyOk ns nw e
theorem LsOk.at {ns nw : Nat} {Ls : List LY} (h : LsOk ns nw Ls) : ∀ k, k < Ls.length → 0 ≤ lS Ls k ∧ lS Ls k < ns ∧ -1 ≤ lW Ls k ∧ lW Ls k < nw ∧ 1 ≤ lT Ls k ∧ lT Ls k ≤ 99 := fun k hk => h.2 _ (ly_mem hk)
theorem GOk.ls {ns nw : Nat} {g : GS} (h : GOk ns nw g) : LsOk ns nw g.1 := ⟨h.1, fun e he => by
  obtain ⟨k, hk, rfl⟩ := ly_of_mem he
  exact h.2.1 k hk⟩
theorem LsOk.er {ns nw k : Nat} {Ls : List LY} (h : LsOk ns nw Ls) : LsOk ns nw (Ls.eraseIdx k) := ⟨Nat.le_trans (List.length_eraseIdx_le ..) h.1, fun e he => h.2 e (List.mem_of_mem_eraseIdx he)⟩
theorem LsOk.lay {ns nw : Nat} {Ls : List LY} {e : LY} (h : LsOk ns nw Ls) (he : LyOk ns nw e) : LsOk ns nw (layL Ls e) := by
  unfold layL
  split
  · rename_i c
    have hw := wk_rng (Ls := Ls) (by omega) (fun k hk => (h.at k hk).2.2.2.2.2)
    refine ⟨?_, fun a ha => ?_⟩
    · rw [List.length_append, er_len (by omega)]; have := h.1; simp; omega
    · rcases List.mem_append.mp ha with q | q
      · exact h.2 a (List.mem_of_mem_eraseIdx q)
      · rw [List.mem_singleton.mp q]; exact he
  · rename_i c
    refine ⟨by simp; omega, fun a ha => ?_⟩
    rcases List.mem_append.mp ha with q | q
    · exact h.2 a q
    · rw [List.mem_singleton.mp q]; exact he
theorem LsOk.fade {ns nw : Nat} {Ls : List LY} {ln : LN} {y own : Int} {i : Nat} (h : LsOk ns nw Ls) : LsOk ns nw (fadeL ln y own i Ls) := by
  refine ⟨Nat.le_trans (fadeL_len ln y own Ls i) h.1, fun e he => ?_⟩
  obtain ⟨a, ha, e1, e2, e3, e4⟩ := fadeL_mem ln y own Ls i e (fun b hb => (h.2 b hb).2.2.2.2.1) he
  obtain ⟨a1, a2, a3, a4, a5, a6⟩ := h.2 a ha
  exact ⟨by rw [e1]; exact a1, by rw [e1]; exact a2, by rw [e2]; exact a3, by rw [e2]; exact a4, e3, by omega⟩
theorem fnd_rng (Ls : List LY) (w x : Int) : fnd Ls w x = -1 ∨ (0 ≤ fnd Ls w x ∧ fnd Ls w x < Ls.length ∧ lW Ls (fnd Ls w x).toNat = w ∧ lS Ls (fnd Ls w x).toNat = x) := by
  have h := fi_rng (p := fun k => decide (lW Ls k = w ∧ lS Ls k = x)) Ls.length 0
  rcases h with h | ⟨h1, h2, h3⟩
  · exact Or.inl h
  · rw [decide_eq_true_eq] at h3
    exact Or.inr ⟨by unfold fnd; omega, by unfold fnd; omega, h3.1, h3.2⟩
theorem LsOk.deep {ns nw : Nat} {Ls : List LY} {w x gain : Int} (h : LsOk ns nw Ls) (hw : 0 ≤ w ∧ w < nw) (hx : 0 ≤ x ∧ x < ns) (hg : 1 ≤ gain ∧ gain ≤ 10) : LsOk ns nw (deepL Ls w x gain).1 ∧ -1 ≤ (deepL Ls w x gain).2 ∧ (deepL Ls w x gain).2 < (deepL Ls w x gain).1.length := by
  unfold deepL
  rcases fnd_rng Ls w x with e | ⟨e1, e2, e3, e4⟩
  · rw [if_neg (by omega)]
    exact ⟨h.lay ⟨hx.1, hx.2, by show -1 ≤ w; omega, hw.2, hg.1, by show gain ≤ 99; omega⟩, by show (-1 : Int) ≤ _ - 1; omega, by show ((layL Ls (x, w, gain)).length : Int) - 1 < (layL Ls (x, w, gain)).length; omega⟩
  · rw [if_pos e1]
    have ht := h.at (fnd Ls w x).toNat (by omega)
    refine ⟨⟨by rw [List.length_set]; exact h.1, fun a ha => ?_⟩, by show (-1 : Int) ≤ fnd Ls w x; omega, by show fnd Ls w x < ((Ls.set _ _).length : Int); rw [List.length_set]; exact e2⟩
    rcases List.mem_or_eq_of_mem_set ha with q | q
    · exact h.2 a q
    · subst q
      exact ⟨hx.1, hx.2, by show -1 ≤ w; omega, hw.2, by show 1 ≤ min 99 _; omega, by show min 99 _ ≤ (99 : Int); omega⟩
/-- the layers as they are on the way down -/
def cur (ln : LN) (y own : Int) (Ls : List LY) (j : Nat) : List LY := Ls.take j ++ fadeL ln y own j (Ls.drop j)
theorem ly_take {Ls : List LY} {j : Nat} (h : j < Ls.length) : Ls.take (j + 1) = Ls.take j ++ [(lS Ls j, lW Ls j, lT Ls j)] := by
  rw [List.take_succ, List.getElem?_eq_getElem h]
  unfold lS lW lT
  rw [List.getD_eq_getElem?_getD, List.getElem?_eq_getElem h]
  rfl
theorem cur_in {ln : LN} {y own : Int} {Ls : List LY} {j : Nat} (h : j < Ls.length) : cur ln y own Ls (j + 1) = Ls.take j ++ (lS Ls j, lW Ls j, lT Ls j) :: fadeL ln y own (j + 1) (Ls.drop (j + 1)) := by
  unfold cur
  rw [ly_take h, List.append_assoc]
  rfl
theorem cur_0 {ln : LN} {y own : Int} {Ls : List LY} : cur ln y own Ls 0 = fadeL ln y own 0 Ls := rfl
theorem cur_big {ln : LN} {y own : Int} {Ls : List LY} {j : Nat} (h : Ls.length ≤ j) : cur ln y own Ls j = Ls := by
  unfold cur
  rw [List.take_of_length_le h, List.drop_of_length_le h]
  unfold fadeL
  rw [List.append_nil]
theorem cur_len {ln : LN} {y own : Int} {Ls : List LY} {j : Nat} : (cur ln y own Ls j).length ≤ Ls.length := by
  unfold cur
  have := fadeL_len ln y own (Ls.drop j) j
  rw [List.length_append, List.length_take]
  rw [List.length_drop] at this
  omega
theorem tk_len {Ls : List LY} {j : Nat} (h : j < Ls.length) : (Ls.take j).length = j := by rw [List.length_take]; omega
theorem mid_getD {α : Type} {a b : List α} {x d : α} {j : Nat} (h : a.length = j) : (a ++ x :: b).getD j d = x := by
  subst h
  rw [List.getD_eq_getElem?_getD, List.getElem?_append_right (Nat.le_refl _), Nat.sub_self]
  rfl
theorem mid_set {α : Type} {a b : List α} {x z : α} {j : Nat} (h : a.length = j) : (a ++ x :: b).set j z = a ++ z :: b := by
  subst h
  rw [List.set_append, if_neg (Nat.lt_irrefl _), Nat.sub_self]
  rfl
theorem mid_er {α : Type} {a b : List α} {x : α} {j : Nat} (h : a.length = j) : (a ++ x :: b).eraseIdx j = a ++ b := by
  subst h
  rw [List.eraseIdx_append_of_length_le (Nat.le_refl _), Nat.sub_self]
  rfl
theorem cur_at {ln : LN} {y own : Int} {Ls : List LY} {j : Nat} (h : j < Ls.length) : lS (cur ln y own Ls (j + 1)) j = lS Ls j ∧ lW (cur ln y own Ls (j + 1)) j = lW Ls j ∧ lT (cur ln y own Ls (j + 1)) j = lT Ls j ∧ j < (cur ln y own Ls (j + 1)).length := by
  rw [cur_in h]
  refine ⟨?_, ?_, ?_, ?_⟩
  · unfold lS; rw [mid_getD (tk_len h)]
  · unfold lW; rw [mid_getD (tk_len h)]
  · unfold lT; rw [mid_getD (tk_len h)]
  · rw [List.length_append, tk_len h]; simp
theorem fadeL_cons {ln : LN} {y own : Int} {e : LY} {r : List LY} {i : Nat} : fadeL ln y own i (e :: r) = if (i : Int) = own then e :: fadeL ln y own (i + 1) r else if e.2.2 - fdg (kd ln e.1.toNat) e.2.2 y ≤ 0 then fadeL ln y own (i + 1) r else (e.1, e.2.1, e.2.2 - fdg (kd ln e.1.toNat) e.2.2 y) :: fadeL ln y own (i + 1) r := rfl
theorem cur_keep {ln : LN} {y own : Int} {Ls : List LY} {j : Nat} (h : j < Ls.length) (ho : (j : Int) = own) : cur ln y own Ls (j + 1) = cur ln y own Ls j := by
  rw [cur_in h]
  unfold cur
  rw [ly_drop h, fadeL_cons, if_pos ho]
theorem cur_set {ln : LN} {y own : Int} {Ls : List LY} {j : Nat} (h : j < Ls.length) (ho : ¬ (j : Int) = own) (ht : 0 < lT Ls j - fdg (kd ln (lS Ls j).toNat) (lT Ls j) y) : (cur ln y own Ls (j + 1)).set j (lS Ls j, lW Ls j, lT Ls j - fdg (kd ln (lS Ls j).toNat) (lT Ls j) y) = cur ln y own Ls j := by
  rw [cur_in h, mid_set (tk_len h)]
  unfold cur
  rw [ly_drop h, fadeL_cons, if_neg ho, if_neg (by show ¬ lT Ls j - fdg (kd ln (lS Ls j).toNat) (lT Ls j) y ≤ 0; omega)]
theorem cur_er {ln : LN} {y own : Int} {Ls : List LY} {j : Nat} {z : LY} (h : j < Ls.length) (ho : ¬ (j : Int) = own) (ht : lT Ls j - fdg (kd ln (lS Ls j).toNat) (lT Ls j) y ≤ 0) : ((cur ln y own Ls (j + 1)).set j z).eraseIdx j = cur ln y own Ls j := by
  rw [cur_in h, mid_set (tk_len h), mid_er (tk_len h)]
  unfold cur
  rw [ly_drop h, fadeL_cons, if_neg ho, if_pos ht]
theorem P_L {sc : Option (Nat × (Nat → Int32))} {mr : MR} {pc : Nat} {L L' st : List Value} {M : AM} {Q : Option Value → AM → Prop} (e : L = L') (h : P sc mr pc L' st M Q) : P sc mr pc L st M Q := e ▸ h
theorem PairW.fi {M M' : AM} {p a n : Nat} {Ls : List LY} {w y : Int} {hs lr : Nat → Int} {lf lz : Int} (h : PairW M p Ls w y hs lr lf lz) (hf : FrI a n M M') (hd : p + 7 ≤ a ∨ a + n ≤ p) : PairW M' p Ls w y hs lr lf lz := by
  obtain ⟨h0, sc, wh, st, h1, h2⟩ := h
  exact ⟨h0, sc, wh, st, h1.fr hf (fun q hq => by show q < a ∨ a + n ≤ q; omega), h2⟩
end
section
-- Pair of the class: what is done with it
theorem x_hasLayerW {M : AM} {p : Nat} {Ls : List LY} {w y : Int} {hs lr : Nat → Int} {lf lz : Int} {k : Int} {Q : Option Value → AM → Prop} (hP : PairW M p Ls w y hs lr lf lz) (hk : -2147483648 ≤ k ∧ k ≤ 2147483647) (h1 : 0 ≤ k ∧ k < Ls.length → Q (some (zI 1)) M) (h0 : ¬ (0 ≤ k ∧ k < Ls.length) → Q (some (zI 0)) M) : C mX6_hasLayer [.ref p, zI k] M Q := by
  obtain ⟨q1, sc, wh, st, ⟨hp, hS, hW, hT, hH, hG, hR⟩, rL⟩ := id hP
  refine C_of okX6_hasLayer (by decide) (Nat.le_of_ble_eq_true rfl) ?_
  show P none mX6_hasLayer 0 [.ref p, zI k] [] _ _
  refine p_iload_n (i := 0) rfl rfl ?_
  refine p_if_lt (i := 1) 22 rfl (by decide) (by omega) (fun c1 => ?_) (fun c1 => ?_)
  · refine p_iconst (i := 11) rfl ?_
    refine p_iret (i := 12) rfl rfl (by decide) ?_
    exact h0 (by omega)
  · refine p_iload_n (i := 2) rfl rfl ?_
    refine p_aload_n (i := 3) rfl rfl ?_
    refine p_getf (i := 4) rfl fX6_31 hp rfl ?_
    refine p_icmp_ge (i := 5) 22 rfl (by decide) (by omega) (by omega) (fun c9 => ?_) (fun c9 => ?_)
    · refine p_iconst (i := 11) rfl ?_
      refine p_iret (i := 12) rfl rfl (by decide) ?_
      exact h0 (by omega)
    · refine p_iload_n (i := 6) rfl rfl ?_
      refine p_bipush (i := 7) rfl (by decide) ?_
      refine p_icmp_ge (i := 8) 22 rfl (by decide) (by omega) (by omega) (fun c15 => by exfalso; omega) (fun c15 => ?_)
      refine p_iconst (i := 9) rfl ?_
      refine p_goto (i := 10) 23 rfl (by decide) ?_
      refine p_iret (i := 12) rfl rfl (by decide) ?_
      exact h1 (by omega)
theorem x_fadingW {M : AM} {p : Nat} {Ls : List LY} {w y : Int} {hs lr : Nat → Int} {lf lz : Int} {k t : Int} {Q : Option Value → AM → Prop} (hP : PairW M p Ls w y hs lr lf lz) (hy : 0 ≤ y ∧ y ≤ 1000000) (hk : 0 ≤ k ∧ k ≤ 3) (ht : 0 ≤ t ∧ t ≤ 1000) (h : Q (some (zI (fdg k t y))) M) : C mX6_fading [.ref p, zI k, zI t] M Q := by
  obtain ⟨q1, sc, wh, st, ⟨hp, hS, hW, hT, hH, hG, hR⟩, rL⟩ := id hP
  have hc : k = 0 ∨ k = 1 ∨ k = 2 ∨ k = 3 := by omega
  refine C_of okX6_fading (by decide) (Nat.le_of_ble_eq_true rfl) ?_
  show P none mX6_fading 0 [.ref p, zI k, zI t] [] _ _
  refine p_iload_n (i := 0) rfl rfl ?_
  rcases hc with rfl | rfl | rfl | rfl
  · refine p_tsIn (i := 1) 32 rfl (by omega) (by omega) (by rfl) (by decide) ?_
    refine p_iconst (i := 2) rfl ?_
    refine p_iret (i := 3) rfl rfl (rfl) ?_
    exact h
  ·
    refine p_tsIn (i := 1) 34 rfl (by omega) (by omega) (by rfl) (by decide) ?_
    refine p_iload_n (i := 4) rfl rfl ?_
    refine p_bipush (i := 5) rfl (by decide) ?_
    refine p_idiv (i := 6) rfl (by omega) (by omega) ?_
    refine p_iconst (i := 7) rfl ?_
    refine p_iadd (i := 8) rfl ?_
    refine p_iret (i := 9) rfl rfl (rfl) ?_
    exact h
  ·
    refine p_tsIn (i := 1) 57 rfl (by omega) (by omega) (by rfl) (by decide) ?_
    refine p_iconst (i := 20) rfl ?_
    refine p_iret (i := 21) rfl rfl (rfl) ?_
    exact h
  ·
    refine p_tsIn (i := 1) 41 rfl (by omega) (by omega) (by rfl) (by decide) ?_
    refine p_aload_n (i := 10) rfl rfl ?_
    refine p_getf (i := 11) rfl fX6_38 hp rfl ?_
    refine p_iconst (i := 12) rfl ?_
    refine p_irem (i := 13) rfl (by omega) (by omega) ?_
    refine p_iconst (i := 14) rfl ?_
    refine p_icmp_ne (i := 15) 55 rfl (by decide) (by omega) (by omega) (fun c48 => ?_) (fun c48 => ?_)
    · refine p_iconst (i := 18) rfl ?_
      refine p_iret (i := 19) rfl rfl (rfl) ?_
      have e : fdg 3 t y = 0 := by unfold fdg; rw [if_neg (by decide), if_neg (by decide), if_pos rfl, if_neg (by omega)]
      rw [e] at h
      exact h
    · refine p_iconst (i := 16) rfl ?_
      refine p_goto (i := 17) 56 rfl (by decide) ?_
      refine p_iret (i := 19) rfl rfl (rfl) ?_
      have e : fdg 3 t y = 3 := by unfold fdg; rw [if_neg (by decide), if_neg (by decide), if_pos rfl, if_pos (by omega)]
      rw [e] at h
      exact h
theorem x_remove {M : AM} {p : Nat} {Ls : List LY} {w y : Int} {hs lr : Nat → Int} {lf lz : Int} {k : Int} {Q : Option Value → AM → Prop} (hP : PairW M p Ls w y hs lr lf lz) (hk : 0 ≤ k ∧ k < Ls.length) (h : ∀ M', PairW M' p (Ls.eraseIdx k.toNat) w y hs lr lf lz → FrI p 7 M M' → Q none M') : C mX6_remove [.ref p, zI k] M Q := by
  obtain ⟨q1, sc, wh, st, ⟨hp, hS, hW, hT, hH, hG, hR⟩, rL⟩ := id hP
  obtain ⟨kn, hkn⟩ : ∃ kn : Nat, kn = k.toNat := ⟨_, rfl⟩
  rw [← hkn] at h
  have loop : ∀ (f i : Nat) (M1 : AM), i + f = Ls.length → kn + 1 ≤ i → PairAt M1 p (shf sc kn i) (shf wh kn i) (shf st kn i) hs lr lf lz (Ls.length : Nat) w y → FrI p 7 M M1 → P none mX6_remove 13 [.ref p, zI k, zI (i : Int)] []  M1 Q := by
    intro f
    induction f with
    | zero =>
      intro i M hi hki hA fr
      obtain ⟨hp, hS, hW, hT, hH, hG, hR⟩ := hA
      refine p_iload_n (i := 9) rfl rfl ?_
      refine p_aload_n (i := 10) rfl rfl ?_
      refine p_getf (i := 11) rfl fX6_31 hp rfl ?_
      refine p_icmp_ge (i := 12) 75 rfl (by decide) (by omega) (by omega) (fun c18 => ?_) (fun c18 => by exfalso; omega)
      refine p_aload_n (i := 48) rfl rfl ?_
      refine p_dup (i := 49) rfl rfl ?_
      refine p_getf (i := 50) rfl fX6_31 hp rfl ?_
      refine p_iconst (i := 51) rfl ?_
      refine p_isub (i := 52) rfl ?_
      refine p_puti (i := 53) rfl gX6_31 hp rfl (P_gen fun M e => ?_)
      have hS := aupN e hS (by omega)
      have hW := aupN e hW (by omega)
      have hT := aupN e hT (by omega)
      have hH := aupN e hH (by omega)
      have hG := aupN e hG (by omega)
      have hR := aupN e hR (by omega)
      have fr := fr.up e (by omega)
      have hp := aupE e
      refine p_ret (i := 54) rfl rfl ?_
      have e : (Ls.length : Int) - 1 = ((Ls.eraseIdx kn).length : Nat) := by rw [er_len (by omega)]; omega
      rw [e] at hp
      obtain rfl : i = Ls.length := by omega
      exact h M ⟨by rw [er_len (by omega)]; omega, _, _, _, ⟨hp, hS, hW, hT, hH, hG, hR⟩, rL.er (by omega)⟩ fr
    | succ f ih =>
      intro i M hi hki hA fr
      obtain ⟨hp, hS, hW, hT, hH, hG, hR⟩ := hA
      refine p_iload_n (i := 9) rfl rfl ?_
      refine p_aload_n (i := 10) rfl rfl ?_
      refine p_getf (i := 11) rfl fX6_31 hp rfl ?_
      refine p_icmp_ge (i := 12) 75 rfl (by decide) (by omega) (by omega) (fun c18 => by exfalso; omega) (fun c18 => ?_)
      refine p_iload_n (i := 13) rfl rfl ?_
      refine p_bipush (i := 14) rfl (by decide) ?_
      refine p_icmp_ge (i := 15) 75 rfl (by decide) (by omega) (by omega) (fun c24 => by exfalso; omega) (fun c24 => ?_)
      refine p_aload_n (i := 16) rfl rfl ?_
      refine p_getf (i := 17) rfl fX6_9 hp rfl ?_
      refine p_iload_n (i := 18) rfl rfl ?_
      refine p_iconst (i := 19) rfl ?_
      refine p_isub (i := 20) rfl ?_
      refine p_aload_n (i := 21) rfl rfl ?_
      refine p_getf (i := 22) rfl fX6_9 hp rfl ?_
      refine p_iload_n (i := 23) rfl rfl ?_
      refine p_iaX (i := 24) _ rfl hS rfl (by omega) (by decide) ?_
      refine p_isX (i := 25) (i - 1) rfl hS (by omega) (by omega) (by decide) (P_gen fun M e => ?_)
      have hp := aupN e hp (by omega)
      have hW := aupN e hW (by omega)
      have hT := aupN e hT (by omega)
      have hH := aupN e hH (by omega)
      have hG := aupN e hG (by omega)
      have hR := aupN e hR (by omega)
      have fr := fr.up e (by omega)
      have hS := aupE e
      refine p_aload_n (i := 26) rfl rfl ?_
      refine p_getf (i := 27) rfl fX6_15 hp rfl ?_
      refine p_iload_n (i := 28) rfl rfl ?_
      refine p_iconst (i := 29) rfl ?_
      refine p_isub (i := 30) rfl ?_
      refine p_aload_n (i := 31) rfl rfl ?_
      refine p_getf (i := 32) rfl fX6_15 hp rfl ?_
      refine p_iload_n (i := 33) rfl rfl ?_
      refine p_iaX (i := 34) _ rfl hW rfl (by omega) (by decide) ?_
      refine p_isX (i := 35) (i - 1) rfl hW (by omega) (by omega) (by decide) (P_gen fun M e => ?_)
      have hp := aupN e hp (by omega)
      have hS := aupN e hS (by omega)
      have hT := aupN e hT (by omega)
      have hH := aupN e hH (by omega)
      have hG := aupN e hG (by omega)
      have hR := aupN e hR (by omega)
      have fr := fr.up e (by omega)
      have hW := aupE e
      refine p_aload_n (i := 36) rfl rfl ?_
      refine p_getf (i := 37) rfl fX6_18 hp rfl ?_
      refine p_iload_n (i := 38) rfl rfl ?_
      refine p_iconst (i := 39) rfl ?_
      refine p_isub (i := 40) rfl ?_
      refine p_aload_n (i := 41) rfl rfl ?_
      refine p_getf (i := 42) rfl fX6_18 hp rfl ?_
      refine p_iload_n (i := 43) rfl rfl ?_
      refine p_iaX (i := 44) _ rfl hT rfl (by omega) (by decide) ?_
      refine p_isX (i := 45) (i - 1) rfl hT (by omega) (by omega) (by decide) (P_gen fun M e => ?_)
      have hp := aupN e hp (by omega)
      have hS := aupN e hS (by omega)
      have hW := aupN e hW (by omega)
      have hH := aupN e hH (by omega)
      have hG := aupN e hG (by omega)
      have hR := aupN e hR (by omega)
      have fr := fr.up e (by omega)
      have hT := aupE e
      refine p_iinc (i := 46) rfl rfl rfl ?_
      refine p_goto (i := 47) 13 rfl (by decide) ?_
      rw [shf_s _ _ _ (by omega)] at hS hW hT
      exact ih (i + 1) M (by omega) (by omega) ⟨hp, hS, hW, hT, hH, hG, hR⟩ fr
  refine C_of okX6_remove (by decide) (Nat.le_of_ble_eq_true rfl) ?_
  show P none mX6_remove 0 [.ref p, zI k, .retAddr 0] [] _ _
  refine p_aload_n (i := 0) rfl rfl ?_
  refine p_iload_n (i := 1) rfl rfl ?_
  refine p_cV1 (i := 2) rfl ⟨lX6_90, rfl, rfl⟩ hp ⟨_, rfl, rfl⟩ rfl (x_hasLayerW hP (by omega) (fun q => ?_) (fun q => absurd hk q))
  · refine p_if_ne (i := 3) 9 rfl (by decide) (by omega) (fun c5 => ?_) (fun c5 => by exfalso; omega)
    refine p_iload_n (i := 5) rfl rfl ?_
    refine p_iconst (i := 6) rfl ?_
    refine p_iadd (i := 7) rfl ?_
    refine p_istore_n (i := 8) rfl rfl ?_
    have e : k + 1 = ((kn + 1 : Nat) : Int) := by omega
    rw [e]
    exact loop (Ls.length - (kn + 1)) (kn + 1) M (by omega) (by omega) (by rw [shf_0, shf_0, shf_0]; exact ⟨hp, hS, hW, hT, hH, hG, hR⟩) FrI.rf
theorem x_lay {b : Bool} {M : AM} {p ns nw : Nat} {g : GS} {x w t : Int} {Q : Option Value → AM → Prop} (hP : PairB b M p ns nw g) (he : LyOk ns nw (x, w, t)) (h : ∀ M', PairB b M' p ns nw (layL g.1 (x, w, t), g.2) → FrI p 7 M M' → Q none M') : C mX6_lay [.ref p, zI x, zI w, zI t] M Q := by
  obtain ⟨h0, hs, lr, lf, lz, hPW, rH, rG⟩ := hP.w
  have hok := h0.ls
  have hok2 := hok.lay he
  have tail : ∀ (M1 : AM) (Ls : List LY), Ls.length < 10 → layL g.1 (x, w, t) = Ls ++ [(x, w, t)] → PairW M1 p Ls g.2.1 g.2.2.1 hs lr lf lz → FrI p 7 M M1 → P none mX6_lay 17 [.ref p, zI x, zI w, zI t] []  M1 Q := by
    intro M Ls hl hE hPW fr
    obtain ⟨q1, sc, wh, st, ⟨hp, hS, hW, hT, hH, hG, hR⟩, rL⟩ := id hPW
    refine p_aload_n (i := 8) rfl rfl ?_
    refine p_getf (i := 9) rfl fX6_31 hp rfl ?_
    refine p_if_lt (i := 10) 73 rfl (by decide) (by omega) (fun c21 => by exfalso; omega) (fun c21 => ?_)
    refine p_aload_n (i := 11) rfl rfl ?_
    refine p_getf (i := 12) rfl fX6_31 hp rfl ?_
    refine p_bipush (i := 13) rfl (by decide) ?_
    refine p_icmp_ge (i := 14) 73 rfl (by decide) (by omega) (by omega) (fun c30 => by exfalso; omega) (fun c30 => ?_)
    refine p_aload_n (i := 15) rfl rfl ?_
    refine p_getf (i := 16) rfl fX6_9 hp rfl ?_
    refine p_aload_n (i := 17) rfl rfl ?_
    refine p_getf (i := 18) rfl fX6_31 hp rfl ?_
    refine p_iload_n (i := 19) rfl rfl ?_
    refine p_isX (i := 20) _ rfl hS rfl (by omega) (by decide) (P_gen fun M e => ?_)
    have hp := aupN e hp (by omega)
    have hW := aupN e hW (by omega)
    have hT := aupN e hT (by omega)
    have hH := aupN e hH (by omega)
    have hG := aupN e hG (by omega)
    have hR := aupN e hR (by omega)
    have fr := fr.up e (by omega)
    have hS := aupE e
    refine p_aload_n (i := 21) rfl rfl ?_
    refine p_getf (i := 22) rfl fX6_15 hp rfl ?_
    refine p_aload_n (i := 23) rfl rfl ?_
    refine p_getf (i := 24) rfl fX6_31 hp rfl ?_
    refine p_iload_n (i := 25) rfl rfl ?_
    refine p_isX (i := 26) _ rfl hW rfl (by omega) (by decide) (P_gen fun M e => ?_)
    have hp := aupN e hp (by omega)
    have hS := aupN e hS (by omega)
    have hT := aupN e hT (by omega)
    have hH := aupN e hH (by omega)
    have hG := aupN e hG (by omega)
    have hR := aupN e hR (by omega)
    have fr := fr.up e (by omega)
    have hW := aupE e
    refine p_aload_n (i := 27) rfl rfl ?_
    refine p_getf (i := 28) rfl fX6_18 hp rfl ?_
    refine p_aload_n (i := 29) rfl rfl ?_
    refine p_getf (i := 30) rfl fX6_31 hp rfl ?_
    refine p_iload_n (i := 31) rfl rfl ?_
    refine p_isX (i := 32) _ rfl hT rfl (by omega) (by decide) (P_gen fun M e => ?_)
    have hp := aupN e hp (by omega)
    have hS := aupN e hS (by omega)
    have hW := aupN e hW (by omega)
    have hH := aupN e hH (by omega)
    have hG := aupN e hG (by omega)
    have hR := aupN e hR (by omega)
    have fr := fr.up e (by omega)
    have hT := aupE e
    refine p_aload_n (i := 33) rfl rfl ?_
    refine p_dup (i := 34) rfl rfl ?_
    refine p_getf (i := 35) rfl fX6_31 hp rfl ?_
    refine p_iconst (i := 36) rfl ?_
    refine p_iadd (i := 37) rfl ?_
    refine p_puti (i := 38) rfl gX6_31 hp rfl (P_gen fun M e => ?_)
    have hS := aupN e hS (by omega)
    have hW := aupN e hW (by omega)
    have hT := aupN e hT (by omega)
    have hH := aupN e hH (by omega)
    have hG := aupN e hG (by omega)
    have hR := aupN e hR (by omega)
    have fr := fr.up e (by omega)
    have hp := aupE e
    refine p_ret (i := 39) rfl rfl ?_
    have e : (Ls.length : Int) + 1 = (((layL g.1 (x, w, t)).length : Nat) : Int) := by rw [hE, List.length_append]; simp
    rw [e] at hp
    have hPW2 : PairW M p (layL g.1 (x, w, t)) g.2.1 g.2.2.1 hs lr lf lz := ⟨hok2.1, _, _, _, ⟨hp, hS, hW, hT, hH, hG, hR⟩, by rw [hE]; exact rL.app⟩
    obtain ⟨g1, g2, g3, g4, g5, g6, g7, g8, g9, g10, g11⟩ := h0
    exact h M (PairW.b (g := (layL g.1 (x, w, t), g.2)) hPW2 ⟨hok2.1, hok2.at, g3, g4, g5, g6, g7, g8, g9, g10, g11⟩ rH rG) fr
  obtain ⟨q1, sc, wh, st, ⟨hp, hS, hW, hT, hH, hG, hR⟩, rL⟩ := id hPW
  refine C_of okX6_lay (by decide) (Nat.le_of_ble_eq_true rfl) ?_
  show P none mX6_lay 0 [.ref p, zI x, zI w, zI t] [] _ _
  refine p_aload_n (i := 0) rfl rfl ?_
  refine p_getf (i := 1) rfl fX6_31 hp rfl ?_
  refine p_bipush (i := 2) rfl (by decide) ?_
  refine p_icmp_lt (i := 3) 17 rfl (by decide) (by omega) (by omega) (fun c6 => ?_) (fun c6 => ?_)
  · exact tail M g.1 (by omega) (by unfold layL; rw [if_neg (by omega)]) hPW FrI.rf
  · refine p_aload_n (i := 4) rfl rfl ?_
    refine p_aload_n (i := 5) rfl rfl ?_
    refine p_cV0 (i := 6) rfl ⟨lX6_102, rfl, rfl⟩ hp ⟨_, rfl, rfl⟩ rfl (x_weakest hP ?_)
    have hwk := wk_rng (Ls := g.1) (by omega) (fun k hk => (hok.at k hk).2.2.2.2.2)
    refine p_cV1 (i := 7) rfl ⟨lX6_106, rfl, rfl⟩ hp ⟨_, rfl, rfl⟩ rfl (x_remove hPW hwk (fun M1 hPW1 fr1 => ?_))
    exact tail M1 (g.1.eraseIdx (wk g.1).toNat) (by rw [er_len (by omega)]; omega) (by unfold layL; rw [if_pos (by omega)]) hPW1 fr1
theorem x_deepen {b : Bool} {M : AM} {p ns nw : Nat} {g : GS} {x gn : Int} {Q : Option Value → AM → Prop} (hP : PairB b M p ns nw g) (hx : 0 ≤ x ∧ x < ns) (hg : 1 ≤ gn ∧ gn ≤ 10) (hw : 0 ≤ g.2.1) (h : ∀ M', PairB b M' p ns nw ((deepL g.1 g.2.1 x gn).1, g.2) → FrI p 7 M M' → Q (some (zI (deepL g.1 g.2.1 x gn).2)) M') : C mX6_deepen [.ref p, zI x, zI gn] M Q := by
  obtain ⟨⟨q1, q2, q3, q4, q5, q6, q7, q8, q9, q10, q11⟩, sc, wh, st, hs, lr, lf, lz, ⟨hp, hS, hW, hT, hH, hG, hR⟩, rL, rH, rG⟩ := id hP
  have hok := hP.1.ls
  obtain ⟨d1, d2, d3⟩ := hok.deep (w := g.2.1) (x := x) (gain := gn) ⟨hw, q4⟩ hx hg
  have fr : FrI p 7 M M := FrI.rf
  refine C_of okX6_deepen (by decide) (Nat.le_of_ble_eq_true rfl) ?_
  show P none mX6_deepen 0 [.ref p, zI x, zI gn, .retAddr 0] [] _ _
  refine p_aload_n (i := 0) rfl rfl ?_
  refine p_aload_n (i := 1) rfl rfl ?_
  refine p_getf (i := 2) rfl fX6_35 hp rfl ?_
  refine p_iload_n (i := 3) rfl rfl ?_
  refine p_cV2 (i := 4) rfl ⟨lX6_87, rfl, rfl⟩ hp ⟨_, rfl, rfl⟩ rfl (x_find hP (by omega) (by omega) ?_)
  refine p_istore_n (i := 5) rfl rfl ?_
  refine p_aload_n (i := 6) rfl rfl ?_
  refine p_iload_n (i := 7) rfl rfl ?_
  have hf := fnd_rng g.1 g.2.1 x
  refine p_cV1 (i := 8) rfl ⟨lX6_90, rfl, rfl⟩ hp ⟨_, rfl, rfl⟩ rfl (x_hasLayer hP (by omega) (fun q => ?_) (fun q => ?_))
  · refine p_if_ne (i := 9) 35 rfl (by decide) (by omega) (fun c15 => ?_) (fun c15 => by exfalso; omega)
    obtain ⟨e1, e2, e3⟩ := rL (fnd g.1 g.2.1 x).toNat (by omega)
    have e4 := q2 (fnd g.1 g.2.1 x).toNat (by omega)
    refine p_aload_n (i := 21) rfl rfl ?_
    refine p_getf (i := 22) rfl fX6_18 hp rfl ?_
    refine p_iload_n (i := 23) rfl rfl ?_
    refine p_bipush (i := 24) rfl (by decide) ?_
    refine p_aload_n (i := 25) rfl rfl ?_
    refine p_getf (i := 26) rfl fX6_18 hp rfl ?_
    refine p_iload_n (i := 27) rfl rfl ?_
    refine p_iaX (i := 28) ((fnd g.1 g.2.1 x).toNat) rfl hT (by omega) (by omega) (by decide) ?_
    refine p_iload_n (i := 29) rfl rfl ?_
    refine p_iadd (i := 30) rfl ?_
    refine p_min (i := 31) rfl lX6_97 ⟨rfl, rfl⟩ (by omega) (by omega) ?_
    refine p_isX (i := 32) ((fnd g.1 g.2.1 x).toNat) rfl hT (by omega) (by omega) (by decide) (P_gen fun M e => ?_)
    have hp := aupN e hp (by omega)
    have hS := aupN e hS (by omega)
    have hW := aupN e hW (by omega)
    have hH := aupN e hH (by omega)
    have hG := aupN e hG (by omega)
    have hR := aupN e hR (by omega)
    have fr := fr.up e (by omega)
    have hT := aupE e
    refine p_iload_n (i := 33) rfl rfl ?_
    refine p_iret (i := 34) rfl rfl (rfl) ?_
    have eD : deepL g.1 g.2.1 x gn = (g.1.set (fnd g.1 g.2.1 x).toNat (x, g.2.1, min 99 (lT g.1 (fnd g.1 g.2.1 x).toNat + gn)), fnd g.1 g.2.1 x) := by unfold deepL; rw [if_pos q.1]
    rw [eD] at h d1
    refine h M ⟨⟨d1.1, d1.at, q3, q4, q5, q6, q7, q8, q9, q10, q11⟩, sc, wh, _, hs, lr, lf, lz, ⟨?_, hS, hW, hT, hH, hG, hR⟩, ?_, rH, rG⟩ fr
    · show M p = some (zO 6 [.ref (p + 1), .ref (p + 2), .ref (p + 3), .ref (p + 4), .ref (p + 5), zI ((g.1.set (fnd g.1 g.2.1 x).toNat (x, g.2.1, min 99 (lT g.1 (fnd g.1 g.2.1 x).toNat + gn))).length : Nat), zI g.2.1, zI g.2.2.1])
      rw [List.length_set]
      exact hp
    · obtain ⟨-, -, f3, f4⟩ := hf.resolve_left (by omega)
      rw [e3]
      have := rL.setT (k := (fnd g.1 g.2.1 x).toNat) (t := min 99 (lT g.1 (fnd g.1 g.2.1 x).toNat + gn)) (by omega)
      rw [f3, f4] at this
      exact this
  · refine p_if_ne (i := 9) 35 rfl (by decide) (by omega) (fun c15 => by exfalso; omega) (fun c15 => ?_)
    refine p_aload_n (i := 10) rfl rfl ?_
    refine p_iload_n (i := 11) rfl rfl ?_
    refine p_aload_n (i := 12) rfl rfl ?_
    refine p_getf (i := 13) rfl fX6_35 hp rfl ?_
    refine p_iload_n (i := 14) rfl rfl ?_
    refine p_cV3 (i := 15) rfl ⟨lX6_93, rfl, rfl⟩ hp ⟨_, rfl, rfl⟩ rfl (x_lay hP ⟨hx.1, hx.2, by show -1 ≤ g.2.1; omega, q4, hg.1, by show gn ≤ 99; omega⟩ (fun M1 hP1 fr1 => ?_))
    have eD : deepL g.1 g.2.1 x gn = (layL g.1 (x, g.2.1, gn), ((layL g.1 (x, g.2.1, gn)).length : Int) - 1) := by unfold deepL; rw [if_neg (by omega)]
    obtain ⟨-, sc, wh, st, hs, lr, lf, lz, ⟨hp, hS, hW, hT, hH, hG, hR⟩, -⟩ := id hP1
    refine p_aload_n (i := 16) rfl rfl ?_
    refine p_getf (i := 17) rfl fX6_31 hp rfl ?_
    refine p_iconst (i := 18) rfl ?_
    refine p_isub (i := 19) rfl ?_
    refine p_iret (i := 20) rfl rfl (rfl) ?_
    rw [eD] at h
    exact h M1 hP1 fr1
end
section
-- Pair of the class: a year, copies
theorem fdg_le {k t y : Int} (ht : 0 ≤ t ∧ t ≤ 1000) : fdg k t y ≤ 101 := by
  unfold fdg
  split
  · decide
  · split
    · omega
    · split
      · split <;> decide
      · decide
theorem x_fadeBut {M : AM} {p lb ns nw : Nat} {Ls : List LY} {w y own : Int} {hs lr : Nat → Int} {lf lz : Int} {ln : LN} {Q : Option Value → AM → Prop} (hP : PairW M p Ls w y hs lr lf lz) (hok : LsOk ns nw Ls) (hL : LineA M lb ln) (hns : nS ln = ns) (hd : lb + 11 ≤ p ∨ p + 7 ≤ lb) (hy : 0 ≤ y ∧ y ≤ 1000000) (ho : -1 ≤ own ∧ own < Ls.length) (h : ∀ M', PairW M' p (fadeL ln y own 0 Ls) w y hs lr lf lz → FrI p 7 M M' → Q none M') : C mX6_fadeBut [.ref p, zI own, .ref lb] M Q := by
  have hl10 := hok.1
  have loop : ∀ (j : Nat) (M1 : AM), PairW M1 p (cur ln y own Ls j) w y hs lr lf lz → FrI p 7 M M1 → j ≤ 10 → P none mX6_fadeBut 3 [.ref p, zI own, .ref lb, zI ((j : Int) - 1)] []  M1 Q := by
    intro j
    induction j with
    | zero =>
      intro M hPW fr hj
      obtain ⟨q1, sc, wh, st, ⟨hp, hS, hW, hT, hH, hG, hR⟩, rL⟩ := id hPW
      refine p_iload_n (i := 2) rfl rfl ?_
      refine p_if_lt (i := 3) 69 rfl (by decide) (by omega) (fun c4 => ?_) (fun c4 => by exfalso; omega)
      refine p_ret (i := 40) rfl rfl ?_
      exact h M hPW fr
    | succ j ih =>
      intro M hPW fr hj
      have hL1 := hL.fi fr hd
      have hlc := cur_len (ln := ln) (y := y) (own := own) (Ls := Ls) (j := j + 1)
      obtain ⟨q1, sc, wh, st, ⟨hp, hS, hW, hT, hH, hG, hR⟩, rL⟩ := id hPW
      obtain ⟨⟨o1, o2, o3, o4, o5, o6, o7⟩, kf, bf, lc, lkf, ⟨hb, hk, hr, hc, ⟨gg, hg, hgi⟩, hrow⟩, hkb, hlk⟩ := id hL1
      have eb : ((j + 1 : Nat) : Int) - 1 + (-1) = (j : Int) - 1 := by omega
      refine p_iload_n (i := 2) rfl rfl ?_
      refine p_if_lt (i := 3) 69 rfl (by decide) (by omega) (fun c4 => by exfalso; omega) (fun c4 => ?_)
      refine p_iload_n (i := 4) rfl rfl ?_
      refine p_iload_n (i := 5) rfl rfl ?_
      refine p_icmp_eq (i := 6) 63 rfl (by decide) (by omega) (by omega) (fun c9 => ?_) (fun c9 => ?_)
      · refine p_iinc (i := 38) rfl rfl rfl ?_
        refine p_goto (i := 39) 3 rfl (by decide) ?_
        rw [eb]
        rw [cur_keep (by omega) (by omega)] at hPW
        exact ih M hPW fr (by omega)
      · refine p_aload_n (i := 7) rfl rfl ?_
        refine p_iload_n (i := 8) rfl rfl ?_
        refine p_cV1 (i := 9) rfl ⟨lX6_90, rfl, rfl⟩ hp ⟨_, rfl, rfl⟩ rfl (x_hasLayerW hPW (by omega) (fun q => ?_) (fun q => ?_))
        · have hjn : j < Ls.length := by omega
          obtain ⟨a1, a2, a3, a4⟩ := cur_at (ln := ln) (y := y) (own := own) hjn
          obtain ⟨e1, e2, e3⟩ := rL j a4
          have e4 := hok.at j hjn
          obtain ⟨n1, n2, n3, n4⟩ := o5 (lS Ls j).toNat (by omega)
          have e1' : sc j = lS Ls j := e1.trans a1
          have e3' : st j = lT Ls j := e3.trans a3
          refine p_if_eq (i := 10) 63 rfl (by decide) (by omega) (fun c17 => by exfalso; omega) (fun c17 => ?_)
          refine p_aload_n (i := 11) rfl rfl ?_
          refine p_getf (i := 12) rfl fX6_18 hp rfl ?_
          refine p_iload_n (i := 13) rfl rfl ?_
          refine p_dup2 (i := 14) rfl rfl rfl ?_
          refine p_iaX (i := 15) (j) rfl hT (by omega) (by omega) (by decide) ?_
          refine p_aload_n (i := 16) rfl rfl ?_
          refine p_aload_n (i := 17) rfl rfl ?_
          refine p_aload_n (i := 18) rfl rfl ?_
          refine p_getf (i := 19) rfl fX6_9 hp rfl ?_
          refine p_iload_n (i := 20) rfl rfl ?_
          refine p_iaX (i := 21) (j) rfl hS (by omega) (by omega) (by decide) ?_
          refine p_cV1 (i := 22) rfl ⟨lX6_110, rfl, rfl⟩ hb ⟨_, rfl, rfl⟩ rfl (x_kindOf hL1 (by omega) ?_)
          refine p_aload_n (i := 23) rfl rfl ?_
          refine p_getf (i := 24) rfl fX6_18 hp rfl ?_
          refine p_iload_n (i := 25) rfl rfl ?_
          refine p_iaX (i := 26) (j) rfl hT (by omega) (by omega) (by decide) ?_
          refine p_cV2 (i := 27) rfl ⟨lX6_113, rfl, rfl⟩ hp ⟨_, rfl, rfl⟩ rfl (x_fadingW hPW hy (by rw [e1']; omega) (by omega) ?_)
          refine p_isub (i := 28) rfl ?_
          refine p_isX (i := 29) (j) rfl hT (by omega) (by omega) (by decide) (P_gen fun M e => ?_)
          have hp := aupN e hp (by omega)
          have hS := aupN e hS (by omega)
          have hW := aupN e hW (by omega)
          have hH := aupN e hH (by omega)
          have hG := aupN e hG (by omega)
          have hR := aupN e hR (by omega)
          have hb := aupN e hb (by omega)
          have hk := aupN e hk (by omega)
          have hr := aupN e hr (by omega)
          have hc := aupN e hc (by omega)
          have hg := aupN e hg (by omega)
          have fr := fr.up e (by omega)
          have hT := aupE e
          refine p_aload_n (i := 30) rfl rfl ?_
          refine p_getf (i := 31) rfl fX6_18 hp rfl ?_
          refine p_iload_n (i := 32) rfl rfl ?_
          refine p_iaX (i := 33) (j) rfl hT (by omega) (by omega) (by decide) ?_
          rw [zup_e]
          rw [e1', e3'] at *
          have fb := fdg_le (k := kd ln (lS Ls j).toNat) (y := y) (t := lT Ls j) (by omega)
          have fn := fdg_nn (k := kd ln (lS Ls j).toNat) (y := y) (t := lT Ls j) (by omega)
          refine p_if_gt (i := 34) 63 rfl (by decide) (by omega) (fun c55 => ?_) (fun c55 => ?_)
          · refine p_iinc (i := 38) rfl rfl rfl ?_
            refine p_goto (i := 39) 3 rfl (by decide) ?_
            rw [eb]
            refine ih M ?_ fr (by omega)
            rw [← cur_set hjn (by omega) (by omega)]
            have := rL.setT (k := j) (t := lT Ls j - fdg (kd ln (lS Ls j).toNat) (lT Ls j) y) a4
            rw [a1, a2] at this
            exact ⟨by rw [List.length_set]; omega, sc, wh, _, ⟨by rw [List.length_set]; exact hp, hS, hW, hT, hH, hG, hR⟩, this⟩
          · refine p_aload_n (i := 35) rfl rfl ?_
            refine p_iload_n (i := 36) rfl rfl ?_
            have := rL.setT (k := j) (t := lT Ls j - fdg (kd ln (lS Ls j).toNat) (lT Ls j) y) a4
            have hPW2 : PairW M p ((cur ln y own Ls (j + 1)).set j (lS (cur ln y own Ls (j + 1)) j, lW (cur ln y own Ls (j + 1)) j, lT Ls j - fdg (kd ln (lS Ls j).toNat) (lT Ls j) y)) w y hs lr lf lz := ⟨by rw [List.length_set]; omega, sc, wh, _, ⟨by rw [List.length_set]; exact hp, hS, hW, hT, hH, hG, hR⟩, this⟩
            refine p_cV1 (i := 37) rfl ⟨lX6_106, rfl, rfl⟩ hp ⟨_, rfl, rfl⟩ rfl (x_remove hPW2 (by rw [List.length_set]; omega) (fun M1 hPW3 fr3 => ?_))
            refine p_iinc (i := 38) rfl rfl rfl ?_
            refine p_goto (i := 39) 3 rfl (by decide) ?_
            rw [eb]
            refine ih M1 ?_ (fr.tr fr3) (by omega)
            rw [← cur_er (z := (lS (cur ln y own Ls (j + 1)) j, lW (cur ln y own Ls (j + 1)) j, lT Ls j - fdg (kd ln (lS Ls j).toNat) (lT Ls j) y)) hjn (by omega) (by omega)]
            rw [show (((j + 1 : Nat) : Int) - 1).toNat = j by omega] at hPW3
            exact hPW3
        · refine p_if_eq (i := 10) 63 rfl (by decide) (by omega) (fun c17 => ?_) (fun c17 => by exfalso; omega)
          refine p_iinc (i := 38) rfl rfl rfl ?_
          refine p_goto (i := 39) 3 rfl (by decide) ?_
          rw [eb]
          have hjn : Ls.length ≤ j := by
            rcases Nat.lt_or_ge j Ls.length with z | z
            · exact absurd (by have := (cur_at (ln := ln) (y := y) (own := own) z).2.2.2; omega) q
            · exact z
          rw [cur_big (by omega)] at hPW
          exact ih M (by rw [cur_big hjn]; exact hPW) fr (by omega)
  obtain ⟨q1, sc, wh, st, ⟨hp, hS, hW, hT, hH, hG, hR⟩, rL⟩ := id hP
  refine C_of okX6_fadeBut (by decide) (Nat.le_of_ble_eq_true rfl) ?_
  show P none mX6_fadeBut 0 [.ref p, zI own, .ref lb, .retAddr 0] [] _ _
  refine p_bipush (i := 0) rfl (by decide) ?_
  refine p_istore_n (i := 1) rfl rfl ?_
  exact loop 10 M (by rw [cur_big hl10]; exact hP) FrI.rf (Nat.le_refl _)
theorem x_passYear {b : Bool} {M : AM} {p lb ns nw : Nat} {g : GS} {ln : LN} {Q : Option Value → AM → Prop} (hP : PairB b M p ns nw g) (hL : LineA M lb ln) (hns : nS ln = ns) (hnw : nW ln = nw) (hd : lb + 11 ≤ p ∨ p + 7 ≤ lb) (hy : g.2.2.1 < 100000) (h : ∀ M', PairB b M' p ns nw (passY ln g) → FrI p 7 M M' → Q none M') : C mX6_passYear [.ref p, .ref lb] M Q := by
  obtain ⟨⟨q1, q2, q3, q4, q5, q6, q7, q8, q9, q10, q11⟩, sc, wh, st, hs, lr, lf, lz, ⟨hp, hS, hW, hT, hH, hG, hR⟩, rL, rH, rG⟩ := id hP
  obtain ⟨⟨o1, o2, o3, o4, o5, o6, o7⟩, kf, bf, lc, lkf, ⟨hb, hk, hr, hc, ⟨gg, hg, hgi⟩, hrow⟩, hkb, hlk⟩ := id hL
  have hok := hP.1.ls
  have tail : ∀ (M1 : AM) (own : Int) (Ls : List LY) (hs1 lr1 : Nat → Int) (lf1 lz1 : Int) (x3 : Value), PairW M1 p Ls g.2.1 g.2.2.1 hs1 lr1 lf1 lz1 → LsOk ns nw Ls → -1 ≤ own ∧ own < Ls.length → FrI p 7 M M1 → (∀ M', PairW M' p (fadeL ln g.2.2.1 own 0 Ls) g.2.1 (g.2.2.1 + 1) hs1 lr1 lf1 lz1 → FrI p 7 M M' → Q none M') → P none mX6_passYear 79 [.ref p, .ref lb, zI own, x3] []  M1 Q := by
    intro M1 own Ls hs1 lr1 lf1 lz1 x3 hPW hok1 ho fr hQ
    have hL1 := hL.fi fr hd
    obtain ⟨q1, sc, wh, st, ⟨hp, hS, hW, hT, hH, hG, hR⟩, rL⟩ := id hPW
    refine p_aload_n (i := 47) rfl rfl ?_
    refine p_iload_n (i := 48) rfl rfl ?_
    refine p_aload_n (i := 49) rfl rfl ?_
    refine p_cV2 (i := 50) rfl ⟨lX6_83, rfl, rfl⟩ hp ⟨_, rfl, rfl⟩ rfl (x_fadeBut hPW hok1 hL1 hns hd (by omega) ho (fun M hPW2 fr2 => ?_))
    obtain ⟨q1, sc, wh, st, ⟨hp, hS, hW, hT, hH, hG, hR⟩, rL⟩ := id hPW2
    have fr := fr.tr fr2
    refine p_aload_n (i := 51) rfl rfl ?_
    refine p_dup (i := 52) rfl rfl ?_
    refine p_getf (i := 53) rfl fX6_38 hp rfl ?_
    refine p_iconst (i := 54) rfl ?_
    refine p_iadd (i := 55) rfl ?_
    refine p_puti (i := 56) rfl gX6_38 hp rfl (P_gen fun M e => ?_)
    have hS := aupN e hS (by omega)
    have hW := aupN e hW (by omega)
    have hT := aupN e hT (by omega)
    have hH := aupN e hH (by omega)
    have hG := aupN e hG (by omega)
    have hR := aupN e hR (by omega)
    have fr := fr.up e (by omega)
    have hp := aupE e
    refine p_ret (i := 57) rfl rfl ?_
    exact hQ M ⟨q1, sc, wh, st, ⟨hp, hS, hW, hT, hH, hG, hR⟩, rL⟩ fr
  refine C_of okX6_passYear (by decide) (Nat.le_of_ble_eq_true rfl) ?_
  show P none mX6_passYear 0 [.ref p, .ref lb, .retAddr 0, .retAddr 0] [] _ _
  refine p_iconst (i := 0) rfl ?_
  refine p_istore_n (i := 1) rfl rfl ?_
  refine p_aload_n (i := 2) rfl rfl ?_
  refine p_aload_n (i := 3) rfl rfl ?_
  refine p_getf (i := 4) rfl fX6_35 hp rfl ?_
  refine p_cV1 (i := 5) rfl ⟨lX6_58, rfl, rfl⟩ hb ⟨_, rfl, rfl⟩ rfl (x_hasWearer hL (by omega) (fun q => ?_) (fun q => ?_))
  · refine p_if_eq (i := 6) 79 rfl (by decide) (by omega) (fun c10 => by exfalso; omega) (fun c10 => ?_)
    obtain ⟨n1, n2, n3⟩ := o6 g.2.1.toNat (by omega)
    have hh := q8 g.2.1.toNat (by omega)
    have eh := rH g.2.1.toNat (by omega)
    have hm : (g.2.2.2.1.getD g.2.1.toNat 0).toNat % lkN ln g.2.1.toNat < lkN ln g.2.1.toNat := Nat.mod_lt _ (by omega)
    have hxr : 0 ≤ nxt ln g g.2.1 ∧ nxt ln g g.2.1 < nS ln := n3 _ hm
    obtain ⟨b1, b2, b3, b4⟩ := o5 (nxt ln g g.2.1).toNat (by omega)
    refine p_aload_n (i := 7) rfl rfl ?_
    refine p_aload_n (i := 8) rfl rfl ?_
    refine p_getf (i := 9) rfl fX6_35 hp rfl ?_
    refine p_aload_n (i := 10) rfl rfl ?_
    refine p_getf (i := 11) rfl fX6_21 hp rfl ?_
    refine p_aload_n (i := 12) rfl rfl ?_
    refine p_getf (i := 13) rfl fX6_35 hp rfl ?_
    refine p_iaX (i := 14) (g.2.1.toNat) rfl hH (by omega) (by omega) (by decide) ?_
    rw [eh]
    refine p_cV2 (i := 15) rfl ⟨lX6_64, rfl, rfl⟩ hb ⟨_, rfl, rfl⟩ rfl (x_sceneInYear hL q (by omega) ?_)
    show P none mX6_passYear (27 + 3) _ (zI (nxt ln g g.2.1) :: []) M Q
    refine p_istore_n (i := 16) rfl rfl ?_
    refine p_aload_n (i := 17) rfl rfl ?_
    refine p_getf (i := 18) rfl fX6_27 hp rfl ?_
    refine p_aload_n (i := 19) rfl rfl ?_
    refine p_getf (i := 20) rfl fX6_38 hp rfl ?_
    refine p_aload_n (i := 21) rfl rfl ?_
    refine p_getf (i := 22) rfl fX6_35 hp rfl ?_
    refine p_iload_n (i := 23) rfl rfl ?_
    refine p_aload_n (i := 24) rfl rfl ?_
    refine p_aload_n (i := 25) rfl rfl ?_
    refine p_iload_n (i := 26) rfl rfl ?_
    refine p_iconst (i := 27) rfl ?_
    refine p_iconst (i := 28) rfl ?_
    refine p_cV4 (i := 29) rfl ⟨lX6_68, rfl, rfl⟩ hp ⟨_, rfl, rfl⟩ rfl (x_takenFor hP hL hxr (by omega) (by decide) (wi := 0) ?_)
    have hlog : LogB M (p + 5) b g.2.2.2.2 := ⟨lr, lf, lz, hG, hR, rG⟩
    refine p_cV4 (i := 30) rfl ⟨lX6_72, rfl, rfl⟩ hG ⟨_, rfl, rfl⟩ rfl (x_logAdd hlog (fun M1 hlog1 fr1 => ?_))
    have hL1 := hL.fi fr1 (by omega)
    obtain ⟨lr1, lf1, lz1, hG1, hR1, rG1⟩ := hlog1
    have hg1 : GOk ns nw (g.1, g.2.1, g.2.2.1, g.2.2.2.1, logAdd g.2.2.2.2 (g.2.2.1, g.2.1, nxt ln g g.2.1, tk ln g.1 (nxt ln g g.2.1) 0 0)) := ⟨q1, q2, q3, q4, q5, q6, q7, q8, by show (logAdd _ _).length ≤ 20; rw [logAdd_len q9]; split <;> omega, q10, q11⟩
    have hP1 : PairB b M1 p ns nw (g.1, g.2.1, g.2.2.1, g.2.2.2.1, logAdd g.2.2.2.2 (g.2.2.1, g.2.1, nxt ln g g.2.1, tk ln g.1 (nxt ln g g.2.1) 0 0)) := ⟨hg1, sc, wh, st, hs, lr1, lf1, lz1, ⟨fr1.at hp (by omega), fr1.at hS (by omega), fr1.at hW (by omega), fr1.at hT (by omega), fr1.at hH (by omega), hG1, hR1⟩, rL, rH, rG1⟩
    have hb := fr1.at hb (by omega)
    have hp := fr1.at hp (by omega)
    refine p_aload_n (i := 31) rfl rfl ?_
    refine p_iload_n (i := 32) rfl rfl ?_
    refine p_aload_n (i := 33) rfl rfl ?_
    refine p_iload_n (i := 34) rfl rfl ?_
    refine p_cV1 (i := 35) rfl ⟨lX6_76, rfl, rfl⟩ hb ⟨_, rfl, rfl⟩ rfl (x_gain hL1 hxr ?_)
    obtain ⟨d1, d2, d3⟩ := hok.deep (w := g.2.1) (x := nxt ln g g.2.1) (gain := br ln (nxt ln g g.2.1).toNat / 10 + 1) (by omega) (by omega) (by omega)
    refine p_cV2 (i := 36) rfl ⟨lX6_80, rfl, rfl⟩ hp ⟨_, rfl, rfl⟩ rfl (x_deepen hP1 (by omega) (by omega) q.1 (fun M2 hP2 fr2 => ?_))
    have fr : FrI p 7 M M2 := (fr1.weak (by omega)).tr fr2
    obtain ⟨-, hs2, lr2, lf2, lz2, hPW2, rH2, rG2⟩ := hP2.w
    have hPW2 : PairW M2 p (deepL g.1 g.2.1 (nxt ln g g.2.1) (br ln (nxt ln g g.2.1).toNat / 10 + 1)).1 g.2.1 g.2.2.1 hs2 lr2 lf2 lz2 := hPW2
    have rH2 : RHis hs2 g.2.2.2.1 := rH2
    have eh2 := rH2 g.2.1.toNat (by omega)
    obtain ⟨q1, sc, wh, st, ⟨hp, hS, hW, hT, hH, hG, hR⟩, rL⟩ := id hPW2
    refine p_istore_n (i := 37) rfl rfl ?_
    refine p_aload_n (i := 38) rfl rfl ?_
    refine p_getf (i := 39) rfl fX6_21 hp rfl ?_
    refine p_aload_n (i := 40) rfl rfl ?_
    refine p_getf (i := 41) rfl fX6_35 hp rfl ?_
    refine p_dup2 (i := 42) rfl rfl rfl ?_
    refine p_iaX (i := 43) (g.2.1.toNat) rfl hH (by omega) (by omega) (by decide) ?_
    refine p_iconst (i := 44) rfl ?_
    refine p_iadd (i := 45) rfl ?_
    refine p_isX (i := 46) (g.2.1.toNat) rfl hH (by omega) (by omega) (by decide) (P_gen fun M e => ?_)
    have hp := aupN e hp (by omega)
    have hS := aupN e hS (by omega)
    have hW := aupN e hW (by omega)
    have hT := aupN e hT (by omega)
    have hG := aupN e hG (by omega)
    have hR := aupN e hR (by omega)
    have fr := fr.up e (by omega)
    have hH := aupE e
    refine tail M _ _ _ lr2 lf2 lz2 _ ⟨d1.1, sc, wh, st, ⟨hp, hS, hW, hT, hH, hG, hR⟩, rL⟩ d1 ⟨d2, d3⟩ fr (fun M' hPW' fr' => ?_)
    have eP : passY ln g = (fadeL ln g.2.2.1 (deepL g.1 g.2.1 (nxt ln g g.2.1) (br ln (nxt ln g g.2.1).toNat / 10 + 1)).2 0 (deepL g.1 g.2.1 (nxt ln g g.2.1) (br ln (nxt ln g g.2.1).toNat / 10 + 1)).1, g.2.1, g.2.2.1 + 1, g.2.2.2.1.set g.2.1.toNat (g.2.2.2.1.getD g.2.1.toNat 0 + 1), logAdd g.2.2.2.2 (g.2.2.1, g.2.1, nxt ln g g.2.1, tk ln g.1 (nxt ln g g.2.1) 0 0)) := by unfold passY; rw [if_pos q.1]
    rw [eP] at h
    refine h M' (PairW.b hPW' ?_ ?_ rG2) fr'
    · have hf : LsOk ns nw (fadeL ln g.2.2.1 (deepL g.1 g.2.1 (nxt ln g g.2.1) (br ln (nxt ln g g.2.1).toNat / 10 + 1)).2 0 (deepL g.1 g.2.1 (nxt ln g g.2.1) (br ln (nxt ln g g.2.1).toNat / 10 + 1)).1) := d1.fade
      refine ⟨hf.1, hf.at, q3, q4, by show 0 ≤ g.2.2.1 + 1; omega, by show g.2.2.1 + 1 ≤ 100000; omega, by show (g.2.2.2.1.set _ _).length = 6; rw [List.length_set]; exact q7, fun j hj => ?_, hg1.2.2.2.2.2.2.2.2.1, q10, q11⟩
      show 0 ≤ (g.2.2.2.1.set _ _).getD j 0 ∧ (g.2.2.2.1.set _ _).getD j 0 ≤ g.2.2.1 + 1
      rw [st_getD _ _ _ _ _ (by omega)]
      have := q8 j hj
      split <;> omega
    · intro j hj
      show zup hs2 _ _ j = (g.2.2.2.1.set _ _).getD j 0
      rw [st_getD _ _ _ _ _ (by omega)]
      have r2 := rH2 j hj
      by_cases e : j = g.2.1.toNat
      · rw [if_pos e, e, zup_e, eh2]
      · rw [if_neg e, zup_n e, r2]
  · refine p_if_eq (i := 6) 79 rfl (by decide) (by omega) (fun c10 => ?_) (fun c10 => by exfalso; omega)
    obtain ⟨-, hs2, lr2, lf2, lz2, hPW2, rH2, rG2⟩ := hP.w
    refine tail M _ _ _ lr2 lf2 lz2 _ hPW2 hok (by omega) FrI.rf (fun M' hPW' fr' => ?_)
    have eP : passY ln g = (fadeL ln g.2.2.1 (-1) 0 g.1, g.2.1, g.2.2.1 + 1, g.2.2.2.1, g.2.2.2.2) := by unfold passY; rw [if_neg (by omega)]
    rw [eP] at h
    have hf : LsOk ns nw (fadeL ln g.2.2.1 (-1) 0 g.1) := hok.fade
    refine h M' (PairW.b hPW' ⟨hf.1, hf.at, q3, q4, by show 0 ≤ g.2.2.1 + 1; omega, by show g.2.2.1 + 1 ≤ 100000; omega, q7, fun j hj => ?_, q9, q10, q11⟩ rH2 rG2) fr'
    have := q8 j hj
    show 0 ≤ g.2.2.2.1.getD j 0 ∧ g.2.2.2.1.getD j 0 ≤ g.2.2.1 + 1
    omega
def g0 : GS := ([], -1, 0, [0, 0, 0, 0, 0, 0], [])
theorem g0_ok {ns nw : Nat} (h1 : ns ≤ 8) (h2 : nw ≤ 6) : GOk ns nw g0 := ⟨by decide, fun k hk => absurd hk (Nat.not_lt_zero k), by decide, by show (-1 : Int) < (nw : Int); omega, by decide, by decide, rfl, fun j hj => by
  show 0 ≤ ([0, 0, 0, 0, 0, 0] : List Int).getD j 0 ∧ ([0, 0, 0, 0, 0, 0] : List Int).getD j 0 ≤ 0
  match j, hj with
  | 0, _ => decide
  | 1, _ => decide
  | 2, _ => decide
  | 3, _ => decide
  | 4, _ => decide
  | 5, _ => decide, by decide, h1, h2⟩
theorem x_reset {M : AM} {p ns nw : Nat} {Q : Option Value → AM → Prop} (hP : PairR M p) (h1 : ns ≤ 8) (h2 : nw ≤ 6) (h : ∀ M', PairB true M' p ns nw g0 → FrI p 7 M M' → Q none M') : C mX6_reset [.ref p] M Q := by
  obtain ⟨sc, wh, st, hs, lr, lf, lz, n, w, y, ⟨hp, hS, hW, hT, hH, hG, hR⟩, r1, r2, r3, r4⟩ := hP
  have loop : ∀ (f k : Nat) (M1 : AM) (hs : Nat → Int), k + f = 6 → PairAt M1 p sc wh st hs lr lf lz n w y → FrI p 7 M M1 → (∀ j, j < k → hs j = 0) → P none mX6_reset 2 [.ref p, zI (k : Int)] []  M1 Q := by
    intro f
    induction f with
    | zero =>
      intro k M hs hk hA fr hz
      obtain ⟨hp, hS, hW, hT, hH, hG, hR⟩ := hA
      refine p_iload_n (i := 2) rfl rfl ?_
      refine p_bipush (i := 3) rfl (by decide) ?_
      refine p_icmp_ge (i := 4) 21 rfl (by decide) (by omega) (by omega) (fun c5 => ?_) (fun c5 => by exfalso; omega)
      refine p_aload_n (i := 12) rfl rfl ?_
      refine p_getf (i := 13) rfl fX6_27 hp rfl ?_
      refine p_cV0 (i := 14) rfl ⟨lX6_41, rfl, rfl⟩ hG ⟨_, rfl, rfl⟩ rfl (x_logForget (b := true) hG hR (fun M1 hlog fr1 => ?_))
      obtain ⟨lr1, lf1, lz1, hG1, hR1, rG1⟩ := hlog
      have fr := fr.tr (fr1.weak (p' := p) (n' := 7) (by omega))
      have hp := fr1.at hp (by omega)
      have hS := fr1.at hS (by omega)
      have hW := fr1.at hW (by omega)
      have hT := fr1.at hT (by omega)
      have hH := fr1.at hH (by omega)
      have hG := hG1
      have hR := hR1
      refine p_aload_n (i := 15) rfl rfl ?_
      refine p_iconst (i := 16) rfl ?_
      refine p_puti (i := 17) rfl gX6_31 hp rfl (P_gen fun M e => ?_)
      have hS := aupN e hS (by omega)
      have hW := aupN e hW (by omega)
      have hT := aupN e hT (by omega)
      have hH := aupN e hH (by omega)
      have hG := aupN e hG (by omega)
      have hR := aupN e hR (by omega)
      have fr := fr.up e (by omega)
      have hp := aupE e
      refine p_aload_n (i := 18) rfl rfl ?_
      refine p_iconst (i := 19) rfl ?_
      refine p_puti (i := 20) rfl gX6_35 hp rfl (P_gen fun M e => ?_)
      have hS := aupN e hS (by omega)
      have hW := aupN e hW (by omega)
      have hT := aupN e hT (by omega)
      have hH := aupN e hH (by omega)
      have hG := aupN e hG (by omega)
      have hR := aupN e hR (by omega)
      have fr := fr.up e (by omega)
      have hp := aupE e
      refine p_aload_n (i := 21) rfl rfl ?_
      refine p_iconst (i := 22) rfl ?_
      refine p_puti (i := 23) rfl gX6_38 hp rfl (P_gen fun M e => ?_)
      have hS := aupN e hS (by omega)
      have hW := aupN e hW (by omega)
      have hT := aupN e hT (by omega)
      have hH := aupN e hH (by omega)
      have hG := aupN e hG (by omega)
      have hR := aupN e hR (by omega)
      have fr := fr.up e (by omega)
      have hp := aupE e
      refine p_ret (i := 24) rfl rfl ?_
      refine h M ⟨g0_ok h1 h2, sc, wh, st, hs, lr1, lf1, lz1, ⟨hp, hS, hW, hT, hH, hG, hR⟩, fun k hk => absurd hk (Nat.not_lt_zero k), fun j hj => ?_, rG1⟩ fr
      rw [hz j (by omega)]
      match j, hj with
      | 0, _ => rfl
      | 1, _ => rfl
      | 2, _ => rfl
      | 3, _ => rfl
      | 4, _ => rfl
      | 5, _ => rfl
    | succ f ih =>
      intro k M hs hk hA fr hz
      obtain ⟨hp, hS, hW, hT, hH, hG, hR⟩ := hA
      refine p_iload_n (i := 2) rfl rfl ?_
      refine p_bipush (i := 3) rfl (by decide) ?_
      refine p_icmp_ge (i := 4) 21 rfl (by decide) (by omega) (by omega) (fun c5 => by exfalso; omega) (fun c5 => ?_)
      refine p_aload_n (i := 5) rfl rfl ?_
      refine p_getf (i := 6) rfl fX6_21 hp rfl ?_
      refine p_iload_n (i := 7) rfl rfl ?_
      refine p_iconst (i := 8) rfl ?_
      refine p_isX (i := 9) _ rfl hH rfl (by omega) (by decide) (P_gen fun M e => ?_)
      have hp := aupN e hp (by omega)
      have hS := aupN e hS (by omega)
      have hW := aupN e hW (by omega)
      have hT := aupN e hT (by omega)
      have hG := aupN e hG (by omega)
      have hR := aupN e hR (by omega)
      have fr := fr.up e (by omega)
      have hH := aupE e
      refine p_iinc (i := 10) rfl rfl rfl ?_
      refine p_goto (i := 11) 2 rfl (by decide) ?_
      refine ih (k + 1) M _ (by omega) ⟨hp, hS, hW, hT, hH, hG, hR⟩ fr (fun j hj => ?_)
      by_cases e : j = k
      · rw [e, zup_e]
      · rw [zup_n e]; exact hz j (by omega)
  refine C_of okX6_reset (by decide) (Nat.le_of_ble_eq_true rfl) ?_
  show P none mX6_reset 0 [.ref p, .retAddr 0] [] _ _
  refine p_iconst (i := 0) rfl ?_
  refine p_istore_n (i := 1) rfl rfl ?_
  exact loop 6 0 M hs (by omega) ⟨hp, hS, hW, hT, hH, hG, hR⟩ FrI.rf (fun j hj => absurd hj (Nat.not_lt_zero j))
theorem cpy_at {f g : Nat → Int} {n : Nat} {j : Nat} (h : j < n) : va_cpy f g (0 : Int).toNat (0 : Int).toNat n j = f j := by
  show (if 0 ≤ j ∧ j < 0 + n then f (0 + (j - 0)) else g j) = f j
  rw [if_pos (by omega)]
  congr 1
  omega
theorem x_copyGlass {b : Bool} {M : AM} {p o ns nw : Nat} {g : GS} {Q : Option Value → AM → Prop} (hR0 : PairR M p) (hP : PairB b M o ns nw g) (hd : p + 7 ≤ o ∨ o + 7 ≤ p) (h : ∀ M', PairB false M' p ns nw g → FrI p 5 M M' → Q none M') : C mX6_copyGlass [.ref p, .ref o] M Q := by
  obtain ⟨sc0, wh0, st0, hs0, lr0, lf0, lz0, n0, w0, y0, ⟨kp, kS, kW, kT, kH, kG, kR⟩, r1, r2, r3, r4⟩ := hR0
  obtain ⟨⟨q1, q2, q3, q4, q5, q6, q7, q8, q9, q10, q11⟩, sc, wh, st, hs, lr, lf, lz, ⟨hp, hS, hW, hT, hH, hG, hR⟩, rL, rH, rG⟩ := id hP
  have fr : FrI p 5 M M := FrI.rf
  refine C_of okX6_copyGlass (by decide) (Nat.le_of_ble_eq_true rfl) ?_
  show P none mX6_copyGlass 0 [.ref p, .ref o] [] _ _
  refine p_aload_n (i := 0) rfl rfl ?_
  refine p_aload_n (i := 1) rfl rfl ?_
  refine p_getf (i := 2) rfl fX6_31 hp rfl ?_
  refine p_puti (i := 3) rfl gX6_31 kp rfl (P_gen fun M e => ?_)
  have hp := aupN e hp (by omega)
  have hS := aupN e hS (by omega)
  have hW := aupN e hW (by omega)
  have hT := aupN e hT (by omega)
  have hH := aupN e hH (by omega)
  have hG := aupN e hG (by omega)
  have hR := aupN e hR (by omega)
  have kS := aupN e kS (by omega)
  have kW := aupN e kW (by omega)
  have kT := aupN e kT (by omega)
  have kH := aupN e kH (by omega)
  have kG := aupN e kG (by omega)
  have kR := aupN e kR (by omega)
  have fr := fr.up e (by omega)
  have kp := aupE e
  refine p_aload_n (i := 4) rfl rfl ?_
  refine p_aload_n (i := 5) rfl rfl ?_
  refine p_getf (i := 6) rfl fX6_35 hp rfl ?_
  refine p_puti (i := 7) rfl gX6_35 kp rfl (P_gen fun M e => ?_)
  have hp := aupN e hp (by omega)
  have hS := aupN e hS (by omega)
  have hW := aupN e hW (by omega)
  have hT := aupN e hT (by omega)
  have hH := aupN e hH (by omega)
  have hG := aupN e hG (by omega)
  have hR := aupN e hR (by omega)
  have kS := aupN e kS (by omega)
  have kW := aupN e kW (by omega)
  have kT := aupN e kT (by omega)
  have kH := aupN e kH (by omega)
  have kG := aupN e kG (by omega)
  have kR := aupN e kR (by omega)
  have fr := fr.up e (by omega)
  have kp := aupE e
  refine p_aload_n (i := 8) rfl rfl ?_
  refine p_aload_n (i := 9) rfl rfl ?_
  refine p_getf (i := 10) rfl fX6_38 hp rfl ?_
  refine p_puti (i := 11) rfl gX6_38 kp rfl (P_gen fun M e => ?_)
  have hp := aupN e hp (by omega)
  have hS := aupN e hS (by omega)
  have hW := aupN e hW (by omega)
  have hT := aupN e hT (by omega)
  have hH := aupN e hH (by omega)
  have hG := aupN e hG (by omega)
  have hR := aupN e hR (by omega)
  have kS := aupN e kS (by omega)
  have kW := aupN e kW (by omega)
  have kT := aupN e kT (by omega)
  have kH := aupN e kH (by omega)
  have kG := aupN e kG (by omega)
  have kR := aupN e kR (by omega)
  have fr := fr.up e (by omega)
  have kp := aupE e
  refine p_aload_n (i := 12) rfl rfl ?_
  refine p_getf (i := 13) rfl fX6_9 hp rfl ?_
  refine p_iconst (i := 14) rfl ?_
  refine p_aload_n (i := 15) rfl rfl ?_
  refine p_getf (i := 16) rfl fX6_9 kp rfl ?_
  refine p_iconst (i := 17) rfl ?_
  refine p_bipush (i := 18) rfl (by decide) ?_
  refine p_copy (i := 19) rfl lX6_52 w_copy hS kS (by omega) (by decide) (by decide) (P_gen fun M e => ?_)
  have hp := aupN e hp (by omega)
  have hS := aupN e hS (by omega)
  have hW := aupN e hW (by omega)
  have hT := aupN e hT (by omega)
  have hH := aupN e hH (by omega)
  have hG := aupN e hG (by omega)
  have hR := aupN e hR (by omega)
  have kp := aupN e kp (by omega)
  have kW := aupN e kW (by omega)
  have kT := aupN e kT (by omega)
  have kH := aupN e kH (by omega)
  have kG := aupN e kG (by omega)
  have kR := aupN e kR (by omega)
  have fr := fr.up e (by omega)
  have kS := aupE e
  refine p_aload_n (i := 20) rfl rfl ?_
  refine p_getf (i := 21) rfl fX6_15 hp rfl ?_
  refine p_iconst (i := 22) rfl ?_
  refine p_aload_n (i := 23) rfl rfl ?_
  refine p_getf (i := 24) rfl fX6_15 kp rfl ?_
  refine p_iconst (i := 25) rfl ?_
  refine p_bipush (i := 26) rfl (by decide) ?_
  refine p_copy (i := 27) rfl lX6_52 w_copy hW kW (by omega) (by decide) (by decide) (P_gen fun M e => ?_)
  have hp := aupN e hp (by omega)
  have hS := aupN e hS (by omega)
  have hW := aupN e hW (by omega)
  have hT := aupN e hT (by omega)
  have hH := aupN e hH (by omega)
  have hG := aupN e hG (by omega)
  have hR := aupN e hR (by omega)
  have kp := aupN e kp (by omega)
  have kS := aupN e kS (by omega)
  have kT := aupN e kT (by omega)
  have kH := aupN e kH (by omega)
  have kG := aupN e kG (by omega)
  have kR := aupN e kR (by omega)
  have fr := fr.up e (by omega)
  have kW := aupE e
  refine p_aload_n (i := 28) rfl rfl ?_
  refine p_getf (i := 29) rfl fX6_18 hp rfl ?_
  refine p_iconst (i := 30) rfl ?_
  refine p_aload_n (i := 31) rfl rfl ?_
  refine p_getf (i := 32) rfl fX6_18 kp rfl ?_
  refine p_iconst (i := 33) rfl ?_
  refine p_bipush (i := 34) rfl (by decide) ?_
  refine p_copy (i := 35) rfl lX6_52 w_copy hT kT (by omega) (by decide) (by decide) (P_gen fun M e => ?_)
  have hp := aupN e hp (by omega)
  have hS := aupN e hS (by omega)
  have hW := aupN e hW (by omega)
  have hT := aupN e hT (by omega)
  have hH := aupN e hH (by omega)
  have hG := aupN e hG (by omega)
  have hR := aupN e hR (by omega)
  have kp := aupN e kp (by omega)
  have kS := aupN e kS (by omega)
  have kW := aupN e kW (by omega)
  have kH := aupN e kH (by omega)
  have kG := aupN e kG (by omega)
  have kR := aupN e kR (by omega)
  have fr := fr.up e (by omega)
  have kT := aupE e
  refine p_aload_n (i := 36) rfl rfl ?_
  refine p_getf (i := 37) rfl fX6_21 hp rfl ?_
  refine p_iconst (i := 38) rfl ?_
  refine p_aload_n (i := 39) rfl rfl ?_
  refine p_getf (i := 40) rfl fX6_21 kp rfl ?_
  refine p_iconst (i := 41) rfl ?_
  refine p_bipush (i := 42) rfl (by decide) ?_
  refine p_copy (i := 43) rfl lX6_52 w_copy hH kH (by omega) (by decide) (by decide) (P_gen fun M e => ?_)
  have hp := aupN e hp (by omega)
  have hS := aupN e hS (by omega)
  have hW := aupN e hW (by omega)
  have hT := aupN e hT (by omega)
  have hH := aupN e hH (by omega)
  have hG := aupN e hG (by omega)
  have hR := aupN e hR (by omega)
  have kp := aupN e kp (by omega)
  have kS := aupN e kS (by omega)
  have kW := aupN e kW (by omega)
  have kT := aupN e kT (by omega)
  have kG := aupN e kG (by omega)
  have kR := aupN e kR (by omega)
  have fr := fr.up e (by omega)
  have kH := aupE e
  refine p_ret (i := 44) rfl rfl ?_
  refine h M ⟨hP.1, _, _, _, _, lr0, lf0, lz0, ⟨kp, kS, kW, kT, kH, kG, kR⟩, fun k hk => ?_, fun j hj => ?_, r1, r2, r3, r4, fun q => by cases q⟩ fr
  · obtain ⟨e1, e2, e3⟩ := rL k hk
    exact ⟨(cpy_at (by show k < 10; omega)).trans e1, (cpy_at (by show k < 10; omega)).trans e2, (cpy_at (by show k < 10; omega)).trans e3⟩
  · exact (cpy_at (by show j < 6; omega)).trans (rH j hj)
theorem x_copyAll {M : AM} {p o ns nw : Nat} {g : GS} {Q : Option Value → AM → Prop} (hR0 : PairR M p) (hP : PairB true M o ns nw g) (hd : p + 7 ≤ o ∨ o + 7 ≤ p) (h : ∀ M', PairB true M' p ns nw g → FrI p 7 M M' → Q none M') : C mX6_copyAll [.ref p, .ref o] M Q := by
  obtain ⟨sc0, wh0, st0, hs0, lr0, lf0, lz0, n0, w0, y0, ⟨kp, kS, kW, kT, kH, kG, kR⟩, r1, r2, r3, r4⟩ := id hR0
  refine C_of okX6_copyAll (by decide) (Nat.le_of_ble_eq_true rfl) ?_
  show P none mX6_copyAll 0 [.ref p, .ref o] [] _ _
  refine p_aload_n (i := 0) rfl rfl ?_
  refine p_aload_n (i := 1) rfl rfl ?_
  refine p_cV1 (i := 2) rfl ⟨lX6_44, rfl, rfl⟩ kp ⟨_, rfl, rfl⟩ rfl (x_copyGlass hR0 hP hd (fun M1 hP1 fr1 => ?_))
  have hP2 := hP.fi fr1 (by omega)
  obtain ⟨⟨q1, q2, q3, q4, q5, q6, q7, q8, q9, q10, q11⟩, sc, wh, st, hs, lr, lf, lz, ⟨hp, hS, hW, hT, hH, hG, hR⟩, rL, rH, rG⟩ := id hP2
  obtain ⟨-, sc1, wh1, st1, hs1, lr1, lf1, lz1, ⟨kp, kS, kW, kT, kH, kG, kR⟩, rL1, rH1, -⟩ := id hP1
  refine p_aload_n (i := 3) rfl rfl ?_
  refine p_getf (i := 4) rfl fX6_27 kp rfl ?_
  refine p_aload_n (i := 5) rfl rfl ?_
  refine p_getf (i := 6) rfl fX6_27 hp rfl ?_
  refine p_cV1 (i := 7) rfl ⟨lX6_48, rfl, rfl⟩ kG ⟨_, rfl, rfl⟩ rfl (x_logCopy (l := p + 5) (o := o + 5) ⟨lr, lf, lz, hG, hR, rG⟩ kG kR (by omega) (fun M2 hlog fr2 => ?_))
  refine p_ret (i := 8) rfl rfl ?_
  obtain ⟨lr2, lf2, lz2, kG2, kR2, rG2⟩ := hlog
  exact h M2 ⟨hP.1, sc1, wh1, st1, hs1, lr2, lf2, lz2, ⟨fr2.at kp (by omega), fr2.at kS (by omega), fr2.at kW (by omega), fr2.at kT (by omega), fr2.at kH (by omega), kG2, kR2⟩, rL1, rH1, rG2⟩ ((fr1.weak (by omega)).tr (fr2.weak (by omega)))
end
section
/-! ===== the whole state, and how the class holds it ===== -/
abbrev ST : Type := List Int × Int × LN × GS × List GS × Option (GS × Int) × Option (GS × Int) × Int × List (Int × Int) × List (Int × Int)
def LineR (M : AM) (b : Nat) : Prop := ∃ (kf bf lc : Nat → Int) (lk : Nat → Nat → Int) (c s w : Int), LineAt M b kf bf lc lk c s w
theorem LineAt.fi {M M' : AM} {b a n : Nat} {kf bf lc : Nat → Int} {lk : Nat → Nat → Int} {c s w : Int} (h : LineAt M b kf bf lc lk c s w) (hf : FrI a n M M') (hd : b + 11 ≤ a ∨ a + n ≤ b) : LineAt M' b kf bf lc lk c s w := by
  obtain ⟨h1, h2, h3, h4, ⟨g, h5, h6⟩, h7⟩ := h
  exact ⟨hf.at h1 (by omega), hf.at h2 (by omega), hf.at h3 (by omega), hf.at h4 (by omega), ⟨g, hf.at h5 (by omega), h6⟩, fun i hi => hf.at (h7 i hi) (by omega)⟩
theorem LineR.fi {M M' : AM} {b a n : Nat} (h : LineR M b) (hf : FrI a n M M') (hd : b + 11 ≤ a ∨ a + n ≤ b) : LineR M' b := by
  obtain ⟨kf, bf, lc, lk, c, s, w, h⟩ := h
  exact ⟨kf, bf, lc, lk, c, s, w, h.fi hf hd⟩
theorem LineA.r {M : AM} {b : Nat} {ln : LN} (h : LineA M b ln) : LineR M b := by
  obtain ⟨-, kf, bf, lc, lk, h, -⟩ := h
  exact ⟨kf, bf, lc, lk, _, _, _, h⟩
def XRd (M : AM) (tx : List Int) : Prop := tx.length ≤ 240 ∧ ∃ (f : Nat → Int) (a ft fp : Int), M 1 = some (zO 7 [.ref 2, zI (tx.length : Nat), zI a, zI ft, zI fp]) ∧ M 2 = some (zA 240 f) ∧ ∀ i, i < tx.length → f i = tx.getD i 0 ∧ 0 ≤ tx.getD i 0 ∧ tx.getD i 0 ≤ 255
def XHi (M : AM) (ns nw : Nat) (un : List GS) : Prop := un.length ≤ 30 ∧ ∃ (g : Nat → Option Nat) (fs : Int), M 3 = some (zO 1 [.ref 4, zI fs, zI (un.length : Nat)]) ∧ M 4 = some (zR 3 30 g) ∧ (∀ i, i < 30 → g i = some (5 + 7 * i) ∧ PairR M (5 + 7 * i)) ∧ 0 ≤ fs ∧ fs < 30 ∧ ∀ i, i < un.length → ∀ r : Nat, (r : Int) = (fs + i) % 30 → PairB true M (5 + 7 * r) ns nw (un.getD i g0) ∧ (un.getD i g0).2.2.1 ≤ 90030
def XIm (M : AM) (ns nw b : Nat) (o : Option (GS × Int)) : Prop := PairR M (b + 1) ∧ ∃ (s k : Int), M b = some (zO 2 [.ref (b + 1), zI s, zI k]) ∧ (match o with
  | none => k = 0
  | some q => k = 1 ∧ s = q.2 ∧ 0 ≤ q.2 ∧ q.2 ≤ 2147483647 ∧ PairB true M (b + 1) ns nw q.1 ∧ q.1.2.2.1 ≤ 90030)
def XIr (M : AM) : Prop := ∃ g : Nat → Option Nat, M 215 = some (zR 2 2 g) ∧ g 0 = some 260 ∧ g 1 = some 268
def XTu (M : AM) : Prop := ∃ (f : Nat → Int) (z : Int), M 230 = some (zO 8 [.ref 231, zI z]) ∧ M 231 = some (zA 5 f)
def XMe (M : AM) (me : List (Int × Int)) : Prop := me.length ≤ 6 ∧ ∃ (f h : Nat → Int), M 232 = some (zO 5 [.ref 233, .ref 234, zI (me.length : Nat)]) ∧ M 233 = some (zA 6 f) ∧ M 234 = some (zB 6 h) ∧ ∀ i, i < me.length → f i = (me.getD i (0, 0)).1 ∧ h i = (me.getD i (0, 0)).2 ∧ 0 ≤ (me.getD i (0, 0)).1 ∧ (me.getD i (0, 0)).1 ≤ 7 ∧ ((me.getD i (0, 0)).2 = 0 ∨ (me.getD i (0, 0)).2 = 1)
def XBo (M : AM) (bo : List (Int × Int)) : Prop := bo.length ≤ 20 ∧ ∃ (f h : Nat → Int), M 235 = some (zO 0 [.ref 236, .ref 237, zI (bo.length : Nat)]) ∧ M 236 = some (zA 20 f) ∧ M 237 = some (zA 20 h) ∧ ∀ i, i < bo.length → f i = (bo.getD i (0, 0)).1 ∧ h i = (bo.getD i (0, 0)).2 ∧ 0 ≤ (bo.getD i (0, 0)).1 ∧ (bo.getD i (0, 0)).1 ≤ 7 ∧ 0 ≤ (bo.getD i (0, 0)).2 ∧ (bo.getD i (0, 0)).2 ≤ 7
def XRt (M : AM) (la sa : Nat) (fa sd : Int) : Prop := M 0 = some (zO 9 [.ref 1, .ref 3, .ref 215, .ref 216, .ref 223, .ref 230, .ref 232, .ref 235, .ref la, .ref sa, zI fa, zI sd]) ∧ (la = 238 ∧ sa = 249 ∨ la = 249 ∧ sa = 238)
/-- what is written into met and book are scenes of the line -/
def LiOk (ns : Nat) (l : List (Int × Int)) : Prop := ∀ i, i < l.length → (l.getD i (0, 0)).1 < ns
def LiOk2 (ns : Nat) (l : List (Int × Int)) : Prop := ∀ i, i < l.length → (l.getD i (0, 0)).1 < ns ∧ (l.getD i (0, 0)).2 < ns
def XW (M : AM) (σ : ST) : Prop := match σ with
  | (tx, fa, ln, g, un, i0, i1, sd, me, bo) => ∃ la sa : Nat, XRt M la sa fa sd ∧ XRd M tx ∧ XHi M (nS ln) (nW ln) un ∧ XIr M ∧ XIm M (nS ln) (nW ln) 260 i0 ∧ XIm M (nS ln) (nW ln) 268 i1 ∧ PairB true M 216 (nS ln) (nW ln) g ∧ PairR M 223 ∧ XTu M ∧ XMe M me ∧ XBo M bo ∧ LineA M la ln ∧ LineR M sa ∧ g.2.2.1 ≤ 90030 ∧ 0 ≤ sd ∧ sd ≤ 2147483647 ∧ LiOk (nS ln) me ∧ LiOk2 (nS ln) bo ∧ -1 ≤ fa ∧ fa ≤ 240
theorem XRd.fi {M M' : AM} {tx : List Int} {a n : Nat} (h : XRd M tx) (hf : FrI a n M M') (hd : 3 ≤ a ∨ a + n ≤ 1) : XRd M' tx := by
  obtain ⟨h0, f, x, ft, fp, h1, h2, h3⟩ := h
  exact ⟨h0, f, x, ft, fp, hf.at h1 (by omega), hf.at h2 (by omega), h3⟩
theorem XHi.fi {M M' : AM} {ns nw : Nat} {un : List GS} {a n : Nat} (h : XHi M ns nw un) (hf : FrI a n M M') (hd : 215 ≤ a ∨ a + n ≤ 3) : XHi M' ns nw un := by
  obtain ⟨h0, g, fs, h1, h2, h3, h4, h5, h6⟩ := h
  exact ⟨h0, g, fs, hf.at h1 (by omega), hf.at h2 (by omega), fun i hi => ⟨(h3 i hi).1, (h3 i hi).2.fi hf (by omega)⟩, h4, h5, fun i hi r hr => ⟨(h6 i hi r hr).1.fi hf (by omega), (h6 i hi r hr).2⟩⟩
theorem XIm.fi {M M' : AM} {ns nw b : Nat} {o : Option (GS × Int)} {a n : Nat} (h : XIm M ns nw b o) (hf : FrI a n M M') (hd : b + 8 ≤ a ∨ a + n ≤ b) : XIm M' ns nw b o := by
  obtain ⟨h0, s, k, h1, h2⟩ := h
  refine ⟨h0.fi hf (by omega), s, k, hf.at h1 (by omega), ?_⟩
  cases o with
  | none => exact h2
  | some q => exact ⟨h2.1, h2.2.1, h2.2.2.1, h2.2.2.2.1, h2.2.2.2.2.1.fi hf (by omega), h2.2.2.2.2.2⟩
theorem XIr.fi {M M' : AM} {a n : Nat} (h : XIr M) (hf : FrI a n M M') (hd : 216 ≤ a ∨ a + n ≤ 215) : XIr M' := by
  obtain ⟨g, h1, h2, h3⟩ := h
  exact ⟨g, hf.at h1 (by omega), h2, h3⟩
theorem XTu.fi {M M' : AM} {a n : Nat} (h : XTu M) (hf : FrI a n M M') (hd : 232 ≤ a ∨ a + n ≤ 230) : XTu M' := by
  obtain ⟨f, z, h1, h2⟩ := h
  exact ⟨f, z, hf.at h1 (by omega), hf.at h2 (by omega)⟩
theorem XMe.fi {M M' : AM} {me : List (Int × Int)} {a n : Nat} (h : XMe M me) (hf : FrI a n M M') (hd : 235 ≤ a ∨ a + n ≤ 232) : XMe M' me := by
  obtain ⟨h0, f, g, h1, h2, h3, h4⟩ := h
  exact ⟨h0, f, g, hf.at h1 (by omega), hf.at h2 (by omega), hf.at h3 (by omega), h4⟩
theorem XBo.fi {M M' : AM} {bo : List (Int × Int)} {a n : Nat} (h : XBo M bo) (hf : FrI a n M M') (hd : 238 ≤ a ∨ a + n ≤ 235) : XBo M' bo := by
  obtain ⟨h0, f, g, h1, h2, h3, h4⟩ := h
  exact ⟨h0, f, g, hf.at h1 (by omega), hf.at h2 (by omega), hf.at h3 (by omega), h4⟩
theorem XRt.fi {M M' : AM} {la sa : Nat} {fa sd : Int} {a n : Nat} (h : XRt M la sa fa sd) (hf : FrI a n M M') (hd : 1 ≤ a) : XRt M' la sa fa sd := ⟨hf.at h.1 (by omega), h.2⟩
theorem XW.fi {M M' : AM} {σ : ST} {a n : Nat} (h : XW M σ) (hf : FrI a n M M') (hd : 276 ≤ a) : XW M' σ := by
  obtain ⟨tx, fa, ln, g, un, i0, i1, sd, me, bo⟩ := σ
  obtain ⟨la, sa, h1, h2, h3, h4, h5, h6, h7, h8, h9, h10, h11, h12, h13, h14⟩ := h
  have hla := h1.2
  exact ⟨la, sa, h1.fi hf (by omega), h2.fi hf (by omega), h3.fi hf (by omega), h4.fi hf (by omega), h5.fi hf (by omega), h6.fi hf (by omega), h7.fi hf (by omega), h8.fi hf (by omega), h9.fi hf (by omega), h10.fi hf (by omega), h11.fi hf (by omega), h12.fi hf (by omega), h13.fi hf (by omega), h14⟩
end
section
/-! ===== what each call answers, and what it makes of the state ===== -/
def rem (un : List GS) (g : GS) : List GS := (if un.length = 30 then un.drop 1 else un) ++ [g]
theorem rem_len {un : List GS} {g : GS} (h : un.length ≤ 30) : (rem un g).length = if un.length = 30 then 30 else un.length + 1 := by
  unfold rem
  split <;> simp <;> omega
def ftL (me : List (Int × Int)) (t : Int) : Nat → Nat → Int
  | 0, _ => 1
  | f + 1, k => if (t = (me.getD k (0, 0)).1 ↔ (me.getD k (0, 0)).2 = 1) then ftL me t f (k + 1) else 0
theorem ftL_01 (me : List (Int × Int)) (t : Int) : ∀ f k, ftL me t f k = 0 ∨ ftL me t f k = 1
  | 0, _ => Or.inr rfl
  | f + 1, k => by
    unfold ftL
    split
    · exact ftL_01 me t f (k + 1)
    · exact Or.inl rfl
def stf (ln : LN) (Ls : List LY) (x : Int) : Nat := fo (fun y s => if tk ln Ls (y : Int) 0 0 = x then s ||| 2 ^ y else s) (nS ln) 0 0
def all_ (nw : Nat) (Ls : List LY) : Nat := if nw = 0 then 0 else fo (fun w s => s &&& scOf Ls (w : Int)) (nw - 1) 1 (scOf Ls 0)
/-- how many bits, of ten -/
def popc (n : Nat) : Nat := (List.range 10).countP (fun i => n.testBit i)
def kinStep (Ls : List LY) (w : Nat) (v : Nat) (s : Int × Int) : Int × Int := if v ≠ w ∧ s.2 < (popc (scOf Ls w &&& scOf Ls v) : Int) then ((v : Int), (popc (scOf Ls w &&& scOf Ls v) : Int)) else s
def kin_ (nw : Nat) (Ls : List LY) (w : Nat) : Int := (fo (kinStep Ls w) nw 0 (-1, 0)).1
def tryN (ln : LN) : Nat → GS → GS
  | 0, g => g
  | n + 1, g => tryN ln n (passY ln g)
def drw (sd : Int) : Int := (sd * 1103515245 + 12345) % 2147483648
theorem drw_rng {sd : Int} : 0 ≤ drw sd ∧ drw sd ≤ 2147483647 := by unfold drw; omega
def byDraw (ln : LN) (g : GS) (sd : Int) : GS × Int :=
  if drw sd / 65536 % 8 = 0 ∧ 0 < nW ln then ((g.1, drw (drw sd) / 65536 % (nW ln : Int), g.2.2), drw (drw sd))
  else if drw sd / 65536 % 8 = 1 ∧ 0 < g.1.length then ((g.1.eraseIdx (drw (drw sd) / 65536 % (g.1.length : Int)).toNat, g.2), drw (drw sd))
  else if drw sd / 65536 % 8 = 2 ∧ 0 < nS ln then ((layL g.1 (drw (drw sd) / 65536 % (nS ln : Int), -1, drw (drw (drw sd)) / 65536 % 30 + 1), g.2), drw (drw (drw sd)))
  else if drw sd / 65536 % 8 = 3 then ((g.1, -1, g.2.2), drw sd)
  else (g, drw sd)
def yearN (ln : LN) : Nat → GS → List GS → GS × List GS
  | 0, g, un => (g, un)
  | n + 1, g, un => yearN ln n (passY ln g) (rem un g)
def driftN (ln : LN) : Nat → GS → List GS → Int → GS × List GS × Int
  | 0, g, un, sd => (g, un, sd)
  | n + 1, g, un, sd => driftN ln n (passY ln (byDraw ln g sd).1) (rem un g) (byDraw ln g sd).2
def tdk (ln : LN) (m : Int) : Nat → Nat → GS → Int
  | 0, _, _ => -1
  | f + 1, n, g => if m ≤ smAll g.1 / 10 then (n : Int) else tdk ln m f (n + 1) (passY ln g)
def grd (ln : LN) (Ls : List LY) (x : Int) : Nat → Nat → Int
  | 0, _ => -1
  | f + 1, k => if tk ln Ls x (k : Int) 0 = x then (k : Int) else grd ln Ls x f (k + 1)
def mst (q : Int) : Nat → Int → Int
  | 0, x => x
  | n + 1, x => mst q n (x * q / 100)
def cb (ln : LN) (Ls : List LY) (me : List (Int × Int)) : Nat := fo (fun x s => if ftL me (tk ln Ls (x : Int) 0 0) me.length 0 = 1 then s ||| 2 ^ x else s) (nS ln) 0 0
def askStep (ln : LN) (Ls : List LY) (set : Nat) (x : Nat) (s : Int × Int) : Int × Int := if max (popc (set &&& stf ln Ls x) : Int) (popc set - popc (set &&& stf ln Ls x)) < s.2 then ((x : Int), max (popc (set &&& stf ln Ls x) : Int) (popc set - popc (set &&& stf ln Ls x))) else s
def ask_ (ln : LN) (Ls : List LY) (set : Nat) : Int := (fo (askStep ln Ls set) (nS ln) 0 (-1, (popc set : Int))).1
def jdg (ln : LN) (Ls : List LY) (bo : List (Int × Int)) : Int := fi (fun i => decide (tk ln Ls (bo.getD i (0, 0)).1 0 0 ≠ (bo.getD i (0, 0)).2)) bo.length 0
end
section
-- History, Met, Book of the class
theorem gd_app {α : Type} {l : List α} {x d : α} {i : Nat} (h : i < l.length + 1) : (l ++ [x]).getD i d = if i = l.length then x else l.getD i d := by
  by_cases e : i = l.length
  · rw [if_pos e, e, gd_app_last]
  · rw [if_neg e, gd_app_l (by omega)]
theorem x_histForget {M : AM} {ns nw : Nat} {un : List GS} {ns' nw' : Nat} {Q : Option Value → AM → Prop} (hH : XHi M ns nw un) (h : ∀ M', XHi M' ns' nw' [] → FrI 3 1 M M' → Q none M') : C mX1_forget [.ref 3] M Q := by
  obtain ⟨h0, gg, fs, k3, k4, h3, h4, h5, h6⟩ := hH
  have fr : FrI 3 1 M M := FrI.rf
  refine C_of okX1_forget (by decide) (Nat.le_of_ble_eq_true rfl) ?_
  show P none mX1_forget 0 [.ref 3] [] _ _
  refine p_aload_n (i := 0) rfl rfl ?_
  refine p_iconst (i := 1) rfl ?_
  refine p_puti (i := 2) rfl gX1_17 k3 rfl (P_gen fun M e => ?_)
  have k4 := aupN e k4 (by omega)
  have fr := fr.up e (by omega)
  have k3 := aupE e
  refine p_aload_n (i := 3) rfl rfl ?_
  refine p_iconst (i := 4) rfl ?_
  refine p_puti (i := 5) rfl gX1_21 k3 rfl (P_gen fun M e => ?_)
  have k4 := aupN e k4 (by omega)
  have fr := fr.up e (by omega)
  have k3 := aupE e
  refine p_ret (i := 6) rfl rfl ?_
  exact h M ⟨by decide, gg, 0, k3, k4, fun i hi => ⟨(h3 i hi).1, (h3 i hi).2.fi fr (by omega)⟩, by decide, by decide, fun i hi => absurd hi (Nat.not_lt_zero i)⟩ fr
theorem x_remember {M : AM} {ns nw : Nat} {un : List GS} {g : GS} {Q : Option Value → AM → Prop} (hH : XHi M ns nw un) (hP : PairB true M 216 ns nw g) (hy : g.2.2.1 ≤ 90030) (h : ∀ M', XHi M' ns nw (rem un g) → FrI 3 212 M M' → Q none M') : C mX1_remember [.ref 3, .ref 216] M Q := by
  obtain ⟨h0, gg, fs, k3, k4, h3, h4, h5, h6⟩ := hH
  obtain ⟨r, hr⟩ : ∃ r : Nat, (r : Int) = (fs + un.length) % 30 := ⟨((fs + un.length) % 30).toNat, by omega⟩
  refine C_of okX1_remember (by decide) (Nat.le_of_ble_eq_true rfl) ?_
  show P none mX1_remember 0 [.ref 3, .ref 216] [] _ _
  refine p_aload_n (i := 0) rfl rfl ?_
  refine p_getf (i := 1) rfl fX1_11 k3 rfl ?_
  refine p_aload_n (i := 2) rfl rfl ?_
  refine p_getf (i := 3) rfl fX1_17 k3 rfl ?_
  refine p_aload_n (i := 4) rfl rfl ?_
  refine p_getf (i := 5) rfl fX1_21 k3 rfl ?_
  refine p_iadd (i := 6) rfl ?_
  refine p_bipush (i := 7) rfl (by decide) ?_
  refine p_irem (i := 8) rfl (by omega) (by omega) ?_
  refine p_aaX (i := 9) (r) rfl k4 (by omega) (by omega) (by omega) (by decide) (h3 _ (by omega)).1 ?_
  refine p_aload_n (i := 10) rfl rfl ?_
  obtain ⟨sc0, wh0, st0, hs0, lr0, lf0, lz0, n0, w0, y0, ⟨kp, kS, kW, kT, kH, kG, kR⟩, r1, r2, r3, r4⟩ := id (h3 r (by omega)).2
  refine p_cV1 (i := 11) rfl ⟨lX1_25, rfl, rfl⟩ kp ⟨_, rfl, rfl⟩ rfl (x_copyAll (h3 r (by omega)).2 hP (by omega) (fun M1 hP1 fr1 => ?_))
  have k3 := fr1.at k3 (by omega)
  have k4 := fr1.at k4 (by omega)
  have fr : FrI 3 212 M M1 := fr1.weak (by omega)
  have old : ∀ i q : Nat, i < un.length → (q : Int) = (fs + i) % 30 → q ≠ r → PairB true M1 (5 + 7 * q) ns nw (un.getD i g0) ∧ (un.getD i g0).2.2.1 ≤ 90030 := fun i q hi hq hn => ⟨(h6 i hi q hq).1.fi fr1 (by omega), (h6 i hi q hq).2⟩
  have hrr : ∀ i, i < 30 → gg i = some (5 + 7 * i) ∧ PairR M1 (5 + 7 * i) := fun i hi => ⟨(h3 i hi).1, by
    by_cases e : i = r
    · rw [e]; exact hP1.r
    · exact (h3 i hi).2.fi fr1 (by omega)⟩
  have fin : ∀ (M2 : AM) (f2 : Int), FrI 3 1 M1 M2 → M2 3 = some (zO 1 [.ref 4, zI f2, zI ((rem un g).length : Nat)]) → f2 = (if un.length = 30 then (fs + 1) % 30 else fs) → Q none M2 := by
    intro M2 f2 fr2 k32 hf2
    have hl := rem_len (g := g) h0
    refine h M2 ⟨by rw [hl]; split <;> omega, gg, f2, k32, fr2.at k4 (by omega), fun i hi => ⟨(hrr i hi).1, (hrr i hi).2.fi fr2 (by omega)⟩, by rw [hf2]; split <;> omega, by rw [hf2]; split <;> omega, fun i hi q hq => ?_⟩ (fr.tr (fr2.weak (by omega)))
    rw [hl] at hi
    by_cases c : un.length = 30
    · rw [if_pos c] at hi hf2
      have e1 : rem un g = un.drop 1 ++ [g] := by unfold rem; rw [if_pos c]
      have e2 : (un.drop 1).length = 29 := by rw [List.length_drop, c]
      rw [e1, gd_app (by omega)]
      by_cases c2 : i = (un.drop 1).length
      · rw [if_pos c2]
        rw [show q = r by omega]
        exact ⟨hP1.fi fr2 (by omega), hy⟩
      · rw [if_neg c2, gd_drop]
        have := old (1 + i) q (by omega) (by omega) (by omega)
        exact ⟨this.1.fi fr2 (by omega), this.2⟩
    · rw [if_neg c] at hi hf2
      have e1 : rem un g = un ++ [g] := by unfold rem; rw [if_neg c]
      rw [e1, gd_app (by omega)]
      by_cases c2 : i = un.length
      · rw [if_pos c2]
        rw [show q = r by omega]
        exact ⟨hP1.fi fr2 (by omega), hy⟩
      · rw [if_neg c2]
        have := old i q (by omega) (by omega) (by omega)
        exact ⟨this.1.fi fr2 (by omega), this.2⟩
  have fr2 : FrI 3 1 M1 M1 := FrI.rf
  have hl := rem_len (g := g) h0
  refine p_aload_n (i := 12) rfl rfl ?_
  refine p_getf (i := 13) rfl fX1_21 k3 rfl ?_
  refine p_bipush (i := 14) rfl (by decide) ?_
  refine p_icmp_ge (i := 15) 43 rfl (by decide) (by omega) (by omega) (fun c27 => ?_) (fun c27 => ?_)
  · refine p_aload_n (i := 23) rfl rfl ?_
    refine p_aload_n (i := 24) rfl rfl ?_
    refine p_getf (i := 25) rfl fX1_17 k3 rfl ?_
    refine p_iconst (i := 26) rfl ?_
    refine p_iadd (i := 27) rfl ?_
    refine p_bipush (i := 28) rfl (by decide) ?_
    refine p_irem (i := 29) rfl (by omega) (by omega) ?_
    refine p_puti (i := 30) rfl gX1_17 k3 rfl (P_gen fun M e => ?_)
    have k4 := aupN e k4 (by omega)
    have fr2 := fr2.up e (by omega)
    have k3 := aupE e
    refine p_ret (i := 31) rfl rfl ?_
    rw [if_pos (by omega)] at hl
    have e : ((un.length : Nat) : Int) = (((rem un g).length : Nat) : Int) := by omega
    rw [e] at k3
    exact fin M _ fr2 k3 (by rw [if_pos (by omega)])
  · refine p_aload_n (i := 16) rfl rfl ?_
    refine p_dup (i := 17) rfl rfl ?_
    refine p_getf (i := 18) rfl fX1_21 k3 rfl ?_
    refine p_iconst (i := 19) rfl ?_
    refine p_iadd (i := 20) rfl ?_
    refine p_puti (i := 21) rfl gX1_21 k3 rfl (P_gen fun M e => ?_)
    have k4 := aupN e k4 (by omega)
    have fr2 := fr2.up e (by omega)
    have k3 := aupE e
    refine p_goto (i := 22) 56 rfl (by decide) ?_
    refine p_ret (i := 31) rfl rfl ?_
    rw [if_neg (by omega)] at hl
    have e : ((un.length : Nat) : Int) + 1 = (((rem un g).length : Nat) : Int) := by omega
    rw [e] at k3
    exact fin M _ fr2 k3 (by rw [if_neg (by omega)])
theorem x_restore {M : AM} {ns nw : Nat} {un : List GS} {n : Int} {Q : Option Value → AM → Prop} (hH : XHi M ns nw un) (hP : PairR M 216) (hn : 1 ≤ n ∧ n ≤ un.length) (h : ∀ M1 M', FrI 3 1 M M1 → FrI 216 7 M1 M' → XHi M' ns nw (un.take (un.length - n.toNat)) → PairB true M' 216 ns nw (un.getD (un.length - n.toNat) g0) → (un.getD (un.length - n.toNat) g0).2.2.1 ≤ 90030 → Q none M') : C mX1_restore [.ref 3, .ref 216, zI n] M Q := by
  obtain ⟨h0, gg, fs, k3, k4, h3, h4, h5, h6⟩ := hH
  obtain ⟨r, hr⟩ : ∃ r : Nat, (r : Int) = (fs + (un.length - n)) % 30 := ⟨((fs + (un.length - n)) % 30).toNat, by omega⟩
  have fr : FrI 3 1 M M := FrI.rf
  refine C_of okX1_restore (by decide) (Nat.le_of_ble_eq_true rfl) ?_
  show P none mX1_restore 0 [.ref 3, .ref 216, zI n] [] _ _
  refine p_iload_n (i := 0) rfl rfl ?_
  refine p_iconst (i := 1) rfl ?_
  refine p_icmp_lt (i := 2) 44 rfl (by decide) (by omega) (by omega) (fun c2 => by exfalso; omega) (fun c2 => ?_)
  refine p_iload_n (i := 3) rfl rfl ?_
  refine p_aload_n (i := 4) rfl rfl ?_
  refine p_getf (i := 5) rfl fX1_21 k3 rfl ?_
  refine p_icmp_gt (i := 6) 44 rfl (by decide) (by omega) (by omega) (fun c10 => by exfalso; omega) (fun c10 => ?_)
  refine p_aload_n (i := 7) rfl rfl ?_
  refine p_dup (i := 8) rfl rfl ?_
  refine p_getf (i := 9) rfl fX1_21 k3 rfl ?_
  refine p_iload_n (i := 10) rfl rfl ?_
  refine p_isub (i := 11) rfl ?_
  refine p_puti (i := 12) rfl gX1_21 k3 rfl (P_gen fun M e => ?_)
  have k4 := aupN e k4 (by omega)
  have fr := fr.up e (by omega)
  have k3 := aupE e
  refine p_aload_n (i := 13) rfl rfl ?_
  refine p_aload_n (i := 14) rfl rfl ?_
  refine p_getf (i := 15) rfl fX1_11 k3 rfl ?_
  refine p_aload_n (i := 16) rfl rfl ?_
  refine p_getf (i := 17) rfl fX1_17 k3 rfl ?_
  refine p_aload_n (i := 18) rfl rfl ?_
  refine p_getf (i := 19) rfl fX1_21 k3 rfl ?_
  refine p_iadd (i := 20) rfl ?_
  refine p_bipush (i := 21) rfl (by decide) ?_
  refine p_irem (i := 22) rfl (by omega) (by omega) ?_
  refine p_aaX (i := 23) (r) rfl k4 (by omega) (by omega) (by omega) (by decide) (h3 _ (by omega)).1 ?_
  obtain ⟨hb, hy⟩ := h6 (un.length - n.toNat) (by omega) r (by omega)
  have hP1 := hP.fi fr (by omega)
  have hb1 := hb.fi fr (by omega)
  obtain ⟨sc0, wh0, st0, hs0, lr0, lf0, lz0, n0, w0, y0, ⟨kp, kS, kW, kT, kH, kG, kR⟩, r1, r2, r3, r4⟩ := id hP1
  refine p_cV1 (i := 24) rfl ⟨lX1_25, rfl, rfl⟩ kp ⟨_, rfl, rfl⟩ rfl (x_copyAll hP1 hb1 (by omega) (fun M2 hP2 fr2 => ?_))
  refine p_ret (i := 25) rfl rfl ?_
  have k3 := fr2.at k3 (by omega)
  have k4 := fr2.at k4 (by omega)
  have hl : (un.take (un.length - n.toNat)).length = un.length - n.toNat := by rw [List.length_take]; omega
  refine h M M2 fr fr2 ⟨by rw [hl]; omega, gg, fs, ?_, k4, fun i hi => ⟨(h3 i hi).1, ((h3 i hi).2.fi fr (by omega)).fi fr2 (by omega)⟩, h4, h5, fun i hi q hq => ?_⟩ hP2 hy
  · rw [hl, show ((un.length - n.toNat : Nat) : Int) = (un.length : Int) - n by omega]
    exact k3
  · rw [hl] at hi
    have e : (un.take (un.length - n.toNat)).getD i g0 = un.getD i g0 := by
      rw [List.getD_eq_getElem?_getD, List.getElem?_take, if_pos (by omega), List.getD_eq_getElem?_getD]
    rw [e]
    obtain ⟨a1, a2⟩ := h6 i (by omega) q hq
    exact ⟨(a1.fi fr (by omega)).fi fr2 (by omega), a2⟩
theorem x_metForget {M : AM} {me : List (Int × Int)} {Q : Option Value → AM → Prop} (hM : XMe M me) (h : ∀ M', XMe M' [] → FrI 232 3 M M' → Q none M') : C mX5_forget [.ref 232] M Q := by
  obtain ⟨h0, f, hh, k1, k2, k3, h4⟩ := hM
  have fr : FrI 232 3 M M := FrI.rf
  refine C_of okX5_forget (by decide) (Nat.le_of_ble_eq_true rfl) ?_
  show P none mX5_forget 0 [.ref 232] [] _ _
  refine p_aload_n (i := 0) rfl rfl ?_
  refine p_iconst (i := 1) rfl ?_
  refine p_puti (i := 2) rfl gX5_19 k1 rfl (P_gen fun M e => ?_)
  have k2 := aupN e k2 (by omega)
  have k3 := aupN e k3 (by omega)
  have fr := fr.up e (by omega)
  have k1 := aupE e
  refine p_ret (i := 3) rfl rfl ?_
  exact h M ⟨by decide, f, hh, k1, k2, k3, fun i hi => absurd hi (Nat.not_lt_zero i)⟩ fr
theorem x_metAdd {M : AM} {me : List (Int × Int)} {x v : Int} {Q : Option Value → AM → Prop} (hM : XMe M me) (hl : me.length < 6) (hx : 0 ≤ x ∧ x ≤ 7) (hv : v = 0 ∨ v = 1) (h : ∀ M', XMe M' (me ++ [(x, v)]) → FrI 232 3 M M' → Q none M') : C mX5_add [.ref 232, zI x, zI v] M Q := by
  obtain ⟨h0, f, hh, k1, k2, k3, h4⟩ := hM
  have fr : FrI 232 3 M M := FrI.rf
  refine C_of okX5_add (by decide) (Nat.le_of_ble_eq_true rfl) ?_
  show P none mX5_add 0 [.ref 232, zI x, zI v] [] _ _
  refine p_aload_n (i := 0) rfl rfl ?_
  refine p_getf (i := 1) rfl fX5_19 k1 rfl ?_
  refine p_bipush (i := 2) rfl (by decide) ?_
  refine p_icmp_ge (i := 3) 39 rfl (by decide) (by omega) (by omega) (fun c6 => by exfalso; omega) (fun c6 => ?_)
  refine p_aload_n (i := 4) rfl rfl ?_
  refine p_getf (i := 5) rfl fX5_9 k1 rfl ?_
  refine p_aload_n (i := 6) rfl rfl ?_
  refine p_getf (i := 7) rfl fX5_19 k1 rfl ?_
  refine p_iload_n (i := 8) rfl rfl ?_
  refine p_isX (i := 9) _ rfl k2 rfl (by omega) (by decide) (P_gen fun M e => ?_)
  have k1 := aupN e k1 (by omega)
  have k3 := aupN e k3 (by omega)
  have fr := fr.up e (by omega)
  have k2 := aupE e
  refine p_aload_n (i := 10) rfl rfl ?_
  refine p_getf (i := 11) rfl fX5_15 k1 rfl ?_
  refine p_aload_n (i := 12) rfl rfl ?_
  refine p_getf (i := 13) rfl fX5_19 k1 rfl ?_
  refine p_iload_n (i := 14) rfl rfl ?_
  refine p_zsX (i := 15) _ rfl k3 rfl (by omega) (by decide) (by omega) (P_gen fun M e => ?_)
  have k1 := aupN e k1 (by omega)
  have k2 := aupN e k2 (by omega)
  have fr := fr.up e (by omega)
  have k3 := aupE e
  refine p_aload_n (i := 16) rfl rfl ?_
  refine p_dup (i := 17) rfl rfl ?_
  refine p_getf (i := 18) rfl fX5_19 k1 rfl ?_
  refine p_iconst (i := 19) rfl ?_
  refine p_iadd (i := 20) rfl ?_
  refine p_puti (i := 21) rfl gX5_19 k1 rfl (P_gen fun M e => ?_)
  have k2 := aupN e k2 (by omega)
  have k3 := aupN e k3 (by omega)
  have fr := fr.up e (by omega)
  have k1 := aupE e
  refine p_ret (i := 22) rfl rfl ?_
  have e : ((me.length : Nat) : Int) + 1 = (((me ++ [(x, v)]).length : Nat) : Int) := by simp
  rw [e] at k1
  refine h M ⟨by simp; omega, _, _, k1, k2, k3, fun i hi => ?_⟩ fr
  have hi : i < me.length + 1 := by simpa using hi
  rw [gd_app hi]
  by_cases c : i = me.length
  · rw [if_pos c, c, zup_e, zup_e]
    exact ⟨rfl, rfl, hx.1, hx.2, hv⟩
  · rw [if_neg c, zup_n c, zup_n c]
    exact h4 i (by omega)
theorem x_fits {M : AM} {me : List (Int × Int)} {t : Int} {Q : Option Value → AM → Prop} (hM : XMe M me) (ht : 0 ≤ t ∧ t ≤ 7) (h : Q (some (zI (ftL me t me.length 0))) M) : C mX5_fits [.ref 232, zI t] M Q := by
  obtain ⟨h0, f, hh, k1, k2, k3, h4⟩ := hM
  have loop : ∀ (n k : Nat), k + n = me.length → Q (some (zI (ftL me t n k))) M → P none mX5_fits 2 [.ref 232, zI t, zI (k : Int)] []  M Q := by
    intro n
    induction n with
    | zero =>
      intro k hk hq
      refine p_iload_n (i := 2) rfl rfl ?_
      refine p_aload_n (i := 3) rfl rfl ?_
      refine p_getf (i := 4) rfl fX5_19 k1 rfl ?_
      refine p_icmp_ge (i := 5) 48 rfl (by decide) (by omega) (by omega) (fun c7 => ?_) (fun c7 => by exfalso; omega)
      refine p_iconst (i := 27) rfl ?_
      refine p_iret (i := 28) rfl rfl (by decide) ?_
      exact hq
    | succ n ih =>
      intro k hk hq
      obtain ⟨e1, e2, e3, e4, e5⟩ := h4 k (by omega)
      unfold ftL at hq
      refine p_iload_n (i := 2) rfl rfl ?_
      refine p_aload_n (i := 3) rfl rfl ?_
      refine p_getf (i := 4) rfl fX5_19 k1 rfl ?_
      refine p_icmp_ge (i := 5) 48 rfl (by decide) (by omega) (by omega) (fun c7 => by exfalso; omega) (fun c7 => ?_)
      refine p_iload_n (i := 6) rfl rfl ?_
      refine p_bipush (i := 7) rfl (by decide) ?_
      refine p_icmp_ge (i := 8) 48 rfl (by decide) (by omega) (by omega) (fun c13 => by exfalso; omega) (fun c13 => ?_)
      refine p_iload_n (i := 9) rfl rfl ?_
      refine p_aload_n (i := 10) rfl rfl ?_
      refine p_getf (i := 11) rfl fX5_9 k1 rfl ?_
      refine p_iload_n (i := 12) rfl rfl ?_
      refine p_iaX (i := 13) _ rfl k2 rfl (by omega) (by decide) ?_
      refine p_icmp_ne (i := 14) 30 rfl (by decide) (by omega) (by omega) (fun c23 => ?_) (fun c23 => ?_)
      · refine p_iconst (i := 17) rfl ?_
        refine p_aload_n (i := 18) rfl rfl ?_
        refine p_getf (i := 19) rfl fX5_15 k1 rfl ?_
        refine p_iload_n (i := 20) rfl rfl ?_
        refine p_zaX (i := 21) _ rfl k3 rfl (by omega) (by decide) ?_
        refine p_icmp_eq (i := 22) 42 rfl (by decide) (by omega) (by omega) (fun c37 => ?_) (fun c37 => ?_)
        · refine p_iinc (i := 25) rfl rfl rfl ?_
          refine p_goto (i := 26) 2 rfl (by decide) ?_
          rw [if_pos (by constructor <;> intro z <;> omega)] at hq
          exact ih (k + 1) (by omega) hq
        · refine p_iconst (i := 23) rfl ?_
          refine p_iret (i := 24) rfl rfl (by decide) ?_
          rw [if_neg (by intro z; omega)] at hq
          exact hq
      · refine p_iconst (i := 15) rfl ?_
        refine p_goto (i := 16) 31 rfl (by decide) ?_
        refine p_aload_n (i := 18) rfl rfl ?_
        refine p_getf (i := 19) rfl fX5_15 k1 rfl ?_
        refine p_iload_n (i := 20) rfl rfl ?_
        refine p_zaX (i := 21) _ rfl k3 rfl (by omega) (by decide) ?_
        refine p_icmp_eq (i := 22) 42 rfl (by decide) (by omega) (by omega) (fun c37 => ?_) (fun c37 => ?_)
        · refine p_iinc (i := 25) rfl rfl rfl ?_
          refine p_goto (i := 26) 2 rfl (by decide) ?_
          rw [if_pos (by constructor <;> intro z <;> omega)] at hq
          exact ih (k + 1) (by omega) hq
        · refine p_iconst (i := 23) rfl ?_
          refine p_iret (i := 24) rfl rfl (by decide) ?_
          rw [if_neg (by intro z; omega)] at hq
          exact hq
  refine C_of okX5_fits (by decide) (Nat.le_of_ble_eq_true rfl) ?_
  show P none mX5_fits 0 [.ref 232, zI t, .retAddr 0] [] _ _
  refine p_iconst (i := 0) rfl ?_
  refine p_istore_n (i := 1) rfl rfl ?_
  exact loop me.length 0 (by omega) h
theorem x_bookForget {M : AM} {bo : List (Int × Int)} {Q : Option Value → AM → Prop} (hM : XBo M bo) (h : ∀ M', XBo M' [] → FrI 235 3 M M' → Q none M') : C mX0_forget [.ref 235] M Q := by
  obtain ⟨h0, f, hh, k1, k2, k3, h4⟩ := hM
  have fr : FrI 235 3 M M := FrI.rf
  refine C_of okX0_forget (by decide) (Nat.le_of_ble_eq_true rfl) ?_
  show P none mX0_forget 0 [.ref 235] [] _ _
  refine p_aload_n (i := 0) rfl rfl ?_
  refine p_iconst (i := 1) rfl ?_
  refine p_puti (i := 2) rfl gX0_18 k1 rfl (P_gen fun M e => ?_)
  have k2 := aupN e k2 (by omega)
  have k3 := aupN e k3 (by omega)
  have fr := fr.up e (by omega)
  have k1 := aupE e
  refine p_ret (i := 3) rfl rfl ?_
  exact h M ⟨by decide, f, hh, k1, k2, k3, fun i hi => absurd hi (Nat.not_lt_zero i)⟩ fr
theorem x_bookAdd {M : AM} {bo : List (Int × Int)} {x v : Int} {Q : Option Value → AM → Prop} (hM : XBo M bo) (hl : bo.length < 20) (hx : 0 ≤ x ∧ x ≤ 7) (hv : 0 ≤ v ∧ v ≤ 7) (h : ∀ M', XBo M' (bo ++ [(x, v)]) → FrI 235 3 M M' → Q none M') : C mX0_add [.ref 235, zI x, zI v] M Q := by
  obtain ⟨h0, f, hh, k1, k2, k3, h4⟩ := hM
  have fr : FrI 235 3 M M := FrI.rf
  refine C_of okX0_add (by decide) (Nat.le_of_ble_eq_true rfl) ?_
  show P none mX0_add 0 [.ref 235, zI x, zI v] [] _ _
  refine p_aload_n (i := 0) rfl rfl ?_
  refine p_getf (i := 1) rfl fX0_18 k1 rfl ?_
  refine p_bipush (i := 2) rfl (by decide) ?_
  refine p_icmp_ge (i := 3) 39 rfl (by decide) (by omega) (by omega) (fun c6 => by exfalso; omega) (fun c6 => ?_)
  refine p_aload_n (i := 4) rfl rfl ?_
  refine p_getf (i := 5) rfl fX0_9 k1 rfl ?_
  refine p_aload_n (i := 6) rfl rfl ?_
  refine p_getf (i := 7) rfl fX0_18 k1 rfl ?_
  refine p_iload_n (i := 8) rfl rfl ?_
  refine p_isX (i := 9) _ rfl k2 rfl (by omega) (by decide) (P_gen fun M e => ?_)
  have k1 := aupN e k1 (by omega)
  have k3 := aupN e k3 (by omega)
  have fr := fr.up e (by omega)
  have k2 := aupE e
  refine p_aload_n (i := 10) rfl rfl ?_
  refine p_getf (i := 11) rfl fX0_15 k1 rfl ?_
  refine p_aload_n (i := 12) rfl rfl ?_
  refine p_getf (i := 13) rfl fX0_18 k1 rfl ?_
  refine p_iload_n (i := 14) rfl rfl ?_
  refine p_isX (i := 15) _ rfl k3 rfl (by omega) (by decide) (P_gen fun M e => ?_)
  have k1 := aupN e k1 (by omega)
  have k2 := aupN e k2 (by omega)
  have fr := fr.up e (by omega)
  have k3 := aupE e
  refine p_aload_n (i := 16) rfl rfl ?_
  refine p_dup (i := 17) rfl rfl ?_
  refine p_getf (i := 18) rfl fX0_18 k1 rfl ?_
  refine p_iconst (i := 19) rfl ?_
  refine p_iadd (i := 20) rfl ?_
  refine p_puti (i := 21) rfl gX0_18 k1 rfl (P_gen fun M e => ?_)
  have k2 := aupN e k2 (by omega)
  have k3 := aupN e k3 (by omega)
  have fr := fr.up e (by omega)
  have k1 := aupE e
  refine p_ret (i := 22) rfl rfl ?_
  have e : ((bo.length : Nat) : Int) + 1 = (((bo ++ [(x, v)]).length : Nat) : Int) := by simp
  rw [e] at k1
  refine h M ⟨by simp; omega, _, _, k1, k2, k3, fun i hi => ?_⟩ fr
  have hi : i < bo.length + 1 := by simpa using hi
  rw [gd_app hi]
  by_cases c : i = bo.length
  · rw [if_pos c, c, zup_e, zup_e]
    exact ⟨rfl, rfl, hx.1, hx.2, hv.1, hv.2⟩
  · rw [if_neg c, zup_n c, zup_n c]
    exact h4 i (by omega)
end
section
-- helpers of the class
theorem bitc : ∀ n : Fin 1024, (fun x : Int32 =>
    let a := x - ((x.toUInt32 >>> ((Int32.ofInt 1).toUInt32 &&& Int32.toUInt32 31)).toInt32 &&& Int32.ofInt 1431655765)
    let b := (a &&& Int32.ofInt 858993459) + ((a.toUInt32 >>> ((Int32.ofInt 2).toUInt32 &&& Int32.toUInt32 31)).toInt32 &&& Int32.ofInt 858993459)
    let c := (b + (b.toUInt32 >>> ((Int32.ofInt 4).toUInt32 &&& Int32.toUInt32 31)).toInt32) &&& Int32.ofInt 252645135
    let d := c + (c.toUInt32 >>> ((Int32.ofInt 8).toUInt32 &&& Int32.toUInt32 31)).toInt32
    let e := d + (d.toUInt32 >>> ((Int32.ofInt 16).toUInt32 &&& Int32.toUInt32 31)).toInt32
    e &&& Int32.ofInt 63) (Int32.ofInt (n.val : Int)) = Int32.ofInt ((popc n.val : Nat) : Int) := by decide +kernel
theorem x_bitCount {M : AM} {n : Nat} {Q : Option Value → AM → Prop} (hn : n < 1024) (h : Q (some (zI (popc n : Nat))) M) : C mJ6_bitCount_0f7a4 [zI (n : Int)] M Q := by
  refine C_of okJ6_bitCount_0f7a4 (by decide) (Nat.le_of_ble_eq_true rfl) ?_
  show P none mJ6_bitCount_0f7a4 0 [zI (n : Int)] [] _ _
  refine p_iload_n (i := 0) rfl rfl ?_
  refine p_iload_n (i := 1) rfl rfl ?_
  refine p_iconst (i := 2) rfl ?_
  refine p_iushr (i := 3) rfl ?_
  refine p_ldcw (i := 4) rfl kJ6_265 ?_
  refine p_iand (i := 5) rfl ?_
  refine p_isub32 (i := 6) rfl ?_
  refine p_istore_n (i := 7) rfl rfl ?_
  refine p_iload_n (i := 8) rfl rfl ?_
  refine p_ldcw (i := 9) rfl kJ6_266 ?_
  refine p_iand (i := 10) rfl ?_
  refine p_iload_n (i := 11) rfl rfl ?_
  refine p_iconst (i := 12) rfl ?_
  refine p_iushr (i := 13) rfl ?_
  refine p_ldcw (i := 14) rfl kJ6_266 ?_
  refine p_iand (i := 15) rfl ?_
  refine p_iadd32 (i := 16) rfl ?_
  refine p_istore_n (i := 17) rfl rfl ?_
  refine p_iload_n (i := 18) rfl rfl ?_
  refine p_iload_n (i := 19) rfl rfl ?_
  refine p_iconst (i := 20) rfl ?_
  refine p_iushr (i := 21) rfl ?_
  refine p_iadd32 (i := 22) rfl ?_
  refine p_ldcw (i := 23) rfl kJ6_267 ?_
  refine p_iand (i := 24) rfl ?_
  refine p_istore_n (i := 25) rfl rfl ?_
  refine p_iload_n (i := 26) rfl rfl ?_
  refine p_iload_n (i := 27) rfl rfl ?_
  refine p_bipush (i := 28) rfl (by decide) ?_
  refine p_iushr (i := 29) rfl ?_
  refine p_iadd32 (i := 30) rfl ?_
  refine p_istore_n (i := 31) rfl rfl ?_
  refine p_iload_n (i := 32) rfl rfl ?_
  refine p_iload_n (i := 33) rfl rfl ?_
  refine p_bipush (i := 34) rfl (by decide) ?_
  refine p_iushr (i := 35) rfl ?_
  refine p_iadd32 (i := 36) rfl ?_
  refine p_istore_n (i := 37) rfl rfl ?_
  refine p_iload_n (i := 38) rfl rfl ?_
  refine p_bipush (i := 39) rfl (by decide) ?_
  refine p_iand (i := 40) rfl ?_
  refine p_iret (i := 41) rfl rfl (rfl) ?_
  have e := bitc ⟨n, hn⟩
  dsimp only at e
  rw [e]
  exact h
theorem popc_le (n : Nat) : popc n ≤ 10 := by
  unfold popc
  exact Nat.le_trans List.countP_le_length (by simp)
theorem x_takenNow {M : AM} {la sa : Nat} {fa sd : Int} {ln : LN} {g : GS} {ns nw : Nat} {x : Int} {Q : Option Value → AM → Prop} (hRt : XRt M la sa fa sd) (hP : PairB true M 216 ns nw g) (hL : LineA M la ln) (hx : 0 ≤ x ∧ x < nS ln) (h : Q (some (zI (tk ln g.1 x 0 0))) M) : C mX9_takenNow [.ref 0, zI x] M Q := by
  obtain ⟨kR, hla⟩ := id hRt
  obtain ⟨⟨q1, q2, q3, q4, q5, q6, q7, q8, q9, q10, q11⟩, sc, wh, st, hs, lr, lf, lz, ⟨hp, hS, hW, hT, hH, hG, hR⟩, rL, rH, rG⟩ := id hP
  refine C_of okX9_takenNow (by decide) (Nat.le_of_ble_eq_true rfl) ?_
  show P none mX9_takenNow 0 [.ref 0, zI x] [] _ _
  refine p_aload_n (i := 0) rfl rfl ?_
  refine p_getf (i := 1) rfl fX9_32 kR rfl ?_
  refine p_aload_n (i := 2) rfl rfl ?_
  refine p_getf (i := 3) rfl fX9_63 kR rfl ?_
  refine p_iload_n (i := 4) rfl rfl ?_
  refine p_iconst (i := 5) rfl ?_
  refine p_iconst (i := 6) rfl ?_
  refine p_cV4 (i := 7) rfl ⟨lX9_272, rfl, rfl⟩ hp ⟨_, rfl, rfl⟩ rfl (x_takenFor hP hL hx (by omega) (by decide) (wi := 0) ?_)
  refine p_iret (i := 8) rfl rfl (rfl) ?_
  exact h
theorem tk_rng {ln : LN} {Ls : List LY} {x m : Int} {wi ns nw : Nat} (hok : LsOk ns nw Ls) (hns : ns ≤ nS ln) (hx : 0 ≤ x ∧ x < nS ln) : 0 ≤ tk ln Ls x m wi ∧ tk ln Ls x m wi < nS ln := by
  unfold tk
  have hs := sb_rng Ls wi
  split
  · have := hok.at (sb Ls wi).toNat (by omega)
    omega
  · exact hx
theorem x_scenesTakenFor {M : AM} {la sa : Nat} {fa sd : Int} {ln : LN} {g : GS} {x : Int} {Q : Option Value → AM → Prop} (hRt : XRt M la sa fa sd) (hP : PairB true M 216 (nS ln) (nW ln) g) (hL : LineA M la ln) (hx : -2147483648 ≤ x ∧ x ≤ 2147483647) (h : Q (some (zI (stf ln g.1 x : Nat))) M) : C mX9_scenesTakenFor [.ref 0, zI x] M Q := by
  obtain ⟨kR, hla⟩ := id hRt
  obtain ⟨⟨o1, o2, o3, o4, o5, o6, o7⟩, kf, bf, lc, lkf, ⟨hb, hk, hr, hc, ⟨gg, hg, hgi⟩, hrow⟩, hkb, hlk⟩ := id hL
  have hok := hP.1.ls
  have loop : ∀ (f k s : Nat), k + f = nS ln → Q (some (zI ((fo (fun y s => if tk ln g.1 (y : Int) 0 0 = x then s ||| 2 ^ y else s) f k s : Nat) : Int))) M → P none mX9_scenesTakenFor 4 [.ref 0, zI x, zI (s : Int), zI (k : Int)] []  M Q := by
    intro f
    induction f with
    | zero =>
      intro k s hk hq
      refine p_iload_n (i := 4) rfl rfl ?_
      refine p_aload_n (i := 5) rfl rfl ?_
      refine p_getf (i := 6) rfl fX9_63 kR rfl ?_
      refine p_getf (i := 7) rfl fX9_107 hb rfl ?_
      refine p_icmp_ge (i := 8) 36 rfl (by decide) (by omega) (by omega) (fun c12 => ?_) (fun c12 => by exfalso; omega)
      refine p_iload_n (i := 22) rfl rfl ?_
      refine p_iret (i := 23) rfl rfl (rfl) ?_
      exact hq
    | succ f ih =>
      intro k s hk hq
      have ht := tk_rng (ln := ln) (x := (k : Int)) (m := 0) (wi := 0) hok (Nat.le_refl _) (by omega)
      have hq : Q (some (zI ((fo (fun y s => if tk ln g.1 (y : Int) 0 0 = x then s ||| 2 ^ y else s) f (k + 1) (if tk ln g.1 (k : Int) 0 0 = x then s ||| 2 ^ k else s) : Nat) : Int))) M := hq
      refine p_iload_n (i := 4) rfl rfl ?_
      refine p_aload_n (i := 5) rfl rfl ?_
      refine p_getf (i := 6) rfl fX9_63 kR rfl ?_
      refine p_getf (i := 7) rfl fX9_107 hb rfl ?_
      refine p_icmp_ge (i := 8) 36 rfl (by decide) (by omega) (by omega) (fun c12 => by exfalso; omega) (fun c12 => ?_)
      refine p_aload_n (i := 9) rfl rfl ?_
      refine p_iload_n (i := 10) rfl rfl ?_
      refine p_cV1 (i := 11) rfl ⟨lX9_190, rfl, rfl⟩ kR ⟨_, rfl, rfl⟩ rfl (x_takenNow hRt hP hL (by omega) ?_)
      refine p_iload_n (i := 12) rfl rfl ?_
      refine p_icmp_ne (i := 13) 30 rfl (by decide) (by omega) (by omega) (fun c21 => ?_) (fun c21 => ?_)
      · refine p_iinc (i := 20) rfl rfl rfl ?_
        refine p_goto (i := 21) 4 rfl (by decide) ?_
        rw [if_neg c21] at hq
        exact ih (k + 1) s (by omega) hq
      · refine p_iload_n (i := 14) rfl rfl ?_
        refine p_iconst (i := 15) rfl ?_
        refine p_iload_n (i := 16) rfl rfl ?_
        refine p_ishl1 (i := 17) rfl (by omega) ?_
        refine p_iorN (i := 18) rfl ?_
        refine p_istore_n (i := 19) rfl rfl ?_
        refine p_iinc (i := 20) rfl rfl rfl ?_
        refine p_goto (i := 21) 4 rfl (by decide) ?_
        rw [if_pos c21] at hq
        exact ih (k + 1) _ (by omega) hq
  refine C_of okX9_scenesTakenFor (by decide) (Nat.le_of_ble_eq_true rfl) ?_
  show P none mX9_scenesTakenFor 0 [.ref 0, zI x, .retAddr 0, .retAddr 0] [] _ _
  refine p_iconst (i := 0) rfl ?_
  refine p_istore_n (i := 1) rfl rfl ?_
  refine p_iconst (i := 2) rfl ?_
  refine p_istore_n (i := 3) rfl rfl ?_
  exact loop (nS ln) 0 0 (by omega) h
theorem or_lt {a b n : Nat} (ha : a < 2 ^ n) (hb : b < 2 ^ n) : a ||| b < 2 ^ n := Nat.or_lt_two_pow ha hb
theorem scOf_lt {Ls : List LY} {w : Int} {ns nw : Nat} (hok : LsOk ns nw Ls) (hns : ns ≤ 8) : scOf Ls w < 256 := by
  have h := fo_inv (step := fun k s => if lW Ls k = w then s ||| 2 ^ (lS Ls k).toNat else s) (fun _ s => s < 2 ^ 8) Ls.length 0 0 (by decide) (fun j t _ hj ht => by
    have := hok.at j (by omega)
    split
    · exact or_lt ht (Nat.pow_lt_pow_right (by decide) (by omega))
    · exact ht)
  exact h
theorem x_scenesOfAll {M : AM} {la sa : Nat} {fa sd : Int} {ln : LN} {g : GS} {Q : Option Value → AM → Prop} (hRt : XRt M la sa fa sd) (hP : PairB true M 216 (nS ln) (nW ln) g) (hL : LineA M la ln) (h : Q (some (zI (all_ (nW ln) g.1 : Nat))) M) : C mX9_scenesOfAll [.ref 0] M Q := by
  obtain ⟨kR, hla⟩ := id hRt
  obtain ⟨⟨o1, o2, o3, o4, o5, o6, o7⟩, kf, bf, lc, lkf, ⟨hb, hk, hr, hc, ⟨gg, hg, hgi⟩, hrow⟩, hkb, hlk⟩ := id hL
  obtain ⟨⟨q1, q2, q3, q4, q5, q6, q7, q8, q9, q10, q11⟩, sc, wh, st, hs, lr, lf, lz, ⟨hp, hS, hW, hT, hH, hG, hR⟩, rL, rH, rG⟩ := id hP
  unfold all_ at h
  have loop : ∀ (f k s : Nat), k + f = nW ln → Q (some (zI ((fo (fun w s => s &&& scOf g.1 (w : Int)) f k s : Nat) : Int))) M → P none mX9_scenesOfAll 23 [.ref 0, zI (s : Int), zI (k : Int)] []  M Q := by
    intro f
    induction f with
    | zero =>
      intro k s hk hq
      refine p_iload_n (i := 13) rfl rfl ?_
      refine p_aload_n (i := 14) rfl rfl ?_
      refine p_getf (i := 15) rfl fX9_63 kR rfl ?_
      refine p_getf (i := 16) rfl fX9_113 hb rfl ?_
      refine p_icmp_ge (i := 17) 51 rfl (by decide) (by omega) (by omega) (fun c31 => ?_) (fun c31 => by exfalso; omega)
      refine p_iload_n (i := 27) rfl rfl ?_
      refine p_iret (i := 28) rfl rfl (rfl) ?_
      exact hq
    | succ f ih =>
      intro k s hk hq
      refine p_iload_n (i := 13) rfl rfl ?_
      refine p_aload_n (i := 14) rfl rfl ?_
      refine p_getf (i := 15) rfl fX9_63 kR rfl ?_
      refine p_getf (i := 16) rfl fX9_113 hb rfl ?_
      refine p_icmp_ge (i := 17) 51 rfl (by decide) (by omega) (by omega) (fun c31 => by exfalso; omega) (fun c31 => ?_)
      refine p_iload_n (i := 18) rfl rfl ?_
      refine p_aload_n (i := 19) rfl rfl ?_
      refine p_getf (i := 20) rfl fX9_32 kR rfl ?_
      refine p_iload_n (i := 21) rfl rfl ?_
      refine p_cV1 (i := 22) rfl ⟨lX9_181, rfl, rfl⟩ hp ⟨_, rfl, rfl⟩ rfl (x_scenesOf hP (by omega) ?_)
      refine p_iandN (i := 23) rfl ?_
      refine p_istore_n (i := 24) rfl rfl ?_
      refine p_iinc (i := 25) rfl rfl rfl ?_
      refine p_goto (i := 26) 23 rfl (by decide) ?_
      exact ih (k + 1) _ (by omega) hq
  refine C_of okX9_scenesOfAll (by decide) (Nat.le_of_ble_eq_true rfl) ?_
  show P none mX9_scenesOfAll 0 [.ref 0, .retAddr 0, .retAddr 0] [] _ _
  refine p_aload_n (i := 0) rfl rfl ?_
  refine p_getf (i := 1) rfl fX9_63 kR rfl ?_
  refine p_getf (i := 2) rfl fX9_113 hb rfl ?_
  refine p_if_ne (i := 3) 12 rfl (by decide) (by omega) (fun c7 => ?_) (fun c7 => ?_)
  · refine p_aload_n (i := 6) rfl rfl ?_
    refine p_getf (i := 7) rfl fX9_32 kR rfl ?_
    refine p_iconst (i := 8) rfl ?_
    refine p_cV1 (i := 9) rfl ⟨lX9_181, rfl, rfl⟩ hp ⟨_, rfl, rfl⟩ rfl (x_scenesOf hP (by omega) ?_)
    refine p_istore_n (i := 10) rfl rfl ?_
    refine p_iconst (i := 11) rfl ?_
    refine p_istore_n (i := 12) rfl rfl ?_
    rw [if_neg (by omega)] at h
    exact loop (nW ln - 1) 1 _ (by omega) h
  · refine p_iconst (i := 4) rfl ?_
    refine p_iret (i := 5) rfl rfl (rfl) ?_
    rw [if_pos (by omega)] at h
    exact h
theorem x_kinOf {M : AM} {la sa : Nat} {fa sd : Int} {ln : LN} {g : GS} {w : Nat} {Q : Option Value → AM → Prop} (hRt : XRt M la sa fa sd) (hP : PairB true M 216 (nS ln) (nW ln) g) (hL : LineA M la ln) (hw : w < nW ln) (h : Q (some (zI (kin_ (nW ln) g.1 w))) M) : C mX9_kinOf [.ref 0, zI (w : Int)] M Q := by
  obtain ⟨kR, hla⟩ := id hRt
  obtain ⟨⟨o1, o2, o3, o4, o5, o6, o7⟩, kf, bf, lc, lkf, ⟨hb, hk, hr, hc, ⟨gg, hg, hgi⟩, hrow⟩, hkb, hlk⟩ := id hL
  obtain ⟨⟨q1, q2, q3, q4, q5, q6, q7, q8, q9, q10, q11⟩, sc, wh, st, hs, lr, lf, lz, ⟨hp, hS, hW, hT, hH, hG, hR⟩, rL, rH, rG⟩ := id hP
  have hok := hP.1.ls
  have loop : ∀ (f k : Nat) (s : Int × Int) (x : Value), k + f = nW ln → 0 ≤ s.2 ∧ s.2 ≤ 10 → Q (some (zI (fo (kinStep g.1 w) f k s).1)) M → P none mX9_kinOf 17 [.ref 0, zI (w : Int), zI (scOf g.1 (w : Int) : Nat), zI s.1, zI s.2, zI (k : Int), x] []  M Q := by
    intro f
    induction f with
    | zero =>
      intro k s x hk hs hq
      refine p_iload (i := 11) rfl rfl ?_
      refine p_aload_n (i := 12) rfl rfl ?_
      refine p_getf (i := 13) rfl fX9_63 kR rfl ?_
      refine p_getf (i := 14) rfl fX9_113 hb rfl ?_
      refine p_icmp_ge (i := 15) 71 rfl (by decide) (by omega) (by omega) (fun c26 => ?_) (fun c26 => by exfalso; omega)
      refine p_iload_n (i := 36) rfl rfl ?_
      refine p_iret (i := 37) rfl rfl (rfl) ?_
      exact hq
    | succ f ih =>
      intro k s x hk hs hq
      have hq : Q (some (zI (fo (kinStep g.1 w) f (k + 1) (kinStep g.1 w k s)).1)) M := hq
      unfold kinStep at hq
      have hc := scOf_lt (w := (w : Int)) hok q10
      have hp10 := popc_le (scOf g.1 (w : Int) &&& scOf g.1 (k : Int))
      refine p_iload (i := 11) rfl rfl ?_
      refine p_aload_n (i := 12) rfl rfl ?_
      refine p_getf (i := 13) rfl fX9_63 kR rfl ?_
      refine p_getf (i := 14) rfl fX9_113 hb rfl ?_
      refine p_icmp_ge (i := 15) 71 rfl (by decide) (by omega) (by omega) (fun c26 => by exfalso; omega) (fun c26 => ?_)
      refine p_iload_n (i := 16) rfl rfl ?_
      refine p_aload_n (i := 17) rfl rfl ?_
      refine p_getf (i := 18) rfl fX9_32 kR rfl ?_
      refine p_iload (i := 19) rfl rfl ?_
      refine p_cV1 (i := 20) rfl ⟨lX9_181, rfl, rfl⟩ hp ⟨_, rfl, rfl⟩ rfl (x_scenesOf hP (by omega) ?_)
      refine p_iandN (i := 21) rfl ?_
      refine p_cS1 (i := 22) rfl ⟨lX9_251, rfl, rfl⟩ rfl (x_bitCount (Nat.lt_of_le_of_lt Nat.and_le_left (by omega)) ?_)
      refine p_istore (i := 23) rfl rfl ?_
      refine p_iload (i := 24) rfl rfl ?_
      refine p_iload_n (i := 25) rfl rfl ?_
      refine p_icmp_eq (i := 26) 65 rfl (by decide) (by omega) (by omega) (fun c48 => ?_) (fun c48 => ?_)
      · refine p_iinc (i := 34) rfl rfl rfl ?_
        refine p_goto (i := 35) 17 rfl (by decide) ?_
        rw [if_neg (by omega)] at hq
        exact ih (k + 1) s _ (by omega) hs hq
      · refine p_iload (i := 27) rfl rfl ?_
        refine p_iload (i := 28) rfl rfl ?_
        refine p_icmp_le (i := 29) 65 rfl (by decide) (by omega) (by omega) (fun c55 => ?_) (fun c55 => ?_)
        · refine p_iinc (i := 34) rfl rfl rfl ?_
          refine p_goto (i := 35) 17 rfl (by decide) ?_
          rw [if_neg (by omega)] at hq
          exact ih (k + 1) s _ (by omega) hs hq
        · refine p_iload (i := 30) rfl rfl ?_
          refine p_istore (i := 31) rfl rfl ?_
          refine p_iload (i := 32) rfl rfl ?_
          refine p_istore_n (i := 33) rfl rfl ?_
          refine p_iinc (i := 34) rfl rfl rfl ?_
          refine p_goto (i := 35) 17 rfl (by decide) ?_
          rw [if_pos (by omega)] at hq
          exact ih (k + 1) _ _ (by omega) (by show (0 : Int) ≤ (popc _ : Nat) ∧ ((popc _ : Nat) : Int) ≤ 10; omega) hq
  refine C_of okX9_kinOf (by decide) (Nat.le_of_ble_eq_true rfl) ?_
  show P none mX9_kinOf 0 [.ref 0, zI (w : Int), .retAddr 0, .retAddr 0, .retAddr 0, .retAddr 0, .retAddr 0] [] _ _
  refine p_aload_n (i := 0) rfl rfl ?_
  refine p_getf (i := 1) rfl fX9_32 kR rfl ?_
  refine p_iload_n (i := 2) rfl rfl ?_
  refine p_cV1 (i := 3) rfl ⟨lX9_181, rfl, rfl⟩ hp ⟨_, rfl, rfl⟩ rfl (x_scenesOf hP (by omega) ?_)
  refine p_istore_n (i := 4) rfl rfl ?_
  refine p_iconst (i := 5) rfl ?_
  refine p_istore_n (i := 6) rfl rfl ?_
  refine p_iconst (i := 7) rfl ?_
  refine p_istore (i := 8) rfl rfl ?_
  refine p_iconst (i := 9) rfl ?_
  refine p_istore (i := 10) rfl rfl ?_
  exact loop (nW ln) 0 (-1, 0) _ (by omega) (by decide) h
end
section
/-! ===== the calls ===== -/
abbrev UNK : Int := -1000000001
abbrev OUT : Int := -1000000002
abbrev NOTN : Int := -1000000003
abbrev FUL : Int := -1000000004
def a_feed : ST → Int → Int × ST
  | (tx, fa, ln, g, un, i0, i1, sd, me, bo), a => if ¬ (0 ≤ a ∧ a ≤ 255) then (OUT, (tx, fa, ln, g, un, i0, i1, sd, me, bo)) else if tx.length = 240 then (FUL, (tx, fa, ln, g, un, i0, i1, sd, me, bo)) else ((tx.length : Int) + 1, (tx ++ [a], fa, ln, g, un, i0, i1, sd, me, bo))
def a_fault : ST → Int
  | (_, fa, _, _, _, _, _, _, _, _) => fa
def a_told : ST → Int → Int
  | (tx, _, ln, g, un, _, _, _, me, bo), a => if ¬ (0 ≤ a ∧ a < 16) then OUT else match a.toNat with
    | 0 => ln.1
    | 1 => (nS ln : Nat)
    | 2 => (nW ln : Nat)
    | 3 => (tx.length : Nat)
    | 4 => g.2.2.1
    | 5 => g.2.1
    | 6 => (g.1.length : Nat)
    | 7 => smAll g.1 / 10
    | 8 => (all_ (nW ln) g.1 : Nat)
    | 9 => low g.1
    | 10 => sb g.1 0
    | 11 => thk g.1
    | 12 => (g.2.2.2.2.length : Nat)
    | 13 => (me.length : Nat)
    | 14 => (bo.length : Nat)
    | _ => (un.length : Nat)
def a_scene : ST → Int → Int → Int
  | (_, _, ln, g, _, _, _, _, _, _), x, a => if ¬ (0 ≤ x ∧ x < nS ln) then UNK else if ¬ (0 ≤ a ∧ a < 4) then OUT else match a.toNat with
    | 0 => kd ln x.toNat
    | 1 => br ln x.toNat
    | 2 => (ln.1 + 0 + br ln x.toNat) / 2
    | _ => (stf ln g.1 x : Nat)
def a_wearer : ST → Int → Int → Int
  | (_, _, ln, g, _, _, _, _, _, _), w, a => if ¬ (0 ≤ w ∧ w < nW ln) then UNK else if ¬ (0 ≤ a ∧ a < 5) then OUT else match a.toNat with
    | 0 => (lkN ln w.toNat : Nat)
    | 1 => g.2.2.2.1.getD w.toNat 0
    | 2 => (scOf g.1 w : Nat)
    | 3 => kin_ (nW ln) g.1 w.toNat
    | _ => tk ln g.1 (nxt ln g w) 0 0
def a_layer : ST → Int → Int → Int
  | (_, _, _, g, _, _, _, _, _, _), k, a => if ¬ (0 ≤ k ∧ k < g.1.length) then UNK else if ¬ (0 ≤ a ∧ a < 3) then OUT else match a.toNat with
    | 0 => lS g.1 k.toNat
    | 1 => lW g.1 k.toNat
    | _ => lT g.1 k.toNat
def a_logged : ST → Int → Int → Int
  | (_, _, _, g, _, _, _, _, _, _), i, a => if ¬ (0 ≤ a ∧ a < 4) then OUT else logAt g.2.2.2.2 i a.toNat
/-- 0: so many years may pass -/
def refs (ln : LN) (g : GS) (n : Int) : Int := if ¬ (1 ≤ n ∧ n ≤ 30) then OUT else if ln.1 = 0 then NOTN else if 90000 < g.2.2.1 then FUL else 0
def a_year : ST → Int → Int × ST
  | (tx, fa, ln, g, un, i0, i1, sd, me, bo), n => if refs ln g n ≠ 0 then (refs ln g n, (tx, fa, ln, g, un, i0, i1, sd, me, bo)) else ((yearN ln n.toNat g un).1.2.2.1, (tx, fa, ln, (yearN ln n.toNat g un).1, (yearN ln n.toNat g un).2, i0, i1, sd, me, bo))
def a_wear : ST → Int → Int × ST
  | (tx, fa, ln, g, un, i0, i1, sd, me, bo), w => if ¬ (0 ≤ w ∧ w < nW ln) then (UNK, (tx, fa, ln, g, un, i0, i1, sd, me, bo)) else if g.2.1 = w then (NOTN, (tx, fa, ln, g, un, i0, i1, sd, me, bo)) else (g.2.1, (tx, fa, ln, (g.1, w, g.2.2), rem un g, i0, i1, sd, me, bo))
def a_takeOff : ST → Int × ST
  | (tx, fa, ln, g, un, i0, i1, sd, me, bo) => if g.2.1 = -1 then (NOTN, (tx, fa, ln, g, un, i0, i1, sd, me, bo)) else (g.2.1, (tx, fa, ln, (g.1, -1, g.2.2), rem un g, i0, i1, sd, me, bo))
def a_wipe : ST → Int → Int × ST
  | (tx, fa, ln, g, un, i0, i1, sd, me, bo), k => if ¬ (0 ≤ k ∧ k < g.1.length) then (UNK, (tx, fa, ln, g, un, i0, i1, sd, me, bo)) else (((g.1.eraseIdx k.toNat).length : Nat), (tx, fa, ln, (g.1.eraseIdx k.toNat, g.2), rem un g, i0, i1, sd, me, bo))
def a_chip : ST → Int → Int → Int × ST
  | (tx, fa, ln, g, un, i0, i1, sd, me, bo), x, n => if ¬ (0 ≤ x ∧ x < nS ln) then (UNK, (tx, fa, ln, g, un, i0, i1, sd, me, bo)) else if ¬ (1 ≤ n ∧ n ≤ 99) then (OUT, (tx, fa, ln, g, un, i0, i1, sd, me, bo)) else (((layL g.1 (x, -1, n)).length : Nat), (tx, fa, ln, (layL g.1 (x, -1, n), g.2), rem un g, i0, i1, sd, me, bo))
def a_drift : ST → Int → Int × ST
  | (tx, fa, ln, g, un, i0, i1, sd, me, bo), n => if refs ln g n ≠ 0 then (refs ln g n, (tx, fa, ln, g, un, i0, i1, sd, me, bo)) else ((driftN ln n.toNat g un sd).1.2.2.1, (tx, fa, ln, (driftN ln n.toNat g un sd).1, (driftN ln n.toNat g un sd).2.1, i0, i1, (driftN ln n.toNat g un sd).2.2, me, bo))
def a_undo : ST → Int → Int × ST
  | (tx, fa, ln, g, un, i0, i1, sd, me, bo), n => if ¬ (1 ≤ n ∧ n ≤ 30) then (OUT, (tx, fa, ln, g, un, i0, i1, sd, me, bo)) else if (un.length : Int) < n then (NOTN, (tx, fa, ln, g, un, i0, i1, sd, me, bo)) else ((un.getD (un.length - n.toNat) g0).2.2.1, (tx, fa, ln, un.getD (un.length - n.toNat) g0, un.take (un.length - n.toNat), i0, i1, sd, me, bo))
def a_takes : ST → Int → Int
  | (_, _, ln, g, _, _, _, _, _, _), x => if ¬ (0 ≤ x ∧ x < nS ln) then UNK else tk ln g.1 x 0 0
def a_dark : ST → Int → Int
  | (_, _, ln, g, _, _, _, _, _, _), n => if ¬ (0 ≤ n ∧ n ≤ 60) then OUT else smAll (tryN ln n.toNat g).1 / 10
def a_tooDark : ST → Int → Int
  | (_, _, ln, g, _, _, _, _, _, _), m => if ¬ (1 ≤ m ∧ m ≤ 99) then OUT else tdk ln m 201 0 g
def a_willShow : ST → Int → Int → Int
  | (_, _, ln, g, _, _, _, _, _, _), x, n => if ¬ (0 ≤ x ∧ x < nS ln) then UNK else if ¬ (0 ≤ n ∧ n ≤ 60) then OUT else smOf (tryN ln n.toNat g).1 x
def a_only : ST → Int → Int → Int
  | (_, _, ln, g, _, _, _, _, _, _), k, x => if ¬ (0 ≤ k ∧ k < g.1.length ∧ 0 ≤ x ∧ x < nS ln) then UNK else if lT g.1 k.toNat ≤ (ln.1 + 0 + br ln x.toNat) / 2 then -1 else lb g.1 k.toNat
def a_ground : ST → Int → Int
  | (_, _, ln, g, _, _, _, _, _, _), x => if ¬ (0 ≤ x ∧ x < nS ln) then UNK else grd ln g.1 x 100 0
def a_mist (n q : Int) : Int := if ¬ (0 ≤ n ∧ n ≤ 60 ∧ 0 ≤ q ∧ q ≤ 100) then OUT else mst q n.toNat 1000000000
def a_meet : ST → Int → Int → Int × ST
  | (tx, fa, ln, g, un, i0, i1, sd, me, bo), x, v => if ¬ (0 ≤ x ∧ x < nS ln) then (UNK, (tx, fa, ln, g, un, i0, i1, sd, me, bo)) else if me.length = 6 then (FUL, (tx, fa, ln, g, un, i0, i1, sd, me, bo)) else (((me ++ [(x, v)]).length : Nat), (tx, fa, ln, g, un, i0, i1, sd, me ++ [(x, v)], bo))
def a_couldBe : ST → Int
  | (_, _, ln, g, _, _, _, _, me, _) => (cb ln g.1 me : Nat)
def a_ask : ST → Int
  | (_, _, ln, g, _, _, _, _, me, _) => ask_ ln g.1 (cb ln g.1 me)
def a_write : ST → Int → Int → Int × ST
  | (tx, fa, ln, g, un, i0, i1, sd, me, bo), x, y => if ¬ (0 ≤ x ∧ x < nS ln ∧ 0 ≤ y ∧ y < nS ln) then (UNK, (tx, fa, ln, g, un, i0, i1, sd, me, bo)) else if bo.length = 20 then (FUL, (tx, fa, ln, g, un, i0, i1, sd, me, bo)) else (((bo ++ [(x, y)]).length : Nat), (tx, fa, ln, g, un, i0, i1, sd, me, bo ++ [(x, y)]))
def a_judge : ST → Int
  | (_, _, ln, g, _, _, _, _, _, bo) => jdg ln g.1 bo
def a_tear : ST → Int × ST
  | (tx, fa, ln, g, un, i0, i1, sd, me, bo) => ((me.length : Int) + bo.length, (tx, fa, ln, g, un, i0, i1, sd, [], []))
def a_seed : ST → Int → Int × ST
  | (tx, fa, ln, g, un, i0, i1, sd, me, bo), v => if v < 0 then (OUT, (tx, fa, ln, g, un, i0, i1, sd, me, bo)) else (sd, (tx, fa, ln, g, un, i0, i1, v, me, bo))
def a_keep : ST → Int → Int × ST
  | (tx, fa, ln, g, un, i0, i1, sd, me, bo), i => if ¬ (0 ≤ i ∧ i ≤ 1) then (UNK, (tx, fa, ln, g, un, i0, i1, sd, me, bo)) else if i = 0 then (1, (tx, fa, ln, g, [], some (g, sd), i1, sd, me, bo)) else (1, (tx, fa, ln, g, [], i0, some (g, sd), sd, me, bo))
def a_goBack : ST → Int → Int × ST
  | (tx, fa, ln, g, un, i0, i1, sd, me, bo), i => if ¬ (0 ≤ i ∧ i ≤ 1) then (UNK, (tx, fa, ln, g, un, i0, i1, sd, me, bo)) else match (if i = 0 then i0 else i1) with
    | none => (NOTN, (tx, fa, ln, g, un, i0, i1, sd, me, bo))
    | some q => (1, (tx, fa, ln, q.1, [], i0, i1, q.2, me, bo))
theorem passY_y (ln : LN) (g : GS) : (passY ln g).2.2.1 = g.2.2.1 + 1 := by
  unfold passY
  split <;> rfl
theorem refs_rng {ln : LN} {g : GS} {n : Int} : -2147483648 ≤ refs ln g n ∧ refs ln g n ≤ 2147483647 := by
  unfold refs
  split
  · decide
  · split
    · decide
    · split <;> decide
theorem refs_0 {ln : LN} {g : GS} {n : Int} (h : refs ln g n = 0) : 1 ≤ n ∧ n ≤ 30 ∧ ln.1 ≠ 0 ∧ g.2.2.1 ≤ 90000 := by
  unfold refs at h
  by_cases e1 : 1 ≤ n ∧ n ≤ 30
  · rw [if_neg (not_not_intro e1)] at h
    by_cases e2 : ln.1 = 0
    · rw [if_pos e2] at h; exact absurd h (by decide)
    · rw [if_neg e2] at h
      by_cases e3 : 90000 < g.2.2.1
      · rw [if_pos e3] at h; exact absurd h (by decide)
      · exact ⟨e1.1, e1.2, e2, by omega⟩
  · rw [if_pos e1] at h; exact absurd h (by decide)
theorem smAll_rng {Ls : List LY} {ns nw : Nat} (hok : LsOk ns nw Ls) : 0 ≤ smAll Ls ∧ smAll Ls ≤ 990 := by
  have h := fo_inv (step := fun k s => s + lT Ls k) (fun j s => 0 ≤ s ∧ s ≤ 99 * j) Ls.length 0 0 (by decide) (fun j t _ hj ht => by
    have := hok.at j (by omega)
    constructor <;> omega)
  have := hok.1
  unfold smAll
  constructor <;> omega
end
section
-- calls of the class that read
theorem x_append {M : AM} {tx : List Int} {a : Int} {Q : Option Value → AM → Prop} (hR : XRd M tx) (hl : tx.length < 240) (ha : 0 ≤ a ∧ a ≤ 255) (h : ∀ M', XRd M' (tx ++ [a]) → FrI 1 2 M M' → Q none M') : C mX7_append [.ref 1, zI a] M Q := by
  obtain ⟨h0, f, at0, ft, fp, k1, k2, h3⟩ := hR
  have fr : FrI 1 2 M M := FrI.rf
  refine C_of okX7_append (by decide) (Nat.le_of_ble_eq_true rfl) ?_
  show P none mX7_append 0 [.ref 1, zI a] [] _ _
  refine p_aload_n (i := 0) rfl rfl ?_
  refine p_getf (i := 1) rfl fX7_15 k1 rfl ?_
  refine p_sipush (i := 2) rfl (by decide) ?_
  refine p_icmp_ge (i := 3) 30 rfl (by decide) (by omega) (by omega) (fun c7 => by exfalso; omega) (fun c7 => ?_)
  refine p_aload_n (i := 4) rfl rfl ?_
  refine p_getf (i := 5) rfl fX7_9 k1 rfl ?_
  refine p_aload_n (i := 6) rfl rfl ?_
  refine p_getf (i := 7) rfl fX7_15 k1 rfl ?_
  refine p_iload_n (i := 8) rfl rfl ?_
  refine p_isX (i := 9) _ rfl k2 rfl (by omega) (by decide) (P_gen fun M e => ?_)
  have k1 := aupN e k1 (by omega)
  have fr := fr.up e (by omega)
  have k2 := aupE e
  refine p_aload_n (i := 10) rfl rfl ?_
  refine p_dup (i := 11) rfl rfl ?_
  refine p_getf (i := 12) rfl fX7_15 k1 rfl ?_
  refine p_iconst (i := 13) rfl ?_
  refine p_iadd (i := 14) rfl ?_
  refine p_puti (i := 15) rfl gX7_15 k1 rfl (P_gen fun M e => ?_)
  have k2 := aupN e k2 (by omega)
  have fr := fr.up e (by omega)
  have k1 := aupE e
  refine p_ret (i := 16) rfl rfl ?_
  have e : ((tx.length : Nat) : Int) + 1 = (((tx ++ [a]).length : Nat) : Int) := by simp
  rw [e] at k1
  refine h M ⟨by simp; omega, _, at0, ft, fp, k1, k2, fun i hi => ?_⟩ fr
  have hi : i < tx.length + 1 := by simpa using hi
  rw [gd_app hi]
  by_cases c : i = tx.length
  · rw [if_pos c, c, zup_e]
    exact ⟨rfl, ha.1, ha.2⟩
  · rw [if_neg c, zup_n c]
    exact h3 i (by omega)
theorem X_feed {M : AM} {tx : List Int} {fa : Int} {ln : LN} {g : GS} {un : List GS} {i0 i1 : Option (GS × Int)} {sd : Int} {me bo : List (Int × Int)} {a : Int} {Q : Option Value → AM → Prop} (hX : XW M (tx, fa, ln, g, un, i0, i1, sd, me, bo)) (ha : -2147483648 ≤ a ∧ a ≤ 2147483647) (h : ∀ M', XW M' (a_feed (tx, fa, ln, g, un, i0, i1, sd, me, bo) a).2 → FrI 0 276 M M' → Q (some (zI (a_feed (tx, fa, ln, g, un, i0, i1, sd, me, bo) a).1)) M') : C mX9_feed [.ref 0, zI a] M Q := by
  dsimp only [a_feed] at h
  obtain ⟨la, sa, hRt, hRd, hHi, hIr, hI0, hI1, hPa, hTr, hTu, hMe, hBo, hLi, hLs, b1, b2, b3, b4, b5, b6, b7⟩ := id hX
  obtain ⟨kR, hla⟩ := id hRt
  obtain ⟨h0, f, at0, ft, fp, k1, k2, h3⟩ := id hRd
  refine C_of okX9_feed (by decide) (Nat.le_of_ble_eq_true rfl) ?_
  show P none mX9_feed 0 [.ref 0, zI a] [] _ _
  refine p_iload_n (i := 0) rfl rfl ?_
  refine p_if_lt (i := 1) 11 rfl (by decide) (by omega) (fun c1 => ?_) (fun c1 => ?_)
  · refine p_ldc (i := 5) rfl kX9_78 ?_
    refine p_iret (i := 6) rfl rfl (rfl) ?_
    rw [if_pos (by omega)] at h
    exact h M hX FrI.rf
  · refine p_iload_n (i := 2) rfl rfl ?_
    refine p_sipush (i := 3) rfl (by decide) ?_
    refine p_icmp_le (i := 4) 14 rfl (by decide) (by omega) (by omega) (fun c8 => ?_) (fun c8 => ?_)
    · refine p_aload_n (i := 7) rfl rfl ?_
      refine p_getf (i := 8) rfl fX9_10 kR rfl ?_
      refine p_getf (i := 9) rfl fX9_79 k1 rfl ?_
      refine p_sipush (i := 10) rfl (by decide) ?_
      refine p_icmp_lt (i := 11) 30 rfl (by decide) (by omega) (by omega) (fun c24 => ?_) (fun c24 => ?_)
      · refine p_aload_n (i := 14) rfl rfl ?_
        refine p_getf (i := 15) rfl fX9_10 kR rfl ?_
        refine p_iload_n (i := 16) rfl rfl ?_
        refine p_cV1 (i := 17) rfl ⟨lX9_83, rfl, rfl⟩ k1 ⟨_, rfl, rfl⟩ rfl (x_append hRd (by omega) (by omega) (fun M1 hRd1 fr1 => ?_))
        obtain ⟨h0, f, at0, ft, fp, k1, k2, h3⟩ := id hRd1
        have kR := fr1.at kR (by omega)
        refine p_aload_n (i := 18) rfl rfl ?_
        refine p_getf (i := 19) rfl fX9_10 kR rfl ?_
        refine p_getf (i := 20) rfl fX9_79 k1 rfl ?_
        refine p_iret (i := 21) rfl rfl (rfl) ?_
        rw [if_neg (by omega), if_neg (by omega)] at h
        have e : (((tx ++ [a]).length : Nat) : Int) = ((tx.length : Nat) : Int) + 1 := by simp
        rw [e]
        exact h M1 ⟨la, sa, (hRt.fi fr1 (by omega)), hRd1, (hHi.fi fr1 (by omega)), (hIr.fi fr1 (by omega)), (hI0.fi fr1 (by omega)), (hI1.fi fr1 (by omega)), (hPa.fi fr1 (by omega)), (hTr.fi fr1 (by omega)), (hTu.fi fr1 (by omega)), (hMe.fi fr1 (by omega)), (hBo.fi fr1 (by omega)), (hLi.fi fr1 (by omega)), (hLs.fi fr1 (by omega)), b1, b2, b3, b4, b5, b6, b7⟩ (fr1.weak (by omega))
      · refine p_ldc (i := 12) rfl kX9_82 ?_
        refine p_iret (i := 13) rfl rfl (rfl) ?_
        rw [if_neg (by omega), if_pos (by omega)] at h
        exact h M hX FrI.rf
    · refine p_ldc (i := 5) rfl kX9_78 ?_
      refine p_iret (i := 6) rfl rfl (rfl) ?_
      rw [if_pos (by omega)] at h
      exact h M hX FrI.rf
theorem X_fault {M : AM} {tx : List Int} {fa : Int} {ln : LN} {g : GS} {un : List GS} {i0 i1 : Option (GS × Int)} {sd : Int} {me bo : List (Int × Int)} {Q : Option Value → AM → Prop} (hX : XW M (tx, fa, ln, g, un, i0, i1, sd, me, bo)) (h : ∀ M', XW M' (tx, fa, ln, g, un, i0, i1, sd, me, bo) → FrI 0 276 M M' → Q (some (zI (a_fault (tx, fa, ln, g, un, i0, i1, sd, me, bo)))) M') : C mX9_fault [.ref 0] M Q := by
  obtain ⟨la, sa, hRt, hRd, hHi, hIr, hI0, hI1, hPa, hTr, hTu, hMe, hBo, hLi, hLs, b1, b2, b3, b4, b5, b6, b7⟩ := id hX
  obtain ⟨kR, hla⟩ := id hRt
  refine C_of okX9_fault (by decide) (Nat.le_of_ble_eq_true rfl) ?_
  show P none mX9_fault 0 [.ref 0] [] _ _
  refine p_aload_n (i := 0) rfl rfl ?_
  refine p_getf (i := 1) rfl fX9_70 kR rfl ?_
  refine p_iret (i := 2) rfl rfl (rfl) ?_
  exact h M hX FrI.rf
theorem X_scene {M : AM} {tx : List Int} {fa : Int} {ln : LN} {g : GS} {un : List GS} {i0 i1 : Option (GS × Int)} {sd : Int} {me bo : List (Int × Int)} {x a : Int} {Q : Option Value → AM → Prop} (hX : XW M (tx, fa, ln, g, un, i0, i1, sd, me, bo)) (hx : -2147483648 ≤ x ∧ x ≤ 2147483647) (ha : -2147483648 ≤ a ∧ a ≤ 2147483647) (h : ∀ M', XW M' (tx, fa, ln, g, un, i0, i1, sd, me, bo) → FrI 0 276 M M' → Q (some (zI (a_scene (tx, fa, ln, g, un, i0, i1, sd, me, bo) x a))) M') : C mX9_scene [.ref 0, zI x, zI a] M Q := by
  have h := h M hX FrI.rf
  dsimp only [a_scene] at h
  obtain ⟨la, sa, hRt, hRd, hHi, hIr, hI0, hI1, hPa, hTr, hTu, hMe, hBo, hLi, hLs, b1, b2, b3, b4, b5, b6, b7⟩ := id hX
  obtain ⟨kR, hla⟩ := id hRt
  obtain ⟨⟨o1, o2, o3, o4, o5, o6, o7⟩, kf, bf, lc, lkf, ⟨hb, hk, hr, hc, ⟨gg, hg, hgi⟩, hrow⟩, hkb, hlk⟩ := id hLi
  refine C_of okX9_scene (by decide) (Nat.le_of_ble_eq_true rfl) ?_
  show P none mX9_scene 0 [.ref 0, zI x, zI a] [] _ _
  refine p_aload_n (i := 0) rfl rfl ?_
  refine p_getf (i := 1) rfl fX9_63 kR rfl ?_
  refine p_iload_n (i := 2) rfl rfl ?_
  refine p_cV1 (i := 3) rfl ⟨lX9_154, rfl, rfl⟩ hb ⟨_, rfl, rfl⟩ rfl (x_hasScene hLi hx (fun q => ?_) (fun q => ?_))
  · rw [if_neg (not_not_intro q)] at h
    refine p_if_ne (i := 4) 14 rfl (by decide) (by omega) (fun c8 => ?_) (fun c8 => by exfalso; omega)
    refine p_iload_n (i := 7) rfl rfl ?_
    by_cases hc : 0 ≤ a ∧ a < 4
    · rw [if_neg (not_not_intro hc)] at h
      rcases (show a = 0 ∨ a = 1 ∨ a = 2 ∨ a = 3 by omega) with rfl | rfl | rfl | rfl
      · refine p_tsIn (i := 8) 44 rfl (by omega) (by omega) (by rfl) (by decide) ?_
        refine p_aload_n (i := 9) rfl rfl ?_
        refine p_getf (i := 10) rfl fX9_63 kR rfl ?_
        refine p_iload_n (i := 11) rfl rfl ?_
        refine p_cV1 (i := 12) rfl ⟨lX9_159, rfl, rfl⟩ hb ⟨_, rfl, rfl⟩ rfl (x_kindOf hLi q ?_)
        refine p_iret (i := 13) rfl rfl (rfl) ?_
        exact h
      ·
        refine p_tsIn (i := 8) 53 rfl (by omega) (by omega) (by rfl) (by decide) ?_
        refine p_aload_n (i := 14) rfl rfl ?_
        refine p_getf (i := 15) rfl fX9_63 kR rfl ?_
        refine p_iload_n (i := 16) rfl rfl ?_
        refine p_cV1 (i := 17) rfl ⟨lX9_162, rfl, rfl⟩ hb ⟨_, rfl, rfl⟩ rfl (x_brightOf hLi q ?_)
        refine p_iret (i := 18) rfl rfl (rfl) ?_
        exact h
      ·
        refine p_tsIn (i := 8) 62 rfl (by omega) (by omega) (by rfl) (by decide) ?_
        refine p_aload_n (i := 19) rfl rfl ?_
        refine p_getf (i := 20) rfl fX9_63 kR rfl ?_
        refine p_iload_n (i := 21) rfl rfl ?_
        refine p_iconst (i := 22) rfl ?_
        refine p_cV2 (i := 23) rfl ⟨lX9_165, rfl, rfl⟩ hb ⟨_, rfl, rfl⟩ rfl (x_veil hLi q (by omega) ?_)
        refine p_iret (i := 24) rfl rfl (rfl) ?_
        exact h
      ·
        refine p_tsIn (i := 8) 72 rfl (by omega) (by omega) (by rfl) (by decide) ?_
        refine p_aload_n (i := 25) rfl rfl ?_
        refine p_iload_n (i := 26) rfl rfl ?_
        refine p_cV1 (i := 27) rfl ⟨lX9_169, rfl, rfl⟩ kR ⟨_, rfl, rfl⟩ rfl (x_scenesTakenFor hRt hPa hLi hx ?_)
        refine p_iret (i := 28) rfl rfl (rfl) ?_
        exact h
    · rw [if_pos hc] at h
      refine p_tsOut (i := 8) 78 rfl (by decide) (by omega) (by omega) ?_
      refine p_ldc (i := 29) rfl kX9_78 ?_
      refine p_iret (i := 30) rfl rfl (rfl) ?_
      exact h
  · rw [if_pos q] at h
    refine p_if_ne (i := 4) 14 rfl (by decide) (by omega) (fun c8 => by exfalso; omega) (fun c8 => ?_)
    refine p_ldc (i := 5) rfl kX9_158 ?_
    refine p_iret (i := 6) rfl rfl (rfl) ?_
    exact h
theorem X_wearer {M : AM} {tx : List Int} {fa : Int} {ln : LN} {g : GS} {un : List GS} {i0 i1 : Option (GS × Int)} {sd : Int} {me bo : List (Int × Int)} {x a : Int} {Q : Option Value → AM → Prop} (hX : XW M (tx, fa, ln, g, un, i0, i1, sd, me, bo)) (hx : -2147483648 ≤ x ∧ x ≤ 2147483647) (ha : -2147483648 ≤ a ∧ a ≤ 2147483647) (h : ∀ M', XW M' (tx, fa, ln, g, un, i0, i1, sd, me, bo) → FrI 0 276 M M' → Q (some (zI (a_wearer (tx, fa, ln, g, un, i0, i1, sd, me, bo) x a))) M') : C mX9_wearer [.ref 0, zI x, zI a] M Q := by
  have h := h M hX FrI.rf
  dsimp only [a_wearer] at h
  obtain ⟨la, sa, hRt, hRd, hHi, hIr, hI0, hI1, hPa, hTr, hTu, hMe, hBo, hLi, hLs, b1, b2, b3, b4, b5, b6, b7⟩ := id hX
  obtain ⟨kR, hla⟩ := id hRt
  obtain ⟨⟨o1, o2, o3, o4, o5, o6, o7⟩, kf, bf, lc, lkf, ⟨hb, hk, hr, hc, ⟨gg, hg, hgi⟩, hrow⟩, hkb, hlk⟩ := id hLi
  obtain ⟨⟨q1, q2, q3, q4, q5, q6, q7, q8, q9, q10, q11⟩, sc, wh, st, hs, lr, lf, lz, ⟨hp, hS, hW, hT, hH, hG, hR⟩, rL, rH, rG⟩ := id hPa
  refine C_of okX9_wearer (by decide) (Nat.le_of_ble_eq_true rfl) ?_
  show P none mX9_wearer 0 [.ref 0, zI x, zI a] [] _ _
  refine p_aload_n (i := 0) rfl rfl ?_
  refine p_getf (i := 1) rfl fX9_63 kR rfl ?_
  refine p_iload_n (i := 2) rfl rfl ?_
  refine p_cV1 (i := 3) rfl ⟨lX9_172, rfl, rfl⟩ hb ⟨_, rfl, rfl⟩ rfl (x_hasWearer hLi hx (fun q => ?_) (fun q => ?_))
  · rw [if_neg (not_not_intro q)] at h
    have hh := q8 x.toNat (by omega)
    obtain ⟨n1, n2, n3⟩ := o6 x.toNat (by omega)
    have hm : (g.2.2.2.1.getD x.toNat 0).toNat % lkN ln x.toNat < lkN ln x.toNat := Nat.mod_lt _ (by omega)
    refine p_if_ne (i := 4) 14 rfl (by decide) (by omega) (fun c8 => ?_) (fun c8 => by exfalso; omega)
    refine p_iload_n (i := 7) rfl rfl ?_
    by_cases hc : 0 ≤ a ∧ a < 5
    · rw [if_neg (not_not_intro hc)] at h
      rcases (show a = 0 ∨ a = 1 ∨ a = 2 ∨ a = 3 ∨ a = 4 by omega) with rfl | rfl | rfl | rfl | rfl
      · refine p_tsIn (i := 8) 48 rfl (by omega) (by omega) (by rfl) (by decide) ?_
        refine p_aload_n (i := 9) rfl rfl ?_
        refine p_getf (i := 10) rfl fX9_63 kR rfl ?_
        refine p_iload_n (i := 11) rfl rfl ?_
        refine p_cV1 (i := 12) rfl ⟨lX9_175, rfl, rfl⟩ hb ⟨_, rfl, rfl⟩ rfl (x_looksOf hLi q ?_)
        refine p_iret (i := 13) rfl rfl (rfl) ?_
        exact h
      ·
        refine p_tsIn (i := 8) 57 rfl (by omega) (by omega) (by rfl) (by decide) ?_
        refine p_aload_n (i := 14) rfl rfl ?_
        refine p_getf (i := 15) rfl fX9_32 kR rfl ?_
        refine p_iload_n (i := 16) rfl rfl ?_
        refine p_cV1 (i := 17) rfl ⟨lX9_178, rfl, rfl⟩ hp ⟨_, rfl, rfl⟩ rfl (x_yearsOf hPa (by omega) ?_)
        refine p_iret (i := 18) rfl rfl (rfl) ?_
        exact h
      ·
        refine p_tsIn (i := 8) 66 rfl (by omega) (by omega) (by rfl) (by decide) ?_
        refine p_aload_n (i := 19) rfl rfl ?_
        refine p_getf (i := 20) rfl fX9_32 kR rfl ?_
        refine p_iload_n (i := 21) rfl rfl ?_
        refine p_cV1 (i := 22) rfl ⟨lX9_181, rfl, rfl⟩ hp ⟨_, rfl, rfl⟩ rfl (x_scenesOf hPa (by omega) ?_)
        refine p_iret (i := 23) rfl rfl (rfl) ?_
        exact h
      ·
        refine p_tsIn (i := 8) 75 rfl (by omega) (by omega) (by rfl) (by decide) ?_
        refine p_aload_n (i := 24) rfl rfl ?_
        refine p_iload_n (i := 25) rfl rfl ?_
        refine p_top (b := ((x.toNat : Nat) : Int)) (by omega) ?_
        refine p_cV1 (i := 26) rfl ⟨lX9_184, rfl, rfl⟩ kR ⟨_, rfl, rfl⟩ rfl (x_kinOf hRt hPa hLi (by omega) ?_)
        refine p_iret (i := 27) rfl rfl (rfl) ?_
        exact h
      ·
        refine p_tsIn (i := 8) 81 rfl (by omega) (by omega) (by rfl) (by decide) ?_
        refine p_aload_n (i := 28) rfl rfl ?_
        refine p_aload_n (i := 29) rfl rfl ?_
        refine p_getf (i := 30) rfl fX9_63 kR rfl ?_
        refine p_iload_n (i := 31) rfl rfl ?_
        refine p_aload_n (i := 32) rfl rfl ?_
        refine p_getf (i := 33) rfl fX9_32 kR rfl ?_
        refine p_iload_n (i := 34) rfl rfl ?_
        refine p_cV1 (i := 35) rfl ⟨lX9_178, rfl, rfl⟩ hp ⟨_, rfl, rfl⟩ rfl (x_yearsOf hPa (by omega) ?_)
        refine p_cV2 (i := 36) rfl ⟨lX9_187, rfl, rfl⟩ hb ⟨_, rfl, rfl⟩ rfl (x_sceneInYear hLi q (by omega) ?_)
        refine p_cV1 (i := 37) rfl ⟨lX9_190, rfl, rfl⟩ kR ⟨_, rfl, rfl⟩ rfl (x_takenNow hRt hPa hLi (n3 _ hm) ?_)
        refine p_iret (i := 38) rfl rfl (rfl) ?_
        exact h
    · rw [if_pos hc] at h
      refine p_tsOut (i := 8) 102 rfl (by decide) (by omega) (by omega) ?_
      refine p_ldc (i := 39) rfl kX9_78 ?_
      refine p_iret (i := 40) rfl rfl (rfl) ?_
      exact h
  · rw [if_pos q] at h
    refine p_if_ne (i := 4) 14 rfl (by decide) (by omega) (fun c8 => by exfalso; omega) (fun c8 => ?_)
    refine p_ldc (i := 5) rfl kX9_158 ?_
    refine p_iret (i := 6) rfl rfl (rfl) ?_
    exact h
theorem X_layer {M : AM} {tx : List Int} {fa : Int} {ln : LN} {g : GS} {un : List GS} {i0 i1 : Option (GS × Int)} {sd : Int} {me bo : List (Int × Int)} {x a : Int} {Q : Option Value → AM → Prop} (hX : XW M (tx, fa, ln, g, un, i0, i1, sd, me, bo)) (hx : -2147483648 ≤ x ∧ x ≤ 2147483647) (ha : -2147483648 ≤ a ∧ a ≤ 2147483647) (h : ∀ M', XW M' (tx, fa, ln, g, un, i0, i1, sd, me, bo) → FrI 0 276 M M' → Q (some (zI (a_layer (tx, fa, ln, g, un, i0, i1, sd, me, bo) x a))) M') : C mX9_layer [.ref 0, zI x, zI a] M Q := by
  have h := h M hX FrI.rf
  dsimp only [a_layer] at h
  obtain ⟨la, sa, hRt, hRd, hHi, hIr, hI0, hI1, hPa, hTr, hTu, hMe, hBo, hLi, hLs, b1, b2, b3, b4, b5, b6, b7⟩ := id hX
  obtain ⟨kR, hla⟩ := id hRt
  obtain ⟨⟨q1, q2, q3, q4, q5, q6, q7, q8, q9, q10, q11⟩, sc, wh, st, hs, lr, lf, lz, ⟨hp, hS, hW, hT, hH, hG, hR⟩, rL, rH, rG⟩ := id hPa
  refine C_of okX9_layer (by decide) (Nat.le_of_ble_eq_true rfl) ?_
  show P none mX9_layer 0 [.ref 0, zI x, zI a] [] _ _
  refine p_aload_n (i := 0) rfl rfl ?_
  refine p_getf (i := 1) rfl fX9_32 kR rfl ?_
  refine p_iload_n (i := 2) rfl rfl ?_
  refine p_cV1 (i := 3) rfl ⟨lX9_193, rfl, rfl⟩ hp ⟨_, rfl, rfl⟩ rfl (x_hasLayer hPa hx (fun q => ?_) (fun q => ?_))
  · rw [if_neg (not_not_intro q)] at h
    obtain ⟨e1, e2, e3⟩ := rL x.toNat (by omega)
    refine p_if_ne (i := 4) 14 rfl (by decide) (by omega) (fun c8 => ?_) (fun c8 => by exfalso; omega)
    refine p_iload_n (i := 7) rfl rfl ?_
    by_cases hc : 0 ≤ a ∧ a < 3
    · rw [if_neg (not_not_intro hc)] at h
      rcases (show a = 0 ∨ a = 1 ∨ a = 2 by omega) with rfl | rfl | rfl
      · refine p_tsIn (i := 8) 40 rfl (by omega) (by omega) (by rfl) (by decide) ?_
        refine p_aload_n (i := 9) rfl rfl ?_
        refine p_getf (i := 10) rfl fX9_32 kR rfl ?_
        refine p_getf (i := 11) rfl fX9_196 hp rfl ?_
        refine p_iload_n (i := 12) rfl rfl ?_
        refine p_iaX (i := 13) (x.toNat) rfl hS (by omega) (by omega) (by decide) ?_
        refine p_iret (i := 14) rfl rfl (rfl) ?_
        rw [e1]
        exact h
      ·
        refine p_tsIn (i := 8) 50 rfl (by omega) (by omega) (by rfl) (by decide) ?_
        refine p_aload_n (i := 15) rfl rfl ?_
        refine p_getf (i := 16) rfl fX9_32 kR rfl ?_
        refine p_getf (i := 17) rfl fX9_200 hp rfl ?_
        refine p_iload_n (i := 18) rfl rfl ?_
        refine p_iaX (i := 19) (x.toNat) rfl hW (by omega) (by omega) (by decide) ?_
        refine p_iret (i := 20) rfl rfl (rfl) ?_
        rw [e2]
        exact h
      ·
        refine p_tsIn (i := 8) 60 rfl (by omega) (by omega) (by rfl) (by decide) ?_
        refine p_aload_n (i := 21) rfl rfl ?_
        refine p_getf (i := 22) rfl fX9_32 kR rfl ?_
        refine p_getf (i := 23) rfl fX9_203 hp rfl ?_
        refine p_iload_n (i := 24) rfl rfl ?_
        refine p_iaX (i := 25) (x.toNat) rfl hT (by omega) (by omega) (by decide) ?_
        refine p_iret (i := 26) rfl rfl (rfl) ?_
        rw [e3]
        exact h
    · rw [if_pos hc] at h
      refine p_tsOut (i := 8) 70 rfl (by decide) (by omega) (by omega) ?_
      refine p_ldc (i := 27) rfl kX9_78 ?_
      refine p_iret (i := 28) rfl rfl (rfl) ?_
      exact h
  · rw [if_pos q] at h
    refine p_if_ne (i := 4) 14 rfl (by decide) (by omega) (fun c8 => by exfalso; omega) (fun c8 => ?_)
    refine p_ldc (i := 5) rfl kX9_158 ?_
    refine p_iret (i := 6) rfl rfl (rfl) ?_
    exact h
theorem X_logged {M : AM} {tx : List Int} {fa : Int} {ln : LN} {g : GS} {un : List GS} {i0 i1 : Option (GS × Int)} {sd : Int} {me bo : List (Int × Int)} {x a : Int} {Q : Option Value → AM → Prop} (hX : XW M (tx, fa, ln, g, un, i0, i1, sd, me, bo)) (hx : -2147483648 ≤ x ∧ x ≤ 2147483647) (ha : -2147483648 ≤ a ∧ a ≤ 2147483647) (h : ∀ M', XW M' (tx, fa, ln, g, un, i0, i1, sd, me, bo) → FrI 0 276 M M' → Q (some (zI (a_logged (tx, fa, ln, g, un, i0, i1, sd, me, bo) x a))) M') : C mX9_logged [.ref 0, zI x, zI a] M Q := by
  have h := h M hX FrI.rf
  dsimp only [a_logged] at h
  obtain ⟨la, sa, hRt, hRd, hHi, hIr, hI0, hI1, hPa, hTr, hTu, hMe, hBo, hLi, hLs, b1, b2, b3, b4, b5, b6, b7⟩ := id hX
  obtain ⟨kR, hla⟩ := id hRt
  obtain ⟨⟨q1, q2, q3, q4, q5, q6, q7, q8, q9, q10, q11⟩, sc, wh, st, hs, lr, lf, lz, ⟨hp, hS, hW, hT, hH, hG, hR⟩, rL, rH, rG⟩ := id hPa
  refine C_of okX9_logged (by decide) (Nat.le_of_ble_eq_true rfl) ?_
  show P none mX9_logged 0 [.ref 0, zI x, zI a] [] _ _
  refine p_iload_n (i := 0) rfl rfl ?_
  refine p_if_lt (i := 1) 9 rfl (by decide) (by omega) (fun c1 => ?_) (fun c1 => ?_)
  · refine p_ldc (i := 5) rfl kX9_78 ?_
    refine p_iret (i := 6) rfl rfl (rfl) ?_
    rw [if_pos (by omega)] at h
    exact h
  · refine p_iload_n (i := 2) rfl rfl ?_
    refine p_iconst (i := 3) rfl ?_
    refine p_icmp_lt (i := 4) 12 rfl (by decide) (by omega) (by omega) (fun c6 => ?_) (fun c6 => ?_)
    · rw [if_neg (by omega)] at h
      refine p_aload_n (i := 7) rfl rfl ?_
      refine p_getf (i := 8) rfl fX9_32 kR rfl ?_
      refine p_getf (i := 9) rfl fX9_142 hp rfl ?_
      refine p_iload_n (i := 10) rfl rfl ?_
      refine p_iload_n (i := 11) rfl rfl ?_
      refine p_top (b := ((a.toNat : Nat) : Int)) (by omega) ?_
      refine p_cV2 (i := 12) rfl ⟨lX9_206, rfl, rfl⟩ hG ⟨_, rfl, rfl⟩ rfl (x_logAt ⟨lr, lf, lz, hG, hR, rG⟩ hx (by omega) ?_)
      refine p_iret (i := 13) rfl rfl (rfl) ?_
      exact h
    · refine p_ldc (i := 5) rfl kX9_78 ?_
      refine p_iret (i := 6) rfl rfl (rfl) ?_
      rw [if_pos (by omega)] at h
      exact h
theorem X_takes {M : AM} {tx : List Int} {fa : Int} {ln : LN} {g : GS} {un : List GS} {i0 i1 : Option (GS × Int)} {sd : Int} {me bo : List (Int × Int)} {x : Int} {Q : Option Value → AM → Prop} (hX : XW M (tx, fa, ln, g, un, i0, i1, sd, me, bo)) (hx : -2147483648 ≤ x ∧ x ≤ 2147483647) (h : ∀ M', XW M' (tx, fa, ln, g, un, i0, i1, sd, me, bo) → FrI 0 276 M M' → Q (some (zI (a_takes (tx, fa, ln, g, un, i0, i1, sd, me, bo) x))) M') : C mX9_takes [.ref 0, zI x] M Q := by
  have h := h M hX FrI.rf
  dsimp only [a_takes] at h
  obtain ⟨la, sa, hRt, hRd, hHi, hIr, hI0, hI1, hPa, hTr, hTu, hMe, hBo, hLi, hLs, b1, b2, b3, b4, b5, b6, b7⟩ := id hX
  obtain ⟨kR, hla⟩ := id hRt
  obtain ⟨⟨o1, o2, o3, o4, o5, o6, o7⟩, kf, bf, lc, lkf, ⟨hb, hk, hr, hc, ⟨gg, hg, hgi⟩, hrow⟩, hkb, hlk⟩ := id hLi
  refine C_of okX9_takes (by decide) (Nat.le_of_ble_eq_true rfl) ?_
  show P none mX9_takes 0 [.ref 0, zI x] [] _ _
  refine p_aload_n (i := 0) rfl rfl ?_
  refine p_getf (i := 1) rfl fX9_63 kR rfl ?_
  refine p_iload_n (i := 2) rfl rfl ?_
  refine p_cV1 (i := 3) rfl ⟨lX9_154, rfl, rfl⟩ hb ⟨_, rfl, rfl⟩ rfl (x_hasScene hLi hx (fun q => ?_) (fun q => ?_))
  · rw [if_neg (not_not_intro q)] at h
    refine p_if_ne (i := 4) 14 rfl (by decide) (by omega) (fun c8 => ?_) (fun c8 => by exfalso; omega)
    refine p_aload_n (i := 7) rfl rfl ?_
    refine p_iload_n (i := 8) rfl rfl ?_
    refine p_cV1 (i := 9) rfl ⟨lX9_190, rfl, rfl⟩ kR ⟨_, rfl, rfl⟩ rfl (x_takenNow hRt hPa hLi q ?_)
    refine p_iret (i := 10) rfl rfl (rfl) ?_
    exact h
  · rw [if_pos q] at h
    refine p_if_ne (i := 4) 14 rfl (by decide) (by omega) (fun c8 => by exfalso; omega) (fun c8 => ?_)
    refine p_ldc (i := 5) rfl kX9_158 ?_
    refine p_iret (i := 6) rfl rfl (rfl) ?_
    exact h
theorem X_only {M : AM} {tx : List Int} {fa : Int} {ln : LN} {g : GS} {un : List GS} {i0 i1 : Option (GS × Int)} {sd : Int} {me bo : List (Int × Int)} {k x : Int} {Q : Option Value → AM → Prop} (hX : XW M (tx, fa, ln, g, un, i0, i1, sd, me, bo)) (hkk : -2147483648 ≤ k ∧ k ≤ 2147483647) (hx : -2147483648 ≤ x ∧ x ≤ 2147483647) (h : ∀ M', XW M' (tx, fa, ln, g, un, i0, i1, sd, me, bo) → FrI 0 276 M M' → Q (some (zI (a_only (tx, fa, ln, g, un, i0, i1, sd, me, bo) k x))) M') : C mX9_only [.ref 0, zI k, zI x] M Q := by
  have h := h M hX FrI.rf
  dsimp only [a_only] at h
  obtain ⟨la, sa, hRt, hRd, hHi, hIr, hI0, hI1, hPa, hTr, hTu, hMe, hBo, hLi, hLs, b1, b2, b3, b4, b5, b6, b7⟩ := id hX
  obtain ⟨kR, hla⟩ := id hRt
  obtain ⟨⟨o1, o2, o3, o4, o5, o6, o7⟩, kf, bf, lc, lkf, ⟨hb, hk, hr, hc, ⟨gg, hg, hgi⟩, hrow⟩, hkb, hlk⟩ := id hLi
  obtain ⟨⟨q1, q2, q3, q4, q5, q6, q7, q8, q9, q10, q11⟩, sc, wh, st, hs, lr, lf, lz, ⟨hp, hS, hW, hT, hH, hG, hR⟩, rL, rH, rG⟩ := id hPa
  refine C_of okX9_only (by decide) (Nat.le_of_ble_eq_true rfl) ?_
  show P none mX9_only 0 [.ref 0, zI k, zI x] [] _ _
  refine p_aload_n (i := 0) rfl rfl ?_
  refine p_getf (i := 1) rfl fX9_32 kR rfl ?_
  refine p_iload_n (i := 2) rfl rfl ?_
  refine p_cV1 (i := 3) rfl ⟨lX9_193, rfl, rfl⟩ hp ⟨_, rfl, rfl⟩ rfl (x_hasLayer hPa hkk (fun q => ?_) (fun q => ?_))
  · refine p_if_eq (i := 4) 22 rfl (by decide) (by omega) (fun c8 => by exfalso; omega) (fun c8 => ?_)
    refine p_aload_n (i := 5) rfl rfl ?_
    refine p_getf (i := 6) rfl fX9_63 kR rfl ?_
    refine p_iload_n (i := 7) rfl rfl ?_
    refine p_cV1 (i := 8) rfl ⟨lX9_154, rfl, rfl⟩ hb ⟨_, rfl, rfl⟩ rfl (x_hasScene hLi hx (fun q' => ?_) (fun q' => ?_))
    · refine p_if_ne (i := 9) 25 rfl (by decide) (by omega) (fun c19 => ?_) (fun c19 => by exfalso; omega)
      rw [if_neg (by omega)] at h
      obtain ⟨e1, e2, e3⟩ := rL k.toNat (by omega)
      have e4 := q2 k.toNat (by omega)
      obtain ⟨n1, n2, n3, n4⟩ := o5 x.toNat (by omega)
      refine p_aload_n (i := 12) rfl rfl ?_
      refine p_getf (i := 13) rfl fX9_32 kR rfl ?_
      refine p_getf (i := 14) rfl fX9_203 hp rfl ?_
      refine p_iload_n (i := 15) rfl rfl ?_
      refine p_iaX (i := 16) (k.toNat) rfl hT (by omega) (by omega) (by decide) ?_
      refine p_aload_n (i := 17) rfl rfl ?_
      refine p_getf (i := 18) rfl fX9_63 kR rfl ?_
      refine p_iload_n (i := 19) rfl rfl ?_
      refine p_iconst (i := 20) rfl ?_
      refine p_cV2 (i := 21) rfl ⟨lX9_165, rfl, rfl⟩ hb ⟨_, rfl, rfl⟩ rfl (x_veil hLi q' (by omega) ?_)
      refine p_icmp_gt (i := 22) 48 rfl (by decide) (by omega) (by omega) (fun c43 => ?_) (fun c43 => ?_)
      · refine p_aload_n (i := 25) rfl rfl ?_
        refine p_getf (i := 26) rfl fX9_32 kR rfl ?_
        refine p_iload_n (i := 27) rfl rfl ?_
        rw [if_neg (by omega)] at h
        refine p_top (b := ((k.toNat : Nat) : Int)) (by omega) ?_
        refine p_cV1 (i := 28) rfl ⟨lX9_256, rfl, rfl⟩ hp ⟨_, rfl, rfl⟩ rfl (x_layersBefore hPa (by omega) ?_)
        refine p_iret (i := 29) rfl rfl (rfl) ?_
        exact h
      · refine p_iconst (i := 23) rfl ?_
        refine p_iret (i := 24) rfl rfl (rfl) ?_
        rw [if_pos (by omega)] at h
        exact h
    · refine p_if_ne (i := 9) 25 rfl (by decide) (by omega) (fun c19 => by exfalso; omega) (fun c19 => ?_)
      refine p_ldc (i := 10) rfl kX9_158 ?_
      refine p_iret (i := 11) rfl rfl (rfl) ?_
      rw [if_pos (by omega)] at h
      exact h
  · refine p_if_eq (i := 4) 22 rfl (by decide) (by omega) (fun c8 => ?_) (fun c8 => by exfalso; omega)
    refine p_ldc (i := 10) rfl kX9_158 ?_
    refine p_iret (i := 11) rfl rfl (rfl) ?_
    rw [if_pos (by omega)] at h
    exact h
theorem X_told {M : AM} {tx : List Int} {fa : Int} {ln : LN} {g : GS} {un : List GS} {i0 i1 : Option (GS × Int)} {sd : Int} {me bo : List (Int × Int)} {a : Int} {Q : Option Value → AM → Prop} (hX : XW M (tx, fa, ln, g, un, i0, i1, sd, me, bo)) (ha : -2147483648 ≤ a ∧ a ≤ 2147483647) (h : ∀ M', XW M' (tx, fa, ln, g, un, i0, i1, sd, me, bo) → FrI 0 276 M M' → Q (some (zI (a_told (tx, fa, ln, g, un, i0, i1, sd, me, bo) a))) M') : C mX9_told [.ref 0, zI a] M Q := by
  have h := h M hX FrI.rf
  dsimp only [a_told] at h
  obtain ⟨la, sa, hRt, hRd, hHi, hIr, hI0, hI1, hPa, hTr, hTu, hMe, hBo, hLi, hLs, b1, b2, b3, b4, b5, b6, b7⟩ := id hX
  obtain ⟨kR, hla⟩ := id hRt
  obtain ⟨⟨o1, o2, o3, o4, o5, o6, o7⟩, kf, bf, lc, lkf, ⟨hb, hk, hr, hc, ⟨gg, hg, hgi⟩, hrow⟩, hkb, hlk⟩ := id hLi
  obtain ⟨⟨q1, q2, q3, q4, q5, q6, q7, q8, q9, q10, q11⟩, sc, wh, st, hs, lr, lf, lz, ⟨hp, hS, hW, hT, hH, hG, hR⟩, rL, rH, rG⟩ := id hPa
  obtain ⟨v0, vf, va, vt, vp, w1, w2, v3⟩ := id hRd
  obtain ⟨v4, vg, vs, w3, w4, v5⟩ := id hHi
  obtain ⟨v6, vm, vn, w5, w6, w7, v7⟩ := id hMe
  obtain ⟨v8, vbm, vbn, w8, w9, w10, v9⟩ := id hBo
  have elz : lz = (g.2.2.2.2.length : Nat) := (rG.2.2.2.2 rfl).1
  refine C_of okX9_told (by decide) (Nat.le_of_ble_eq_true rfl) ?_
  show P none mX9_told 0 [.ref 0, zI a] [] _ _
  refine p_iload_n (i := 0) rfl rfl ?_
  by_cases hc : 0 ≤ a ∧ a < 16
  · rw [if_neg (not_not_intro hc)] at h
    rcases (show a = 0 ∨ a = 1 ∨ a = 2 ∨ a = 3 ∨ a = 4 ∨ a = 5 ∨ a = 6 ∨ a = 7 ∨ a = 8 ∨ a = 9 ∨ a = 10 ∨ a = 11 ∨ a = 12 ∨ a = 13 ∨ a = 14 ∨ a = 15 by omega) with rfl | rfl | rfl | rfl | rfl | rfl | rfl | rfl | rfl | rfl | rfl | rfl | rfl | rfl | rfl | rfl
    ·
      refine p_tsIn (i := 1) 80 rfl (by omega) (by omega) (by rfl) (by decide) ?_
      refine p_aload_n (i := 2) rfl rfl ?_
      refine p_getf (i := 3) rfl fX9_63 kR rfl ?_
      refine p_getf (i := 4) rfl fX9_110 hb rfl ?_
      refine p_iret (i := 5) rfl rfl (rfl) ?_
      exact h
    ·
      refine p_tsIn (i := 1) 88 rfl (by omega) (by omega) (by rfl) (by decide) ?_
      refine p_aload_n (i := 6) rfl rfl ?_
      refine p_getf (i := 7) rfl fX9_63 kR rfl ?_
      refine p_getf (i := 8) rfl fX9_107 hb rfl ?_
      refine p_iret (i := 9) rfl rfl (rfl) ?_
      exact h
    ·
      refine p_tsIn (i := 1) 96 rfl (by omega) (by omega) (by rfl) (by decide) ?_
      refine p_aload_n (i := 10) rfl rfl ?_
      refine p_getf (i := 11) rfl fX9_63 kR rfl ?_
      refine p_getf (i := 12) rfl fX9_113 hb rfl ?_
      refine p_iret (i := 13) rfl rfl (rfl) ?_
      exact h
    ·
      refine p_tsIn (i := 1) 104 rfl (by omega) (by omega) (by rfl) (by decide) ?_
      refine p_aload_n (i := 14) rfl rfl ?_
      refine p_getf (i := 15) rfl fX9_10 kR rfl ?_
      refine p_getf (i := 16) rfl fX9_79 w1 rfl ?_
      refine p_iret (i := 17) rfl rfl (rfl) ?_
      exact h
    ·
      refine p_tsIn (i := 1) 112 rfl (by omega) (by omega) (by rfl) (by decide) ?_
      refine p_aload_n (i := 18) rfl rfl ?_
      refine p_getf (i := 19) rfl fX9_32 kR rfl ?_
      refine p_getf (i := 20) rfl fX9_116 hp rfl ?_
      refine p_iret (i := 21) rfl rfl (rfl) ?_
      exact h
    ·
      refine p_tsIn (i := 1) 120 rfl (by omega) (by omega) (by rfl) (by decide) ?_
      refine p_aload_n (i := 22) rfl rfl ?_
      refine p_getf (i := 23) rfl fX9_32 kR rfl ?_
      refine p_getf (i := 24) rfl fX9_119 hp rfl ?_
      refine p_iret (i := 25) rfl rfl (rfl) ?_
      exact h
    ·
      refine p_tsIn (i := 1) 128 rfl (by omega) (by omega) (by rfl) (by decide) ?_
      refine p_aload_n (i := 26) rfl rfl ?_
      refine p_getf (i := 27) rfl fX9_32 kR rfl ?_
      refine p_getf (i := 28) rfl fX9_122 hp rfl ?_
      refine p_iret (i := 29) rfl rfl (rfl) ?_
      exact h
    ·
      refine p_tsIn (i := 1) 136 rfl (by omega) (by omega) (by rfl) (by decide) ?_
      refine p_aload_n (i := 30) rfl rfl ?_
      refine p_getf (i := 31) rfl fX9_32 kR rfl ?_
      refine p_cV0 (i := 32) rfl ⟨lX9_125, rfl, rfl⟩ hp ⟨_, rfl, rfl⟩ rfl (x_darkness hPa ?_)
      refine p_iret (i := 33) rfl rfl (rfl) ?_
      exact h
    ·
      refine p_tsIn (i := 1) 144 rfl (by omega) (by omega) (by rfl) (by decide) ?_
      refine p_aload_n (i := 34) rfl rfl ?_
      refine p_cV0 (i := 35) rfl ⟨lX9_129, rfl, rfl⟩ kR ⟨_, rfl, rfl⟩ rfl (x_scenesOfAll hRt hPa hLi ?_)
      refine p_iret (i := 36) rfl rfl (rfl) ?_
      exact h
    ·
      refine p_tsIn (i := 1) 149 rfl (by omega) (by omega) (by rfl) (by decide) ?_
      refine p_aload_n (i := 37) rfl rfl ?_
      refine p_getf (i := 38) rfl fX9_32 kR rfl ?_
      refine p_cV0 (i := 39) rfl ⟨lX9_132, rfl, rfl⟩ hp ⟨_, rfl, rfl⟩ rfl (x_lowestOfWearers hPa ?_)
      refine p_iret (i := 40) rfl rfl (rfl) ?_
      exact h
    ·
      refine p_tsIn (i := 1) 157 rfl (by omega) (by omega) (by rfl) (by decide) ?_
      refine p_aload_n (i := 41) rfl rfl ?_
      refine p_getf (i := 42) rfl fX9_32 kR rfl ?_
      refine p_iconst (i := 43) rfl ?_
      refine p_cV1 (i := 44) rfl ⟨lX9_135, rfl, rfl⟩ hp ⟨_, rfl, rfl⟩ rfl (x_strongestBut hPa (wi := 0) (by decide) ?_)
      refine p_iret (i := 45) rfl rfl (rfl) ?_
      exact h
    ·
      refine p_tsIn (i := 1) 166 rfl (by omega) (by omega) (by rfl) (by decide) ?_
      refine p_aload_n (i := 46) rfl rfl ?_
      refine p_getf (i := 47) rfl fX9_32 kR rfl ?_
      refine p_cV0 (i := 48) rfl ⟨lX9_139, rfl, rfl⟩ hp ⟨_, rfl, rfl⟩ rfl (x_thickest hPa ?_)
      refine p_iret (i := 49) rfl rfl (rfl) ?_
      exact h
    ·
      refine p_tsIn (i := 1) 174 rfl (by omega) (by omega) (by rfl) (by decide) ?_
      refine p_aload_n (i := 50) rfl rfl ?_
      refine p_getf (i := 51) rfl fX9_32 kR rfl ?_
      refine p_getf (i := 52) rfl fX9_142 hp rfl ?_
      refine p_getf (i := 53) rfl fX9_146 hG rfl ?_
      refine p_iret (i := 54) rfl rfl (rfl) ?_
      rw [elz]
      exact h
    ·
      refine p_tsIn (i := 1) 185 rfl (by omega) (by omega) (by rfl) (by decide) ?_
      refine p_aload_n (i := 55) rfl rfl ?_
      refine p_getf (i := 56) rfl fX9_49 kR rfl ?_
      refine p_getf (i := 57) rfl fX9_151 w5 rfl ?_
      refine p_iret (i := 58) rfl rfl (rfl) ?_
      exact h
    ·
      refine p_tsIn (i := 1) 193 rfl (by omega) (by omega) (by rfl) (by decide) ?_
      refine p_aload_n (i := 59) rfl rfl ?_
      refine p_getf (i := 60) rfl fX9_56 kR rfl ?_
      refine p_getf (i := 61) rfl fX9_152 w8 rfl ?_
      refine p_iret (i := 62) rfl rfl (rfl) ?_
      exact h
    ·
      refine p_tsIn (i := 1) 201 rfl (by omega) (by omega) (by rfl) (by decide) ?_
      refine p_aload_n (i := 63) rfl rfl ?_
      refine p_getf (i := 64) rfl fX9_19 kR rfl ?_
      refine p_getf (i := 65) rfl fX9_153 w3 rfl ?_
      refine p_iret (i := 66) rfl rfl (rfl) ?_
      exact h
  · rw [if_pos hc] at h
    refine p_tsOut (i := 1) 209 rfl (by decide) (by omega) (by omega) ?_
    refine p_ldc (i := 67) rfl kX9_78 ?_
    refine p_iret (i := 68) rfl rfl (rfl) ?_
    exact h
end
section
-- calls of the class that do
theorem x_removeB {b : Bool} {M : AM} {p ns nw : Nat} {g : GS} {k : Int} {Q : Option Value → AM → Prop} (hP : PairB b M p ns nw g) (hk : 0 ≤ k ∧ k < g.1.length) (h : ∀ M', PairB b M' p ns nw (g.1.eraseIdx k.toNat, g.2) → FrI p 7 M M' → Q none M') : C mX6_remove [.ref p, zI k] M Q := by
  obtain ⟨h0, hs, lr, lf, lz, hPW, rH, rG⟩ := hP.w
  refine x_remove hPW hk (fun M' hPW' fr => h M' (PairW.b (g := (g.1.eraseIdx k.toNat, g.2)) hPW' ?_ rH rG) fr)
  have hok := h0.ls.er (k := k.toNat)
  obtain ⟨g1, g2, g3⟩ := h0
  exact ⟨hok.1, hok.at, g3⟩
theorem x_refusal {M : AM} {la sa : Nat} {fa sd : Int} {ln : LN} {g : GS} {ns nw : Nat} {n : Int} {Q : Option Value → AM → Prop} (hRt : XRt M la sa fa sd) (hP : PairB true M 216 ns nw g) (hL : LineA M la ln) (hn : -2147483648 ≤ n ∧ n ≤ 2147483647) (h : Q (some (zI (refs ln g n))) M) : C mX9_refusalOfYears [.ref 0, zI n] M Q := by
  unfold refs at h
  obtain ⟨kR, hla⟩ := id hRt
  obtain ⟨⟨o1, o2, o3, o4, o5, o6, o7⟩, kf, bf, lc, lkf, ⟨hb, hk, hr, hc, ⟨gg, hg, hgi⟩, hrow⟩, hkb, hlk⟩ := id hL
  obtain ⟨⟨q1, q2, q3, q4, q5, q6, q7, q8, q9, q10, q11⟩, sc, wh, st, hs, lr, lf, lz, ⟨hp, hS, hW, hT, hH, hG, hR⟩, rL, rH, rG⟩ := id hP
  refine C_of okX9_refusalOfYears (by decide) (Nat.le_of_ble_eq_true rfl) ?_
  show P none mX9_refusalOfYears 0 [.ref 0, zI n] [] _ _
  refine p_iload_n (i := 0) rfl rfl ?_
  refine p_iconst (i := 1) rfl ?_
  refine p_icmp_lt (i := 2) 11 rfl (by decide) (by omega) (by omega) (fun c2 => ?_) (fun c2 => ?_)
  · refine p_ldc (i := 6) rfl kX9_78 ?_
    refine p_iret (i := 7) rfl rfl (rfl) ?_
    rw [if_pos (by omega)] at h
    exact h
  · refine p_iload_n (i := 3) rfl rfl ?_
    refine p_bipush (i := 4) rfl (by decide) ?_
    refine p_icmp_le (i := 5) 14 rfl (by decide) (by omega) (by omega) (fun c8 => ?_) (fun c8 => ?_)
    · rw [if_neg (by omega)] at h
      refine p_aload_n (i := 8) rfl rfl ?_
      refine p_getf (i := 9) rfl fX9_63 kR rfl ?_
      refine p_getf (i := 10) rfl fX9_110 hb rfl ?_
      refine p_if_ne (i := 11) 27 rfl (by decide) (by omega) (fun c21 => ?_) (fun c21 => ?_)
      · rw [if_neg (by omega)] at h
        refine p_aload_n (i := 14) rfl rfl ?_
        refine p_getf (i := 15) rfl fX9_32 kR rfl ?_
        refine p_getf (i := 16) rfl fX9_116 hp rfl ?_
        refine p_ldcw (i := 17) rfl kX9_308 ?_
        refine p_icmp_le (i := 18) 45 rfl (by decide) (by omega) (by omega) (fun c37 => ?_) (fun c37 => ?_)
        · refine p_iconst (i := 21) rfl ?_
          refine p_iret (i := 22) rfl rfl (rfl) ?_
          rw [if_neg (by omega)] at h
          exact h
        · refine p_ldc (i := 19) rfl kX9_82 ?_
          refine p_goto (i := 20) 46 rfl (by decide) ?_
          refine p_iret (i := 22) rfl rfl (rfl) ?_
          rw [if_pos (by omega)] at h
          exact h
      · refine p_ldc (i := 12) rfl kX9_220 ?_
        refine p_iret (i := 13) rfl rfl (rfl) ?_
        rw [if_pos (by omega)] at h
        exact h
    · refine p_ldc (i := 6) rfl kX9_78 ?_
      refine p_iret (i := 7) rfl rfl (rfl) ?_
      rw [if_pos (by omega)] at h
      exact h
theorem x_drawOf {M : AM} {la sa : Nat} {fa sd n : Int} {Q : Option Value → AM → Prop} (hRt : XRt M la sa fa sd) (hs : 0 ≤ sd ∧ sd ≤ 2147483647) (hn : 0 < n ∧ n ≤ 1000) (h : ∀ M', XRt M' la sa fa (drw sd) → FrI 0 1 M M' → Q (some (zI (drw sd / 65536 % n))) M') : C mX9_drawOf [.ref 0, zI n] M Q := by
  obtain ⟨kR, hla⟩ := id hRt
  have fr : FrI 0 1 M M := FrI.rf
  refine C_of okX9_drawOf (by decide) (Nat.le_of_ble_eq_true rfl) ?_
  show P none mX9_drawOf 0 [.ref 0, zI n] [] _ _
  refine p_aload_n (i := 0) rfl rfl ?_
  refine p_aload_n (i := 1) rfl rfl ?_
  refine p_getf (i := 2) rfl fX9_74 kR rfl ?_
  refine p_i2l (i := 3) rfl (by omega) ?_
  refine p_ldc2 (i := 4) rfl kX9_313 ?_
  refine p_lmul (i := 5) rfl ?_
  refine p_ldc2 (i := 6) rfl kX9_315 ?_
  refine p_ladd (i := 7) rfl ?_
  refine p_ldc2 (i := 8) rfl kX9_317 ?_
  refine p_lrem (i := 9) rfl (by omega) (by omega) ?_
  refine p_l2i (i := 10) rfl ?_
  refine p_puti (i := 11) rfl gX9_74 kR rfl (P_gen fun M e => ?_)
  have fr := fr.up e (by omega)
  have kR := aupE e
  refine p_iload_n (i := 12) rfl rfl ?_
  have hd := drw_rng (sd := sd)
  unfold drw at h hd
  refine p_if_le (i := 13) 39 rfl (by decide) (by omega) (fun c23 => by exfalso; omega) (fun c23 => ?_)
  refine p_aload_n (i := 14) rfl rfl ?_
  refine p_getf (i := 15) rfl fX9_74 kR rfl ?_
  refine p_ldcw (i := 16) rfl kX9_319 ?_
  refine p_idiv (i := 17) rfl (by omega) (by omega) ?_
  refine p_iload_n (i := 18) rfl rfl ?_
  refine p_irem (i := 19) rfl (by omega) (by omega) ?_
  refine p_goto (i := 20) 40 rfl (by decide) ?_
  refine p_iret (i := 22) rfl rfl (rfl) ?_
  exact h M ⟨kR, hla⟩ fr
theorem x_doByDraw {M : AM} {la sa : Nat} {fa sd : Int} {ln : LN} {g : GS} {Q : Option Value → AM → Prop} (hRt : XRt M la sa fa sd) (hP : PairB true M 216 (nS ln) (nW ln) g) (hL : LineA M la ln) (hsd : 0 ≤ sd ∧ sd ≤ 2147483647) (h : ∀ M1 M', FrI 0 1 M M1 → FrI 216 7 M1 M' → XRt M' la sa fa (byDraw ln g sd).2 → PairB true M' 216 (nS ln) (nW ln) (byDraw ln g sd).1 → Q none M') : C mX9_doByDraw [.ref 0] M Q := by
  unfold byDraw at h
  obtain ⟨kR, hla⟩ := id hRt
  refine C_of okX9_doByDraw (by decide) (Nat.le_of_ble_eq_true rfl) ?_
  show P none mX9_doByDraw 0 [.ref 0, .retAddr 0, .retAddr 0] [] _ _
  refine p_aload_n (i := 0) rfl rfl ?_
  refine p_bipush (i := 1) rfl (by decide) ?_
  have d1 := drw_rng (sd := sd)
  have d2 := drw_rng (sd := drw sd)
  have d3 := drw_rng (sd := drw (drw sd))
  refine p_cV1 (i := 2) rfl ⟨lX9_320, rfl, rfl⟩ kR ⟨_, rfl, rfl⟩ rfl (x_drawOf hRt hsd (by omega) (fun M1 hRt1 fr1 => ?_))
  have hP1 := hP.fi fr1 (by omega)
  have hL1 := hL.fi fr1 (by omega)
  obtain ⟨kR, hla⟩ := id hRt1
  obtain ⟨⟨o1, o2, o3, o4, o5, o6, o7⟩, kf, bf, lc, lkf, ⟨hb, hk, hr, hc, ⟨gg, hg, hgi⟩, hrow⟩, hkb, hlk⟩ := id hL1
  obtain ⟨⟨q1, q2, q3, q4, q5, q6, q7, q8, q9, q10, q11⟩, sc, wh, st, hs, lr, lf, lz, ⟨hp, hS, hW, hT, hH, hG, hR⟩, rL, rH, rG⟩ := id hP1
  have hok := hP1.1.ls
  have c42 : P none mX9_doByDraw 42 [.ref 0, zI (drw sd / 65536 % 8), .retAddr 0] []  M1 Q ∨ (drw sd / 65536 % 8 = 0 ∧ 0 < nW ln) := by
    by_cases hcA : drw sd / 65536 % 8 = 0 ∧ 0 < nW ln
    · exact Or.inr hcA
    refine Or.inl ?_
    rw [if_neg hcA] at h
    have c78 : P none mX9_doByDraw 78 [.ref 0, zI (drw sd / 65536 % 8), .retAddr 0] []  M1 Q ∨ (drw sd / 65536 % 8 = 1 ∧ 0 < g.1.length) := by
      by_cases hc2 : drw sd / 65536 % 8 = 1 ∧ 0 < g.1.length
      · exact Or.inr hc2
      refine Or.inl ?_
      rw [if_neg hc2] at h
      have c125 : P none mX9_doByDraw 125 [.ref 0, zI (drw sd / 65536 % 8), .retAddr 0] []  M1 Q ∨ (drw sd / 65536 % 8 = 2 ∧ 0 < nS ln) := by
        by_cases hc3 : drw sd / 65536 % 8 = 2 ∧ 0 < nS ln
        · exact Or.inr hc3
        refine Or.inl ?_
        rw [if_neg hc3] at h
        have fr2 : FrI 216 7 M1 M1 := FrI.rf
        refine p_iload_n (i := 59) rfl rfl ?_
        refine p_iconst (i := 60) rfl ?_
        refine p_icmp_ne (i := 61) 138 rfl (by decide) (by omega) (by omega) (fun c127 => ?_) (fun c127 => ?_)
        · rw [if_neg c127] at h
          refine p_ret (i := 66) rfl rfl ?_
          exact h M1 M1 fr1 FrI.rf hRt1 hP1
        · rw [if_pos (by omega)] at h
          refine p_aload_n (i := 62) rfl rfl ?_
          refine p_getf (i := 63) rfl fX9_32 kR rfl ?_
          refine p_iconst (i := 64) rfl ?_
          refine p_puti (i := 65) rfl gX9_119 hp rfl (P_gen fun M e => ?_)
          have kR := aupN e kR (by omega)
          have hb := aupN e hb (by omega)
          have hk := aupN e hk (by omega)
          have hr := aupN e hr (by omega)
          have hc := aupN e hc (by omega)
          have hg := aupN e hg (by omega)
          have hS := aupN e hS (by omega)
          have hW := aupN e hW (by omega)
          have hT := aupN e hT (by omega)
          have hH := aupN e hH (by omega)
          have hG := aupN e hG (by omega)
          have hR := aupN e hR (by omega)
          have fr2 := fr2.up e (by omega)
          have hp := aupE e
          refine p_ret (i := 66) rfl rfl ?_
          refine h M1 M fr1 fr2 ⟨kR, hla⟩ ⟨⟨q1, q2, by show (-1 : Int) ≤ -1; decide, by show (-1 : Int) < (nW ln : Nat); omega, q5, q6, q7, q8, q9, q10, q11⟩, sc, wh, st, hs, lr, lf, lz, ⟨hp, hS, hW, hT, hH, hG, hR⟩, rL, rH, rG⟩
      refine p_iload_n (i := 35) rfl rfl ?_
      refine p_iconst (i := 36) rfl ?_
      refine p_icmp_ne (i := 37) 125 rfl (by decide) (by omega) (by omega) (fun c80 => ?_) (fun c80 => ?_)
      · exact c125.resolve_right (by omega)
      · refine p_aload_n (i := 38) rfl rfl ?_
        refine p_getf (i := 39) rfl fX9_63 kR rfl ?_
        refine p_getf (i := 40) rfl fX9_107 hb rfl ?_
        refine p_if_le (i := 41) 125 rfl (by decide) (by omega) (fun c90 => ?_) (fun c90 => ?_)
        · exact c125.resolve_right (by omega)
        · rw [if_pos (by omega)] at h
          refine p_aload_n (i := 42) rfl rfl ?_
          refine p_aload_n (i := 43) rfl rfl ?_
          refine p_getf (i := 44) rfl fX9_63 kR rfl ?_
          refine p_getf (i := 45) rfl fX9_107 hb rfl ?_
          refine p_cV1 (i := 46) rfl ⟨lX9_320, rfl, rfl⟩ kR ⟨_, rfl, rfl⟩ rfl (x_drawOf hRt1 (by omega) (by omega) (fun M2 hRt2 fr2 => ?_))
          have hP2 := hP1.fi fr2 (by omega)
          have hL2 := hL1.fi fr2 (by omega)
          obtain ⟨kR, hla⟩ := id hRt2
          have hp := fr2.at hp (by omega)
          refine p_istore_n (i := 47) rfl rfl ?_
          refine p_aload_n (i := 48) rfl rfl ?_
          refine p_getf (i := 49) rfl fX9_32 kR rfl ?_
          refine p_iload_n (i := 50) rfl rfl ?_
          refine p_iconst (i := 51) rfl ?_
          refine p_aload_n (i := 52) rfl rfl ?_
          refine p_bipush (i := 53) rfl (by decide) ?_
          refine p_cV1 (i := 54) rfl ⟨lX9_320, rfl, rfl⟩ kR ⟨_, rfl, rfl⟩ rfl (x_drawOf hRt2 (by omega) (by omega) (fun M3 hRt3 fr3 => ?_))
          have hP3 := hP2.fi fr3 (by omega)
          have hp := fr3.at hp (by omega)
          refine p_iconst (i := 55) rfl ?_
          refine p_iadd (i := 56) rfl ?_
          refine p_cV3 (i := 57) rfl ⟨lX9_224, rfl, rfl⟩ hp ⟨_, rfl, rfl⟩ rfl (x_lay hP3 ⟨Int.emod_nonneg _ (by omega), by show drw (drw sd) / 65536 % (nS ln : Int) < (nS ln : Nat); exact Int.emod_lt_of_pos _ (by omega), by show (-1 : Int) ≤ -1; decide, by show (-1 : Int) < (nW ln : Nat); omega, by show 1 ≤ drw (drw (drw sd)) / 65536 % 30 + 1; omega, by show drw (drw (drw sd)) / 65536 % 30 + 1 ≤ 99; omega⟩ (fun M4 hP4 fr4 => ?_))
          refine p_goto (i := 58) 138 rfl (by decide) ?_
          refine p_ret (i := 66) rfl rfl ?_
          exact h M3 M4 ((fr1.tr fr2).tr fr3) fr4 (hRt3.fi fr4 (by omega)) hP4
    refine p_iload_n (i := 19) rfl rfl ?_
    refine p_iconst (i := 20) rfl ?_
    refine p_icmp_ne (i := 21) 78 rfl (by decide) (by omega) (by omega) (fun c44 => ?_) (fun c44 => ?_)
    · exact c78.resolve_right (by omega)
    · refine p_aload_n (i := 22) rfl rfl ?_
      refine p_getf (i := 23) rfl fX9_32 kR rfl ?_
      refine p_getf (i := 24) rfl fX9_122 hp rfl ?_
      refine p_if_le (i := 25) 78 rfl (by decide) (by omega) (fun c54 => ?_) (fun c54 => ?_)
      · exact c78.resolve_right (by omega)
      · rw [if_pos (by omega)] at h
        refine p_aload_n (i := 26) rfl rfl ?_
        refine p_getf (i := 27) rfl fX9_32 kR rfl ?_
        refine p_aload_n (i := 28) rfl rfl ?_
        refine p_aload_n (i := 29) rfl rfl ?_
        refine p_getf (i := 30) rfl fX9_32 kR rfl ?_
        refine p_getf (i := 31) rfl fX9_122 hp rfl ?_
        refine p_cV1 (i := 32) rfl ⟨lX9_320, rfl, rfl⟩ kR ⟨_, rfl, rfl⟩ rfl (x_drawOf hRt1 (by omega) (by omega) (fun M2 hRt2 fr2 => ?_))
        have hP2 := hP1.fi fr2 (by omega)
        have hp := fr2.at hp (by omega)
        refine p_cV1 (i := 33) rfl ⟨lX9_221, rfl, rfl⟩ hp ⟨_, rfl, rfl⟩ rfl (x_removeB hP2 ⟨Int.emod_nonneg _ (by omega), Int.emod_lt_of_pos _ (by omega)⟩ (fun M3 hP3 fr3 => ?_))
        refine p_goto (i := 34) 138 rfl (by decide) ?_
        refine p_ret (i := 66) rfl rfl ?_
        exact h M2 M3 (fr1.tr fr2) fr3 (hRt2.fi fr3 (by omega)) hP3
  refine p_istore_n (i := 3) rfl rfl ?_
  refine p_iload_n (i := 4) rfl rfl ?_
  refine p_if_ne (i := 5) 42 rfl (by decide) (by omega) (fun c8 => ?_) (fun c8 => ?_)
  · exact c42.resolve_right (by omega)
  · refine p_aload_n (i := 6) rfl rfl ?_
    refine p_getf (i := 7) rfl fX9_63 kR rfl ?_
    refine p_getf (i := 8) rfl fX9_113 hb rfl ?_
    refine p_if_le (i := 9) 42 rfl (by decide) (by omega) (fun c18 => ?_) (fun c18 => ?_)
    · exact c42.resolve_right (by omega)
    · rw [if_pos (by omega)] at h
      refine p_aload_n (i := 10) rfl rfl ?_
      refine p_getf (i := 11) rfl fX9_32 kR rfl ?_
      refine p_aload_n (i := 12) rfl rfl ?_
      refine p_aload_n (i := 13) rfl rfl ?_
      refine p_getf (i := 14) rfl fX9_63 kR rfl ?_
      refine p_getf (i := 15) rfl fX9_113 hb rfl ?_
      refine p_cV1 (i := 16) rfl ⟨lX9_320, rfl, rfl⟩ kR ⟨_, rfl, rfl⟩ rfl (x_drawOf hRt1 (by omega) (by omega) (fun M2 hRt2 fr2 => ?_))
      have hP2 := hP1.fi fr2 (by omega)
      have hp := fr2.at hp (by omega)
      have hS := fr2.at hS (by omega)
      have hW := fr2.at hW (by omega)
      have hT := fr2.at hT (by omega)
      have hH := fr2.at hH (by omega)
      have hG := fr2.at hG (by omega)
      have hR := fr2.at hR (by omega)
      have fr3 : FrI 216 7 M2 M2 := FrI.rf
      have kR := hRt2.1
      refine p_puti (i := 17) rfl gX9_119 hp rfl (P_gen fun M e => ?_)
      have kR := aupN e kR (by omega)
      have hS := aupN e hS (by omega)
      have hW := aupN e hW (by omega)
      have hT := aupN e hT (by omega)
      have hH := aupN e hH (by omega)
      have hG := aupN e hG (by omega)
      have hR := aupN e hR (by omega)
      have fr3 := fr3.up e (by omega)
      have hp := aupE e
      refine p_goto (i := 18) 138 rfl (by decide) ?_
      refine p_ret (i := 66) rfl rfl ?_
      have hm1 := Int.emod_nonneg (drw (drw sd) / 65536) (show (nW ln : Int) ≠ 0 by omega)
      have hm2 := Int.emod_lt_of_pos (drw (drw sd) / 65536) (show (0 : Int) < (nW ln : Int) by omega)
      exact h M2 M (fr1.tr fr2) fr3 ⟨kR, hla⟩ ⟨⟨q1, q2, by show (-1 : Int) ≤ drw (drw sd) / 65536 % (nW ln : Int); omega, hm2, q5, q6, q7, q8, q9, q10, q11⟩, sc, wh, st, hs, lr, lf, lz, ⟨hp, hS, hW, hT, hH, hG, hR⟩, rL, rH, rG⟩
theorem X_year {M : AM} {tx : List Int} {fa : Int} {ln : LN} {g : GS} {un : List GS} {i0 i1 : Option (GS × Int)} {sd : Int} {me bo : List (Int × Int)} {n : Int} {Q : Option Value → AM → Prop} (hX : XW M (tx, fa, ln, g, un, i0, i1, sd, me, bo)) (hn : -2147483648 ≤ n ∧ n ≤ 2147483647) (h : ∀ M', XW M' (a_year (tx, fa, ln, g, un, i0, i1, sd, me, bo) n).2 → FrI 0 276 M M' → Q (some (zI (a_year (tx, fa, ln, g, un, i0, i1, sd, me, bo) n).1)) M') : C mX9_year [.ref 0, zI n] M Q := by
  dsimp only [a_year] at h
  obtain ⟨la, sa, hRt, hRd, hHi, hIr, hI0, hI1, hPa, hTr, hTu, hMe, hBo, hLi, hLs, b1, b2, b3, b4, b5, b6, b7⟩ := id hX
  obtain ⟨kR, hla⟩ := id hRt
  have loop : ∀ (f k : Nat) (M : AM) (g : GS) (un : List GS), (k : Int) + f = n → n ≤ 30 → XW M (tx, fa, ln, g, un, i0, i1, sd, me, bo) → g.2.2.1 + f ≤ 90030 → (∀ M', XW M' (tx, fa, ln, (yearN ln f g un).1, (yearN ln f g un).2, i0, i1, sd, me, bo) → FrI 0 276 M M' → Q (some (zI (yearN ln f g un).1.2.2.1)) M') → P none mX9_year 14 [.ref 0, zI n, zI 0, zI (k : Int)] []  M Q := by
    intro f
    induction f with
    | zero =>
      intro k M g un hk hn30 hX hy h
      obtain ⟨la, sa, hRt, hRd, hHi, hIr, hI0, hI1, hPa, hTr, hTu, hMe, hBo, hLi, hLs, b1, b2, b3, b4, b5, b6, b7⟩ := id hX
      obtain ⟨kR, hla⟩ := id hRt
      obtain ⟨⟨q1, q2, q3, q4, q5, q6, q7, q8, q9, q10, q11⟩, sc, wh, st, hs, lr, lf, lz, ⟨hp, hS, hW, hT, hH, hG, hR⟩, rL, rH, rG⟩ := id hPa
      refine p_iload_n (i := 10) rfl rfl ?_
      refine p_iload_n (i := 11) rfl rfl ?_
      refine p_icmp_ge (i := 12) 47 rfl (by decide) (by omega) (by omega) (fun c16 => ?_) (fun c16 => by exfalso; omega)
      refine p_aload_n (i := 25) rfl rfl ?_
      refine p_getf (i := 26) rfl fX9_32 kR rfl ?_
      refine p_getf (i := 27) rfl fX9_116 hp rfl ?_
      refine p_iret (i := 28) rfl rfl (rfl) ?_
      exact h M hX FrI.rf
    | succ f ih =>
      intro k M g un hk hn30 hX hy h
      obtain ⟨la, sa, hRt, hRd, hHi, hIr, hI0, hI1, hPa, hTr, hTu, hMe, hBo, hLi, hLs, b1, b2, b3, b4, b5, b6, b7⟩ := id hX
      obtain ⟨kR, hla⟩ := id hRt
      obtain ⟨⟨q1, q2, q3, q4, q5, q6, q7, q8, q9, q10, q11⟩, sc, wh, st, hs, lr, lf, lz, ⟨hp, hS, hW, hT, hH, hG, hR⟩, rL, rH, rG⟩ := id hPa
      obtain ⟨v4, vg, vs, w3, w4, v5⟩ := id hHi
      refine p_iload_n (i := 10) rfl rfl ?_
      refine p_iload_n (i := 11) rfl rfl ?_
      refine p_icmp_ge (i := 12) 47 rfl (by decide) (by omega) (by omega) (fun c16 => by exfalso; omega) (fun c16 => ?_)
      refine p_aload_n (i := 13) rfl rfl ?_
      refine p_getf (i := 14) rfl fX9_19 kR rfl ?_
      refine p_aload_n (i := 15) rfl rfl ?_
      refine p_getf (i := 16) rfl fX9_32 kR rfl ?_
      refine p_cV1 (i := 17) rfl ⟨lX9_212, rfl, rfl⟩ w3 ⟨_, rfl, rfl⟩ rfl (x_remember hHi hPa b1 (fun M1 hHi1 fr1 => ?_))
      have kR := fr1.at kR (by omega)
      have hp := fr1.at hp (by omega)
      have hPa1 := hPa.fi fr1 (by omega)
      have hLi1 := hLi.fi fr1 (by omega)
      refine p_aload_n (i := 18) rfl rfl ?_
      refine p_getf (i := 19) rfl fX9_32 kR rfl ?_
      refine p_aload_n (i := 20) rfl rfl ?_
      refine p_getf (i := 21) rfl fX9_63 kR rfl ?_
      refine p_cV1 (i := 22) rfl ⟨lX9_216, rfl, rfl⟩ hp ⟨_, rfl, rfl⟩ rfl (x_passYear hPa1 hLi1 rfl rfl (by omega) (by omega) (fun M2 hPa2 fr2 => ?_))
      refine p_iinc (i := 23) rfl rfl rfl ?_
      refine p_goto (i := 24) 14 rfl (by decide) ?_
      have ey := passY_y ln g
      exact ih (k + 1) M2 (passY ln g) (rem un g) (by omega) hn30 ⟨la, sa, ((hRt.fi fr1 (by omega)).fi fr2 (by omega)), ((hRd.fi fr1 (by omega)).fi fr2 (by omega)), hHi1.fi fr2 (by omega), ((hIr.fi fr1 (by omega)).fi fr2 (by omega)), ((hI0.fi fr1 (by omega)).fi fr2 (by omega)), ((hI1.fi fr1 (by omega)).fi fr2 (by omega)), hPa2, ((hTr.fi fr1 (by omega)).fi fr2 (by omega)), ((hTu.fi fr1 (by omega)).fi fr2 (by omega)), ((hMe.fi fr1 (by omega)).fi fr2 (by omega)), ((hBo.fi fr1 (by omega)).fi fr2 (by omega)), ((hLi.fi fr1 (by omega)).fi fr2 (by omega)), ((hLs.fi fr1 (by omega)).fi fr2 (by omega)), by omega, b2, b3, b4, b5, b6, b7⟩ (by omega) (fun M' hX' fr' => h M' hX' ((((fr1.weak (by omega)).tr (fr2.weak (by omega)))).tr fr'))
  refine C_of okX9_year (by decide) (Nat.le_of_ble_eq_true rfl) ?_
  show P none mX9_year 0 [.ref 0, zI n, .retAddr 0, .retAddr 0] [] _ _
  refine p_aload_n (i := 0) rfl rfl ?_
  refine p_iload_n (i := 1) rfl rfl ?_
  refine p_cV1 (i := 2) rfl ⟨lX9_209, rfl, rfl⟩ kR ⟨_, rfl, rfl⟩ rfl (x_refusal hRt hPa hLi hn ?_)
  refine p_istore_n (i := 3) rfl rfl ?_
  refine p_iload_n (i := 4) rfl rfl ?_
  have hrr := refs_rng (ln := ln) (g := g) (n := n)
  refine p_if_eq (i := 5) 12 rfl (by decide) (by omega) (fun c7 => ?_) (fun c7 => ?_)
  · rw [if_neg (not_not_intro c7)] at h
    have hn30 := refs_0 c7
    refine p_iconst (i := 8) rfl ?_
    refine p_istore_n (i := 9) rfl rfl ?_
    rw [c7]
    exact loop n.toNat 0 M g un (by omega) (by omega) hX (by omega) h
  · refine p_iload_n (i := 6) rfl rfl ?_
    refine p_iret (i := 7) rfl rfl (rfl) ?_
    rw [if_pos c7] at h
    exact h M hX FrI.rf
theorem X_wear {M : AM} {tx : List Int} {fa : Int} {ln : LN} {g : GS} {un : List GS} {i0 i1 : Option (GS × Int)} {sd : Int} {me bo : List (Int × Int)} {w : Int} {Q : Option Value → AM → Prop} (hX : XW M (tx, fa, ln, g, un, i0, i1, sd, me, bo)) (hw : -2147483648 ≤ w ∧ w ≤ 2147483647) (h : ∀ M', XW M' (a_wear (tx, fa, ln, g, un, i0, i1, sd, me, bo) w).2 → FrI 0 276 M M' → Q (some (zI (a_wear (tx, fa, ln, g, un, i0, i1, sd, me, bo) w).1)) M') : C mX9_wear [.ref 0, zI w] M Q := by
  dsimp only [a_wear] at h
  obtain ⟨la, sa, hRt, hRd, hHi, hIr, hI0, hI1, hPa, hTr, hTu, hMe, hBo, hLi, hLs, b1, b2, b3, b4, b5, b6, b7⟩ := id hX
  obtain ⟨kR, hla⟩ := id hRt
  obtain ⟨⟨o1, o2, o3, o4, o5, o6, o7⟩, kf, bf, lc, lkf, ⟨hb, hk, hr, hc, ⟨gg, hg, hgi⟩, hrow⟩, hkb, hlk⟩ := id hLi
  obtain ⟨⟨q1, q2, q3, q4, q5, q6, q7, q8, q9, q10, q11⟩, sc, wh, st, hs, lr, lf, lz, ⟨hp, hS, hW, hT, hH, hG, hR⟩, rL, rH, rG⟩ := id hPa
  obtain ⟨v4, vg, vs, w3, w4, v5⟩ := id hHi
  refine C_of okX9_wear (by decide) (Nat.le_of_ble_eq_true rfl) ?_
  show P none mX9_wear 0 [.ref 0, zI w, .retAddr 0] [] _ _
  refine p_aload_n (i := 0) rfl rfl ?_
  refine p_getf (i := 1) rfl fX9_63 kR rfl ?_
  refine p_iload_n (i := 2) rfl rfl ?_
  refine p_cV1 (i := 3) rfl ⟨lX9_172, rfl, rfl⟩ hb ⟨_, rfl, rfl⟩ rfl (x_hasWearer hLi hw (fun q => ?_) (fun q => ?_))
  · rw [if_neg (not_not_intro q)] at h
    refine p_if_ne (i := 4) 14 rfl (by decide) (by omega) (fun c8 => ?_) (fun c8 => by exfalso; omega)
    refine p_aload_n (i := 7) rfl rfl ?_
    refine p_getf (i := 8) rfl fX9_32 kR rfl ?_
    refine p_getf (i := 9) rfl fX9_119 hp rfl ?_
    refine p_istore_n (i := 10) rfl rfl ?_
    refine p_iload_n (i := 11) rfl rfl ?_
    refine p_iload_n (i := 12) rfl rfl ?_
    refine p_icmp_ne (i := 13) 30 rfl (by decide) (by omega) (by omega) (fun c24 => ?_) (fun c24 => ?_)
    · rw [if_neg c24] at h
      refine p_aload_n (i := 16) rfl rfl ?_
      refine p_getf (i := 17) rfl fX9_19 kR rfl ?_
      refine p_aload_n (i := 18) rfl rfl ?_
      refine p_getf (i := 19) rfl fX9_32 kR rfl ?_
      refine p_cV1 (i := 20) rfl ⟨lX9_212, rfl, rfl⟩ w3 ⟨_, rfl, rfl⟩ rfl (x_remember hHi hPa b1 (fun M1 hHi1 fr1 => ?_))
      have kR := fr1.at kR (by omega)
      have hp := fr1.at hp (by omega)
      have hS := fr1.at hS (by omega)
      have hW := fr1.at hW (by omega)
      have hT := fr1.at hT (by omega)
      have hH := fr1.at hH (by omega)
      have hG := fr1.at hG (by omega)
      have hR := fr1.at hR (by omega)
      have fr2 : FrI 216 7 M1 M1 := FrI.rf
      have kR' := kR
      obtain ⟨kR, hla⟩ := id hRt
      have kR := kR'
      refine p_aload_n (i := 21) rfl rfl ?_
      refine p_getf (i := 22) rfl fX9_32 kR rfl ?_
      refine p_iload_n (i := 23) rfl rfl ?_
      refine p_puti (i := 24) rfl gX9_119 hp rfl (P_gen fun M e => ?_)
      have kR := aupN e kR (by omega)
      have hS := aupN e hS (by omega)
      have hW := aupN e hW (by omega)
      have hT := aupN e hT (by omega)
      have hH := aupN e hH (by omega)
      have hG := aupN e hG (by omega)
      have hR := aupN e hR (by omega)
      have fr2 := fr2.up e (by omega)
      have hp := aupE e
      refine p_iload_n (i := 25) rfl rfl ?_
      refine p_iret (i := 26) rfl rfl (rfl) ?_
      exact h M ⟨la, sa, ((hRt.fi fr1 (by omega)).fi fr2 (by omega)), ((hRd.fi fr1 (by omega)).fi fr2 (by omega)), hHi1.fi fr2 (by omega), ((hIr.fi fr1 (by omega)).fi fr2 (by omega)), ((hI0.fi fr1 (by omega)).fi fr2 (by omega)), ((hI1.fi fr1 (by omega)).fi fr2 (by omega)), ⟨⟨q1, q2, by show (-1 : Int) ≤ w; omega, q.2, q5, q6, q7, q8, q9, q10, q11⟩, sc, wh, st, hs, lr, lf, lz, ⟨hp, hS, hW, hT, hH, hG, hR⟩, rL, rH, rG⟩, ((hTr.fi fr1 (by omega)).fi fr2 (by omega)), ((hTu.fi fr1 (by omega)).fi fr2 (by omega)), ((hMe.fi fr1 (by omega)).fi fr2 (by omega)), ((hBo.fi fr1 (by omega)).fi fr2 (by omega)), ((hLi.fi fr1 (by omega)).fi fr2 (by omega)), ((hLs.fi fr1 (by omega)).fi fr2 (by omega)), b1, b2, b3, b4, b5, b6, b7⟩ ((fr1.weak (by omega)).tr (fr2.weak (by omega)))
    · rw [if_pos c24] at h
      refine p_ldc (i := 14) rfl kX9_220 ?_
      refine p_iret (i := 15) rfl rfl (rfl) ?_
      exact h M hX FrI.rf
  · rw [if_pos q] at h
    refine p_if_ne (i := 4) 14 rfl (by decide) (by omega) (fun c8 => by exfalso; omega) (fun c8 => ?_)
    refine p_ldc (i := 5) rfl kX9_158 ?_
    refine p_iret (i := 6) rfl rfl (rfl) ?_
    exact h M hX FrI.rf
theorem X_takeOff {M : AM} {tx : List Int} {fa : Int} {ln : LN} {g : GS} {un : List GS} {i0 i1 : Option (GS × Int)} {sd : Int} {me bo : List (Int × Int)} {Q : Option Value → AM → Prop} (hX : XW M (tx, fa, ln, g, un, i0, i1, sd, me, bo)) (h : ∀ M', XW M' (a_takeOff (tx, fa, ln, g, un, i0, i1, sd, me, bo)).2 → FrI 0 276 M M' → Q (some (zI (a_takeOff (tx, fa, ln, g, un, i0, i1, sd, me, bo)).1)) M') : C mX9_takeOff [.ref 0] M Q := by
  dsimp only [a_takeOff] at h
  obtain ⟨la, sa, hRt, hRd, hHi, hIr, hI0, hI1, hPa, hTr, hTu, hMe, hBo, hLi, hLs, b1, b2, b3, b4, b5, b6, b7⟩ := id hX
  obtain ⟨kR, hla⟩ := id hRt
  obtain ⟨⟨q1, q2, q3, q4, q5, q6, q7, q8, q9, q10, q11⟩, sc, wh, st, hs, lr, lf, lz, ⟨hp, hS, hW, hT, hH, hG, hR⟩, rL, rH, rG⟩ := id hPa
  obtain ⟨v4, vg, vs, w3, w4, v5⟩ := id hHi
  refine C_of okX9_takeOff (by decide) (Nat.le_of_ble_eq_true rfl) ?_
  show P none mX9_takeOff 0 [.ref 0, .retAddr 0] [] _ _
  refine p_aload_n (i := 0) rfl rfl ?_
  refine p_getf (i := 1) rfl fX9_32 kR rfl ?_
  refine p_getf (i := 2) rfl fX9_119 hp rfl ?_
  refine p_istore_n (i := 3) rfl rfl ?_
  refine p_iload_n (i := 4) rfl rfl ?_
  refine p_iconst (i := 5) rfl ?_
  refine p_icmp_ne (i := 6) 16 rfl (by decide) (by omega) (by omega) (fun c10 => ?_) (fun c10 => ?_)
  · rw [if_neg c10] at h
    refine p_aload_n (i := 9) rfl rfl ?_
    refine p_getf (i := 10) rfl fX9_19 kR rfl ?_
    refine p_aload_n (i := 11) rfl rfl ?_
    refine p_getf (i := 12) rfl fX9_32 kR rfl ?_
    refine p_cV1 (i := 13) rfl ⟨lX9_212, rfl, rfl⟩ w3 ⟨_, rfl, rfl⟩ rfl (x_remember hHi hPa b1 (fun M1 hHi1 fr1 => ?_))
    have kR := fr1.at kR (by omega)
    have hp := fr1.at hp (by omega)
    have hS := fr1.at hS (by omega)
    have hW := fr1.at hW (by omega)
    have hT := fr1.at hT (by omega)
    have hH := fr1.at hH (by omega)
    have hG := fr1.at hG (by omega)
    have hR := fr1.at hR (by omega)
    have fr2 : FrI 216 7 M1 M1 := FrI.rf
    have kR' := kR
    obtain ⟨kR, hla⟩ := id hRt
    have kR := kR'
    refine p_aload_n (i := 14) rfl rfl ?_
    refine p_getf (i := 15) rfl fX9_32 kR rfl ?_
    refine p_iconst (i := 16) rfl ?_
    refine p_puti (i := 17) rfl gX9_119 hp rfl (P_gen fun M e => ?_)
    have kR := aupN e kR (by omega)
    have hS := aupN e hS (by omega)
    have hW := aupN e hW (by omega)
    have hT := aupN e hT (by omega)
    have hH := aupN e hH (by omega)
    have hG := aupN e hG (by omega)
    have hR := aupN e hR (by omega)
    have fr2 := fr2.up e (by omega)
    have hp := aupE e
    refine p_iload_n (i := 18) rfl rfl ?_
    refine p_iret (i := 19) rfl rfl (rfl) ?_
    exact h M ⟨la, sa, ((hRt.fi fr1 (by omega)).fi fr2 (by omega)), ((hRd.fi fr1 (by omega)).fi fr2 (by omega)), hHi1.fi fr2 (by omega), ((hIr.fi fr1 (by omega)).fi fr2 (by omega)), ((hI0.fi fr1 (by omega)).fi fr2 (by omega)), ((hI1.fi fr1 (by omega)).fi fr2 (by omega)), ⟨⟨q1, q2, by show (-1 : Int) ≤ -1; decide, by show (-1 : Int) < (nW ln : Nat); omega, q5, q6, q7, q8, q9, q10, q11⟩, sc, wh, st, hs, lr, lf, lz, ⟨hp, hS, hW, hT, hH, hG, hR⟩, rL, rH, rG⟩, ((hTr.fi fr1 (by omega)).fi fr2 (by omega)), ((hTu.fi fr1 (by omega)).fi fr2 (by omega)), ((hMe.fi fr1 (by omega)).fi fr2 (by omega)), ((hBo.fi fr1 (by omega)).fi fr2 (by omega)), ((hLi.fi fr1 (by omega)).fi fr2 (by omega)), ((hLs.fi fr1 (by omega)).fi fr2 (by omega)), b1, b2, b3, b4, b5, b6, b7⟩ ((fr1.weak (by omega)).tr (fr2.weak (by omega)))
  · rw [if_pos c10] at h
    refine p_ldc (i := 7) rfl kX9_220 ?_
    refine p_iret (i := 8) rfl rfl (rfl) ?_
    exact h M hX FrI.rf
theorem X_wipe {M : AM} {tx : List Int} {fa : Int} {ln : LN} {g : GS} {un : List GS} {i0 i1 : Option (GS × Int)} {sd : Int} {me bo : List (Int × Int)} {k : Int} {Q : Option Value → AM → Prop} (hX : XW M (tx, fa, ln, g, un, i0, i1, sd, me, bo)) (hkk : -2147483648 ≤ k ∧ k ≤ 2147483647) (h : ∀ M', XW M' (a_wipe (tx, fa, ln, g, un, i0, i1, sd, me, bo) k).2 → FrI 0 276 M M' → Q (some (zI (a_wipe (tx, fa, ln, g, un, i0, i1, sd, me, bo) k).1)) M') : C mX9_wipe [.ref 0, zI k] M Q := by
  dsimp only [a_wipe] at h
  obtain ⟨la, sa, hRt, hRd, hHi, hIr, hI0, hI1, hPa, hTr, hTu, hMe, hBo, hLi, hLs, b1, b2, b3, b4, b5, b6, b7⟩ := id hX
  obtain ⟨kR, hla⟩ := id hRt
  obtain ⟨⟨q1, q2, q3, q4, q5, q6, q7, q8, q9, q10, q11⟩, sc, wh, st, hs, lr, lf, lz, ⟨hp, hS, hW, hT, hH, hG, hR⟩, rL, rH, rG⟩ := id hPa
  obtain ⟨v4, vg, vs, w3, w4, v5⟩ := id hHi
  refine C_of okX9_wipe (by decide) (Nat.le_of_ble_eq_true rfl) ?_
  show P none mX9_wipe 0 [.ref 0, zI k] [] _ _
  refine p_aload_n (i := 0) rfl rfl ?_
  refine p_getf (i := 1) rfl fX9_32 kR rfl ?_
  refine p_iload_n (i := 2) rfl rfl ?_
  refine p_cV1 (i := 3) rfl ⟨lX9_193, rfl, rfl⟩ hp ⟨_, rfl, rfl⟩ rfl (x_hasLayer hPa hkk (fun q => ?_) (fun q => ?_))
  · rw [if_neg (not_not_intro q)] at h
    refine p_if_ne (i := 4) 14 rfl (by decide) (by omega) (fun c8 => ?_) (fun c8 => by exfalso; omega)
    refine p_aload_n (i := 7) rfl rfl ?_
    refine p_getf (i := 8) rfl fX9_19 kR rfl ?_
    refine p_aload_n (i := 9) rfl rfl ?_
    refine p_getf (i := 10) rfl fX9_32 kR rfl ?_
    refine p_cV1 (i := 11) rfl ⟨lX9_212, rfl, rfl⟩ w3 ⟨_, rfl, rfl⟩ rfl (x_remember hHi hPa b1 (fun M1 hHi1 fr1 => ?_))
    have hPa1 := hPa.fi fr1 (by omega)
    have kR := fr1.at kR (by omega)
    have hp := fr1.at hp (by omega)
    refine p_aload_n (i := 12) rfl rfl ?_
    refine p_getf (i := 13) rfl fX9_32 kR rfl ?_
    refine p_iload_n (i := 14) rfl rfl ?_
    refine p_cV1 (i := 15) rfl ⟨lX9_221, rfl, rfl⟩ hp ⟨_, rfl, rfl⟩ rfl (x_removeB hPa1 q (fun M2 hPa2 fr2 => ?_))
    obtain ⟨-, sc, wh, st, hs, lr, lf, lz, ⟨hp, hS, hW, hT, hH, hG, hR⟩, -⟩ := id hPa2
    have kR := fr2.at kR (by omega)
    refine p_aload_n (i := 16) rfl rfl ?_
    refine p_getf (i := 17) rfl fX9_32 kR rfl ?_
    refine p_getf (i := 18) rfl fX9_122 hp rfl ?_
    refine p_iret (i := 19) rfl rfl (rfl) ?_
    exact h M2 ⟨la, sa, ((hRt.fi fr1 (by omega)).fi fr2 (by omega)), ((hRd.fi fr1 (by omega)).fi fr2 (by omega)), hHi1.fi fr2 (by omega), ((hIr.fi fr1 (by omega)).fi fr2 (by omega)), ((hI0.fi fr1 (by omega)).fi fr2 (by omega)), ((hI1.fi fr1 (by omega)).fi fr2 (by omega)), hPa2, ((hTr.fi fr1 (by omega)).fi fr2 (by omega)), ((hTu.fi fr1 (by omega)).fi fr2 (by omega)), ((hMe.fi fr1 (by omega)).fi fr2 (by omega)), ((hBo.fi fr1 (by omega)).fi fr2 (by omega)), ((hLi.fi fr1 (by omega)).fi fr2 (by omega)), ((hLs.fi fr1 (by omega)).fi fr2 (by omega)), b1, b2, b3, b4, b5, b6, b7⟩ ((fr1.weak (by omega)).tr (fr2.weak (by omega)))
  · rw [if_pos q] at h
    refine p_if_ne (i := 4) 14 rfl (by decide) (by omega) (fun c8 => by exfalso; omega) (fun c8 => ?_)
    refine p_ldc (i := 5) rfl kX9_158 ?_
    refine p_iret (i := 6) rfl rfl (rfl) ?_
    exact h M hX FrI.rf
theorem X_chip {M : AM} {tx : List Int} {fa : Int} {ln : LN} {g : GS} {un : List GS} {i0 i1 : Option (GS × Int)} {sd : Int} {me bo : List (Int × Int)} {x n : Int} {Q : Option Value → AM → Prop} (hX : XW M (tx, fa, ln, g, un, i0, i1, sd, me, bo)) (hx : -2147483648 ≤ x ∧ x ≤ 2147483647) (hn : -2147483648 ≤ n ∧ n ≤ 2147483647) (h : ∀ M', XW M' (a_chip (tx, fa, ln, g, un, i0, i1, sd, me, bo) x n).2 → FrI 0 276 M M' → Q (some (zI (a_chip (tx, fa, ln, g, un, i0, i1, sd, me, bo) x n).1)) M') : C mX9_chip [.ref 0, zI x, zI n] M Q := by
  dsimp only [a_chip] at h
  obtain ⟨la, sa, hRt, hRd, hHi, hIr, hI0, hI1, hPa, hTr, hTu, hMe, hBo, hLi, hLs, b1, b2, b3, b4, b5, b6, b7⟩ := id hX
  obtain ⟨kR, hla⟩ := id hRt
  obtain ⟨⟨o1, o2, o3, o4, o5, o6, o7⟩, kf, bf, lc, lkf, ⟨hb, hk, hr, hc, ⟨gg, hg, hgi⟩, hrow⟩, hkb, hlk⟩ := id hLi
  obtain ⟨⟨q1, q2, q3, q4, q5, q6, q7, q8, q9, q10, q11⟩, sc, wh, st, hs, lr, lf, lz, ⟨hp, hS, hW, hT, hH, hG, hR⟩, rL, rH, rG⟩ := id hPa
  obtain ⟨v4, vg, vs, w3, w4, v5⟩ := id hHi
  refine C_of okX9_chip (by decide) (Nat.le_of_ble_eq_true rfl) ?_
  show P none mX9_chip 0 [.ref 0, zI x, zI n] [] _ _
  refine p_aload_n (i := 0) rfl rfl ?_
  refine p_getf (i := 1) rfl fX9_63 kR rfl ?_
  refine p_iload_n (i := 2) rfl rfl ?_
  refine p_cV1 (i := 3) rfl ⟨lX9_154, rfl, rfl⟩ hb ⟨_, rfl, rfl⟩ rfl (x_hasScene hLi hx (fun q => ?_) (fun q => ?_))
  · rw [if_neg (not_not_intro q)] at h
    refine p_if_ne (i := 4) 14 rfl (by decide) (by omega) (fun c8 => ?_) (fun c8 => by exfalso; omega)
    refine p_iload_n (i := 7) rfl rfl ?_
    refine p_iconst (i := 8) rfl ?_
    refine p_icmp_lt (i := 9) 25 rfl (by decide) (by omega) (by omega) (fun c16 => ?_) (fun c16 => ?_)
    · rw [if_pos (by omega)] at h
      refine p_ldc (i := 13) rfl kX9_78 ?_
      refine p_iret (i := 14) rfl rfl (rfl) ?_
      exact h M hX FrI.rf
    · refine p_iload_n (i := 10) rfl rfl ?_
      refine p_bipush (i := 11) rfl (by decide) ?_
      refine p_icmp_le (i := 12) 28 rfl (by decide) (by omega) (by omega) (fun c22 => ?_) (fun c22 => ?_)
      · rw [if_neg (by omega)] at h
        refine p_aload_n (i := 15) rfl rfl ?_
        refine p_getf (i := 16) rfl fX9_19 kR rfl ?_
        refine p_aload_n (i := 17) rfl rfl ?_
        refine p_getf (i := 18) rfl fX9_32 kR rfl ?_
        refine p_cV1 (i := 19) rfl ⟨lX9_212, rfl, rfl⟩ w3 ⟨_, rfl, rfl⟩ rfl (x_remember hHi hPa b1 (fun M1 hHi1 fr1 => ?_))
        have hPa1 := hPa.fi fr1 (by omega)
        have kR := fr1.at kR (by omega)
        have hp := fr1.at hp (by omega)
        refine p_aload_n (i := 20) rfl rfl ?_
        refine p_getf (i := 21) rfl fX9_32 kR rfl ?_
        refine p_iload_n (i := 22) rfl rfl ?_
        refine p_iconst (i := 23) rfl ?_
        refine p_iload_n (i := 24) rfl rfl ?_
        refine p_cV3 (i := 25) rfl ⟨lX9_224, rfl, rfl⟩ hp ⟨_, rfl, rfl⟩ rfl (x_lay hPa1 ⟨q.1, q.2, by show (-1 : Int) ≤ -1; decide, by show (-1 : Int) < (nW ln : Nat); omega, by show 1 ≤ n; omega, by show n ≤ 99; omega⟩ (fun M2 hPa2 fr2 => ?_))
        obtain ⟨-, sc, wh, st, hs, lr, lf, lz, ⟨hp, hS, hW, hT, hH, hG, hR⟩, -⟩ := id hPa2
        have kR := fr2.at kR (by omega)
        refine p_aload_n (i := 26) rfl rfl ?_
        refine p_getf (i := 27) rfl fX9_32 kR rfl ?_
        refine p_getf (i := 28) rfl fX9_122 hp rfl ?_
        refine p_iret (i := 29) rfl rfl (rfl) ?_
        exact h M2 ⟨la, sa, ((hRt.fi fr1 (by omega)).fi fr2 (by omega)), ((hRd.fi fr1 (by omega)).fi fr2 (by omega)), hHi1.fi fr2 (by omega), ((hIr.fi fr1 (by omega)).fi fr2 (by omega)), ((hI0.fi fr1 (by omega)).fi fr2 (by omega)), ((hI1.fi fr1 (by omega)).fi fr2 (by omega)), hPa2, ((hTr.fi fr1 (by omega)).fi fr2 (by omega)), ((hTu.fi fr1 (by omega)).fi fr2 (by omega)), ((hMe.fi fr1 (by omega)).fi fr2 (by omega)), ((hBo.fi fr1 (by omega)).fi fr2 (by omega)), ((hLi.fi fr1 (by omega)).fi fr2 (by omega)), ((hLs.fi fr1 (by omega)).fi fr2 (by omega)), b1, b2, b3, b4, b5, b6, b7⟩ ((fr1.weak (by omega)).tr (fr2.weak (by omega)))
      · rw [if_pos (by omega)] at h
        refine p_ldc (i := 13) rfl kX9_78 ?_
        refine p_iret (i := 14) rfl rfl (rfl) ?_
        exact h M hX FrI.rf
  · rw [if_pos q] at h
    refine p_if_ne (i := 4) 14 rfl (by decide) (by omega) (fun c8 => by exfalso; omega) (fun c8 => ?_)
    refine p_ldc (i := 5) rfl kX9_158 ?_
    refine p_iret (i := 6) rfl rfl (rfl) ?_
    exact h M hX FrI.rf
theorem X_undo {M : AM} {tx : List Int} {fa : Int} {ln : LN} {g : GS} {un : List GS} {i0 i1 : Option (GS × Int)} {sd : Int} {me bo : List (Int × Int)} {n : Int} {Q : Option Value → AM → Prop} (hX : XW M (tx, fa, ln, g, un, i0, i1, sd, me, bo)) (hn : -2147483648 ≤ n ∧ n ≤ 2147483647) (h : ∀ M', XW M' (a_undo (tx, fa, ln, g, un, i0, i1, sd, me, bo) n).2 → FrI 0 276 M M' → Q (some (zI (a_undo (tx, fa, ln, g, un, i0, i1, sd, me, bo) n).1)) M') : C mX9_undo [.ref 0, zI n] M Q := by
  dsimp only [a_undo] at h
  obtain ⟨la, sa, hRt, hRd, hHi, hIr, hI0, hI1, hPa, hTr, hTu, hMe, hBo, hLi, hLs, b1, b2, b3, b4, b5, b6, b7⟩ := id hX
  obtain ⟨kR, hla⟩ := id hRt
  obtain ⟨-, sc, wh, st, hs, lr, lf, lz, ⟨hp, hS, hW, hT, hH, hG, hR⟩, -⟩ := id hPa
  obtain ⟨v4, vg, vs, w3, w4, v5⟩ := id hHi
  refine C_of okX9_undo (by decide) (Nat.le_of_ble_eq_true rfl) ?_
  show P none mX9_undo 0 [.ref 0, zI n] [] _ _
  refine p_iload_n (i := 0) rfl rfl ?_
  refine p_iconst (i := 1) rfl ?_
  refine p_icmp_lt (i := 2) 11 rfl (by decide) (by omega) (by omega) (fun c2 => ?_) (fun c2 => ?_)
  · rw [if_pos (by omega)] at h
    refine p_ldc (i := 6) rfl kX9_78 ?_
    refine p_iret (i := 7) rfl rfl (rfl) ?_
    exact h M hX FrI.rf
  · refine p_iload_n (i := 3) rfl rfl ?_
    refine p_bipush (i := 4) rfl (by decide) ?_
    refine p_icmp_le (i := 5) 14 rfl (by decide) (by omega) (by omega) (fun c8 => ?_) (fun c8 => ?_)
    · rw [if_neg (by omega)] at h
      refine p_iload_n (i := 8) rfl rfl ?_
      refine p_aload_n (i := 9) rfl rfl ?_
      refine p_getf (i := 10) rfl fX9_19 kR rfl ?_
      refine p_getf (i := 11) rfl fX9_153 w3 rfl ?_
      refine p_icmp_le (i := 12) 28 rfl (by decide) (by omega) (by omega) (fun c22 => ?_) (fun c22 => ?_)
      · rw [if_neg (by omega)] at h
        refine p_aload_n (i := 15) rfl rfl ?_
        refine p_getf (i := 16) rfl fX9_19 kR rfl ?_
        refine p_aload_n (i := 17) rfl rfl ?_
        refine p_getf (i := 18) rfl fX9_32 kR rfl ?_
        refine p_iload_n (i := 19) rfl rfl ?_
        refine p_cV2 (i := 20) rfl ⟨lX9_231, rfl, rfl⟩ w3 ⟨_, rfl, rfl⟩ rfl (x_restore hHi hPa.r (by omega) (fun M1 M2 fr1 fr2 hHi2 hPa2 hy2 => ?_))
        obtain ⟨-, sc, wh, st, hs, lr, lf, lz, ⟨hp, hS, hW, hT, hH, hG, hR⟩, -⟩ := id hPa2
        have kR := fr1.at kR (by omega)
        have kR := fr2.at kR (by omega)
        refine p_aload_n (i := 21) rfl rfl ?_
        refine p_getf (i := 22) rfl fX9_32 kR rfl ?_
        refine p_getf (i := 23) rfl fX9_116 hp rfl ?_
        refine p_iret (i := 24) rfl rfl (rfl) ?_
        exact h M2 ⟨la, sa, ((hRt.fi fr1 (by omega)).fi fr2 (by omega)), ((hRd.fi fr1 (by omega)).fi fr2 (by omega)), hHi2, ((hIr.fi fr1 (by omega)).fi fr2 (by omega)), ((hI0.fi fr1 (by omega)).fi fr2 (by omega)), ((hI1.fi fr1 (by omega)).fi fr2 (by omega)), hPa2, ((hTr.fi fr1 (by omega)).fi fr2 (by omega)), ((hTu.fi fr1 (by omega)).fi fr2 (by omega)), ((hMe.fi fr1 (by omega)).fi fr2 (by omega)), ((hBo.fi fr1 (by omega)).fi fr2 (by omega)), ((hLi.fi fr1 (by omega)).fi fr2 (by omega)), ((hLs.fi fr1 (by omega)).fi fr2 (by omega)), hy2, b2, b3, b4, b5, b6, b7⟩ ((fr1.weak (by omega)).tr (fr2.weak (by omega)))
      · rw [if_pos (by omega)] at h
        refine p_ldc (i := 13) rfl kX9_220 ?_
        refine p_iret (i := 14) rfl rfl (rfl) ?_
        exact h M hX FrI.rf
    · rw [if_pos (by omega)] at h
      refine p_ldc (i := 6) rfl kX9_78 ?_
      refine p_iret (i := 7) rfl rfl (rfl) ?_
      exact h M hX FrI.rf
end
section
-- calls of the class that do, and try
theorem byDraw_y {ln : LN} {g : GS} {sd : Int} : (byDraw ln g sd).1.2.2.1 = g.2.2.1 ∧ 0 ≤ (byDraw ln g sd).2 ∧ (byDraw ln g sd).2 ≤ 2147483647 := by
  have d1 := drw_rng (sd := sd)
  have d2 := drw_rng (sd := drw sd)
  have d3 := drw_rng (sd := drw (drw sd))
  unfold byDraw
  split
  · exact ⟨rfl, d2⟩
  · split
    · exact ⟨rfl, d2⟩
    · split
      · exact ⟨rfl, d3⟩
      · split
        · exact ⟨rfl, d1⟩
        · exact ⟨rfl, d1⟩
theorem x_tryYears {M : AM} {la sa : Nat} {fa sd : Int} {ln : LN} {g : GS} {n : Nat} {Q : Option Value → AM → Prop} (hRt : XRt M la sa fa sd) (hP : PairB true M 216 (nS ln) (nW ln) g) (hT : PairR M 223) (hL : LineA M la ln) (hn : n ≤ 60) (hy : g.2.2.1 ≤ 90030) (h : ∀ M', PairB false M' 223 (nS ln) (nW ln) (tryN ln n g) → FrI 223 7 M M' → Q none M') : C mX9_tryYears [.ref 0, zI (n : Int)] M Q := by
  have loop : ∀ (f k : Nat) (M1 : AM) (g1 : GS), k + f = n → PairB false M1 223 (nS ln) (nW ln) g1 → g1.2.2.1 + f ≤ 95000 → FrI 223 7 M M1 → (∀ M', PairB false M' 223 (nS ln) (nW ln) (tryN ln f g1) → FrI 223 7 M M' → Q none M') → P none mX9_tryYears 13 [.ref 0, zI (n : Int), zI (k : Int)] []  M1 Q := by
    intro f
    induction f with
    | zero =>
      intro k M1 g1 hk hP1 hy1 fr h
      refine p_iload_n (i := 7) rfl rfl ?_
      refine p_iload_n (i := 8) rfl rfl ?_
      refine p_icmp_ge (i := 9) 35 rfl (by decide) (by omega) (by omega) (fun c15 => ?_) (fun c15 => by exfalso; omega)
      refine p_ret (i := 17) rfl rfl ?_
      exact h M1 hP1 fr
    | succ f ih =>
      intro k M1 g1 hk hP1 hy1 fr h
      have hRt1 := hRt.fi fr (by omega)
      have hla := hRt.2
      have hL1 := hL.fi fr (by omega)
      obtain ⟨kR, hla⟩ := id hRt1
      obtain ⟨⟨q1, q2, q3, q4, q5, q6, q7, q8, q9, q10, q11⟩, sc, wh, st, hs, lr, lf, lz, ⟨hp, hS, hW, hT, hH, hG, hR⟩, rL, rH, rG⟩ := id hP1
      refine p_iload_n (i := 7) rfl rfl ?_
      refine p_iload_n (i := 8) rfl rfl ?_
      refine p_icmp_ge (i := 9) 35 rfl (by decide) (by omega) (by omega) (fun c15 => by exfalso; omega) (fun c15 => ?_)
      refine p_aload_n (i := 10) rfl rfl ?_
      refine p_getf (i := 11) rfl fX9_36 kR rfl ?_
      refine p_aload_n (i := 12) rfl rfl ?_
      refine p_getf (i := 13) rfl fX9_63 kR rfl ?_
      refine p_cV1 (i := 14) rfl ⟨lX9_216, rfl, rfl⟩ hp ⟨_, rfl, rfl⟩ rfl (x_passYear hP1 hL1 rfl rfl (by omega) (by omega) (fun M2 hP2 fr2 => ?_))
      refine p_iinc (i := 15) rfl rfl rfl ?_
      refine p_goto (i := 16) 13 rfl (by decide) ?_
      have ey := passY_y ln g1
      exact ih (k + 1) M2 (passY ln g1) (by omega) hP2 (by omega) (fr.tr fr2) h
  obtain ⟨kR, hla⟩ := id hRt
  obtain ⟨sc0, wh0, st0, hs0, lr0, lf0, lz0, n0, w0, y0, ⟨kp, kS, kW, kT, kH, kG, kR'⟩, r1, r2, r3, r4⟩ := id hT
  refine C_of okX9_tryYears (by decide) (Nat.le_of_ble_eq_true rfl) ?_
  show P none mX9_tryYears 0 [.ref 0, zI (n : Int), .retAddr 0] [] _ _
  refine p_aload_n (i := 0) rfl rfl ?_
  refine p_getf (i := 1) rfl fX9_36 kR rfl ?_
  refine p_aload_n (i := 2) rfl rfl ?_
  refine p_getf (i := 3) rfl fX9_32 kR rfl ?_
  refine p_cV1 (i := 4) rfl ⟨lX9_238, rfl, rfl⟩ kp ⟨_, rfl, rfl⟩ rfl (x_copyGlass hT hP (by omega) (fun M1 hP1 fr1 => ?_))
  refine p_iconst (i := 5) rfl ?_
  refine p_istore_n (i := 6) rfl rfl ?_
  exact loop n 0 M1 g (by omega) hP1 (by omega) (fr1.weak (by omega)) h
theorem X_drift {M : AM} {tx : List Int} {fa : Int} {ln : LN} {g : GS} {un : List GS} {i0 i1 : Option (GS × Int)} {sd : Int} {me bo : List (Int × Int)} {n : Int} {Q : Option Value → AM → Prop} (hX : XW M (tx, fa, ln, g, un, i0, i1, sd, me, bo)) (hn : -2147483648 ≤ n ∧ n ≤ 2147483647) (h : ∀ M', XW M' (a_drift (tx, fa, ln, g, un, i0, i1, sd, me, bo) n).2 → FrI 0 276 M M' → Q (some (zI (a_drift (tx, fa, ln, g, un, i0, i1, sd, me, bo) n).1)) M') : C mX9_drift [.ref 0, zI n] M Q := by
  dsimp only [a_drift] at h
  obtain ⟨la, sa, hRt, hRd, hHi, hIr, hI0, hI1, hPa, hTr, hTu, hMe, hBo, hLi, hLs, b1, b2, b3, b4, b5, b6, b7⟩ := id hX
  obtain ⟨kR, hla⟩ := id hRt
  have loop : ∀ (f k : Nat) (M : AM) (g : GS) (un : List GS) (sd : Int), (k : Int) + f = n → n ≤ 30 → XW M (tx, fa, ln, g, un, i0, i1, sd, me, bo) → g.2.2.1 + f ≤ 90030 → (∀ M', XW M' (tx, fa, ln, (driftN ln f g un sd).1, (driftN ln f g un sd).2.1, i0, i1, (driftN ln f g un sd).2.2, me, bo) → FrI 0 276 M M' → Q (some (zI (driftN ln f g un sd).1.2.2.1)) M') → P none mX9_drift 14 [.ref 0, zI n, zI 0, zI (k : Int)] []  M Q := by
    intro f
    induction f with
    | zero =>
      intro k M g un sd hk hn30 hX hy h
      obtain ⟨la, sa, hRt, hRd, hHi, hIr, hI0, hI1, hPa, hTr, hTu, hMe, hBo, hLi, hLs, b1, b2, b3, b4, b5, b6, b7⟩ := id hX
      obtain ⟨kR, hla⟩ := id hRt
      obtain ⟨⟨q1, q2, q3, q4, q5, q6, q7, q8, q9, q10, q11⟩, sc, wh, st, hs, lr, lf, lz, ⟨hp, hS, hW, hT, hH, hG, hR⟩, rL, rH, rG⟩ := id hPa
      refine p_iload_n (i := 10) rfl rfl ?_
      refine p_iload_n (i := 11) rfl rfl ?_
      refine p_icmp_ge (i := 12) 51 rfl (by decide) (by omega) (by omega) (fun c16 => ?_) (fun c16 => by exfalso; omega)
      refine p_aload_n (i := 27) rfl rfl ?_
      refine p_getf (i := 28) rfl fX9_32 kR rfl ?_
      refine p_getf (i := 29) rfl fX9_116 hp rfl ?_
      refine p_iret (i := 30) rfl rfl (rfl) ?_
      exact h M hX FrI.rf
    | succ f ih =>
      intro k M g un sd hk hn30 hX hy h
      obtain ⟨la, sa, hRt, hRd, hHi, hIr, hI0, hI1, hPa, hTr, hTu, hMe, hBo, hLi, hLs, b1, b2, b3, b4, b5, b6, b7⟩ := id hX
      obtain ⟨kR, hla⟩ := id hRt
      obtain ⟨⟨q1, q2, q3, q4, q5, q6, q7, q8, q9, q10, q11⟩, sc, wh, st, hs, lr, lf, lz, ⟨hp, hS, hW, hT, hH, hG, hR⟩, rL, rH, rG⟩ := id hPa
      obtain ⟨v4, vg, vs, w3, w4, v5⟩ := id hHi
      refine p_iload_n (i := 10) rfl rfl ?_
      refine p_iload_n (i := 11) rfl rfl ?_
      refine p_icmp_ge (i := 12) 51 rfl (by decide) (by omega) (by omega) (fun c16 => by exfalso; omega) (fun c16 => ?_)
      refine p_aload_n (i := 13) rfl rfl ?_
      refine p_getf (i := 14) rfl fX9_19 kR rfl ?_
      refine p_aload_n (i := 15) rfl rfl ?_
      refine p_getf (i := 16) rfl fX9_32 kR rfl ?_
      refine p_cV1 (i := 17) rfl ⟨lX9_212, rfl, rfl⟩ w3 ⟨_, rfl, rfl⟩ rfl (x_remember hHi hPa b1 (fun M1 hHi1 fr1 => ?_))
      have kR := fr1.at kR (by omega)
      have hp := fr1.at hp (by omega)
      have hRt1 := hRt.fi fr1 (by omega)
      have hPa1 := hPa.fi fr1 (by omega)
      have hLi1 := hLi.fi fr1 (by omega)
      obtain ⟨y1, y2, y3⟩ := byDraw_y (ln := ln) (g := g) (sd := sd)
      refine p_aload_n (i := 18) rfl rfl ?_
      refine p_cV0 (i := 19) rfl ⟨lX9_228, rfl, rfl⟩ kR ⟨_, rfl, rfl⟩ rfl (x_doByDraw hRt1 hPa1 hLi1 ⟨b2, b3⟩ (fun M2 M3 fr2 fr3 hRt3 hPa3 => ?_))
      have hLi3 := (hLi1.fi fr2 (by omega)).fi fr3 (by omega)
      have kR := hRt3.1
      obtain ⟨-, sc, wh, st, hs, lr, lf, lz, ⟨hp, hS, hW, hT, hH, hG, hR⟩, -⟩ := id hPa3
      refine p_aload_n (i := 20) rfl rfl ?_
      refine p_getf (i := 21) rfl fX9_32 kR rfl ?_
      refine p_aload_n (i := 22) rfl rfl ?_
      refine p_getf (i := 23) rfl fX9_63 kR rfl ?_
      refine p_cV1 (i := 24) rfl ⟨lX9_216, rfl, rfl⟩ hp ⟨_, rfl, rfl⟩ rfl (x_passYear hPa3 hLi3 rfl rfl (by omega) (by omega) (fun M4 hPa4 fr4 => ?_))
      refine p_iinc (i := 25) rfl rfl rfl ?_
      refine p_goto (i := 26) 14 rfl (by decide) ?_
      have ey := passY_y ln (byDraw ln g sd).1
      have fr : FrI 0 276 M M4 := (((fr1.weak (by omega)).tr (fr2.weak (by omega))).tr (fr3.weak (by omega))).tr (fr4.weak (by omega))
      exact ih (k + 1) M4 (passY ln (byDraw ln g sd).1) (rem un g) (byDraw ln g sd).2 (by omega) hn30 ⟨la, sa, hRt3.fi fr4 (by omega), ((((hRd.fi fr1 (by omega)).fi fr2 (by omega)).fi fr3 (by omega)).fi fr4 (by omega)), ((hHi1.fi fr2 (by omega)).fi fr3 (by omega)).fi fr4 (by omega), ((((hIr.fi fr1 (by omega)).fi fr2 (by omega)).fi fr3 (by omega)).fi fr4 (by omega)), ((((hI0.fi fr1 (by omega)).fi fr2 (by omega)).fi fr3 (by omega)).fi fr4 (by omega)), ((((hI1.fi fr1 (by omega)).fi fr2 (by omega)).fi fr3 (by omega)).fi fr4 (by omega)), hPa4, ((((hTr.fi fr1 (by omega)).fi fr2 (by omega)).fi fr3 (by omega)).fi fr4 (by omega)), ((((hTu.fi fr1 (by omega)).fi fr2 (by omega)).fi fr3 (by omega)).fi fr4 (by omega)), ((((hMe.fi fr1 (by omega)).fi fr2 (by omega)).fi fr3 (by omega)).fi fr4 (by omega)), ((((hBo.fi fr1 (by omega)).fi fr2 (by omega)).fi fr3 (by omega)).fi fr4 (by omega)), ((((hLi.fi fr1 (by omega)).fi fr2 (by omega)).fi fr3 (by omega)).fi fr4 (by omega)), ((((hLs.fi fr1 (by omega)).fi fr2 (by omega)).fi fr3 (by omega)).fi fr4 (by omega)), by omega, y2, y3, b4, b5, b6, b7⟩ (by omega) (fun M' hX' fr' => h M' hX' (fr.tr fr'))
  refine C_of okX9_drift (by decide) (Nat.le_of_ble_eq_true rfl) ?_
  show P none mX9_drift 0 [.ref 0, zI n, .retAddr 0, .retAddr 0] [] _ _
  refine p_aload_n (i := 0) rfl rfl ?_
  refine p_iload_n (i := 1) rfl rfl ?_
  refine p_cV1 (i := 2) rfl ⟨lX9_209, rfl, rfl⟩ kR ⟨_, rfl, rfl⟩ rfl (x_refusal hRt hPa hLi hn ?_)
  refine p_istore_n (i := 3) rfl rfl ?_
  refine p_iload_n (i := 4) rfl rfl ?_
  have hrr := refs_rng (ln := ln) (g := g) (n := n)
  refine p_if_eq (i := 5) 12 rfl (by decide) (by omega) (fun c7 => ?_) (fun c7 => ?_)
  · rw [if_neg (not_not_intro c7)] at h
    have hn30 := refs_0 c7
    refine p_iconst (i := 8) rfl ?_
    refine p_istore_n (i := 9) rfl rfl ?_
    rw [c7]
    exact loop n.toNat 0 M g un sd (by omega) (by omega) hX (by omega) h
  · refine p_iload_n (i := 6) rfl rfl ?_
    refine p_iret (i := 7) rfl rfl (rfl) ?_
    rw [if_pos c7] at h
    exact h M hX FrI.rf
theorem X_dark {M : AM} {tx : List Int} {fa : Int} {ln : LN} {g : GS} {un : List GS} {i0 i1 : Option (GS × Int)} {sd : Int} {me bo : List (Int × Int)} {n : Int} {Q : Option Value → AM → Prop} (hX : XW M (tx, fa, ln, g, un, i0, i1, sd, me, bo)) (hn : -2147483648 ≤ n ∧ n ≤ 2147483647) (h : ∀ M', XW M' (tx, fa, ln, g, un, i0, i1, sd, me, bo) → FrI 0 276 M M' → Q (some (zI (a_dark (tx, fa, ln, g, un, i0, i1, sd, me, bo) n))) M') : C mX9_dark [.ref 0, zI n] M Q := by
  dsimp only [a_dark] at h
  obtain ⟨la, sa, hRt, hRd, hHi, hIr, hI0, hI1, hPa, hTr, hTu, hMe, hBo, hLi, hLs, b1, b2, b3, b4, b5, b6, b7⟩ := id hX
  obtain ⟨kR, hla⟩ := id hRt
  refine C_of okX9_dark (by decide) (Nat.le_of_ble_eq_true rfl) ?_
  show P none mX9_dark 0 [.ref 0, zI n] [] _ _
  refine p_iload_n (i := 0) rfl rfl ?_
  refine p_if_lt (i := 1) 10 rfl (by decide) (by omega) (fun c1 => ?_) (fun c1 => ?_)
  · rw [if_pos (by omega)] at h
    refine p_ldc (i := 5) rfl kX9_78 ?_
    refine p_iret (i := 6) rfl rfl (rfl) ?_
    exact h M hX FrI.rf
  · refine p_iload_n (i := 2) rfl rfl ?_
    refine p_bipush (i := 3) rfl (by decide) ?_
    refine p_icmp_le (i := 4) 13 rfl (by decide) (by omega) (by omega) (fun c7 => ?_) (fun c7 => ?_)
    · rw [if_neg (by omega)] at h
      refine p_aload_n (i := 7) rfl rfl ?_
      refine p_iload_n (i := 8) rfl rfl ?_
      refine p_top (b := ((n.toNat : Nat) : Int)) (by omega) ?_
      refine p_cV1 (i := 9) rfl ⟨lX9_235, rfl, rfl⟩ kR ⟨_, rfl, rfl⟩ rfl (x_tryYears hRt hPa hTr hLi (by omega) b1 (fun M1 hP1 fr1 => ?_))
      obtain ⟨⟨q1, q2, q3, q4, q5, q6, q7, q8, q9, q10, q11⟩, sc, wh, st, hs, lr, lf, lz, ⟨hp, hS, hW, hT, hH, hG, hR⟩, rL, rH, rG⟩ := id hP1
      have kR := fr1.at kR (by omega)
      refine p_aload_n (i := 10) rfl rfl ?_
      refine p_getf (i := 11) rfl fX9_36 kR rfl ?_
      refine p_cV0 (i := 12) rfl ⟨lX9_125, rfl, rfl⟩ hp ⟨_, rfl, rfl⟩ rfl (x_darkness hP1 ?_)
      refine p_iret (i := 13) rfl rfl (rfl) ?_
      exact h M1 ⟨la, sa, (hRt.fi fr1 (by omega)), (hRd.fi fr1 (by omega)), (hHi.fi fr1 (by omega)), (hIr.fi fr1 (by omega)), (hI0.fi fr1 (by omega)), (hI1.fi fr1 (by omega)), (hPa.fi fr1 (by omega)), hP1.r, (hTu.fi fr1 (by omega)), (hMe.fi fr1 (by omega)), (hBo.fi fr1 (by omega)), (hLi.fi fr1 (by omega)), (hLs.fi fr1 (by omega)), b1, b2, b3, b4, b5, b6, b7⟩ (fr1.weak (by omega))
    · rw [if_pos (by omega)] at h
      refine p_ldc (i := 5) rfl kX9_78 ?_
      refine p_iret (i := 6) rfl rfl (rfl) ?_
      exact h M hX FrI.rf
theorem X_willShow {M : AM} {tx : List Int} {fa : Int} {ln : LN} {g : GS} {un : List GS} {i0 i1 : Option (GS × Int)} {sd : Int} {me bo : List (Int × Int)} {x n : Int} {Q : Option Value → AM → Prop} (hX : XW M (tx, fa, ln, g, un, i0, i1, sd, me, bo)) (hx : -2147483648 ≤ x ∧ x ≤ 2147483647) (hn : -2147483648 ≤ n ∧ n ≤ 2147483647) (h : ∀ M', XW M' (tx, fa, ln, g, un, i0, i1, sd, me, bo) → FrI 0 276 M M' → Q (some (zI (a_willShow (tx, fa, ln, g, un, i0, i1, sd, me, bo) x n))) M') : C mX9_willShow [.ref 0, zI x, zI n] M Q := by
  dsimp only [a_willShow] at h
  obtain ⟨la, sa, hRt, hRd, hHi, hIr, hI0, hI1, hPa, hTr, hTu, hMe, hBo, hLi, hLs, b1, b2, b3, b4, b5, b6, b7⟩ := id hX
  obtain ⟨kR, hla⟩ := id hRt
  obtain ⟨⟨o1, o2, o3, o4, o5, o6, o7⟩, kf, bf, lc, lkf, ⟨hb, hk, hr, hc, ⟨gg, hg, hgi⟩, hrow⟩, hkb, hlk⟩ := id hLi
  refine C_of okX9_willShow (by decide) (Nat.le_of_ble_eq_true rfl) ?_
  show P none mX9_willShow 0 [.ref 0, zI x, zI n] [] _ _
  refine p_aload_n (i := 0) rfl rfl ?_
  refine p_getf (i := 1) rfl fX9_63 kR rfl ?_
  refine p_iload_n (i := 2) rfl rfl ?_
  refine p_cV1 (i := 3) rfl ⟨lX9_154, rfl, rfl⟩ hb ⟨_, rfl, rfl⟩ rfl (x_hasScene hLi hx (fun q => ?_) (fun q => ?_))
  · rw [if_neg (not_not_intro q)] at h
    refine p_if_ne (i := 4) 14 rfl (by decide) (by omega) (fun c8 => ?_) (fun c8 => by exfalso; omega)
    refine p_iload_n (i := 7) rfl rfl ?_
    refine p_if_lt (i := 8) 24 rfl (by decide) (by omega) (fun c15 => ?_) (fun c15 => ?_)
    · rw [if_pos (by omega)] at h
      refine p_ldc (i := 12) rfl kX9_78 ?_
      refine p_iret (i := 13) rfl rfl (rfl) ?_
      exact h M hX FrI.rf
    · refine p_iload_n (i := 9) rfl rfl ?_
      refine p_bipush (i := 10) rfl (by decide) ?_
      refine p_icmp_le (i := 11) 27 rfl (by decide) (by omega) (by omega) (fun c21 => ?_) (fun c21 => ?_)
      · rw [if_neg (by omega)] at h
        refine p_aload_n (i := 14) rfl rfl ?_
        refine p_iload_n (i := 15) rfl rfl ?_
        refine p_top (b := ((n.toNat : Nat) : Int)) (by omega) ?_
        refine p_cV1 (i := 16) rfl ⟨lX9_235, rfl, rfl⟩ kR ⟨_, rfl, rfl⟩ rfl (x_tryYears hRt hPa hTr hLi (by omega) b1 (fun M1 hP1 fr1 => ?_))
        obtain ⟨⟨q1, q2, q3, q4, q5, q6, q7, q8, q9, q10, q11⟩, sc, wh, st, hs, lr, lf, lz, ⟨hp, hS, hW, hT, hH, hG, hR⟩, rL, rH, rG⟩ := id hP1
        have kR := fr1.at kR (by omega)
        refine p_aload_n (i := 17) rfl rfl ?_
        refine p_getf (i := 18) rfl fX9_36 kR rfl ?_
        refine p_iload_n (i := 19) rfl rfl ?_
        refine p_cV1 (i := 20) rfl ⟨lX9_241, rfl, rfl⟩ hp ⟨_, rfl, rfl⟩ rfl (x_strengthOfScene hP1 (by omega) ?_)
        refine p_iret (i := 21) rfl rfl (rfl) ?_
        exact h M1 ⟨la, sa, (hRt.fi fr1 (by omega)), (hRd.fi fr1 (by omega)), (hHi.fi fr1 (by omega)), (hIr.fi fr1 (by omega)), (hI0.fi fr1 (by omega)), (hI1.fi fr1 (by omega)), (hPa.fi fr1 (by omega)), hP1.r, (hTu.fi fr1 (by omega)), (hMe.fi fr1 (by omega)), (hBo.fi fr1 (by omega)), (hLi.fi fr1 (by omega)), (hLs.fi fr1 (by omega)), b1, b2, b3, b4, b5, b6, b7⟩ (fr1.weak (by omega))
      · rw [if_pos (by omega)] at h
        refine p_ldc (i := 12) rfl kX9_78 ?_
        refine p_iret (i := 13) rfl rfl (rfl) ?_
        exact h M hX FrI.rf
  · rw [if_pos q] at h
    refine p_if_ne (i := 4) 14 rfl (by decide) (by omega) (fun c8 => by exfalso; omega) (fun c8 => ?_)
    refine p_ldc (i := 5) rfl kX9_158 ?_
    refine p_iret (i := 6) rfl rfl (rfl) ?_
    exact h M hX FrI.rf
theorem X_tooDark {M : AM} {tx : List Int} {fa : Int} {ln : LN} {g : GS} {un : List GS} {i0 i1 : Option (GS × Int)} {sd : Int} {me bo : List (Int × Int)} {m : Int} {Q : Option Value → AM → Prop} (hX : XW M (tx, fa, ln, g, un, i0, i1, sd, me, bo)) (hm : -2147483648 ≤ m ∧ m ≤ 2147483647) (h : ∀ M', XW M' (tx, fa, ln, g, un, i0, i1, sd, me, bo) → FrI 0 276 M M' → Q (some (zI (a_tooDark (tx, fa, ln, g, un, i0, i1, sd, me, bo) m))) M') : C mX9_tooDark [.ref 0, zI m] M Q := by
  dsimp only [a_tooDark] at h
  obtain ⟨la, sa, hRt, hRd, hHi, hIr, hI0, hI1, hPa, hTr, hTu, hMe, hBo, hLi, hLs, b1, b2, b3, b4, b5, b6, b7⟩ := id hX
  obtain ⟨kR, hla⟩ := id hRt
  have loop : ∀ (f k : Nat) (M1 : AM) (g1 : GS), k + f = 201 → 1 ≤ m ∧ m ≤ 99 → PairB false M1 223 (nS ln) (nW ln) g1 → g1.2.2.1 + f ≤ 95000 → FrI 223 7 M M1 → (∀ M', PairR M' 223 → FrI 223 7 M M' → Q (some (zI (tdk ln m f k g1))) M') → P none mX9_tooDark 27 [.ref 0, zI m, zI (k : Int)] []  M1 Q := by
    intro f
    induction f with
    | zero =>
      intro k M1 g1 hk hm hP1 hy1 fr h
      refine p_iload_n (i := 15) rfl rfl ?_
      refine p_sipush (i := 16) rfl (by decide) ?_
      refine p_icmp_gt (i := 17) 64 rfl (by decide) (by omega) (by omega) (fun c31 => ?_) (fun c31 => by exfalso; omega)
      refine p_iconst (i := 32) rfl ?_
      refine p_iret (i := 33) rfl rfl (rfl) ?_
      exact h M1 hP1.r fr
    | succ f ih =>
      intro k M1 g1 hk hm hP1 hy1 fr h
      have hRt1 := hRt.fi fr (by omega)
      have hLi1 := hLi.fi fr (by omega)
      obtain ⟨kR, hla⟩ := id hRt1
      obtain ⟨⟨q1, q2, q3, q4, q5, q6, q7, q8, q9, q10, q11⟩, sc, wh, st, hs, lr, lf, lz, ⟨hp, hS, hW, hT, hH, hG, hR⟩, rL, rH, rG⟩ := id hP1
      have hsm := smAll_rng hP1.1.ls
      refine p_iload_n (i := 15) rfl rfl ?_
      refine p_sipush (i := 16) rfl (by decide) ?_
      refine p_icmp_gt (i := 17) 64 rfl (by decide) (by omega) (by omega) (fun c31 => by exfalso; omega) (fun c31 => ?_)
      refine p_aload_n (i := 18) rfl rfl ?_
      refine p_getf (i := 19) rfl fX9_36 kR rfl ?_
      refine p_cV0 (i := 20) rfl ⟨lX9_125, rfl, rfl⟩ hp ⟨_, rfl, rfl⟩ rfl (x_darkness hP1 ?_)
      unfold tdk at h
      refine p_iload_n (i := 21) rfl rfl ?_
      refine p_icmp_lt (i := 22) 47 rfl (by decide) (by omega) (by omega) (fun c42 => ?_) (fun c42 => ?_)
      · rw [if_neg (by omega)] at h
        refine p_aload_n (i := 25) rfl rfl ?_
        refine p_getf (i := 26) rfl fX9_36 kR rfl ?_
        refine p_aload_n (i := 27) rfl rfl ?_
        refine p_getf (i := 28) rfl fX9_63 kR rfl ?_
        refine p_cV1 (i := 29) rfl ⟨lX9_216, rfl, rfl⟩ hp ⟨_, rfl, rfl⟩ rfl (x_passYear hP1 hLi1 rfl rfl (by omega) (by omega) (fun M2 hP2 fr2 => ?_))
        refine p_iinc (i := 30) rfl rfl rfl ?_
        refine p_goto (i := 31) 27 rfl (by decide) ?_
        have ey := passY_y ln g1
        exact ih (k + 1) M2 (passY ln g1) (by omega) hm hP2 (by omega) (fr.tr fr2) h
      · rw [if_pos (by omega)] at h
        refine p_iload_n (i := 23) rfl rfl ?_
        refine p_iret (i := 24) rfl rfl (rfl) ?_
        exact h M1 hP1.r fr
  obtain ⟨sc0, wh0, st0, hs0, lr0, lf0, lz0, n0, w0, y0, ⟨kp, kS, kW, kT, kH, kG, kR'⟩, r1, r2, r3, r4⟩ := id hTr
  refine C_of okX9_tooDark (by decide) (Nat.le_of_ble_eq_true rfl) ?_
  show P none mX9_tooDark 0 [.ref 0, zI m, .retAddr 0] [] _ _
  refine p_iload_n (i := 0) rfl rfl ?_
  refine p_iconst (i := 1) rfl ?_
  refine p_icmp_lt (i := 2) 11 rfl (by decide) (by omega) (by omega) (fun c2 => ?_) (fun c2 => ?_)
  · rw [if_pos (by omega)] at h
    refine p_ldc (i := 6) rfl kX9_78 ?_
    refine p_iret (i := 7) rfl rfl (rfl) ?_
    exact h M hX FrI.rf
  · refine p_iload_n (i := 3) rfl rfl ?_
    refine p_bipush (i := 4) rfl (by decide) ?_
    refine p_icmp_le (i := 5) 14 rfl (by decide) (by omega) (by omega) (fun c8 => ?_) (fun c8 => ?_)
    · rw [if_neg (by omega)] at h
      refine p_aload_n (i := 8) rfl rfl ?_
      refine p_getf (i := 9) rfl fX9_36 kR rfl ?_
      refine p_aload_n (i := 10) rfl rfl ?_
      refine p_getf (i := 11) rfl fX9_32 kR rfl ?_
      refine p_cV1 (i := 12) rfl ⟨lX9_238, rfl, rfl⟩ kp ⟨_, rfl, rfl⟩ rfl (x_copyGlass hTr hPa (by omega) (fun M1 hP1 fr1 => ?_))
      refine p_iconst (i := 13) rfl ?_
      refine p_istore_n (i := 14) rfl rfl ?_
      exact loop 201 0 M1 g (by omega) (by omega) hP1 (by omega) (fr1.weak (by omega)) (fun M' hTr' fr' => h M' ⟨la, sa, (hRt.fi fr' (by omega)), (hRd.fi fr' (by omega)), (hHi.fi fr' (by omega)), (hIr.fi fr' (by omega)), (hI0.fi fr' (by omega)), (hI1.fi fr' (by omega)), (hPa.fi fr' (by omega)), hTr', (hTu.fi fr' (by omega)), (hMe.fi fr' (by omega)), (hBo.fi fr' (by omega)), (hLi.fi fr' (by omega)), (hLs.fi fr' (by omega)), b1, b2, b3, b4, b5, b6, b7⟩ (fr'.weak (by omega)))
    · rw [if_pos (by omega)] at h
      refine p_ldc (i := 6) rfl kX9_78 ?_
      refine p_iret (i := 7) rfl rfl (rfl) ?_
      exact h M hX FrI.rf
end
section
-- calls of the class: met, book, images
theorem X_ground {M : AM} {tx : List Int} {fa : Int} {ln : LN} {g : GS} {un : List GS} {i0 i1 : Option (GS × Int)} {sd : Int} {me bo : List (Int × Int)} {x : Int} {Q : Option Value → AM → Prop} (hX : XW M (tx, fa, ln, g, un, i0, i1, sd, me, bo)) (hx : -2147483648 ≤ x ∧ x ≤ 2147483647) (h : ∀ M', XW M' (tx, fa, ln, g, un, i0, i1, sd, me, bo) → FrI 0 276 M M' → Q (some (zI (a_ground (tx, fa, ln, g, un, i0, i1, sd, me, bo) x))) M') : C mX9_ground [.ref 0, zI x] M Q := by
  have h := h M hX FrI.rf
  dsimp only [a_ground] at h
  obtain ⟨la, sa, hRt, hRd, hHi, hIr, hI0, hI1, hPa, hTr, hTu, hMe, hBo, hLi, hLs, b1, b2, b3, b4, b5, b6, b7⟩ := id hX
  obtain ⟨kR, hla⟩ := id hRt
  obtain ⟨⟨o1, o2, o3, o4, o5, o6, o7⟩, kf, bf, lc, lkf, ⟨hb, hk, hr, hc, ⟨gg, hg, hgi⟩, hrow⟩, hkb, hlk⟩ := id hLi
  obtain ⟨⟨q1, q2, q3, q4, q5, q6, q7, q8, q9, q10, q11⟩, sc, wh, st, hs, lr, lf, lz, ⟨hp, hS, hW, hT, hH, hG, hR⟩, rL, rH, rG⟩ := id hPa
  have hok := hPa.1.ls
  have loop : ∀ (f k : Nat), k + f = 100 → 0 ≤ x ∧ x < nS ln → Q (some (zI (grd ln g.1 x f k))) M → P none mX9_ground 16 [.ref 0, zI x, zI (k : Int)] []  M Q := by
    intro f
    induction f with
    | zero =>
      intro k hk q h
      refine p_iload_n (i := 9) rfl rfl ?_
      refine p_bipush (i := 10) rfl (by decide) ?_
      refine p_icmp_gt (i := 11) 48 rfl (by decide) (by omega) (by omega) (fun c19 => ?_) (fun c19 => by exfalso; omega)
      refine p_iconst (i := 26) rfl ?_
      refine p_iret (i := 27) rfl rfl (rfl) ?_
      exact h
    | succ f ih =>
      intro k hk' q h
      unfold grd at h
      have ht := tk_rng (ln := ln) (x := x) (m := (k : Int)) (wi := 0) hok (Nat.le_refl _) q
      refine p_iload_n (i := 9) rfl rfl ?_
      refine p_bipush (i := 10) rfl (by decide) ?_
      refine p_icmp_gt (i := 11) 48 rfl (by decide) (by omega) (by omega) (fun c19 => by exfalso; omega) (fun c19 => ?_)
      refine p_aload_n (i := 12) rfl rfl ?_
      refine p_getf (i := 13) rfl fX9_32 kR rfl ?_
      refine p_aload_n (i := 14) rfl rfl ?_
      refine p_getf (i := 15) rfl fX9_63 kR rfl ?_
      refine p_iload_n (i := 16) rfl rfl ?_
      refine p_iload_n (i := 17) rfl rfl ?_
      refine p_iconst (i := 18) rfl ?_
      refine p_cV4 (i := 19) rfl ⟨lX9_272, rfl, rfl⟩ hp ⟨_, rfl, rfl⟩ rfl (x_takenFor hPa hLi q (by omega) (by decide) (wi := 0) ?_)
      refine p_iload_n (i := 20) rfl rfl ?_
      refine p_icmp_ne (i := 21) 42 rfl (by decide) (by omega) (by omega) (fun c37 => ?_) (fun c37 => ?_)
      · rw [if_neg c37] at h
        refine p_iinc (i := 24) rfl rfl rfl ?_
        refine p_goto (i := 25) 16 rfl (by decide) ?_
        exact ih (k + 1) (by omega) q h
      · rw [if_pos c37] at h
        refine p_iload_n (i := 22) rfl rfl ?_
        refine p_iret (i := 23) rfl rfl (rfl) ?_
        exact h
  refine C_of okX9_ground (by decide) (Nat.le_of_ble_eq_true rfl) ?_
  show P none mX9_ground 0 [.ref 0, zI x, .retAddr 0] [] _ _
  refine p_aload_n (i := 0) rfl rfl ?_
  refine p_getf (i := 1) rfl fX9_63 kR rfl ?_
  refine p_iload_n (i := 2) rfl rfl ?_
  refine p_cV1 (i := 3) rfl ⟨lX9_154, rfl, rfl⟩ hb ⟨_, rfl, rfl⟩ rfl (x_hasScene hLi hx (fun q => ?_) (fun q => ?_))
  · rw [if_neg (not_not_intro q)] at h
    refine p_if_ne (i := 4) 14 rfl (by decide) (by omega) (fun c8 => ?_) (fun c8 => by exfalso; omega)
    refine p_iconst (i := 7) rfl ?_
    refine p_istore_n (i := 8) rfl rfl ?_
    exact loop 100 0 (by omega) q h
  · rw [if_pos q] at h
    refine p_if_ne (i := 4) 14 rfl (by decide) (by omega) (fun c8 => by exfalso; omega) (fun c8 => ?_)
    refine p_ldc (i := 5) rfl kX9_158 ?_
    refine p_iret (i := 6) rfl rfl (rfl) ?_
    exact h
theorem X_mist {M : AM} {n q : Int} {Q : Option Value → AM → Prop} (hn : -2147483648 ≤ n ∧ n ≤ 2147483647) (hq : -2147483648 ≤ q ∧ q ≤ 2147483647) (h : Q (some (zI (a_mist n q))) M) : C mX9_mist [.ref 0, zI n, zI q] M Q := by
  unfold a_mist at h
  have loop : ∀ (f k : Nat) (x : Int), (k : Int) + f = n → n ≤ 60 → 0 ≤ q ∧ q ≤ 100 → 0 ≤ x ∧ x ≤ 1000000000 → Q (some (zI (mst q f x))) M → P none mX9_mist 30 [.ref 0, zI n, zI q, zJ x, .retAddr 0, zI (k : Int)] []  M Q := by
    intro f
    induction f with
    | zero =>
      intro k x hk hn60 hq0 hx h
      refine p_iload (i := 16) rfl rfl ?_
      refine p_iload_n (i := 17) rfl rfl ?_
      refine p_icmp_ge (i := 18) 51 rfl (by decide) (by omega) (by omega) (fun c33 => ?_) (fun c33 => by exfalso; omega)
      refine p_lload_n (i := 28) rfl rfl ?_
      refine p_l2i (i := 29) rfl ?_
      refine p_iret (i := 30) rfl rfl (rfl) ?_
      exact h
    | succ f ih =>
      intro k x hk hn60 hq0 hx h
      have m1 : 0 ≤ x * q := Int.mul_nonneg hx.1 hq0.1
      have m2 : x * q ≤ 1000000000 * 100 := Int.mul_le_mul hx.2 hq0.2 hq0.1 (by decide)
      refine p_iload (i := 16) rfl rfl ?_
      refine p_iload_n (i := 17) rfl rfl ?_
      refine p_icmp_ge (i := 18) 51 rfl (by decide) (by omega) (by omega) (fun c33 => by exfalso; omega) (fun c33 => ?_)
      refine p_lload_n (i := 19) rfl rfl ?_
      refine p_iload_n (i := 20) rfl rfl ?_
      refine p_i2l (i := 21) rfl (by omega) ?_
      refine p_lmul (i := 22) rfl ?_
      refine p_ldc2 (i := 23) rfl kX9_278 ?_
      refine p_ldiv (i := 24) rfl (by omega) (by omega) ?_
      refine p_lstore_n (i := 25) rfl rfl rfl ?_
      refine p_iinc (i := 26) rfl rfl rfl ?_
      refine p_goto (i := 27) 30 rfl (by decide) ?_
      exact ih (k + 1) (x * q / 100) (by omega) hn60 hq0 (by omega) h
  refine C_of okX9_mist (by decide) (Nat.le_of_ble_eq_true rfl) ?_
  show P none mX9_mist 0 [.ref 0, zI n, zI q, .retAddr 0, .retAddr 0, .retAddr 0] [] _ _
  refine p_iload_n (i := 0) rfl rfl ?_
  refine p_if_lt (i := 1) 20 rfl (by decide) (by omega) (fun c1 => ?_) (fun c1 => ?_)
  · rw [if_pos (by omega)] at h
    refine p_ldc (i := 10) rfl kX9_78 ?_
    refine p_iret (i := 11) rfl rfl (rfl) ?_
    exact h
  · refine p_iload_n (i := 2) rfl rfl ?_
    refine p_bipush (i := 3) rfl (by decide) ?_
    refine p_icmp_gt (i := 4) 20 rfl (by decide) (by omega) (by omega) (fun c7 => ?_) (fun c7 => ?_)
    · rw [if_pos (by omega)] at h
      refine p_ldc (i := 10) rfl kX9_78 ?_
      refine p_iret (i := 11) rfl rfl (rfl) ?_
      exact h
    · refine p_iload_n (i := 5) rfl rfl ?_
      refine p_if_lt (i := 6) 20 rfl (by decide) (by omega) (fun c11 => ?_) (fun c11 => ?_)
      · rw [if_pos (by omega)] at h
        refine p_ldc (i := 10) rfl kX9_78 ?_
        refine p_iret (i := 11) rfl rfl (rfl) ?_
        exact h
      · refine p_iload_n (i := 7) rfl rfl ?_
        refine p_bipush (i := 8) rfl (by decide) ?_
        refine p_icmp_le (i := 9) 23 rfl (by decide) (by omega) (by omega) (fun c17 => ?_) (fun c17 => ?_)
        · rw [if_neg (by omega)] at h
          refine p_ldc2 (i := 12) rfl kX9_276 ?_
          refine p_lstore_n (i := 13) rfl rfl rfl ?_
          refine p_iconst (i := 14) rfl ?_
          refine p_istore (i := 15) rfl rfl ?_
          exact loop n.toNat 0 1000000000 (by omega) (by omega) (by omega) (by decide) h
        · rw [if_pos (by omega)] at h
          refine p_ldc (i := 10) rfl kX9_78 ?_
          refine p_iret (i := 11) rfl rfl (rfl) ?_
          exact h
theorem X_meet {M : AM} {tx : List Int} {fa : Int} {ln : LN} {g : GS} {un : List GS} {i0 i1 : Option (GS × Int)} {sd : Int} {me bo : List (Int × Int)} {x v : Int} {Q : Option Value → AM → Prop} (hX : XW M (tx, fa, ln, g, un, i0, i1, sd, me, bo)) (hx : -2147483648 ≤ x ∧ x ≤ 2147483647) (hv : v = 0 ∨ v = 1) (h : ∀ M', XW M' (a_meet (tx, fa, ln, g, un, i0, i1, sd, me, bo) x v).2 → FrI 0 276 M M' → Q (some (zI (a_meet (tx, fa, ln, g, un, i0, i1, sd, me, bo) x v).1)) M') : C mX9_meet [.ref 0, zI x, zI v] M Q := by
  dsimp only [a_meet] at h
  obtain ⟨la, sa, hRt, hRd, hHi, hIr, hI0, hI1, hPa, hTr, hTu, hMe, hBo, hLi, hLs, b1, b2, b3, b4, b5, b6, b7⟩ := id hX
  obtain ⟨kR, hla⟩ := id hRt
  obtain ⟨⟨o1, o2, o3, o4, o5, o6, o7⟩, kf, bf, lc, lkf, ⟨hb, hk, hr, hc, ⟨gg, hg, hgi⟩, hrow⟩, hkb, hlk⟩ := id hLi
  obtain ⟨v6, vm, vn, w5, w6, w7, v7⟩ := id hMe
  refine C_of okX9_meet (by decide) (Nat.le_of_ble_eq_true rfl) ?_
  show P none mX9_meet 0 [.ref 0, zI x, zI v] [] _ _
  refine p_aload_n (i := 0) rfl rfl ?_
  refine p_getf (i := 1) rfl fX9_63 kR rfl ?_
  refine p_iload_n (i := 2) rfl rfl ?_
  refine p_cV1 (i := 3) rfl ⟨lX9_154, rfl, rfl⟩ hb ⟨_, rfl, rfl⟩ rfl (x_hasScene hLi hx (fun q => ?_) (fun q => ?_))
  · rw [if_neg (not_not_intro q)] at h
    refine p_if_ne (i := 4) 14 rfl (by decide) (by omega) (fun c8 => ?_) (fun c8 => by exfalso; omega)
    refine p_aload_n (i := 7) rfl rfl ?_
    refine p_getf (i := 8) rfl fX9_49 kR rfl ?_
    refine p_getf (i := 9) rfl fX9_151 w5 rfl ?_
    refine p_bipush (i := 10) rfl (by decide) ?_
    refine p_icmp_lt (i := 11) 29 rfl (by decide) (by omega) (by omega) (fun c23 => ?_) (fun c23 => ?_)
    · rw [if_neg (by omega)] at h
      refine p_aload_n (i := 14) rfl rfl ?_
      refine p_getf (i := 15) rfl fX9_49 kR rfl ?_
      refine p_iload_n (i := 16) rfl rfl ?_
      refine p_iload_n (i := 17) rfl rfl ?_
      refine p_cV2 (i := 18) rfl ⟨lX9_280, rfl, rfl⟩ w5 ⟨_, rfl, rfl⟩ rfl (x_metAdd hMe (by omega) (by omega) hv (fun M1 hMe1 fr1 => ?_))
      obtain ⟨v6', vm', vn', w5, w6, w7, v7'⟩ := id hMe1
      have kR := fr1.at kR (by omega)
      refine p_aload_n (i := 19) rfl rfl ?_
      refine p_getf (i := 20) rfl fX9_49 kR rfl ?_
      refine p_getf (i := 21) rfl fX9_151 w5 rfl ?_
      refine p_iret (i := 22) rfl rfl (rfl) ?_
      refine h M1 ⟨la, sa, (hRt.fi fr1 (by omega)), (hRd.fi fr1 (by omega)), (hHi.fi fr1 (by omega)), (hIr.fi fr1 (by omega)), (hI0.fi fr1 (by omega)), (hI1.fi fr1 (by omega)), (hPa.fi fr1 (by omega)), (hTr.fi fr1 (by omega)), (hTu.fi fr1 (by omega)), hMe1, (hBo.fi fr1 (by omega)), (hLi.fi fr1 (by omega)), (hLs.fi fr1 (by omega)), b1, b2, b3, ?_, b5, b6, b7⟩ (fr1.weak (by omega))
      intro i hi
      have hi : i < me.length + 1 := by simpa using hi
      rw [gd_app hi]
      split
      · exact q.2
      · exact b4 i (by omega)
    · rw [if_pos (by omega)] at h
      refine p_ldc (i := 12) rfl kX9_82 ?_
      refine p_iret (i := 13) rfl rfl (rfl) ?_
      exact h M hX FrI.rf
  · rw [if_pos q] at h
    refine p_if_ne (i := 4) 14 rfl (by decide) (by omega) (fun c8 => by exfalso; omega) (fun c8 => ?_)
    refine p_ldc (i := 5) rfl kX9_158 ?_
    refine p_iret (i := 6) rfl rfl (rfl) ?_
    exact h M hX FrI.rf
theorem x_couldBe {M : AM} {la sa : Nat} {fa sd : Int} {ln : LN} {g : GS} {me : List (Int × Int)} {Q : Option Value → AM → Prop} (hRt : XRt M la sa fa sd) (hP : PairB true M 216 (nS ln) (nW ln) g) (hL : LineA M la ln) (hMe : XMe M me) (h : Q (some (zI (cb ln g.1 me : Nat))) M) : C mX9_couldBe [.ref 0] M Q := by
  obtain ⟨kR, hla⟩ := id hRt
  obtain ⟨⟨o1, o2, o3, o4, o5, o6, o7⟩, kf, bf, lc, lkf, ⟨hb, hk, hr, hc, ⟨gg, hg, hgi⟩, hrow⟩, hkb, hlk⟩ := id hL
  obtain ⟨v6, vm, vn, w5, w6, w7, v7⟩ := id hMe
  have hok := hP.1.ls
  have loop : ∀ (f k s : Nat), k + f = nS ln → Q (some (zI ((fo (fun x s => if ftL me (tk ln g.1 (x : Int) 0 0) me.length 0 = 1 then s ||| 2 ^ x else s) f k s : Nat) : Int))) M → P none mX9_couldBe 4 [.ref 0, zI (s : Int), zI (k : Int)] []  M Q := by
    intro f
    induction f with
    | zero =>
      intro k s hk hq
      refine p_iload_n (i := 4) rfl rfl ?_
      refine p_aload_n (i := 5) rfl rfl ?_
      refine p_getf (i := 6) rfl fX9_63 kR rfl ?_
      refine p_getf (i := 7) rfl fX9_107 hb rfl ?_
      refine p_icmp_ge (i := 8) 42 rfl (by decide) (by omega) (by omega) (fun c12 => ?_) (fun c12 => by exfalso; omega)
      refine p_iload_n (i := 24) rfl rfl ?_
      refine p_iret (i := 25) rfl rfl (rfl) ?_
      exact hq
    | succ f ih =>
      intro k s hk hq
      have ht := tk_rng (ln := ln) (x := (k : Int)) (m := 0) (wi := 0) hok (Nat.le_refl _) (by omega)
      have h01 := ftL_01 me (tk ln g.1 (k : Int) 0 0) me.length 0
      have hq : Q (some (zI ((fo (fun x s => if ftL me (tk ln g.1 (x : Int) 0 0) me.length 0 = 1 then s ||| 2 ^ x else s) f (k + 1) (if ftL me (tk ln g.1 (k : Int) 0 0) me.length 0 = 1 then s ||| 2 ^ k else s) : Nat) : Int))) M := hq
      refine p_iload_n (i := 4) rfl rfl ?_
      refine p_aload_n (i := 5) rfl rfl ?_
      refine p_getf (i := 6) rfl fX9_63 kR rfl ?_
      refine p_getf (i := 7) rfl fX9_107 hb rfl ?_
      refine p_icmp_ge (i := 8) 42 rfl (by decide) (by omega) (by omega) (fun c12 => by exfalso; omega) (fun c12 => ?_)
      refine p_aload_n (i := 9) rfl rfl ?_
      refine p_getf (i := 10) rfl fX9_49 kR rfl ?_
      refine p_aload_n (i := 11) rfl rfl ?_
      refine p_iload_n (i := 12) rfl rfl ?_
      refine p_cV1 (i := 13) rfl ⟨lX9_190, rfl, rfl⟩ kR ⟨_, rfl, rfl⟩ rfl (x_takenNow hRt hP hL (by omega) ?_)
      refine p_cV1 (i := 14) rfl ⟨lX9_284, rfl, rfl⟩ w5 ⟨_, rfl, rfl⟩ rfl (x_fits hMe (by omega) ?_)
      refine p_if_eq (i := 15) 36 rfl (by decide) (by omega) (fun c27 => ?_) (fun c27 => ?_)
      · rw [if_neg (by omega)] at hq
        refine p_iinc (i := 22) rfl rfl rfl ?_
        refine p_goto (i := 23) 4 rfl (by decide) ?_
        exact ih (k + 1) s (by omega) hq
      · rw [if_pos (by omega)] at hq
        refine p_iload_n (i := 16) rfl rfl ?_
        refine p_iconst (i := 17) rfl ?_
        refine p_iload_n (i := 18) rfl rfl ?_
        refine p_ishl1 (i := 19) rfl (by omega) ?_
        refine p_iorN (i := 20) rfl ?_
        refine p_istore_n (i := 21) rfl rfl ?_
        refine p_iinc (i := 22) rfl rfl rfl ?_
        refine p_goto (i := 23) 4 rfl (by decide) ?_
        exact ih (k + 1) _ (by omega) hq
  refine C_of okX9_couldBe (by decide) (Nat.le_of_ble_eq_true rfl) ?_
  show P none mX9_couldBe 0 [.ref 0, .retAddr 0, .retAddr 0] [] _ _
  refine p_iconst (i := 0) rfl ?_
  refine p_istore_n (i := 1) rfl rfl ?_
  refine p_iconst (i := 2) rfl ?_
  refine p_istore_n (i := 3) rfl rfl ?_
  exact loop (nS ln) 0 0 (by omega) h
theorem X_couldBe {M : AM} {tx : List Int} {fa : Int} {ln : LN} {g : GS} {un : List GS} {i0 i1 : Option (GS × Int)} {sd : Int} {me bo : List (Int × Int)} {Q : Option Value → AM → Prop} (hX : XW M (tx, fa, ln, g, un, i0, i1, sd, me, bo)) (h : ∀ M', XW M' (tx, fa, ln, g, un, i0, i1, sd, me, bo) → FrI 0 276 M M' → Q (some (zI (a_couldBe (tx, fa, ln, g, un, i0, i1, sd, me, bo)))) M') : C mX9_couldBe [.ref 0] M Q := by
  obtain ⟨la, sa, hRt, hRd, hHi, hIr, hI0, hI1, hPa, hTr, hTu, hMe, hBo, hLi, hLs, b1, b2, b3, b4, b5, b6, b7⟩ := id hX
  obtain ⟨kR, hla⟩ := id hRt
  exact x_couldBe hRt hPa hLi hMe (h M hX FrI.rf)
theorem bits_lt {p : Nat → Bool} : ∀ (f k s : Nat), k + f ≤ 8 → s < 256 → fo (fun x s => if p x = true then s ||| 2 ^ x else s) f k s < 256 := by
  intro f k s hk hs
  have h := fo_inv (step := fun x s => if p x = true then s ||| 2 ^ x else s) (fun _ s => s < 2 ^ 8) f k s hs (fun j t h1 h2 ht => by
    split
    · exact or_lt ht (Nat.pow_lt_pow_right (by decide) (by omega))
    · exact ht)
  exact h
theorem cb_lt {ln : LN} {Ls : List LY} {me : List (Int × Int)} (h : nS ln ≤ 8) : cb ln Ls me < 256 := by
  have := bits_lt (p := fun x => decide (ftL me (tk ln Ls (x : Int) 0 0) me.length 0 = 1)) (nS ln) 0 0 (by omega) (by decide)
  unfold cb
  simpa using this
theorem X_ask {M : AM} {tx : List Int} {fa : Int} {ln : LN} {g : GS} {un : List GS} {i0 i1 : Option (GS × Int)} {sd : Int} {me bo : List (Int × Int)} {Q : Option Value → AM → Prop} (hX : XW M (tx, fa, ln, g, un, i0, i1, sd, me, bo)) (h : ∀ M', XW M' (tx, fa, ln, g, un, i0, i1, sd, me, bo) → FrI 0 276 M M' → Q (some (zI (a_ask (tx, fa, ln, g, un, i0, i1, sd, me, bo)))) M') : C mX9_ask [.ref 0] M Q := by
  have h := h M hX FrI.rf
  dsimp only [a_ask] at h
  obtain ⟨la, sa, hRt, hRd, hHi, hIr, hI0, hI1, hPa, hTr, hTu, hMe, hBo, hLi, hLs, b1, b2, b3, b4, b5, b6, b7⟩ := id hX
  obtain ⟨kR, hla⟩ := id hRt
  obtain ⟨⟨o1, o2, o3, o4, o5, o6, o7⟩, kf, bf, lc, lkf, ⟨hb, hk, hr, hc, ⟨gg, hg, hgi⟩, hrow⟩, hkb, hlk⟩ := id hLi
  have hcb := cb_lt (Ls := g.1) (me := me) o3
  obtain ⟨set, hset⟩ : ∃ s, s = cb ln g.1 me := ⟨_, rfl⟩
  rw [← hset] at h hcb
  have hpa := popc_le set
  have loop : ∀ (f k : Nat) (s : Int × Int) (x1 x2 : Value), k + f = nS ln → 0 ≤ s.2 ∧ s.2 ≤ 10 → Q (some (zI (fo (askStep ln g.1 set) f k s).1)) M → P none mX9_ask 18 [.ref 0, zI (set : Int), zI (popc set : Nat), zI s.1, zI s.2, zI (k : Int), x1, x2] []  M Q := by
    intro f
    induction f with
    | zero =>
      intro k s x1 x2 hk hs hq
      refine p_iload (i := 12) rfl rfl ?_
      refine p_aload_n (i := 13) rfl rfl ?_
      refine p_getf (i := 14) rfl fX9_63 kR rfl ?_
      refine p_getf (i := 15) rfl fX9_107 hb rfl ?_
      refine p_icmp_ge (i := 16) 74 rfl (by decide) (by omega) (by omega) (fun c27 => ?_) (fun c27 => by exfalso; omega)
      refine p_iload_n (i := 39) rfl rfl ?_
      refine p_iret (i := 40) rfl rfl (rfl) ?_
      exact hq
    | succ f ih =>
      intro k s x1 x2 hk hs hq
      have hq : Q (some (zI (fo (askStep ln g.1 set) f (k + 1) (askStep ln g.1 set k s)).1)) M := hq
      unfold askStep at hq
      have hpb := popc_le (set &&& stf ln g.1 (k : Int))
      refine p_iload (i := 12) rfl rfl ?_
      refine p_aload_n (i := 13) rfl rfl ?_
      refine p_getf (i := 14) rfl fX9_63 kR rfl ?_
      refine p_getf (i := 15) rfl fX9_107 hb rfl ?_
      refine p_icmp_ge (i := 16) 74 rfl (by decide) (by omega) (by omega) (fun c27 => by exfalso; omega) (fun c27 => ?_)
      refine p_iload_n (i := 17) rfl rfl ?_
      refine p_aload_n (i := 18) rfl rfl ?_
      refine p_iload (i := 19) rfl rfl ?_
      refine p_cV1 (i := 20) rfl ⟨lX9_169, rfl, rfl⟩ kR ⟨_, rfl, rfl⟩ rfl (x_scenesTakenFor hRt hPa hLi (by omega) ?_)
      refine p_iandN (i := 21) rfl ?_
      refine p_cS1 (i := 22) rfl ⟨lX9_251, rfl, rfl⟩ rfl (x_bitCount (Nat.lt_of_le_of_lt Nat.and_le_left (by omega)) ?_)
      refine p_istore (i := 23) rfl rfl ?_
      refine p_iload (i := 24) rfl rfl ?_
      refine p_iload_n (i := 25) rfl rfl ?_
      refine p_iload (i := 26) rfl rfl ?_
      refine p_isub (i := 27) rfl ?_
      refine p_max (i := 28) rfl lX9_290 ⟨rfl, rfl⟩ (by omega) (by omega) ?_
      refine p_istore (i := 29) rfl rfl ?_
      refine p_iload (i := 30) rfl rfl ?_
      refine p_iload (i := 31) rfl rfl ?_
      refine p_icmp_ge (i := 32) 68 rfl (by decide) (by omega) (by omega) (fun c58 => ?_) (fun c58 => ?_)
      · rw [if_neg (by omega)] at hq
        refine p_iinc (i := 37) rfl rfl rfl ?_
        refine p_goto (i := 38) 18 rfl (by decide) ?_
        exact ih (k + 1) s _ _ (by omega) hs hq
      · rw [if_pos (by omega)] at hq
        refine p_iload (i := 33) rfl rfl ?_
        refine p_istore (i := 34) rfl rfl ?_
        refine p_iload (i := 35) rfl rfl ?_
        refine p_istore_n (i := 36) rfl rfl ?_
        refine p_iinc (i := 37) rfl rfl rfl ?_
        refine p_goto (i := 38) 18 rfl (by decide) ?_
        exact ih (k + 1) _ _ _ (by omega) (by show 0 ≤ max _ _ ∧ max _ _ ≤ (10 : Int); omega) hq
  refine C_of okX9_ask (by decide) (Nat.le_of_ble_eq_true rfl) ?_
  show P none mX9_ask 0 [.ref 0, .retAddr 0, .retAddr 0, .retAddr 0, .retAddr 0, .retAddr 0, .retAddr 0, .retAddr 0] [] _ _
  refine p_aload_n (i := 0) rfl rfl ?_
  refine p_cV0 (i := 1) rfl ⟨lX9_287, rfl, rfl⟩ kR ⟨_, rfl, rfl⟩ rfl (x_couldBe hRt hPa hLi hMe ?_)
  rw [← hset]
  refine p_istore_n (i := 2) rfl rfl ?_
  refine p_iload_n (i := 3) rfl rfl ?_
  refine p_cS1 (i := 4) rfl ⟨lX9_251, rfl, rfl⟩ rfl (x_bitCount (by omega) ?_)
  refine p_istore_n (i := 5) rfl rfl ?_
  refine p_iconst (i := 6) rfl ?_
  refine p_istore_n (i := 7) rfl rfl ?_
  refine p_iload_n (i := 8) rfl rfl ?_
  refine p_istore (i := 9) rfl rfl ?_
  refine p_iconst (i := 10) rfl ?_
  refine p_istore (i := 11) rfl rfl ?_
  exact loop (nS ln) 0 (-1, (popc set : Nat)) _ _ (by omega) (by show (0 : Int) ≤ (popc set : Nat) ∧ ((popc set : Nat) : Int) ≤ 10; omega) h
theorem X_write {M : AM} {tx : List Int} {fa : Int} {ln : LN} {g : GS} {un : List GS} {i0 i1 : Option (GS × Int)} {sd : Int} {me bo : List (Int × Int)} {x y : Int} {Q : Option Value → AM → Prop} (hX : XW M (tx, fa, ln, g, un, i0, i1, sd, me, bo)) (hx : -2147483648 ≤ x ∧ x ≤ 2147483647) (hy : -2147483648 ≤ y ∧ y ≤ 2147483647) (h : ∀ M', XW M' (a_write (tx, fa, ln, g, un, i0, i1, sd, me, bo) x y).2 → FrI 0 276 M M' → Q (some (zI (a_write (tx, fa, ln, g, un, i0, i1, sd, me, bo) x y).1)) M') : C mX9_write [.ref 0, zI x, zI y] M Q := by
  dsimp only [a_write] at h
  obtain ⟨la, sa, hRt, hRd, hHi, hIr, hI0, hI1, hPa, hTr, hTu, hMe, hBo, hLi, hLs, b1, b2, b3, b4, b5, b6, b7⟩ := id hX
  obtain ⟨kR, hla⟩ := id hRt
  obtain ⟨⟨o1, o2, o3, o4, o5, o6, o7⟩, kf, bf, lc, lkf, ⟨hb, hk, hr, hc, ⟨gg, hg, hgi⟩, hrow⟩, hkb, hlk⟩ := id hLi
  obtain ⟨v8, vbm, vbn, w8, w9, w10, v9⟩ := id hBo
  refine C_of okX9_write (by decide) (Nat.le_of_ble_eq_true rfl) ?_
  show P none mX9_write 0 [.ref 0, zI x, zI y] [] _ _
  refine p_aload_n (i := 0) rfl rfl ?_
  refine p_getf (i := 1) rfl fX9_63 kR rfl ?_
  refine p_iload_n (i := 2) rfl rfl ?_
  refine p_cV1 (i := 3) rfl ⟨lX9_154, rfl, rfl⟩ hb ⟨_, rfl, rfl⟩ rfl (x_hasScene hLi hx (fun q => ?_) (fun q => ?_))
  · refine p_if_eq (i := 4) 22 rfl (by decide) (by omega) (fun c8 => by exfalso; omega) (fun c8 => ?_)
    refine p_aload_n (i := 5) rfl rfl ?_
    refine p_getf (i := 6) rfl fX9_63 kR rfl ?_
    refine p_iload_n (i := 7) rfl rfl ?_
    refine p_cV1 (i := 8) rfl ⟨lX9_154, rfl, rfl⟩ hb ⟨_, rfl, rfl⟩ rfl (x_hasScene hLi hy (fun q' => ?_) (fun q' => ?_))
    · rw [if_neg (by omega)] at h
      refine p_if_ne (i := 9) 25 rfl (by decide) (by omega) (fun c19 => ?_) (fun c19 => by exfalso; omega)
      refine p_aload_n (i := 12) rfl rfl ?_
      refine p_getf (i := 13) rfl fX9_56 kR rfl ?_
      refine p_getf (i := 14) rfl fX9_152 w8 rfl ?_
      refine p_bipush (i := 15) rfl (by decide) ?_
      refine p_icmp_lt (i := 16) 40 rfl (by decide) (by omega) (by omega) (fun c34 => ?_) (fun c34 => ?_)
      · rw [if_neg (by omega)] at h
        refine p_aload_n (i := 19) rfl rfl ?_
        refine p_getf (i := 20) rfl fX9_56 kR rfl ?_
        refine p_iload_n (i := 21) rfl rfl ?_
        refine p_iload_n (i := 22) rfl rfl ?_
        refine p_cV2 (i := 23) rfl ⟨lX9_295, rfl, rfl⟩ w8 ⟨_, rfl, rfl⟩ rfl (x_bookAdd hBo (by omega) (by omega) (by omega) (fun M1 hBo1 fr1 => ?_))
        obtain ⟨v8', vm', vn', w8, w9, w10, v9'⟩ := id hBo1
        have kR := fr1.at kR (by omega)
        refine p_aload_n (i := 24) rfl rfl ?_
        refine p_getf (i := 25) rfl fX9_56 kR rfl ?_
        refine p_getf (i := 26) rfl fX9_152 w8 rfl ?_
        refine p_iret (i := 27) rfl rfl (rfl) ?_
        refine h M1 ⟨la, sa, (hRt.fi fr1 (by omega)), (hRd.fi fr1 (by omega)), (hHi.fi fr1 (by omega)), (hIr.fi fr1 (by omega)), (hI0.fi fr1 (by omega)), (hI1.fi fr1 (by omega)), (hPa.fi fr1 (by omega)), (hTr.fi fr1 (by omega)), (hTu.fi fr1 (by omega)), (hMe.fi fr1 (by omega)), hBo1, (hLi.fi fr1 (by omega)), (hLs.fi fr1 (by omega)), b1, b2, b3, b4, ?_, b6, b7⟩ (fr1.weak (by omega))
        intro i hi
        have hi : i < bo.length + 1 := by simpa using hi
        rw [gd_app hi]
        split
        · exact ⟨q.2, q'.2⟩
        · exact b5 i (by omega)
      · rw [if_pos (by omega)] at h
        refine p_ldc (i := 17) rfl kX9_82 ?_
        refine p_iret (i := 18) rfl rfl (rfl) ?_
        exact h M hX FrI.rf
    · rw [if_pos (by omega)] at h
      refine p_if_ne (i := 9) 25 rfl (by decide) (by omega) (fun c19 => by exfalso; omega) (fun c19 => ?_)
      refine p_ldc (i := 10) rfl kX9_158 ?_
      refine p_iret (i := 11) rfl rfl (rfl) ?_
      exact h M hX FrI.rf
  · rw [if_pos (by omega)] at h
    refine p_if_eq (i := 4) 22 rfl (by decide) (by omega) (fun c8 => ?_) (fun c8 => by exfalso; omega)
    refine p_ldc (i := 10) rfl kX9_158 ?_
    refine p_iret (i := 11) rfl rfl (rfl) ?_
    exact h M hX FrI.rf
theorem X_judge {M : AM} {tx : List Int} {fa : Int} {ln : LN} {g : GS} {un : List GS} {i0 i1 : Option (GS × Int)} {sd : Int} {me bo : List (Int × Int)} {Q : Option Value → AM → Prop} (hX : XW M (tx, fa, ln, g, un, i0, i1, sd, me, bo)) (h : ∀ M', XW M' (tx, fa, ln, g, un, i0, i1, sd, me, bo) → FrI 0 276 M M' → Q (some (zI (a_judge (tx, fa, ln, g, un, i0, i1, sd, me, bo)))) M') : C mX9_judge [.ref 0] M Q := by
  have h := h M hX FrI.rf
  dsimp only [a_judge] at h
  obtain ⟨la, sa, hRt, hRd, hHi, hIr, hI0, hI1, hPa, hTr, hTu, hMe, hBo, hLi, hLs, b1, b2, b3, b4, b5, b6, b7⟩ := id hX
  obtain ⟨kR, hla⟩ := id hRt
  obtain ⟨v8, vbm, vbn, w8, w9, w10, v9⟩ := id hBo
  have hok := hPa.1.ls
  have hn8 := hPa.1.2.2.2.2.2.2.2.2.2.1
  have loop : ∀ (f k : Nat), k + f = bo.length → Q (some (zI (fi (fun i => decide (tk ln g.1 (bo.getD i (0, 0)).1 0 0 ≠ (bo.getD i (0, 0)).2)) f k))) M → P none mX9_judge 2 [.ref 0, zI (k : Int)] []  M Q := by
    intro f
    induction f with
    | zero =>
      intro k hk hq
      refine p_iload_n (i := 2) rfl rfl ?_
      refine p_aload_n (i := 3) rfl rfl ?_
      refine p_getf (i := 4) rfl fX9_56 kR rfl ?_
      refine p_getf (i := 5) rfl fX9_152 w8 rfl ?_
      refine p_icmp_ge (i := 6) 52 rfl (by decide) (by omega) (by omega) (fun c10 => ?_) (fun c10 => by exfalso; omega)
      refine p_iconst (i := 27) rfl ?_
      refine p_iret (i := 28) rfl rfl (rfl) ?_
      exact hq
    | succ f ih =>
      intro k hk hq
      obtain ⟨e1, e2, e3, e4, e5, e6⟩ := v9 k (by omega)
      have e7 := b5 k (by omega)
      have ht := tk_rng (ln := ln) (x := (bo.getD k (0, 0)).1) (m := 0) (wi := 0) hok (Nat.le_refl _) (by omega)
      unfold fi at hq
      refine p_iload_n (i := 2) rfl rfl ?_
      refine p_aload_n (i := 3) rfl rfl ?_
      refine p_getf (i := 4) rfl fX9_56 kR rfl ?_
      refine p_getf (i := 5) rfl fX9_152 w8 rfl ?_
      refine p_icmp_ge (i := 6) 52 rfl (by decide) (by omega) (by omega) (fun c10 => by exfalso; omega) (fun c10 => ?_)
      refine p_iload_n (i := 7) rfl rfl ?_
      refine p_bipush (i := 8) rfl (by decide) ?_
      refine p_icmp_ge (i := 9) 52 rfl (by decide) (by omega) (by omega) (fun c16 => by exfalso; omega) (fun c16 => ?_)
      refine p_aload_n (i := 10) rfl rfl ?_
      refine p_aload_n (i := 11) rfl rfl ?_
      refine p_getf (i := 12) rfl fX9_56 kR rfl ?_
      refine p_getf (i := 13) rfl fX9_298 w8 rfl ?_
      refine p_iload_n (i := 14) rfl rfl ?_
      refine p_iaX (i := 15) _ rfl w9 rfl (by omega) (by decide) ?_
      rw [e1]
      refine p_cV1 (i := 16) rfl ⟨lX9_190, rfl, rfl⟩ kR ⟨_, rfl, rfl⟩ rfl (x_takenNow hRt hPa hLi (by omega) ?_)
      refine p_aload_n (i := 17) rfl rfl ?_
      refine p_getf (i := 18) rfl fX9_56 kR rfl ?_
      refine p_getf (i := 19) rfl fX9_300 w8 rfl ?_
      refine p_iload_n (i := 20) rfl rfl ?_
      refine p_iaX (i := 21) _ rfl w10 rfl (by omega) (by decide) ?_
      rw [e2]
      refine p_icmp_eq (i := 22) 46 rfl (by decide) (by omega) (by omega) (fun c41 => ?_) (fun c41 => ?_)
      · rw [if_neg (by rw [decide_eq_true_eq]; omega)] at hq
        refine p_iinc (i := 25) rfl rfl rfl ?_
        refine p_goto (i := 26) 2 rfl (by decide) ?_
        exact ih (k + 1) (by omega) hq
      · rw [if_pos (by rw [decide_eq_true_eq]; omega)] at hq
        refine p_iload_n (i := 23) rfl rfl ?_
        refine p_iret (i := 24) rfl rfl (rfl) ?_
        exact hq
  refine C_of okX9_judge (by decide) (Nat.le_of_ble_eq_true rfl) ?_
  show P none mX9_judge 0 [.ref 0, .retAddr 0] [] _ _
  refine p_iconst (i := 0) rfl ?_
  refine p_istore_n (i := 1) rfl rfl ?_
  exact loop bo.length 0 (by omega) h
theorem X_tear {M : AM} {tx : List Int} {fa : Int} {ln : LN} {g : GS} {un : List GS} {i0 i1 : Option (GS × Int)} {sd : Int} {me bo : List (Int × Int)} {Q : Option Value → AM → Prop} (hX : XW M (tx, fa, ln, g, un, i0, i1, sd, me, bo)) (h : ∀ M', XW M' (a_tear (tx, fa, ln, g, un, i0, i1, sd, me, bo)).2 → FrI 0 276 M M' → Q (some (zI (a_tear (tx, fa, ln, g, un, i0, i1, sd, me, bo)).1)) M') : C mX9_tear [.ref 0] M Q := by
  dsimp only [a_tear] at h
  obtain ⟨la, sa, hRt, hRd, hHi, hIr, hI0, hI1, hPa, hTr, hTu, hMe, hBo, hLi, hLs, b1, b2, b3, b4, b5, b6, b7⟩ := id hX
  obtain ⟨kR, hla⟩ := id hRt
  obtain ⟨v6, vm, vn, w5, w6, w7, v7⟩ := id hMe
  obtain ⟨v8, vbm, vbn, w8, w9, w10, v9⟩ := id hBo
  refine C_of okX9_tear (by decide) (Nat.le_of_ble_eq_true rfl) ?_
  show P none mX9_tear 0 [.ref 0, .retAddr 0] [] _ _
  refine p_aload_n (i := 0) rfl rfl ?_
  refine p_getf (i := 1) rfl fX9_49 kR rfl ?_
  refine p_getf (i := 2) rfl fX9_151 w5 rfl ?_
  refine p_aload_n (i := 3) rfl rfl ?_
  refine p_getf (i := 4) rfl fX9_56 kR rfl ?_
  refine p_getf (i := 5) rfl fX9_152 w8 rfl ?_
  refine p_iadd (i := 6) rfl ?_
  refine p_istore_n (i := 7) rfl rfl ?_
  refine p_aload_n (i := 8) rfl rfl ?_
  refine p_getf (i := 9) rfl fX9_49 kR rfl ?_
  refine p_cV0 (i := 10) rfl ⟨lX9_105, rfl, rfl⟩ w5 ⟨_, rfl, rfl⟩ rfl (x_metForget hMe (fun M1 hMe1 fr1 => ?_))
  have hBo1 := hBo.fi fr1 (by omega)
  have kR := fr1.at kR (by omega)
  have w8 := fr1.at w8 (by omega)
  refine p_aload_n (i := 11) rfl rfl ?_
  refine p_getf (i := 12) rfl fX9_56 kR rfl ?_
  refine p_cV0 (i := 13) rfl ⟨lX9_106, rfl, rfl⟩ w8 ⟨_, rfl, rfl⟩ rfl (x_bookForget hBo1 (fun M2 hBo2 fr2 => ?_))
  refine p_iload_n (i := 14) rfl rfl ?_
  refine p_iret (i := 15) rfl rfl (rfl) ?_
  exact h M2 ⟨la, sa, ((hRt.fi fr1 (by omega)).fi fr2 (by omega)), ((hRd.fi fr1 (by omega)).fi fr2 (by omega)), ((hHi.fi fr1 (by omega)).fi fr2 (by omega)), ((hIr.fi fr1 (by omega)).fi fr2 (by omega)), ((hI0.fi fr1 (by omega)).fi fr2 (by omega)), ((hI1.fi fr1 (by omega)).fi fr2 (by omega)), ((hPa.fi fr1 (by omega)).fi fr2 (by omega)), ((hTr.fi fr1 (by omega)).fi fr2 (by omega)), ((hTu.fi fr1 (by omega)).fi fr2 (by omega)), hMe1.fi fr2 (by omega), hBo2, ((hLi.fi fr1 (by omega)).fi fr2 (by omega)), ((hLs.fi fr1 (by omega)).fi fr2 (by omega)), b1, b2, b3, fun i hi => absurd hi (Nat.not_lt_zero i), fun i hi => absurd hi (Nat.not_lt_zero i), b6, b7⟩ ((fr1.weak (by omega)).tr (fr2.weak (by omega)))
theorem X_seed {M : AM} {tx : List Int} {fa : Int} {ln : LN} {g : GS} {un : List GS} {i0 i1 : Option (GS × Int)} {sd : Int} {me bo : List (Int × Int)} {v : Int} {Q : Option Value → AM → Prop} (hX : XW M (tx, fa, ln, g, un, i0, i1, sd, me, bo)) (hv : -2147483648 ≤ v ∧ v ≤ 2147483647) (h : ∀ M', XW M' (a_seed (tx, fa, ln, g, un, i0, i1, sd, me, bo) v).2 → FrI 0 276 M M' → Q (some (zI (a_seed (tx, fa, ln, g, un, i0, i1, sd, me, bo) v).1)) M') : C mX9_seed [.ref 0, zI v] M Q := by
  dsimp only [a_seed] at h
  obtain ⟨la, sa, hRt, hRd, hHi, hIr, hI0, hI1, hPa, hTr, hTu, hMe, hBo, hLi, hLs, b1, b2, b3, b4, b5, b6, b7⟩ := id hX
  obtain ⟨kR, hla⟩ := id hRt
  have fr : FrI 0 1 M M := FrI.rf
  refine C_of okX9_seed (by decide) (Nat.le_of_ble_eq_true rfl) ?_
  show P none mX9_seed 0 [.ref 0, zI v, .retAddr 0] [] _ _
  refine p_iload_n (i := 0) rfl rfl ?_
  refine p_if_ge (i := 1) 7 rfl (by decide) (by omega) (fun c1 => ?_) (fun c1 => ?_)
  · rw [if_neg (by omega)] at h
    refine p_aload_n (i := 4) rfl rfl ?_
    refine p_getf (i := 5) rfl fX9_74 kR rfl ?_
    refine p_istore_n (i := 6) rfl rfl ?_
    refine p_aload_n (i := 7) rfl rfl ?_
    refine p_iload_n (i := 8) rfl rfl ?_
    refine p_puti (i := 9) rfl gX9_74 kR rfl (P_gen fun M e => ?_)
    have fr := fr.up e (by omega)
    have kR := aupE e
    refine p_iload_n (i := 10) rfl rfl ?_
    refine p_iret (i := 11) rfl rfl (rfl) ?_
    exact h M ⟨la, sa, ⟨kR, hla⟩, (hRd.fi fr (by omega)), (hHi.fi fr (by omega)), (hIr.fi fr (by omega)), (hI0.fi fr (by omega)), (hI1.fi fr (by omega)), (hPa.fi fr (by omega)), (hTr.fi fr (by omega)), (hTu.fi fr (by omega)), (hMe.fi fr (by omega)), (hBo.fi fr (by omega)), (hLi.fi fr (by omega)), (hLs.fi fr (by omega)), b1, by omega, by omega, b4, b5, b6, b7⟩ (fr.weak (by omega))
  · rw [if_pos (by omega)] at h
    refine p_ldc (i := 2) rfl kX9_78 ?_
    refine p_iret (i := 3) rfl rfl (rfl) ?_
    exact h M hX FrI.rf
theorem X_keep {M : AM} {tx : List Int} {fa : Int} {ln : LN} {g : GS} {un : List GS} {i0 i1 : Option (GS × Int)} {sd : Int} {me bo : List (Int × Int)} {i : Int} {Q : Option Value → AM → Prop} (hX : XW M (tx, fa, ln, g, un, i0, i1, sd, me, bo)) (hi : -2147483648 ≤ i ∧ i ≤ 2147483647) (h : ∀ M', XW M' (a_keep (tx, fa, ln, g, un, i0, i1, sd, me, bo) i).2 → FrI 0 276 M M' → Q (some (zI (a_keep (tx, fa, ln, g, un, i0, i1, sd, me, bo) i).1)) M') : C mX9_keep [.ref 0, zI i] M Q := by
  dsimp only [a_keep] at h
  obtain ⟨la, sa, hRt, hRd, hHi, hIr, hI0, hI1, hPa, hTr, hTu, hMe, hBo, hLi, hLs, b1, b2, b3, b4, b5, b6, b7⟩ := id hX
  obtain ⟨kR, hla⟩ := id hRt
  refine C_of okX9_keep (by decide) (Nat.le_of_ble_eq_true rfl) ?_
  show P none mX9_keep 0 [.ref 0, zI i] [] _ _
  refine p_iload_n (i := 0) rfl rfl ?_
  refine p_if_lt (i := 1) 9 rfl (by decide) (by omega) (fun c1 => ?_) (fun c1 => ?_)
  · rw [if_pos (by omega)] at h
    refine p_ldc (i := 5) rfl kX9_158 ?_
    refine p_iret (i := 6) rfl rfl (rfl) ?_
    exact h M hX FrI.rf
  · refine p_iload_n (i := 2) rfl rfl ?_
    refine p_iconst (i := 3) rfl ?_
    refine p_icmp_lt (i := 4) 12 rfl (by decide) (by omega) (by omega) (fun c6 => ?_) (fun c6 => ?_)
    · rw [if_neg (by omega)] at h
      rcases (show i = 0 ∨ i = 1 by omega) with rfl | rfl
      · rw [if_pos rfl] at h
        obtain ⟨gi, kI, gi0, gi1⟩ := id hIr
        obtain ⟨hIp, s0, k0, kB, hIm⟩ := id hI0
        obtain ⟨sc0, wh0, st0, hs0, lr0, lf0, lz0, n0, w0, y0, ⟨kp, kS, kW, kT, kH, kG, kQ⟩, r1, r2, r3, r4⟩ := id hIp
        obtain ⟨v4, vg, vs, w3, w4, v5⟩ := id hHi
        obtain ⟨kR, hla⟩ := id hRt
        refine p_aload_n (i := 7) rfl rfl ?_
        refine p_getf (i := 8) rfl fX9_25 kR rfl ?_
        refine p_iload_n (i := 9) rfl rfl ?_
        refine p_aaX (i := 10) (0) rfl kI (by omega) (by omega) (by omega) (by decide) gi0 ?_
        refine p_getf (i := 11) rfl fX9_303 kB rfl ?_
        refine p_aload_n (i := 12) rfl rfl ?_
        refine p_getf (i := 13) rfl fX9_32 kR rfl ?_
        refine p_cV1 (i := 14) rfl ⟨lX9_304, rfl, rfl⟩ kp ⟨_, rfl, rfl⟩ rfl (x_copyAll hIp hPa (by omega) (fun M1 hP1 fr1 => ?_))
        have kR := fr1.at kR (by omega)
        have kI := fr1.at kI (by omega)
        have kB := fr1.at kB (by omega)
        have w3 := fr1.at w3 (by omega)
        have fr2 : FrI 260 1 M1 M1 := FrI.rf
        refine p_aload_n (i := 15) rfl rfl ?_
        refine p_getf (i := 16) rfl fX9_25 kR rfl ?_
        refine p_iload_n (i := 17) rfl rfl ?_
        refine p_aaX (i := 18) (0) rfl kI (by omega) (by omega) (by omega) (by decide) gi0 ?_
        refine p_aload_n (i := 19) rfl rfl ?_
        refine p_getf (i := 20) rfl fX9_74 kR rfl ?_
        refine p_puti (i := 21) rfl gX9_307 kB rfl (P_gen fun M e => ?_)
        have kR := aupN e kR (by omega)
        have kI := aupN e kI (by omega)
        have w3 := aupN e w3 (by omega)
        have fr2 := fr2.up e (by omega)
        have kB := aupE e
        refine p_aload_n (i := 22) rfl rfl ?_
        refine p_getf (i := 23) rfl fX9_25 kR rfl ?_
        refine p_iload_n (i := 24) rfl rfl ?_
        refine p_aaX (i := 25) (0) rfl kI (by omega) (by omega) (by omega) (by decide) gi0 ?_
        refine p_iconst (i := 26) rfl ?_
        refine p_putz (i := 27) rfl gX9_101 kB (by omega) rfl (P_gen fun M e => ?_)
        have kR := aupN e kR (by omega)
        have kI := aupN e kI (by omega)
        have w3 := aupN e w3 (by omega)
        have fr2 := fr2.up e (by omega)
        have kB := aupE e
        refine p_aload_n (i := 28) rfl rfl ?_
        refine p_getf (i := 29) rfl fX9_19 kR rfl ?_
        have hHi1 := (hHi.fi fr1 (by omega)).fi fr2 (by omega)
        refine p_cV0 (i := 30) rfl ⟨lX9_98, rfl, rfl⟩ w3 ⟨_, rfl, rfl⟩ rfl (x_histForget (ns' := nS ln) (nw' := nW ln) hHi1 (fun M3 hHi3 fr3 => ?_))
        refine p_iconst (i := 31) rfl ?_
        refine p_iret (i := 32) rfl rfl (rfl) ?_
        have fr : FrI 0 276 M1 M3 := (fr2.weak (by omega)).tr (fr3.weak (by omega))
        refine h M3 ⟨la, sa, (((hRt.fi fr1 (by omega)).fi fr2 (by omega)).fi fr3 (by omega)), (((hRd.fi fr1 (by omega)).fi fr2 (by omega)).fi fr3 (by omega)), hHi3, (((hIr.fi fr1 (by omega)).fi fr2 (by omega)).fi fr3 (by omega)), ?_, (((hI1.fi fr1 (by omega)).fi fr2 (by omega)).fi fr3 (by omega)), (((hPa.fi fr1 (by omega)).fi fr2 (by omega)).fi fr3 (by omega)), (((hTr.fi fr1 (by omega)).fi fr2 (by omega)).fi fr3 (by omega)), (((hTu.fi fr1 (by omega)).fi fr2 (by omega)).fi fr3 (by omega)), (((hMe.fi fr1 (by omega)).fi fr2 (by omega)).fi fr3 (by omega)), (((hBo.fi fr1 (by omega)).fi fr2 (by omega)).fi fr3 (by omega)), (((hLi.fi fr1 (by omega)).fi fr2 (by omega)).fi fr3 (by omega)), (((hLs.fi fr1 (by omega)).fi fr2 (by omega)).fi fr3 (by omega)), b1, b2, b3, b4, b5, b6, b7⟩ ((fr1.weak (by omega)).tr fr)
        exact ⟨((hP1.fi fr2 (by omega)).fi fr3 (by omega)).r, sd, 1, fr3.at kB (by omega), rfl, rfl, b2, b3, (hP1.fi fr2 (by omega)).fi fr3 (by omega), b1⟩
      · rw [if_neg (by decide)] at h
        obtain ⟨gi, kI, gi0, gi1⟩ := id hIr
        obtain ⟨hIp, s0, k0, kB, hIm⟩ := id hI1
        obtain ⟨sc0, wh0, st0, hs0, lr0, lf0, lz0, n0, w0, y0, ⟨kp, kS, kW, kT, kH, kG, kQ⟩, r1, r2, r3, r4⟩ := id hIp
        obtain ⟨v4, vg, vs, w3, w4, v5⟩ := id hHi
        obtain ⟨kR, hla⟩ := id hRt
        refine p_aload_n (i := 7) rfl rfl ?_
        refine p_getf (i := 8) rfl fX9_25 kR rfl ?_
        refine p_iload_n (i := 9) rfl rfl ?_
        refine p_aaX (i := 10) (1) rfl kI (by omega) (by omega) (by omega) (by decide) gi1 ?_
        refine p_getf (i := 11) rfl fX9_303 kB rfl ?_
        refine p_aload_n (i := 12) rfl rfl ?_
        refine p_getf (i := 13) rfl fX9_32 kR rfl ?_
        refine p_cV1 (i := 14) rfl ⟨lX9_304, rfl, rfl⟩ kp ⟨_, rfl, rfl⟩ rfl (x_copyAll hIp hPa (by omega) (fun M1 hP1 fr1 => ?_))
        have kR := fr1.at kR (by omega)
        have kI := fr1.at kI (by omega)
        have kB := fr1.at kB (by omega)
        have w3 := fr1.at w3 (by omega)
        have fr2 : FrI 268 1 M1 M1 := FrI.rf
        refine p_aload_n (i := 15) rfl rfl ?_
        refine p_getf (i := 16) rfl fX9_25 kR rfl ?_
        refine p_iload_n (i := 17) rfl rfl ?_
        refine p_aaX (i := 18) (1) rfl kI (by omega) (by omega) (by omega) (by decide) gi1 ?_
        refine p_aload_n (i := 19) rfl rfl ?_
        refine p_getf (i := 20) rfl fX9_74 kR rfl ?_
        refine p_puti (i := 21) rfl gX9_307 kB rfl (P_gen fun M e => ?_)
        have kR := aupN e kR (by omega)
        have kI := aupN e kI (by omega)
        have w3 := aupN e w3 (by omega)
        have fr2 := fr2.up e (by omega)
        have kB := aupE e
        refine p_aload_n (i := 22) rfl rfl ?_
        refine p_getf (i := 23) rfl fX9_25 kR rfl ?_
        refine p_iload_n (i := 24) rfl rfl ?_
        refine p_aaX (i := 25) (1) rfl kI (by omega) (by omega) (by omega) (by decide) gi1 ?_
        refine p_iconst (i := 26) rfl ?_
        refine p_putz (i := 27) rfl gX9_101 kB (by omega) rfl (P_gen fun M e => ?_)
        have kR := aupN e kR (by omega)
        have kI := aupN e kI (by omega)
        have w3 := aupN e w3 (by omega)
        have fr2 := fr2.up e (by omega)
        have kB := aupE e
        refine p_aload_n (i := 28) rfl rfl ?_
        refine p_getf (i := 29) rfl fX9_19 kR rfl ?_
        have hHi1 := (hHi.fi fr1 (by omega)).fi fr2 (by omega)
        refine p_cV0 (i := 30) rfl ⟨lX9_98, rfl, rfl⟩ w3 ⟨_, rfl, rfl⟩ rfl (x_histForget (ns' := nS ln) (nw' := nW ln) hHi1 (fun M3 hHi3 fr3 => ?_))
        refine p_iconst (i := 31) rfl ?_
        refine p_iret (i := 32) rfl rfl (rfl) ?_
        have fr : FrI 0 276 M1 M3 := (fr2.weak (by omega)).tr (fr3.weak (by omega))
        refine h M3 ⟨la, sa, (((hRt.fi fr1 (by omega)).fi fr2 (by omega)).fi fr3 (by omega)), (((hRd.fi fr1 (by omega)).fi fr2 (by omega)).fi fr3 (by omega)), hHi3, (((hIr.fi fr1 (by omega)).fi fr2 (by omega)).fi fr3 (by omega)), (((hI0.fi fr1 (by omega)).fi fr2 (by omega)).fi fr3 (by omega)), ?_, (((hPa.fi fr1 (by omega)).fi fr2 (by omega)).fi fr3 (by omega)), (((hTr.fi fr1 (by omega)).fi fr2 (by omega)).fi fr3 (by omega)), (((hTu.fi fr1 (by omega)).fi fr2 (by omega)).fi fr3 (by omega)), (((hMe.fi fr1 (by omega)).fi fr2 (by omega)).fi fr3 (by omega)), (((hBo.fi fr1 (by omega)).fi fr2 (by omega)).fi fr3 (by omega)), (((hLi.fi fr1 (by omega)).fi fr2 (by omega)).fi fr3 (by omega)), (((hLs.fi fr1 (by omega)).fi fr2 (by omega)).fi fr3 (by omega)), b1, b2, b3, b4, b5, b6, b7⟩ ((fr1.weak (by omega)).tr fr)
        exact ⟨((hP1.fi fr2 (by omega)).fi fr3 (by omega)).r, sd, 1, fr3.at kB (by omega), rfl, rfl, b2, b3, (hP1.fi fr2 (by omega)).fi fr3 (by omega), b1⟩
    · rw [if_pos (by omega)] at h
      refine p_ldc (i := 5) rfl kX9_158 ?_
      refine p_iret (i := 6) rfl rfl (rfl) ?_
      exact h M hX FrI.rf
theorem X_goBack {M : AM} {tx : List Int} {fa : Int} {ln : LN} {g : GS} {un : List GS} {i0 i1 : Option (GS × Int)} {sd : Int} {me bo : List (Int × Int)} {i : Int} {Q : Option Value → AM → Prop} (hX : XW M (tx, fa, ln, g, un, i0, i1, sd, me, bo)) (hi : -2147483648 ≤ i ∧ i ≤ 2147483647) (h : ∀ M', XW M' (a_goBack (tx, fa, ln, g, un, i0, i1, sd, me, bo) i).2 → FrI 0 276 M M' → Q (some (zI (a_goBack (tx, fa, ln, g, un, i0, i1, sd, me, bo) i).1)) M') : C mX9_goBack [.ref 0, zI i] M Q := by
  dsimp only [a_goBack] at h
  obtain ⟨la, sa, hRt, hRd, hHi, hIr, hI0, hI1, hPa, hTr, hTu, hMe, hBo, hLi, hLs, b1, b2, b3, b4, b5, b6, b7⟩ := id hX
  obtain ⟨kR, hla⟩ := id hRt
  refine C_of okX9_goBack (by decide) (Nat.le_of_ble_eq_true rfl) ?_
  show P none mX9_goBack 0 [.ref 0, zI i] [] _ _
  refine p_iload_n (i := 0) rfl rfl ?_
  refine p_if_lt (i := 1) 9 rfl (by decide) (by omega) (fun c1 => ?_) (fun c1 => ?_)
  · rw [if_pos (by omega)] at h
    refine p_ldc (i := 5) rfl kX9_158 ?_
    refine p_iret (i := 6) rfl rfl (rfl) ?_
    exact h M hX FrI.rf
  · refine p_iload_n (i := 2) rfl rfl ?_
    refine p_iconst (i := 3) rfl ?_
    refine p_icmp_lt (i := 4) 12 rfl (by decide) (by omega) (by omega) (fun c6 => ?_) (fun c6 => ?_)
    · rw [if_neg (by omega)] at h
      rcases (show i = 0 ∨ i = 1 by omega) with rfl | rfl
      · rw [if_pos rfl] at h
        obtain ⟨gi, kI, gi0, gi1⟩ := id hIr
        obtain ⟨hIp, s0, k0, kB, hIm⟩ := id hI0
        obtain ⟨sc0, wh0, st0, hs0, lr0, lf0, lz0, n0, w0, y0, ⟨kp, kS, kW, kT, kH, kG, kQ⟩, r1, r2, r3, r4⟩ := id hPa.r
        obtain ⟨v4, vg, vs, w3, w4, v5⟩ := id hHi
        obtain ⟨kR, hla⟩ := id hRt
        refine p_aload_n (i := 7) rfl rfl ?_
        refine p_getf (i := 8) rfl fX9_25 kR rfl ?_
        refine p_iload_n (i := 9) rfl rfl ?_
        refine p_aaX (i := 10) (0) rfl kI (by omega) (by omega) (by omega) (by decide) gi0 ?_
        refine p_getf (i := 11) rfl fX9_101 kB rfl ?_
        cases i0 with
        | none =>
          have hIm : k0 = 0 := hIm
          refine p_if_ne (i := 12) 27 rfl (by decide) (by omega) (fun c21 => by exfalso; omega) (fun c21 => ?_)
          refine p_ldc (i := 13) rfl kX9_220 ?_
          refine p_iret (i := 14) rfl rfl (rfl) ?_
          exact h M hX FrI.rf
        | some q =>
          obtain ⟨p1, p2, p3, p4, p5, p6⟩ := hIm
          refine p_if_ne (i := 12) 27 rfl (by decide) (by omega) (fun c21 => ?_) (fun c21 => by exfalso; omega)
          refine p_aload_n (i := 15) rfl rfl ?_
          refine p_getf (i := 16) rfl fX9_32 kR rfl ?_
          refine p_aload_n (i := 17) rfl rfl ?_
          refine p_getf (i := 18) rfl fX9_25 kR rfl ?_
          refine p_iload_n (i := 19) rfl rfl ?_
          refine p_aaX (i := 20) (0) rfl kI (by omega) (by omega) (by omega) (by decide) gi0 ?_
          refine p_getf (i := 21) rfl fX9_303 kB rfl ?_
          refine p_cV1 (i := 22) rfl ⟨lX9_304, rfl, rfl⟩ kp ⟨_, rfl, rfl⟩ rfl (x_copyAll hPa.r p5 (by omega) (fun M1 hP1 fr1 => ?_))
          have kR := fr1.at kR (by omega)
          have kI := fr1.at kI (by omega)
          have kB := fr1.at kB (by omega)
          have w3 := fr1.at w3 (by omega)
          have fr2 : FrI 0 1 M1 M1 := FrI.rf
          refine p_aload_n (i := 23) rfl rfl ?_
          refine p_aload_n (i := 24) rfl rfl ?_
          refine p_getf (i := 25) rfl fX9_25 kR rfl ?_
          refine p_iload_n (i := 26) rfl rfl ?_
          refine p_aaX (i := 27) (0) rfl kI (by omega) (by omega) (by omega) (by decide) gi0 ?_
          refine p_getf (i := 28) rfl fX9_307 kB rfl ?_
          refine p_puti (i := 29) rfl gX9_74 kR rfl (P_gen fun M e => ?_)
          have kI := aupN e kI (by omega)
          have kB := aupN e kB (by omega)
          have w3 := aupN e w3 (by omega)
          have fr2 := fr2.up e (by omega)
          have kR := aupE e
          refine p_aload_n (i := 30) rfl rfl ?_
          refine p_getf (i := 31) rfl fX9_19 kR rfl ?_
          have hHi1 := (hHi.fi fr1 (by omega)).fi fr2 (by omega)
          refine p_cV0 (i := 32) rfl ⟨lX9_98, rfl, rfl⟩ w3 ⟨_, rfl, rfl⟩ rfl (x_histForget (ns' := nS ln) (nw' := nW ln) hHi1 (fun M3 hHi3 fr3 => ?_))
          refine p_iconst (i := 33) rfl ?_
          refine p_iret (i := 34) rfl rfl (rfl) ?_
          have fr : FrI 0 276 M1 M3 := (fr2.weak (by omega)).tr (fr3.weak (by omega))
          rw [p2] at kR
          have hRt3 : XRt M3 la sa fa q.2 := ⟨fr3.at kR (by omega), hla⟩
          exact h M3 ⟨la, sa, hRt3, (((hRd.fi fr1 (by omega)).fi fr2 (by omega)).fi fr3 (by omega)), hHi3, (((hIr.fi fr1 (by omega)).fi fr2 (by omega)).fi fr3 (by omega)), (((hI0.fi fr1 (by omega)).fi fr2 (by omega)).fi fr3 (by omega)), (((hI1.fi fr1 (by omega)).fi fr2 (by omega)).fi fr3 (by omega)), (hP1.fi fr2 (by omega)).fi fr3 (by omega), (((hTr.fi fr1 (by omega)).fi fr2 (by omega)).fi fr3 (by omega)), (((hTu.fi fr1 (by omega)).fi fr2 (by omega)).fi fr3 (by omega)), (((hMe.fi fr1 (by omega)).fi fr2 (by omega)).fi fr3 (by omega)), (((hBo.fi fr1 (by omega)).fi fr2 (by omega)).fi fr3 (by omega)), (((hLi.fi fr1 (by omega)).fi fr2 (by omega)).fi fr3 (by omega)), (((hLs.fi fr1 (by omega)).fi fr2 (by omega)).fi fr3 (by omega)), p6, p3, p4, b4, b5, b6, b7⟩ ((fr1.weak (by omega)).tr fr)
      · rw [if_neg (by decide)] at h
        obtain ⟨gi, kI, gi0, gi1⟩ := id hIr
        obtain ⟨hIp, s0, k0, kB, hIm⟩ := id hI1
        obtain ⟨sc0, wh0, st0, hs0, lr0, lf0, lz0, n0, w0, y0, ⟨kp, kS, kW, kT, kH, kG, kQ⟩, r1, r2, r3, r4⟩ := id hPa.r
        obtain ⟨v4, vg, vs, w3, w4, v5⟩ := id hHi
        obtain ⟨kR, hla⟩ := id hRt
        refine p_aload_n (i := 7) rfl rfl ?_
        refine p_getf (i := 8) rfl fX9_25 kR rfl ?_
        refine p_iload_n (i := 9) rfl rfl ?_
        refine p_aaX (i := 10) (1) rfl kI (by omega) (by omega) (by omega) (by decide) gi1 ?_
        refine p_getf (i := 11) rfl fX9_101 kB rfl ?_
        cases i1 with
        | none =>
          have hIm : k0 = 0 := hIm
          refine p_if_ne (i := 12) 27 rfl (by decide) (by omega) (fun c21 => by exfalso; omega) (fun c21 => ?_)
          refine p_ldc (i := 13) rfl kX9_220 ?_
          refine p_iret (i := 14) rfl rfl (rfl) ?_
          exact h M hX FrI.rf
        | some q =>
          obtain ⟨p1, p2, p3, p4, p5, p6⟩ := hIm
          refine p_if_ne (i := 12) 27 rfl (by decide) (by omega) (fun c21 => ?_) (fun c21 => by exfalso; omega)
          refine p_aload_n (i := 15) rfl rfl ?_
          refine p_getf (i := 16) rfl fX9_32 kR rfl ?_
          refine p_aload_n (i := 17) rfl rfl ?_
          refine p_getf (i := 18) rfl fX9_25 kR rfl ?_
          refine p_iload_n (i := 19) rfl rfl ?_
          refine p_aaX (i := 20) (1) rfl kI (by omega) (by omega) (by omega) (by decide) gi1 ?_
          refine p_getf (i := 21) rfl fX9_303 kB rfl ?_
          refine p_cV1 (i := 22) rfl ⟨lX9_304, rfl, rfl⟩ kp ⟨_, rfl, rfl⟩ rfl (x_copyAll hPa.r p5 (by omega) (fun M1 hP1 fr1 => ?_))
          have kR := fr1.at kR (by omega)
          have kI := fr1.at kI (by omega)
          have kB := fr1.at kB (by omega)
          have w3 := fr1.at w3 (by omega)
          have fr2 : FrI 0 1 M1 M1 := FrI.rf
          refine p_aload_n (i := 23) rfl rfl ?_
          refine p_aload_n (i := 24) rfl rfl ?_
          refine p_getf (i := 25) rfl fX9_25 kR rfl ?_
          refine p_iload_n (i := 26) rfl rfl ?_
          refine p_aaX (i := 27) (1) rfl kI (by omega) (by omega) (by omega) (by decide) gi1 ?_
          refine p_getf (i := 28) rfl fX9_307 kB rfl ?_
          refine p_puti (i := 29) rfl gX9_74 kR rfl (P_gen fun M e => ?_)
          have kI := aupN e kI (by omega)
          have kB := aupN e kB (by omega)
          have w3 := aupN e w3 (by omega)
          have fr2 := fr2.up e (by omega)
          have kR := aupE e
          refine p_aload_n (i := 30) rfl rfl ?_
          refine p_getf (i := 31) rfl fX9_19 kR rfl ?_
          have hHi1 := (hHi.fi fr1 (by omega)).fi fr2 (by omega)
          refine p_cV0 (i := 32) rfl ⟨lX9_98, rfl, rfl⟩ w3 ⟨_, rfl, rfl⟩ rfl (x_histForget (ns' := nS ln) (nw' := nW ln) hHi1 (fun M3 hHi3 fr3 => ?_))
          refine p_iconst (i := 33) rfl ?_
          refine p_iret (i := 34) rfl rfl (rfl) ?_
          have fr : FrI 0 276 M1 M3 := (fr2.weak (by omega)).tr (fr3.weak (by omega))
          rw [p2] at kR
          have hRt3 : XRt M3 la sa fa q.2 := ⟨fr3.at kR (by omega), hla⟩
          exact h M3 ⟨la, sa, hRt3, (((hRd.fi fr1 (by omega)).fi fr2 (by omega)).fi fr3 (by omega)), hHi3, (((hIr.fi fr1 (by omega)).fi fr2 (by omega)).fi fr3 (by omega)), (((hI0.fi fr1 (by omega)).fi fr2 (by omega)).fi fr3 (by omega)), (((hI1.fi fr1 (by omega)).fi fr2 (by omega)).fi fr3 (by omega)), (hP1.fi fr2 (by omega)).fi fr3 (by omega), (((hTr.fi fr1 (by omega)).fi fr2 (by omega)).fi fr3 (by omega)), (((hTu.fi fr1 (by omega)).fi fr2 (by omega)).fi fr3 (by omega)), (((hMe.fi fr1 (by omega)).fi fr2 (by omega)).fi fr3 (by omega)), (((hBo.fi fr1 (by omega)).fi fr2 (by omega)).fi fr3 (by omega)), (((hLi.fi fr1 (by omega)).fi fr2 (by omega)).fi fr3 (by omega)), (((hLs.fi fr1 (by omega)).fi fr2 (by omega)).fi fr3 (by omega)), p6, p3, p4, b4, b5, b6, b7⟩ ((fr1.weak (by omega)).tr fr)
    · rw [if_pos (by omega)] at h
      refine p_ldc (i := 5) rfl kX9_158 ?_
      refine p_iret (i := 6) rfl rfl (rfl) ?_
      exact h M hX FrI.rf
end
section
/-! ===== how the reference holds the state ===== -/
def YLay (f : Nat → Int) (Ls : List LY) : Prop := f 0 = (Ls.length : Nat) ∧ ∀ k, k < Ls.length → f (1 + k) = lS Ls k ∧ f (11 + k) = lW Ls k ∧ f (21 + k) = lT Ls k
def YRst (f : Nat → Int) (r : Int × Int × List Int × List (Int × Int × Int × Int)) : Prop := f 31 = r.1 ∧ f 32 = r.2.1 ∧ (∀ j, j < 6 → f (33 + j) = r.2.2.1.getD j 0) ∧ f 39 = (r.2.2.2.length : Nat) ∧ ∀ i, i < r.2.2.2.length → f (40 + 4 * i) = (r.2.2.2.getD i (0, 0, 0, 0)).1 ∧ f (40 + 4 * i + 1) = (r.2.2.2.getD i (0, 0, 0, 0)).2.1 ∧ f (40 + 4 * i + 2) = (r.2.2.2.getD i (0, 0, 0, 0)).2.2.1 ∧ f (40 + 4 * i + 3) = (r.2.2.2.getD i (0, 0, 0, 0)).2.2.2
def YG (f : Nat → Int) (g : GS) : Prop := YLay f g.1 ∧ YRst f g.2
def YLn (f : Nat → Int) (ln : LN) : Prop := f 0 = ln.1 ∧ f 1 = (nS ln : Nat) ∧ f 2 = (nW ln : Nat) ∧ (∀ x, x < nS ln → f (3 + x) = kd ln x ∧ f (11 + x) = br ln x) ∧ ∀ w, w < nW ln → f (19 + w) = (lkN ln w : Nat) ∧ ∀ j, j < lkN ln w → f (25 + 6 * w + j) = lk ln w j
/-- the object of the reference: its arrays in their places -/
def YH (M : AM) : Prop := ∃ (u sd sz fa mm bm a bg sg fg vl wr : Int), M 276 = some (zO 10 [.ref 277, .ref 278, .ref 279, .ref 280, .ref 281, zI u, .ref 282, .ref 283, zJ sd, .ref 284, zI sz, zI fa, .ref 285, zI mm, .ref 286, zI bm, zI a, zI bg, zI sg, zI fg, zI vl, zI wr, .ref 287])
/-- its line -/
def YL (M : AM) (ln : LN) : Prop := YH M ∧ LnOk ln ∧ ∃ f, M 277 = some (zA 61 f) ∧ YLn f ln
theorem YL.fi {M M' : AM} {ln : LN} {a n : Nat} (h : YL M ln) (hf : FrI a n M M') (hd : 278 ≤ a ∨ a + n ≤ 276) : YL M' ln := by
  obtain ⟨⟨u, sd, sz, fa, mm, bm, x, bg, sg, fg, vl, wr, h1⟩, h2, f, h3, h4⟩ := h
  exact ⟨⟨u, sd, sz, fa, mm, bm, x, bg, sg, fg, vl, wr, hf.at h1 (by omega)⟩, h2, f, hf.at h3 (by omega), h4⟩
/-- one of its rows of a pair's state -/
def YA (M : AM) (t : Nat) (ns nw : Nat) (g : GS) : Prop := GOk ns nw g ∧ ∃ f, M t = some (zA 120 f) ∧ YG f g
theorem YA.fi {M M' : AM} {t ns nw : Nat} {g : GS} {a n : Nat} (h : YA M t ns nw g) (hf : FrI a n M M') (hd : t < a ∨ a + n ≤ t) : YA M' t ns nw g := by
  obtain ⟨h1, f, h2, h3⟩ := h
  exact ⟨h1, f, hf.at h2 (by omega), h3⟩
/-- the layers of a row, on their way -/
def Sh (f f1 : Nat → Int) (k j : Nat) : Prop := ∀ q, f1 q = if (1 + k ≤ q ∧ q < 1 + j) ∨ (11 + k ≤ q ∧ q < 11 + j) ∨ (21 + k ≤ q ∧ q < 21 + j) then f (q + 1) else f q
theorem Sh.rf {f : Nat → Int} {k : Nat} : Sh f f k k := fun q => by rw [if_neg (by omega)]
theorem Sh.step {f f1 : Nat → Int} {k j : Nat} (h : Sh f f1 k j) (hk : k ≤ j) (hj : j < 9) : Sh f (zup (zup (zup f1 (1 + j) (f1 (1 + j + 1))) (11 + j) (zup f1 (1 + j) (f1 (1 + j + 1)) (11 + j + 1))) (21 + j) (zup (zup f1 (1 + j) (f1 (1 + j + 1))) (11 + j) (zup f1 (1 + j) (f1 (1 + j + 1)) (11 + j + 1)) (21 + j + 1))) k (j + 1) := by
  intro q
  have e1 : f1 (1 + j + 1) = f (1 + j + 1) := by rw [h, if_neg (by omega)]
  have e2 : f1 (11 + j + 1) = f (11 + j + 1) := by rw [h, if_neg (by omega)]
  have e3 : f1 (21 + j + 1) = f (21 + j + 1) := by rw [h, if_neg (by omega)]
  by_cases c3 : q = 21 + j
  · subst c3
    rw [zup_e, zup_n (by omega), zup_n (by omega), e3, if_pos (by omega)]
  · rw [zup_n c3]
    by_cases c2 : q = 11 + j
    · subst c2
      rw [zup_e, zup_n (by omega), e2, if_pos (by omega)]
    · rw [zup_n c2]
      by_cases c1 : q = 1 + j
      · subst c1
        rw [zup_e, e1, if_pos (by omega)]
      · rw [zup_n c1, h]
        by_cases c : (1 + k ≤ q ∧ q < 1 + j) ∨ (11 + k ≤ q ∧ q < 11 + j) ∨ (21 + k ≤ q ∧ q < 21 + j)
        · rw [if_pos c, if_pos (by omega)]
        · rw [if_neg c, if_neg (by omega)]
theorem YLay.er {f f1 : Nat → Int} {Ls : List LY} {k : Nat} (h : YLay f Ls) (hk : k < Ls.length) (hl : Ls.length ≤ 10) (hs : Sh f f1 k (Ls.length - 1)) : YLay (zup f1 0 (f1 0 - 1)) (Ls.eraseIdx k) := by
  obtain ⟨h0, h1⟩ := h
  have e0 : f1 0 = (Ls.length : Nat) := by rw [hs, if_neg (by omega)]; exact h0
  refine ⟨by rw [zup_e, er_len hk, e0]; omega, fun j hj => ?_⟩
  rw [er_len hk] at hj
  rw [zup_n (by omega), zup_n (by omega), zup_n (by omega), hs, hs, hs]
  unfold lS lW lT
  rw [er_getD]
  by_cases c : j < k
  · rw [if_pos c, if_neg (by omega), if_neg (by omega), if_neg (by omega)]
    exact h1 j (by omega)
  · rw [if_neg c, if_pos (by omega), if_pos (by omega), if_pos (by omega)]
    have := h1 (j + 1) (by omega)
    rw [show 1 + (j + 1) = 1 + j + 1 by omega, show 11 + (j + 1) = 11 + j + 1 by omega, show 21 + (j + 1) = 21 + j + 1 by omega] at this
    exact this
theorem YRst.keep {f f1 : Nat → Int} {r : Int × Int × List Int × List (Int × Int × Int × Int)} (h : YRst f r) (hl : r.2.2.2.length ≤ 20) (he : ∀ q, 31 ≤ q → f1 q = f q) : YRst f1 r := by
  obtain ⟨a1, a2, a3, a4, a5⟩ := h
  refine ⟨by rw [he _ (by omega)]; exact a1, by rw [he _ (by omega)]; exact a2, fun j hj => by rw [he _ (by omega)]; exact a3 j hj, by rw [he _ (by omega)]; exact a4, fun i hi => ?_⟩
  rw [he _ (by omega), he _ (by omega), he _ (by omega), he _ (by omega)]
  exact a5 i hi
theorem Sh.hi {f f1 : Nat → Int} {k j : Nat} (h : Sh f f1 k j) (hj : j ≤ 9) : ∀ q, 31 ≤ q → f1 q = f q := fun q hq => by rw [h, if_neg (by omega)]
theorem YLay.app {f : Nat → Int} {Ls : List LY} {x w t : Int} (h : YLay f Ls) (hl : Ls.length < 10) (f1 : Nat → Int) (h1 : f1 (1 + Ls.length) = x) (h2 : f1 (11 + Ls.length) = w) (h3 : f1 (21 + Ls.length) = t) (h4 : f1 0 = (Ls.length : Nat) + 1) (ho : ∀ q, q ≠ 0 → q ≠ 1 + Ls.length → q ≠ 11 + Ls.length → q ≠ 21 + Ls.length → f1 q = f q) : YLay f1 (Ls ++ [(x, w, t)]) := by
  refine ⟨by rw [h4]; simp, fun j hj => ?_⟩
  rw [List.length_append] at hj
  have hj : j < Ls.length + 1 := by simpa using hj
  unfold lS lW lT
  rw [gd_app hj]
  by_cases c : j = Ls.length
  · subst c
    rw [if_pos rfl]
    exact ⟨h1, h2, h3⟩
  · rw [if_neg c, ho _ (by omega) (by omega) (by omega) (by omega), ho _ (by omega) (by omega) (by omega) (by omega), ho _ (by omega) (by omega) (by omega) (by omega)]
    exact h.2 j (by omega)
theorem YLay.setT {f f1 : Nat → Int} {Ls : List LY} {k : Nat} {t : Int} (h : YLay f Ls) (hk : k < Ls.length) (hl : Ls.length ≤ 10) (h1 : f1 (21 + k) = t) (ho : ∀ q, q ≠ 21 + k → f1 q = f q) : YLay f1 (Ls.set k (lS Ls k, lW Ls k, t)) := by
  refine ⟨by rw [ho _ (by omega), List.length_set]; exact h.1, fun j hj => ?_⟩
  rw [List.length_set] at hj
  obtain ⟨a1, a2, a3⟩ := h.2 j hj
  unfold lS at a1
  unfold lW at a2
  unfold lT at a3
  unfold lS lW lT
  rw [st_getD _ _ _ _ _ hk]
  by_cases e : j = k
  · subst e
    rw [if_pos rfl, ho _ (by omega), ho _ (by omega), h1]
    exact ⟨a1, a2, rfl⟩
  · rw [if_neg e, ho _ (by omega), ho _ (by omega), ho _ (by omega)]
    exact ⟨a1, a2, a3⟩
/-- the reference's own choice of a layer -/
def tbStep (Ls : List LY) (wi : Nat) (hf : Int) (k : Nat) (c : Int) : Int := if (wi / 2 ^ k % 2 = 0 ∧ hf < lT Ls k) ∧ (c = -1 ∨ lT Ls c.toNat ≤ lT Ls k) then (k : Int) else c
theorem tb_sb {Ls : List LY} {wi : Nat} {hf : Int} (h : ∀ k, k < Ls.length → 0 ≤ lT Ls k) : ∀ f, f ≤ Ls.length → ∀ b m c, fo (sbStep Ls wi) f 0 (-1, 0) = (b, m) → fo (tbStep Ls wi hf) f 0 (-1) = c → (b = -1 ∧ m = 0 ∧ c = -1) ∨ (0 ≤ b ∧ b < f ∧ m = lT Ls b.toNat ∧ (if hf < m then c = b else c = -1))
  | 0, _, b, m, c, h1, h2 => by
    left
    have h1 : ((-1 : Int), (0 : Int)) = (b, m) := h1
    have h2 : (-1 : Int) = c := h2
    cases h1
    exact ⟨rfl, rfl, h2.symm⟩
  | f + 1, hl, b, m, c, h1, h2 => by
    rw [fo_last, Nat.zero_add] at h1 h2
    obtain ⟨⟨b0, m0⟩, e1⟩ : ∃ s, s = fo (sbStep Ls wi) f 0 (-1, 0) := ⟨_, rfl⟩
    obtain ⟨c0, e2⟩ : ∃ s, s = fo (tbStep Ls wi hf) f 0 (-1) := ⟨_, rfl⟩
    have ih := tb_sb h f (by omega) b0 m0 c0 e1.symm e2.symm
    rw [← e1] at h1
    rw [← e2] at h2
    have hT := h f (by omega)
    unfold sbStep at h1
    unfold tbStep at h2
    dsimp only at h1
    by_cases g : wi / 2 ^ f % 2 = 0
    · rcases ih with ⟨i1, i2, i3⟩ | ⟨i1, i2, i3, i4⟩
      · rw [if_pos ⟨g, by omega⟩] at h1
        cases h1
        right
        refine ⟨by omega, by omega, by rw [Int.toNat_natCast], ?_⟩
        by_cases hh : hf < lT Ls f
        · rw [if_pos hh, ← h2, if_pos ⟨⟨g, hh⟩, Or.inl i3⟩]
        · rw [if_neg hh, ← h2, if_neg (fun z => hh z.1.2)]; exact i3
      · right
        by_cases hm : m0 ≤ lT Ls f
        · rw [if_pos ⟨g, hm⟩] at h1
          cases h1
          refine ⟨by omega, by omega, by rw [Int.toNat_natCast], ?_⟩
          by_cases hh : hf < lT Ls f
          · rw [if_pos hh, ← h2, if_pos]
            refine ⟨⟨g, hh⟩, ?_⟩
            by_cases h5 : hf < m0
            · rw [if_pos h5] at i4; rw [i4]; right; omega
            · rw [if_neg h5] at i4; exact Or.inl i4
          · rw [if_neg hh, ← h2, if_neg (fun z => hh z.1.2)]
            rw [if_neg (by omega)] at i4
            exact i4
        · rw [if_neg (fun z => hm z.2)] at h1
          cases h1
          refine ⟨i1, by omega, i3, ?_⟩
          by_cases hh : hf < m
          · rw [if_pos hh] at i4 ⊢
            rw [← h2, if_neg]
            · exact i4
            · rw [i4]
              intro z
              have := z.2
              omega
          · rw [if_neg hh] at i4 ⊢
            rw [← h2, if_neg]
            · exact i4
            · intro z
              have := z.1.2
              omega
    · rw [if_neg (fun z => g z.1)] at h1
      rw [if_neg (fun z => g z.1.1)] at h2
      cases h1
      subst h2
      rcases ih with ih | ⟨i1, i2, i3, i4⟩
      · exact Or.inl ih
      · exact Or.inr ⟨i1, by omega, i3, i4⟩
theorem tb_tk {ln : LN} {Ls : List LY} {x more : Int} {wi : Nat} (h : ∀ k, k < Ls.length → 0 ≤ lT Ls k) : (if fo (tbStep Ls wi (veil ln x more)) Ls.length 0 (-1) = -1 then x else lS Ls (fo (tbStep Ls wi (veil ln x more)) Ls.length 0 (-1)).toNat) = tk ln Ls x more wi := by
  obtain ⟨⟨b, m⟩, e1⟩ : ∃ s, s = fo (sbStep Ls wi) Ls.length 0 (-1, 0) := ⟨_, rfl⟩
  obtain ⟨c, e2⟩ : ∃ s, s = fo (tbStep Ls wi (veil ln x more)) Ls.length 0 (-1) := ⟨_, rfl⟩
  have hs : sb Ls wi = b := by unfold sb; rw [← e1]
  unfold tk
  rw [hs, ← e2]
  rcases tb_sb h Ls.length (Nat.le_refl _) b m c e1.symm e2.symm with ⟨i1, i2, i3⟩ | ⟨i1, i2, i3, i4⟩
  · rw [if_pos i3, if_neg (by omega)]
  · rw [i3] at i4
    by_cases hh : veil ln x more < lT Ls b.toNat
    · rw [if_pos hh] at i4
      rw [if_neg (by omega), if_pos ⟨i1, hh⟩, i4]
    · rw [if_neg hh] at i4
      rw [if_pos i4, if_neg (fun z => hh z.2)]
end
section
-- the reference: small methods
theorem y_in {M : AM} {v a c : Int} {Q : Option Value → AM → Prop} (hv : -2147483648 ≤ v ∧ v ≤ 2147483647) (ha : -2147483648 ≤ a ∧ a ≤ 2147483647) (hc : -2147483648 ≤ c ∧ c ≤ 2147483647) (h1 : a ≤ v ∧ v ≤ c → Q (some (zI 1)) M) (h0 : ¬ (a ≤ v ∧ v ≤ c) → Q (some (zI 0)) M) : C mX10_in [zJ v, zJ a, zJ c] M Q := by
  have e1 : (cmpZ v a < 0 ↔ v < a) ∧ -1 ≤ cmpZ v a ∧ cmpZ v a ≤ 1 := by unfold cmpZ; split <;> (try split) <;> omega
  have e2 : (0 < cmpZ v c ↔ c < v) ∧ -1 ≤ cmpZ v c ∧ cmpZ v c ≤ 1 := by unfold cmpZ; split <;> (try split) <;> omega
  refine C_of okX10_in (by decide) (Nat.le_of_ble_eq_true rfl) ?_
  show P none mX10_in 0 [zJ v, .retAddr 0, zJ a, .retAddr 0, zJ c, .retAddr 0] [] _ _
  refine p_lload_n (i := 0) rfl rfl ?_
  refine p_lload_n (i := 1) rfl rfl ?_
  refine p_lcmp (i := 2) rfl (by omega) (by omega) ?_
  refine p_if_lt (i := 3) 17 rfl (by decide) (by omega) (fun c3 => ?_) (fun c3 => ?_)
  · refine p_iconst (i := 10) rfl ?_
    refine p_iret (i := 11) rfl rfl (by decide) ?_
    exact h0 (by omega)
  · refine p_lload_n (i := 4) rfl rfl ?_
    refine p_lload (i := 5) rfl rfl ?_
    refine p_lcmp (i := 6) rfl (by omega) (by omega) ?_
    refine p_if_gt (i := 7) 17 rfl (by decide) (by omega) (fun c10 => ?_) (fun c10 => ?_)
    · refine p_iconst (i := 10) rfl ?_
      refine p_iret (i := 11) rfl rfl (by decide) ?_
      exact h0 (by omega)
    · refine p_iconst (i := 8) rfl ?_
      refine p_goto (i := 9) 18 rfl (by decide) ?_
      refine p_iret (i := 11) rfl rfl (by decide) ?_
      exact h1 (by omega)
theorem y_has {M : AM} {set i : Nat} {Q : Option Value → AM → Prop} (hs : set < 2147483648) (hi : i < 32) (h : Q (some (zI ((set / 2 ^ i % 2 : Nat) : Int))) M) : C mX10_has [zI (set : Int), zI (i : Int)] M Q := by
  have e : set / 2 ^ i % 2 = 0 ∨ set / 2 ^ i % 2 = 1 := by omega
  refine C_of okX10_has (by decide) (Nat.le_of_ble_eq_true rfl) ?_
  show P none mX10_has 0 [zI (set : Int), zI (i : Int)] [] _ _
  refine p_iload_n (i := 0) rfl rfl ?_
  refine p_iload_n (i := 1) rfl rfl ?_
  refine p_ishrN (i := 2) rfl (by omega) (by omega) ?_
  refine p_iconst (i := 3) rfl ?_
  refine p_iand1 (i := 4) rfl ?_
  refine p_iconst (i := 5) rfl ?_
  refine p_icmp_ne (i := 6) 13 rfl (by decide) (by omega) (by omega) (fun c6 => ?_) (fun c6 => ?_)
  · refine p_iconst (i := 9) rfl ?_
    refine p_iret (i := 10) rfl rfl (by decide) ?_
    rw [show set / 2 ^ i % 2 = 0 by omega] at h
    exact h
  · refine p_iconst (i := 7) rfl ?_
    refine p_goto (i := 8) 14 rfl (by decide) ?_
    refine p_iret (i := 10) rfl rfl (by decide) ?_
    rw [show set / 2 ^ i % 2 = 1 by omega] at h
    exact h
theorem bits_dec : ∀ n : Fin 1024, n.val ≠ 0 → (n.val &&& (n.val - 1)) < n.val ∧ popc (n.val &&& (n.val - 1)) + 1 = popc n.val := by decide +kernel
theorem y_bits {M : AM} {n : Nat} {Q : Option Value → AM → Prop} (hn : n < 1024) (h : Q (some (zI (popc n : Nat))) M) : C mX10_bits [zI (n : Int)] M Q := by
  have hp0 : popc 0 = 0 := by decide
  have loop : ∀ (f : Nat) (m c : Nat), m ≤ f → m < 1024 → c + popc m = popc n → P none mX10_bits 4 [zI (n : Int), zI (c : Int), zI (m : Int)] []  M Q := by
    intro f
    induction f with
    | zero =>
      intro m c hf hm hc
      obtain rfl : m = 0 := by omega
      refine p_iload_n (i := 4) rfl rfl ?_
      refine p_if_eq (i := 5) 20 rfl (by decide) (by omega) (fun c5 => ?_) (fun c5 => by exfalso; omega)
      refine p_iload_n (i := 14) rfl rfl ?_
      refine p_iret (i := 15) rfl rfl (rfl) ?_
      rw [show c = popc n by omega]
      exact h
    | succ f ih =>
      intro m c hf hm hc
      have hpl := popc_le n
      refine p_iload_n (i := 4) rfl rfl ?_
      refine p_if_eq (i := 5) 20 rfl (by decide) (by omega) (fun c5 => ?_) (fun c5 => ?_)
      · refine p_iload_n (i := 14) rfl rfl ?_
        refine p_iret (i := 15) rfl rfl (rfl) ?_
        obtain rfl : m = 0 := by omega
        rw [show c = popc n by omega]
        exact h
      ·
        refine p_iinc (i := 6) rfl rfl rfl ?_
        refine p_iload_n (i := 7) rfl rfl ?_
        refine p_iload_n (i := 8) rfl rfl ?_
        refine p_iconst (i := 9) rfl ?_
        refine p_isub (i := 10) rfl ?_
        obtain ⟨b1, b2⟩ := bits_dec ⟨m, hm⟩ (by show m ≠ 0; omega)
        dsimp only at b1 b2
        refine p_top (b := ((m - 1 : Nat) : Int)) (by omega) ?_
        refine p_iandN (i := 11) rfl ?_
        refine p_istore_n (i := 12) rfl rfl ?_
        refine p_goto (i := 13) 4 rfl (by decide) ?_
        exact ih (m &&& (m - 1)) (c + 1) (by omega) (by omega) (by omega)
  refine C_of okX10_bits (by decide) (Nat.le_of_ble_eq_true rfl) ?_
  show P none mX10_bits 0 [zI (n : Int), .retAddr 0, .retAddr 0] [] _ _
  refine p_iconst (i := 0) rfl ?_
  refine p_istore_n (i := 1) rfl rfl ?_
  refine p_iload_n (i := 2) rfl rfl ?_
  refine p_istore_n (i := 3) rfl rfl ?_
  exact loop n n 0 (Nat.le_refl _) hn (by omega)
theorem y_lesser {M : AM} {a c : Int} {Q : Option Value → AM → Prop} (ha : -2147483648 ≤ a ∧ a ≤ 2147483647) (hc : -2147483648 ≤ c ∧ c ≤ 2147483647) (h : Q (some (zI (min a c))) M) : C mX10_lesser [zI a, zI c] M Q := by
  refine C_of okX10_lesser (by decide) (Nat.le_of_ble_eq_true rfl) ?_
  show P none mX10_lesser 0 [zI a, zI c] [] _ _
  refine p_iload_n (i := 0) rfl rfl ?_
  refine p_iload_n (i := 1) rfl rfl ?_
  refine p_icmp_ge (i := 2) 9 rfl (by decide) (by omega) (by omega) (fun c2 => ?_) (fun c2 => ?_)
  · refine p_iload_n (i := 5) rfl rfl ?_
    refine p_iret (i := 6) rfl rfl (rfl) ?_
    rw [show min a c = c by omega] at h
    exact h
  · refine p_iload_n (i := 3) rfl rfl ?_
    refine p_goto (i := 4) 10 rfl (by decide) ?_
    refine p_iret (i := 6) rfl rfl (rfl) ?_
    rw [show min a c = a by omega] at h
    exact h
theorem y_greater {M : AM} {a c : Int} {Q : Option Value → AM → Prop} (ha : -2147483648 ≤ a ∧ a ≤ 2147483647) (hc : -2147483648 ≤ c ∧ c ≤ 2147483647) (h : Q (some (zI (max a c))) M) : C mX10_greater [zI a, zI c] M Q := by
  refine C_of okX10_greater (by decide) (Nat.le_of_ble_eq_true rfl) ?_
  show P none mX10_greater 0 [zI a, zI c] [] _ _
  refine p_iload_n (i := 0) rfl rfl ?_
  refine p_iload_n (i := 1) rfl rfl ?_
  refine p_icmp_le (i := 2) 9 rfl (by decide) (by omega) (by omega) (fun c2 => ?_) (fun c2 => ?_)
  · refine p_iload_n (i := 5) rfl rfl ?_
    refine p_iret (i := 6) rfl rfl (rfl) ?_
    rw [show max a c = c by omega] at h
    exact h
  · refine p_iload_n (i := 3) rfl rfl ?_
    refine p_goto (i := 4) 10 rfl (by decide) ?_
    refine p_iret (i := 6) rfl rfl (rfl) ?_
    rw [show max a c = a by omega] at h
    exact h
theorem y_copies {M : AM} {o1 o2 n1 n2 i j m : Nat} {f g : Nat → Int} {Q : Option Value → AM → Prop} (k1 : M o1 = some (zA n1 f)) (k2 : M o2 = some (zA n2 g)) (hd : o1 ≠ o2) (hi : i + m ≤ n1) (hj : j + m ≤ n2) (hn : n1 < 100000 ∧ n2 < 100000) (h : ∀ M' g', M' o2 = some (zA n2 g') → (∀ q, g' q = if j ≤ q ∧ q < j + m then f (i + (q - j)) else g q) → FrI o2 1 M M' → Q none M') : C mX10_copies [.ref o1, zI (i : Int), .ref o2, zI (j : Int), zI (m : Int)] M Q := by
  have loop : ∀ (c k : Nat) (M1 : AM) (g1 : Nat → Int), k + c = m → M1 o1 = some (zA n1 f) → M1 o2 = some (zA n2 g1) → FrI o2 1 M M1 → (∀ q, g1 q = if j ≤ q ∧ q < j + k then f (i + (q - j)) else g q) → P none mX10_copies 3 [.ref o1, zI (i : Int), .ref o2, zI (j : Int), zI (m : Int), zI (k : Int)] []  M1 Q := by
    intro c
    induction c with
    | zero =>
      intro k M g1 hk k1 k2 fr hg
      refine p_iload (i := 2) rfl rfl ?_
      refine p_iload (i := 3) rfl rfl ?_
      refine p_icmp_ge (i := 4) 28 rfl (by decide) (by omega) (by omega) (fun c7 => ?_) (fun c7 => by exfalso; omega)
      refine p_ret (i := 17) rfl rfl ?_
      rw [show k = m by omega] at hg
      exact h M g1 k2 hg fr
    | succ c ih =>
      intro k M g1 hk k1 k2 fr hg
      refine p_iload (i := 2) rfl rfl ?_
      refine p_iload (i := 3) rfl rfl ?_
      refine p_icmp_ge (i := 4) 28 rfl (by decide) (by omega) (by omega) (fun c7 => by exfalso; omega) (fun c7 => ?_)
      have hn1 : n1 < 2147483648 := by omega
      have hn2 : n2 < 2147483648 := by omega
      refine p_aload_n (i := 5) rfl rfl ?_
      refine p_iload_n (i := 6) rfl rfl ?_
      refine p_iload (i := 7) rfl rfl ?_
      refine p_iadd (i := 8) rfl ?_
      refine p_aload_n (i := 9) rfl rfl ?_
      refine p_iload_n (i := 10) rfl rfl ?_
      refine p_iload (i := 11) rfl rfl ?_
      refine p_iadd (i := 12) rfl ?_
      refine p_iaX (i := 13) (i + k) rfl k1 (by omega) (by omega) hn1 ?_
      refine p_isX (i := 14) (j + k) rfl k2 (by omega) (by omega) hn2 (P_gen fun M e => ?_)
      have k1 := aupN e k1 (by omega)
      have fr := fr.up e (by omega)
      have k2 := aupE e
      refine p_iinc (i := 15) rfl rfl rfl ?_
      refine p_goto (i := 16) 3 rfl (by decide) ?_
      refine ih (k + 1) M _ (by omega) k1 k2 fr (fun q => ?_)
      by_cases c1 : q = j + k
      · rw [c1, zup_e, if_pos (by omega), show j + k - j = k by omega]
      · rw [zup_n c1, hg]
        by_cases c2 : j ≤ q ∧ q < j + k
        · rw [if_pos c2, if_pos (by omega)]
        · rw [if_neg c2, if_neg (by omega)]
  refine C_of okX10_copies (by decide) (Nat.le_of_ble_eq_true rfl) ?_
  show P none mX10_copies 0 [.ref o1, zI (i : Int), .ref o2, zI (j : Int), zI (m : Int), .retAddr 0] [] _ _
  refine p_iconst (i := 0) rfl ?_
  refine p_istore (i := 1) rfl rfl ?_
  exact loop m 0 M g (by omega) k1 k2 FrI.rf (fun q => by rw [if_neg (by omega)])
theorem y_half {M : AM} {ln : LN} {x c : Int} {Q : Option Value → AM → Prop} (hL : YL M ln) (hx : 0 ≤ x ∧ x < nS ln) (hc : 0 ≤ c ∧ c ≤ 1000) (h : Q (some (zI ((c + br ln x.toNat) / 2))) M) : C mX10_half [.ref 276, zI x, zI c] M Q := by
  obtain ⟨⟨uy, sy, zy, fy, my, by_, ay, gy, ny, hy_, vy, ry, kY⟩, ⟨o1, o2, o3, o4, o5, o6, o7⟩, lf, kL, l0, l1, l2, l3, l4⟩ := id hL
  obtain ⟨n1, n2, n3, n4⟩ := o5 x.toNat (by omega)
  obtain ⟨m1, m2⟩ := l3 x.toNat (by omega)
  refine C_of okX10_half (by decide) (Nat.le_of_ble_eq_true rfl) ?_
  show P none mX10_half 0 [.ref 276, zI x, zI c] [] _ _
  refine p_iload_n (i := 0) rfl rfl ?_
  refine p_aload_n (i := 1) rfl rfl ?_
  refine p_getf (i := 2) rfl fX10_7 kY rfl ?_
  refine p_bipush (i := 3) rfl (by decide) ?_
  refine p_iload_n (i := 4) rfl rfl ?_
  refine p_iadd (i := 5) rfl ?_
  refine p_iaX (i := 6) (11 + x.toNat) rfl kL (by omega) (by omega) (by decide) ?_
  refine p_iadd (i := 7) rfl ?_
  refine p_iconst (i := 8) rfl ?_
  refine p_idiv (i := 9) rfl (by omega) (by omega) ?_
  refine p_iret (i := 10) rfl rfl (rfl) ?_
  rw [m2]
  exact h
theorem y_takesBy {M : AM} {t : Nat} {ln : LN} {g : GS} {x c m : Int} {wi : Nat} {Q : Option Value → AM → Prop} (hL : YL M ln) (hA : YA M t (nS ln) (nW ln) g) (hx : 0 ≤ x ∧ x < nS ln) (hm : 0 ≤ m ∧ m ≤ 99) (hc : c = ln.1 + m) (hw : wi < 2147483648) (h : Q (some (zI (tk ln g.1 x m wi))) M) : C mX10_takesBy [.ref 276, .ref t, zI x, zI (wi : Int), zI c] M Q := by
  obtain ⟨⟨uy, sy, zy, fy, my, by_, ay, gy, ny, hy_, vy, ry, kY⟩, ⟨o1, o2, o3, o4, o5, o6, o7⟩, lf, kL, l0, l1, l2, l3, l4⟩ := id hL
  obtain ⟨⟨q1, q2, q3, q4, q5, q6, q7, q8, q9, q10, q11⟩, f, kT, ⟨t0, t1⟩, ⟨u1, u2, u3, u4, u5⟩⟩ := id hA
  have ev : veil ln x m = (c + br ln x.toNat) / 2 := by unfold veil; rw [hc]
  obtain ⟨n1, n2, n3, n4⟩ := o5 x.toNat (by omega)
  have loop : ∀ (f1 k : Nat) (b : Int) (v : Value), k + f1 = g.1.length → -1 ≤ b ∧ b < k → Q (some (zI (if fo (tbStep g.1 wi (veil ln x m)) f1 k b = -1 then x else lS g.1 (fo (tbStep g.1 wi (veil ln x m)) f1 k b).toNat))) M → P none mX10_takesBy 6 [.ref 276, .ref t, zI x, zI (wi : Int), zI c, zI b, zI (k : Int), v] []  M Q := by
    intro f1
    induction f1 with
    | zero =>
      intro k b v hk hb hq
      have hq : Q (some (zI (if b = -1 then x else lS g.1 b.toNat))) M := hq
      refine p_iload (i := 4) rfl rfl ?_
      refine p_aload_n (i := 5) rfl rfl ?_
      refine p_iconst (i := 6) rfl ?_
      refine p_iaX (i := 7) (0) rfl kT (by omega) (by omega) (by decide) ?_
      refine p_icmp_ge (i := 8) 90 rfl (by decide) (by omega) (by omega) (fun c11 => ?_) (fun c11 => by exfalso; omega)
      refine p_iload (i := 49) rfl rfl ?_
      refine p_iconst (i := 50) rfl ?_
      refine p_icmp_ne (i := 51) 100 rfl (by decide) (by omega) (by omega) (fun c93 => ?_) (fun c93 => ?_)
      · rw [if_neg c93] at hq
        obtain ⟨e1, e2, e3⟩ := t1 b.toNat (by omega)
        refine p_aload_n (i := 54) rfl rfl ?_
        refine p_iconst (i := 55) rfl ?_
        refine p_iload (i := 56) rfl rfl ?_
        refine p_iadd (i := 57) rfl ?_
        refine p_iaX (i := 58) (1 + b.toNat) rfl kT (by omega) (by omega) (by decide) ?_
        refine p_iret (i := 59) rfl rfl (rfl) ?_
        rw [e1]
        exact hq
      · rw [if_pos c93] at hq
        refine p_iload_n (i := 52) rfl rfl ?_
        refine p_goto (i := 53) 106 rfl (by decide) ?_
        refine p_iret (i := 59) rfl rfl (rfl) ?_
        exact hq
    | succ f1 ih =>
      intro k b v hk hb hq
      obtain ⟨e1, e2, e3⟩ := t1 k (by omega)
      have e4 := q2 k (by omega)
      have hq : Q (some (zI (if fo (tbStep g.1 wi (veil ln x m)) f1 (k + 1) (tbStep g.1 wi (veil ln x m) k b) = -1 then x else lS g.1 (fo (tbStep g.1 wi (veil ln x m)) f1 (k + 1) (tbStep g.1 wi (veil ln x m) k b)).toNat))) M := hq
      have e5 : wi / 2 ^ k % 2 < 2 := Nat.mod_lt _ (by decide)
      refine p_iload (i := 4) rfl rfl ?_
      refine p_aload_n (i := 5) rfl rfl ?_
      refine p_iconst (i := 6) rfl ?_
      refine p_iaX (i := 7) (0) rfl kT (by omega) (by omega) (by decide) ?_
      refine p_icmp_ge (i := 8) 90 rfl (by decide) (by omega) (by omega) (fun c11 => by exfalso; omega) (fun c11 => ?_)
      refine p_iload_n (i := 9) rfl rfl ?_
      refine p_iload (i := 10) rfl rfl ?_
      refine p_cS2 (i := 11) rfl ⟨lX10_125, rfl, rfl⟩ rfl (y_has hw (by omega) ?_)
      refine p_if_ne (i := 12) 44 rfl (by decide) (by omega) (fun c20 => ?_) (fun c20 => ?_)
      · have es : tbStep g.1 wi (veil ln x m) k b = b := by unfold tbStep; rw [if_neg (by omega)]
        rw [es] at hq
        refine p_iconst (i := 25) rfl ?_
        refine p_istore (i := 26) rfl rfl ?_
        refine p_iload (i := 27) rfl rfl ?_
        refine p_if_eq (i := 28) 80 rfl (by decide) (by omega) (fun c49 => ?_) (fun c49 => by exfalso; omega)
        refine p_iload (i := 45) rfl rfl ?_
        refine p_istore (i := 46) rfl rfl ?_
        refine p_iinc (i := 47) rfl rfl rfl ?_
        refine p_goto (i := 48) 6 rfl (by decide) ?_
        exact ih (k + 1) b _ (by omega) (by omega) hq
      · refine p_aload_n (i := 13) rfl rfl ?_
        refine p_bipush (i := 14) rfl (by decide) ?_
        refine p_iload (i := 15) rfl rfl ?_
        refine p_iadd (i := 16) rfl ?_
        refine p_iaX (i := 17) ((21 + k)) rfl kT (by omega) (by omega) (by decide) ?_
        refine p_aload_n (i := 18) rfl rfl ?_
        refine p_iload_n (i := 19) rfl rfl ?_
        refine p_iload (i := 20) rfl rfl ?_
        refine p_cV2 (i := 21) rfl ⟨lX10_129, rfl, rfl⟩ kY ⟨_, rfl, rfl⟩ rfl (y_half hL hx (by omega) ?_)
        rw [← ev]
        refine p_icmp_le (i := 22) 44 rfl (by decide) (by omega) (by omega) (fun c37 => ?_) (fun c37 => ?_)
        · have es : tbStep g.1 wi (veil ln x m) k b = b := by unfold tbStep; rw [if_neg (by omega)]
          rw [es] at hq
          refine p_iconst (i := 25) rfl ?_
          refine p_istore (i := 26) rfl rfl ?_
          refine p_iload (i := 27) rfl rfl ?_
          refine p_if_eq (i := 28) 80 rfl (by decide) (by omega) (fun c49 => ?_) (fun c49 => by exfalso; omega)
          refine p_iload (i := 45) rfl rfl ?_
          refine p_istore (i := 46) rfl rfl ?_
          refine p_iinc (i := 47) rfl rfl rfl ?_
          refine p_goto (i := 48) 6 rfl (by decide) ?_
          exact ih (k + 1) b _ (by omega) (by omega) hq
        · refine p_iconst (i := 23) rfl ?_
          refine p_goto (i := 24) 45 rfl (by decide) ?_
          refine p_istore (i := 26) rfl rfl ?_
          refine p_iload (i := 27) rfl rfl ?_
          refine p_if_eq (i := 28) 80 rfl (by decide) (by omega) (fun c49 => by exfalso; omega) (fun c49 => ?_)
          refine p_iload (i := 29) rfl rfl ?_
          refine p_iconst (i := 30) rfl ?_
          refine p_icmp_eq (i := 31) 75 rfl (by decide) (by omega) (by omega) (fun c55 => ?_) (fun c55 => ?_)
          · have es : tbStep g.1 wi (veil ln x m) k b = k := by unfold tbStep; rw [if_pos (by omega)]
            rw [es] at hq
            refine p_iload (i := 43) rfl rfl ?_
            refine p_goto (i := 44) 82 rfl (by decide) ?_
            refine p_istore (i := 46) rfl rfl ?_
            refine p_iinc (i := 47) rfl rfl rfl ?_
            refine p_goto (i := 48) 6 rfl (by decide) ?_
            exact ih (k + 1) _ _ (by omega) (by omega) hq
          · obtain ⟨d1, d2, d3⟩ := t1 b.toNat (by omega)
            have d4 := q2 b.toNat (by omega)
            refine p_aload_n (i := 32) rfl rfl ?_
            refine p_bipush (i := 33) rfl (by decide) ?_
            refine p_iload (i := 34) rfl rfl ?_
            refine p_iadd (i := 35) rfl ?_
            refine p_iaX (i := 36) ((21 + k)) rfl kT (by omega) (by omega) (by decide) ?_
            refine p_aload_n (i := 37) rfl rfl ?_
            refine p_bipush (i := 38) rfl (by decide) ?_
            refine p_iload (i := 39) rfl rfl ?_
            refine p_iadd (i := 40) rfl ?_
            refine p_iaX (i := 41) (21 + b.toNat) rfl kT (by omega) (by omega) (by decide) ?_
            refine p_icmp_lt (i := 42) 80 rfl (by decide) (by omega) (by omega) (fun c72 => ?_) (fun c72 => ?_)
            · have es : tbStep g.1 wi (veil ln x m) k b = b := by unfold tbStep; rw [if_neg (by omega)]
              rw [es] at hq
              refine p_iload (i := 45) rfl rfl ?_
              refine p_istore (i := 46) rfl rfl ?_
              refine p_iinc (i := 47) rfl rfl rfl ?_
              refine p_goto (i := 48) 6 rfl (by decide) ?_
              exact ih (k + 1) _ _ (by omega) (by omega) hq
            · have es : tbStep g.1 wi (veil ln x m) k b = k := by unfold tbStep; rw [if_pos (by omega)]
              rw [es] at hq
              refine p_iload (i := 43) rfl rfl ?_
              refine p_goto (i := 44) 82 rfl (by decide) ?_
              refine p_istore (i := 46) rfl rfl ?_
              refine p_iinc (i := 47) rfl rfl rfl ?_
              refine p_goto (i := 48) 6 rfl (by decide) ?_
              exact ih (k + 1) _ _ (by omega) (by omega) hq
  rw [← tb_tk (fun k hk => by have := q2 k hk; omega)] at h
  refine C_of okX10_takesBy (by decide) (Nat.le_of_ble_eq_true rfl) ?_
  show P none mX10_takesBy 0 [.ref 276, .ref t, zI x, zI (wi : Int), zI c, .retAddr 0, .retAddr 0, .retAddr 0] [] _ _
  refine p_iconst (i := 0) rfl ?_
  refine p_istore (i := 1) rfl rfl ?_
  refine p_iconst (i := 2) rfl ?_
  refine p_istore (i := 3) rfl rfl ?_
  exact loop g.1.length 0 (-1) _ (by omega) (by omega) h
end
section
/-! ===== the reference's rows, purely ===== -/
def stStep (Ls : List LY) (x : Int) (k : Nat) (s : Int) : Int := if x = -1 ∨ lS Ls k = x then s + lT Ls k else s
theorem st_all (Ls : List LY) : fo (stStep Ls (-1)) Ls.length 0 0 = smAll Ls := fo_congr _ _ _ (fun j t _ _ => by unfold stStep; rw [if_pos (Or.inl rfl)])
theorem st_of (Ls : List LY) {x : Int} (hx : 0 ≤ x) : fo (stStep Ls x) Ls.length 0 0 = smOf Ls x := fo_congr _ _ _ (fun j t _ _ => by
  unfold stStep
  by_cases c : lS Ls j = x
  · rw [if_pos (Or.inr c), if_pos c]
  · rw [if_neg (by omega), if_neg c])
def wmStep (Ls : List LY) (k : Nat) (c : Nat) : Nat := if lT Ls k < lT Ls c then k else c
theorem wm_wk (Ls : List LY) : ∀ (f k c : Nat), (fo (wkStep Ls) f k ((c : Int), lT Ls c)).1 = (fo (wmStep Ls) f k c : Nat)
  | 0, _, _ => rfl
  | f + 1, k, c => by
    show (fo (wkStep Ls) f (k + 1) (wkStep Ls k ((c : Int), lT Ls c))).1 = ((fo (wmStep Ls) f (k + 1) (wmStep Ls k c) : Nat) : Int)
    unfold wkStep wmStep
    dsimp only
    by_cases h : lT Ls k < lT Ls c
    · rw [if_pos h, if_pos h]; exact wm_wk Ls f (k + 1) k
    · rw [if_neg h, if_neg h]; exact wm_wk Ls f (k + 1) c
theorem wk_ten {Ls : List LY} (hl : Ls.length = 10) (h0 : lT Ls 0 ≤ 99) : wk Ls = (fo (wmStep Ls) 9 1 0 : Nat) := by
  unfold wk
  rw [hl]
  show (fo (wkStep Ls) 9 1 (wkStep Ls 0 (-1, 100))).1 = _
  have e : wkStep Ls 0 (-1, 100) = (((0 : Nat) : Int), lT Ls 0) := by unfold wkStep; rw [if_pos (by show lT Ls 0 < 100; omega)]
  rw [e]
  exact wm_wk Ls 9 1 0
theorem fadeL_app (ln : LN) (y own : Int) : ∀ (a b : List LY) (i : Nat), fadeL ln y own i (a ++ b) = fadeL ln y own i a ++ fadeL ln y own (i + a.length) b
  | [], b, i => by simp [fadeL]
  | e :: r, b, i => by
    show fadeL ln y own i (e :: (r ++ b)) = fadeL ln y own i (e :: r) ++ fadeL ln y own (i + (e :: r).length) b
    rw [fadeL_cons, fadeL_cons, fadeL_app ln y own r b (i + 1)]
    rw [show i + 1 + r.length = i + (e :: r).length by simp; omega]
    split
    · rfl
    · split <;> rfl
/-- the layers as they are on the way up -/
def cup (ln : LN) (y own : Int) (Ls : List LY) (i : Nat) : List LY := fadeL ln y own 0 (Ls.take i) ++ Ls.drop i
def cuk (ln : LN) (y own : Int) (Ls : List LY) (i : Nat) : Nat := (fadeL ln y own 0 (Ls.take i)).length
theorem cup_0 {ln : LN} {y own : Int} {Ls : List LY} : cup ln y own Ls 0 = Ls ∧ cuk ln y own Ls 0 = 0 := by
  unfold cup cuk
  rw [List.take_zero, List.drop_zero]
  exact ⟨rfl, rfl⟩
theorem cup_all {ln : LN} {y own : Int} {Ls : List LY} : cup ln y own Ls Ls.length = fadeL ln y own 0 Ls := by
  unfold cup
  rw [List.take_length, List.drop_length, List.append_nil]
theorem cup_in {ln : LN} {y own : Int} {Ls : List LY} {i : Nat} (h : i < Ls.length) : cup ln y own Ls i = fadeL ln y own 0 (Ls.take i) ++ (lS Ls i, lW Ls i, lT Ls i) :: Ls.drop (i + 1) := by
  unfold cup
  rw [ly_drop h]
theorem cup_step {ln : LN} {y own : Int} {Ls : List LY} {i : Nat} (h : i < Ls.length) : fadeL ln y own 0 (Ls.take (i + 1)) = fadeL ln y own 0 (Ls.take i) ++ fadeL ln y own i [(lS Ls i, lW Ls i, lT Ls i)] := by
  rw [ly_take h, fadeL_app, tk_len h, Nat.zero_add]
theorem cup_at {ln : LN} {y own : Int} {Ls : List LY} {i : Nat} (h : i < Ls.length) : cuk ln y own Ls i < (cup ln y own Ls i).length ∧ lS (cup ln y own Ls i) (cuk ln y own Ls i) = lS Ls i ∧ lW (cup ln y own Ls i) (cuk ln y own Ls i) = lW Ls i ∧ lT (cup ln y own Ls i) (cuk ln y own Ls i) = lT Ls i := by
  rw [cup_in h]
  refine ⟨?_, ?_, ?_, ?_⟩
  · unfold cuk; rw [List.length_append]; simp
  · unfold lS; rw [mid_getD (by rfl)]
  · unfold lW; rw [mid_getD (by rfl)]
  · unfold lT; rw [mid_getD (by rfl)]
theorem cup_len {ln : LN} {y own : Int} {Ls : List LY} {i : Nat} : (cup ln y own Ls i).length ≤ Ls.length ∧ cuk ln y own Ls i ≤ i := by
  unfold cup cuk
  have := fadeL_len ln y own (Ls.take i) 0
  rw [List.length_take] at this
  rw [List.length_append, List.length_drop]
  constructor <;> omega
theorem cup_keep {ln : LN} {y own : Int} {Ls : List LY} {i : Nat} (h : i < Ls.length) (ho : (i : Int) = own) : cup ln y own Ls (i + 1) = cup ln y own Ls i ∧ cuk ln y own Ls (i + 1) = cuk ln y own Ls i + 1 := by
  rw [cup_in h]
  unfold cup cuk
  rw [cup_step h, fadeL_cons, if_pos ho]
  constructor
  · rw [List.append_assoc]; rfl
  · rw [List.length_append]; rfl
theorem cup_set {ln : LN} {y own : Int} {Ls : List LY} {i : Nat} (h : i < Ls.length) (ho : ¬ (i : Int) = own) (ht : 0 < lT Ls i - fdg (kd ln (lS Ls i).toNat) (lT Ls i) y) : (cup ln y own Ls i).set (cuk ln y own Ls i) (lS Ls i, lW Ls i, lT Ls i - fdg (kd ln (lS Ls i).toNat) (lT Ls i) y) = cup ln y own Ls (i + 1) ∧ cuk ln y own Ls (i + 1) = cuk ln y own Ls i + 1 := by
  rw [cup_in h]
  unfold cuk
  rw [mid_set rfl]
  unfold cup
  rw [cup_step h, fadeL_cons, if_neg ho, if_neg (by show ¬ lT Ls i - fdg (kd ln (lS Ls i).toNat) (lT Ls i) y ≤ 0; omega)]
  constructor
  · rw [List.append_assoc]; rfl
  · rw [List.length_append]; rfl
theorem cup_er {ln : LN} {y own : Int} {Ls : List LY} {i : Nat} {z : LY} (h : i < Ls.length) (ho : ¬ (i : Int) = own) (ht : lT Ls i - fdg (kd ln (lS Ls i).toNat) (lT Ls i) y ≤ 0) : ((cup ln y own Ls i).set (cuk ln y own Ls i) z).eraseIdx (cuk ln y own Ls i) = cup ln y own Ls (i + 1) ∧ cuk ln y own Ls (i + 1) = cuk ln y own Ls i := by
  rw [cup_in h]
  unfold cuk
  rw [mid_set rfl, mid_er rfl]
  unfold cup
  rw [cup_step h, fadeL_cons, if_neg ho, if_pos ht]
  constructor
  · rw [show fadeL ln y own (i + 1) [] = [] from rfl, List.append_nil]
  · rw [show fadeL ln y own (i + 1) [] = [] from rfl, List.append_nil]
end
section
-- the reference: rows
theorem y_takesNow {M : AM} {ln : LN} {g : GS} {x : Int} {Q : Option Value → AM → Prop} (hL : YL M ln) (hA : YA M 279 (nS ln) (nW ln) g) (hx : 0 ≤ x ∧ x < nS ln) (h : Q (some (zI (tk ln g.1 x 0 0))) M) : C mX10_takesNow [.ref 276, zI x] M Q := by
  obtain ⟨⟨uy, sy, zy, fy, my, by_, ay, gy, ny, hy_, vy, ry, kY⟩, ⟨o1, o2, o3, o4, o5, o6, o7⟩, lf, kL, l0, l1, l2, l3, l4⟩ := id hL
  obtain ⟨⟨q1, q2, q3, q4, q5, q6, q7, q8, q9, q10, q11⟩, f, kT, ⟨t0, t1⟩, ⟨u1, u2, u3, u4, u5⟩⟩ := id hA
  refine C_of okX10_takesNow (by decide) (Nat.le_of_ble_eq_true rfl) ?_
  show P none mX10_takesNow 0 [.ref 276, zI x] [] _ _
  refine p_aload_n (i := 0) rfl rfl ?_
  refine p_aload_n (i := 1) rfl rfl ?_
  refine p_getf (i := 2) rfl fX10_16 kY rfl ?_
  refine p_iload_n (i := 3) rfl rfl ?_
  refine p_iconst (i := 4) rfl ?_
  refine p_aload_n (i := 5) rfl rfl ?_
  refine p_getf (i := 6) rfl fX10_7 kY rfl ?_
  refine p_iconst (i := 7) rfl ?_
  refine p_iaX (i := 8) (0) rfl kL (by omega) (by omega) (by decide) ?_
  refine p_cV4 (i := 9) rfl ⟨lX10_133, rfl, rfl⟩ kY ⟨_, rfl, rfl⟩ rfl (y_takesBy hL hA hx (m := 0) (by omega) (by omega) (wi := 0) (by decide) ?_)
  refine p_iret (i := 10) rfl rfl (rfl) ?_
  exact h
theorem y_strengthOn {M : AM} {t : Nat} {ns nw : Nat} {g : GS} {x : Int} {Q : Option Value → AM → Prop} (hA : YA M t ns nw g) (hx : -1 ≤ x ∧ x ≤ 10) (h : Q (some (zI (fo (stStep g.1 x) g.1.length 0 0))) M) : C mX10_strengthOn [.ref 276, .ref t, zI x] M Q := by
  obtain ⟨⟨q1, q2, q3, q4, q5, q6, q7, q8, q9, q10, q11⟩, f, kT, ⟨t0, t1⟩, ⟨u1, u2, u3, u4, u5⟩⟩ := id hA
  have loop : ∀ (f1 k : Nat) (s : Int), k + f1 = g.1.length → 0 ≤ s ∧ s ≤ 99 * k → Q (some (zI (fo (stStep g.1 x) f1 k s))) M → P none mX10_strengthOn 5 [.ref 276, .ref t, zI x, zI s, zI (k : Int)] []  M Q := by
    intro f1
    induction f1 with
    | zero =>
      intro k s hk hs hq
      refine p_iload (i := 4) rfl rfl ?_
      refine p_aload_n (i := 5) rfl rfl ?_
      refine p_iconst (i := 6) rfl ?_
      refine p_iaX (i := 7) (0) rfl kT (by omega) (by omega) (by decide) ?_
      refine p_icmp_ge (i := 8) 48 rfl (by decide) (by omega) (by omega) (fun c10 => ?_) (fun c10 => by exfalso; omega)
      refine p_iload_n (i := 31) rfl rfl ?_
      refine p_iret (i := 32) rfl rfl (rfl) ?_
      exact hq
    | succ f1 ih =>
      intro k s hk hs hq
      obtain ⟨e1, e2, e3⟩ := t1 k (by omega)
      have e4 := q2 k (by omega)
      have hq : Q (some (zI (fo (stStep g.1 x) f1 (k + 1) (stStep g.1 x k s)))) M := hq
      refine p_iload (i := 4) rfl rfl ?_
      refine p_aload_n (i := 5) rfl rfl ?_
      refine p_iconst (i := 6) rfl ?_
      refine p_iaX (i := 7) (0) rfl kT (by omega) (by omega) (by decide) ?_
      refine p_icmp_ge (i := 8) 48 rfl (by decide) (by omega) (by omega) (fun c10 => by exfalso; omega) (fun c10 => ?_)
      refine p_iload_n (i := 9) rfl rfl ?_
      refine p_iload_n (i := 10) rfl rfl ?_
      refine p_iconst (i := 11) rfl ?_
      refine p_icmp_eq (i := 12) 29 rfl (by decide) (by omega) (by omega) (fun c16 => ?_) (fun c16 => ?_)
      · have es : stStep g.1 x k s = s + lT g.1 k := by unfold stStep; rw [if_pos (by omega)]
        rw [es] at hq
        refine p_aload_n (i := 20) rfl rfl ?_
        refine p_bipush (i := 21) rfl (by decide) ?_
        refine p_iload (i := 22) rfl rfl ?_
        refine p_iadd (i := 23) rfl ?_
        refine p_iaX (i := 24) ((21 + k)) rfl kT (by omega) (by omega) (by decide) ?_
        refine p_goto (i := 25) 40 rfl (by decide) ?_
        refine p_iadd (i := 27) rfl ?_
        refine p_istore_n (i := 28) rfl rfl ?_
        refine p_iinc (i := 29) rfl rfl rfl ?_
        refine p_goto (i := 30) 5 rfl (by decide) ?_
        rw [e3]
        exact ih (k + 1) _ (by omega) (by omega) hq
      · refine p_aload_n (i := 13) rfl rfl ?_
        refine p_iconst (i := 14) rfl ?_
        refine p_iload (i := 15) rfl rfl ?_
        refine p_iadd (i := 16) rfl ?_
        refine p_iaX (i := 17) ((1 + k)) rfl kT (by omega) (by omega) (by decide) ?_
        refine p_iload_n (i := 18) rfl rfl ?_
        refine p_icmp_ne (i := 19) 39 rfl (by decide) (by omega) (by omega) (fun c26 => ?_) (fun c26 => ?_)
        · have es : stStep g.1 x k s = s + 0 := by unfold stStep; rw [if_neg (by omega)]; omega
          rw [es] at hq
          refine p_iconst (i := 26) rfl ?_
          refine p_iadd (i := 27) rfl ?_
          refine p_istore_n (i := 28) rfl rfl ?_
          refine p_iinc (i := 29) rfl rfl rfl ?_
          refine p_goto (i := 30) 5 rfl (by decide) ?_
          exact ih (k + 1) _ (by omega) (by omega) hq
        · have es : stStep g.1 x k s = s + lT g.1 k := by unfold stStep; rw [if_pos (by omega)]
          rw [es] at hq
          refine p_aload_n (i := 20) rfl rfl ?_
          refine p_bipush (i := 21) rfl (by decide) ?_
          refine p_iload (i := 22) rfl rfl ?_
          refine p_iadd (i := 23) rfl ?_
          refine p_iaX (i := 24) ((21 + k)) rfl kT (by omega) (by omega) (by decide) ?_
          refine p_goto (i := 25) 40 rfl (by decide) ?_
          refine p_iadd (i := 27) rfl ?_
          refine p_istore_n (i := 28) rfl rfl ?_
          refine p_iinc (i := 29) rfl rfl rfl ?_
          refine p_goto (i := 30) 5 rfl (by decide) ?_
          rw [e3]
          exact ih (k + 1) _ (by omega) (by omega) hq
  refine C_of okX10_strengthOn (by decide) (Nat.le_of_ble_eq_true rfl) ?_
  show P none mX10_strengthOn 0 [.ref 276, .ref t, zI x, .retAddr 0, .retAddr 0] [] _ _
  refine p_iconst (i := 0) rfl ?_
  refine p_istore_n (i := 1) rfl rfl ?_
  refine p_iconst (i := 2) rfl ?_
  refine p_istore (i := 3) rfl rfl ?_
  exact loop g.1.length 0 0 (by omega) (by omega) h
theorem y_darkOn {M : AM} {t : Nat} {ln : LN} {ns nw : Nat} {g : GS} {Q : Option Value → AM → Prop} (hL : YL M ln) (hA : YA M t ns nw g) (h : Q (some (zI (smAll g.1 / 10))) M) : C mX10_darkOn [.ref 276, .ref t] M Q := by
  obtain ⟨⟨uy, sy, zy, fy, my, by_, ay, gy, ny, hy_, vy, ry, kY⟩, ⟨o1, o2, o3, o4, o5, o6, o7⟩, lf, kL, l0, l1, l2, l3, l4⟩ := id hL
  have hsm := smAll_rng hA.1.ls
  refine C_of okX10_darkOn (by decide) (Nat.le_of_ble_eq_true rfl) ?_
  show P none mX10_darkOn 0 [.ref 276, .ref t] [] _ _
  refine p_aload_n (i := 0) rfl rfl ?_
  refine p_aload_n (i := 1) rfl rfl ?_
  refine p_iconst (i := 2) rfl ?_
  refine p_cV2 (i := 3) rfl ⟨lX10_137, rfl, rfl⟩ kY ⟨_, rfl, rfl⟩ rfl (y_strengthOn hA (by omega) ?_)
  rw [st_all]
  refine p_bipush (i := 4) rfl (by decide) ?_
  refine p_idiv (i := 5) rfl (by omega) (by omega) ?_
  refine p_iret (i := 6) rfl rfl (rfl) ?_
  exact h
theorem y_removes {M : AM} {t : Nat} {f : Nat → Int} {Ls : List LY} {k : Nat} {Q : Option Value → AM → Prop} (kT : M t = some (zA 120 f)) (hL : YLay f Ls) (hk : k < Ls.length) (hl : Ls.length ≤ 10) (h : ∀ M' f', M' t = some (zA 120 f') → YLay f' (Ls.eraseIdx k) → (∀ q, 31 ≤ q → f' q = f q) → FrI t 1 M M' → Q none M') : C mX10_removes [.ref t, zI (k : Int)] M Q := by
  obtain ⟨t0, t1⟩ := id hL
  have loop : ∀ (c j : Nat) (M1 : AM) (f1 : Nat → Int), j + c = Ls.length - 1 → k ≤ j → M1 t = some (zA 120 f1) → Sh f f1 k j → FrI t 1 M M1 → P none mX10_removes 2 [.ref t, zI (k : Int), zI (j : Int)] []  M1 Q := by
    intro c
    induction c with
    | zero =>
      intro j M f1 hj hkj kT hs fr
      have e0 : f1 0 = (Ls.length : Nat) := by rw [hs, if_neg (by omega)]; exact t0
      refine p_iload_n (i := 2) rfl rfl ?_
      refine p_aload_n (i := 3) rfl rfl ?_
      refine p_iconst (i := 4) rfl ?_
      refine p_iaX (i := 5) (0) rfl kT (by omega) (by omega) (by decide) ?_
      refine p_iconst (i := 6) rfl ?_
      refine p_isub (i := 7) rfl ?_
      refine p_icmp_ge (i := 8) 57 rfl (by decide) (by omega) (by omega) (fun c8 => ?_) (fun c8 => by exfalso; omega)
      refine p_aload_n (i := 47) rfl rfl ?_
      refine p_iconst (i := 48) rfl ?_
      refine p_dup2 (i := 49) rfl rfl rfl ?_
      refine p_iaX (i := 50) (0) rfl kT (by omega) (by omega) (by decide) ?_
      refine p_iconst (i := 51) rfl ?_
      refine p_isub (i := 52) rfl ?_
      refine p_isX (i := 53) (0) rfl kT (by omega) (by omega) (by decide) (P_gen fun M e => ?_)
      have fr := fr.up e (by omega)
      have kT := aupE e
      refine p_ret (i := 54) rfl rfl ?_
      rw [show j = Ls.length - 1 by omega] at hs
      exact h M _ kT (hL.er hk hl hs) (fun q hq => by rw [zup_n (by omega)]; exact hs.hi (by omega) q hq) fr
    | succ c ih =>
      intro j M f1 hj hkj kT hs fr
      have e0 : f1 0 = (Ls.length : Nat) := by rw [hs, if_neg (by omega)]; exact t0
      refine p_iload_n (i := 2) rfl rfl ?_
      refine p_aload_n (i := 3) rfl rfl ?_
      refine p_iconst (i := 4) rfl ?_
      refine p_iaX (i := 5) (0) rfl kT (by omega) (by omega) (by decide) ?_
      refine p_iconst (i := 6) rfl ?_
      refine p_isub (i := 7) rfl ?_
      refine p_icmp_ge (i := 8) 57 rfl (by decide) (by omega) (by omega) (fun c8 => by exfalso; omega) (fun c8 => ?_)
      refine p_aload_n (i := 9) rfl rfl ?_
      refine p_iconst (i := 10) rfl ?_
      refine p_iload_n (i := 11) rfl rfl ?_
      refine p_iadd (i := 12) rfl ?_
      refine p_aload_n (i := 13) rfl rfl ?_
      refine p_iconst (i := 14) rfl ?_
      refine p_iload_n (i := 15) rfl rfl ?_
      refine p_iadd (i := 16) rfl ?_
      refine p_iconst (i := 17) rfl ?_
      refine p_iadd (i := 18) rfl ?_
      refine p_iaX (i := 19) (((1 + j) + 1)) rfl kT (by omega) (by omega) (by decide) ?_
      refine p_isX (i := 20) ((1 + j)) rfl kT (by omega) (by omega) (by decide) (P_gen fun M e => ?_)
      have fr := fr.up e (by omega)
      have kT := aupE e
      refine p_aload_n (i := 21) rfl rfl ?_
      refine p_bipush (i := 22) rfl (by decide) ?_
      refine p_iload_n (i := 23) rfl rfl ?_
      refine p_iadd (i := 24) rfl ?_
      refine p_aload_n (i := 25) rfl rfl ?_
      refine p_bipush (i := 26) rfl (by decide) ?_
      refine p_iload_n (i := 27) rfl rfl ?_
      refine p_iadd (i := 28) rfl ?_
      refine p_iconst (i := 29) rfl ?_
      refine p_iadd (i := 30) rfl ?_
      refine p_iaX (i := 31) (((11 + j) + 1)) rfl kT (by omega) (by omega) (by decide) ?_
      refine p_isX (i := 32) ((11 + j)) rfl kT (by omega) (by omega) (by decide) (P_gen fun M e => ?_)
      have fr := fr.up e (by omega)
      have kT := aupE e
      refine p_aload_n (i := 33) rfl rfl ?_
      refine p_bipush (i := 34) rfl (by decide) ?_
      refine p_iload_n (i := 35) rfl rfl ?_
      refine p_iadd (i := 36) rfl ?_
      refine p_aload_n (i := 37) rfl rfl ?_
      refine p_bipush (i := 38) rfl (by decide) ?_
      refine p_iload_n (i := 39) rfl rfl ?_
      refine p_iadd (i := 40) rfl ?_
      refine p_iconst (i := 41) rfl ?_
      refine p_iadd (i := 42) rfl ?_
      refine p_iaX (i := 43) (((21 + j) + 1)) rfl kT (by omega) (by omega) (by decide) ?_
      refine p_isX (i := 44) ((21 + j)) rfl kT (by omega) (by omega) (by decide) (P_gen fun M e => ?_)
      have fr := fr.up e (by omega)
      have kT := aupE e
      refine p_iinc (i := 45) rfl rfl rfl ?_
      refine p_goto (i := 46) 2 rfl (by decide) ?_
      exact ih (j + 1) M _ (by omega) (by omega) kT (hs.step hkj (by omega)) fr
  refine C_of okX10_removes (by decide) (Nat.le_of_ble_eq_true rfl) ?_
  show P none mX10_removes 0 [.ref t, zI (k : Int), .retAddr 0] [] _ _
  refine p_iload_n (i := 0) rfl rfl ?_
  refine p_istore_n (i := 1) rfl rfl ?_
  exact loop (Ls.length - 1 - k) k M f (by omega) (Nat.le_refl _) kT Sh.rf FrI.rf
theorem y_lays {M : AM} {t ns nw : Nat} {f : Nat → Int} {Ls : List LY} {x w s : Int} {Q : Option Value → AM → Prop} (kT : M t = some (zA 120 f)) (hL : YLay f Ls) (hok : LsOk ns nw Ls) (h : ∀ M' f', M' t = some (zA 120 f') → YLay f' (layL Ls (x, w, s)) → (∀ q, 31 ≤ q → f' q = f q) → FrI t 1 M M' → Q none M') : C mX10_lays [.ref t, zI x, zI w, zI s] M Q := by
  obtain ⟨t0, t1⟩ := id hL
  have hl := hok.1
  have tail : ∀ (M1 : AM) (f1 : Nat → Int) (L1 : List LY) (v4 v5 : Value), M1 t = some (zA 120 f1) → YLay f1 L1 → L1.length < 10 → layL Ls (x, w, s) = L1 ++ [(x, w, s)] → (∀ q, 31 ≤ q → f1 q = f q) → FrI t 1 M M1 → okS [.ref t, zI x, zI w, zI s, v4, v5] 4 = true → P none mX10_lays 59 [.ref t, zI x, zI w, zI s, v4, v5] []  M1 Q := by
    intro M f1 L1 v4 v5 kT hY hl1 hE ho fr hb
    obtain ⟨a0, a1⟩ := id hY
    refine p_aload_n (i := 32) rfl rfl ?_
    refine p_iconst (i := 33) rfl ?_
    refine p_iaX (i := 34) (0) rfl kT (by omega) (by omega) (by decide) ?_
    rw [a0]
    refine p_istore (i := 35) rfl hb ?_
    refine p_aload_n (i := 36) rfl rfl ?_
    refine p_iconst (i := 37) rfl ?_
    refine p_iload (i := 38) rfl rfl ?_
    refine p_iadd (i := 39) rfl ?_
    refine p_iload_n (i := 40) rfl rfl ?_
    refine p_isX (i := 41) ((1 + L1.length)) rfl kT (by omega) (by omega) (by decide) (P_gen fun M e => ?_)
    have fr := fr.up e (by omega)
    have kT := aupE e
    refine p_aload_n (i := 42) rfl rfl ?_
    refine p_bipush (i := 43) rfl (by decide) ?_
    refine p_iload (i := 44) rfl rfl ?_
    refine p_iadd (i := 45) rfl ?_
    refine p_iload_n (i := 46) rfl rfl ?_
    refine p_isX (i := 47) ((11 + L1.length)) rfl kT (by omega) (by omega) (by decide) (P_gen fun M e => ?_)
    have fr := fr.up e (by omega)
    have kT := aupE e
    refine p_aload_n (i := 48) rfl rfl ?_
    refine p_bipush (i := 49) rfl (by decide) ?_
    refine p_iload (i := 50) rfl rfl ?_
    refine p_iadd (i := 51) rfl ?_
    refine p_iload_n (i := 52) rfl rfl ?_
    refine p_isX (i := 53) ((21 + L1.length)) rfl kT (by omega) (by omega) (by decide) (P_gen fun M e => ?_)
    have fr := fr.up e (by omega)
    have kT := aupE e
    refine p_aload_n (i := 54) rfl rfl ?_
    refine p_iconst (i := 55) rfl ?_
    refine p_dup2 (i := 56) rfl rfl rfl ?_
    refine p_iaX (i := 57) (0) rfl kT (by omega) (by omega) (by decide) ?_
    refine p_iconst (i := 58) rfl ?_
    refine p_iadd (i := 59) rfl ?_
    refine p_isX (i := 60) (0) rfl kT (by omega) (by omega) (by decide) (P_gen fun M e => ?_)
    have fr := fr.up e (by omega)
    have kT := aupE e
    refine p_ret (i := 61) rfl rfl ?_
    refine h M _ kT ?_ (fun q hq => ?_) fr
    · rw [hE]
      refine hY.app hl1 _ ?_ ?_ ?_ ?_ (fun q z0 z1 z2 z3 => ?_)
      · rw [zup_n (by omega), zup_n (by omega), zup_n (by omega), zup_e]
      · rw [zup_n (by omega), zup_n (by omega), zup_e]
      · rw [zup_n (by omega), zup_e]
      · rw [zup_e, zup_n (by omega), zup_n (by omega), zup_n (by omega), a0]
      · rw [zup_n (by omega), zup_n (by omega), zup_n (by omega), zup_n (by omega)]
    · rw [zup_n (by omega), zup_n (by omega), zup_n (by omega), zup_n (by omega)]
      exact ho q hq
  have loop : ∀ (c k b : Nat), k + c = 10 → Ls.length = 10 → b < 10 → wk Ls = (fo (wmStep Ls) c k b : Nat) → P none mX10_lays 14 [.ref t, zI x, zI w, zI s, zI (b : Int), zI (k : Int)] []  M Q := by
    intro c
    induction c with
    | zero =>
      intro k b hk hl10 hb hw
      have hw : wk Ls = (b : Nat) := hw
      refine p_iload (i := 9) rfl rfl ?_
      refine p_bipush (i := 10) rfl (by decide) ?_
      refine p_icmp_ge (i := 11) 53 rfl (by decide) (by omega) (by omega) (fun c18 => ?_) (fun c18 => by exfalso; omega)
      refine p_aload_n (i := 29) rfl rfl ?_
      refine p_iload (i := 30) rfl rfl ?_
      refine p_cS2 (i := 31) rfl ⟨lX10_141, rfl, rfl⟩ rfl (y_removes kT hL (by omega) (by omega) (fun M1 f1 kT1 hY1 ho1 fr1 => ?_))
      refine tail M1 f1 (Ls.eraseIdx b) _ _ kT1 hY1 (by rw [er_len (by omega)]; omega) ?_ ho1 fr1 rfl
      unfold layL
      rw [if_pos (by omega), hw, Int.toNat_natCast]
    | succ c ih =>
      intro k b hk hl10 hb hw
      have hw : wk Ls = (fo (wmStep Ls) c (k + 1) (wmStep Ls k b) : Nat) := hw
      obtain ⟨e1, e2, e3⟩ := t1 k (by omega)
      obtain ⟨d1, d2, d3⟩ := t1 b (by omega)
      have e4 := hok.at k (by omega)
      have d4 := hok.at b (by omega)
      refine p_iload (i := 9) rfl rfl ?_
      refine p_bipush (i := 10) rfl (by decide) ?_
      refine p_icmp_ge (i := 11) 53 rfl (by decide) (by omega) (by omega) (fun c18 => by exfalso; omega) (fun c18 => ?_)
      refine p_aload_n (i := 12) rfl rfl ?_
      refine p_bipush (i := 13) rfl (by decide) ?_
      refine p_iload (i := 14) rfl rfl ?_
      refine p_iadd (i := 15) rfl ?_
      refine p_iaX (i := 16) ((21 + k)) rfl kT (by omega) (by omega) (by decide) ?_
      refine p_aload_n (i := 17) rfl rfl ?_
      refine p_bipush (i := 18) rfl (by decide) ?_
      refine p_iload (i := 19) rfl rfl ?_
      refine p_iadd (i := 20) rfl ?_
      refine p_iaX (i := 21) ((21 + b)) rfl kT (by omega) (by omega) (by decide) ?_
      refine p_icmp_ge (i := 22) 43 rfl (by decide) (by omega) (by omega) (fun c35 => ?_) (fun c35 => ?_)
      · have es : wmStep Ls k b = b := by unfold wmStep; rw [if_neg (by omega)]
        rw [es] at hw
        refine p_iload (i := 25) rfl rfl ?_
        refine p_istore (i := 26) rfl rfl ?_
        refine p_iinc (i := 27) rfl rfl rfl ?_
        refine p_goto (i := 28) 14 rfl (by decide) ?_
        exact ih (k + 1) b (by omega) hl10 hb hw
      · have es : wmStep Ls k b = k := by unfold wmStep; rw [if_pos (by omega)]
        rw [es] at hw
        refine p_iload (i := 23) rfl rfl ?_
        refine p_goto (i := 24) 45 rfl (by decide) ?_
        refine p_istore (i := 26) rfl rfl ?_
        refine p_iinc (i := 27) rfl rfl rfl ?_
        refine p_goto (i := 28) 14 rfl (by decide) ?_
        exact ih (k + 1) k (by omega) hl10 (by omega) hw
  refine C_of okX10_lays (by decide) (Nat.le_of_ble_eq_true rfl) ?_
  show P none mX10_lays 0 [.ref t, zI x, zI w, zI s, .retAddr 0, .retAddr 0] [] _ _
  refine p_aload_n (i := 0) rfl rfl ?_
  refine p_iconst (i := 1) rfl ?_
  refine p_iaX (i := 2) (0) rfl kT (by omega) (by omega) (by decide) ?_
  refine p_bipush (i := 3) rfl (by decide) ?_
  refine p_icmp_ne (i := 4) 59 rfl (by decide) (by omega) (by omega) (fun c5 => ?_) (fun c5 => ?_)
  · exact tail M f Ls _ _ kT hL (by omega) (by unfold layL; rw [if_neg (by omega)]) (fun _ _ => rfl) FrI.rf rfl
  · refine p_iconst (i := 5) rfl ?_
    refine p_istore (i := 6) rfl rfl ?_
    refine p_iconst (i := 7) rfl ?_
    refine p_istore (i := 8) rfl rfl ?_
    exact loop 9 1 0 (by omega) (by omega) (by omega) (wk_ten (by omega) (by have := hok.at 0 (by omega); omega))
theorem y_logs {M : AM} {t : Nat} {f : Nat → Int} {r : Int × Int × List Int × List (Int × Int × Int × Int)} {w x k0 : Int} {Q : Option Value → AM → Prop} (kT : M t = some (zA 120 f)) (hR : YRst f r) (hl : r.2.2.2.length ≤ 20) (h : ∀ M' f', M' t = some (zA 120 f') → YRst f' (r.1, r.2.1, r.2.2.1, logAdd r.2.2.2 (r.2.1, w, x, k0)) → (∀ q, q < 39 → f' q = f q) → FrI t 1 M M' → Q none M') : C mX10_logs [.ref t, zI w, zI x, zI k0] M Q := by
  obtain ⟨u1, u2, u3, u4, u5⟩ := id hR
  have tail : ∀ (M1 : AM) (f1 : Nat → Int) (lg : List (Int × Int × Int × Int)) (v4 : Value), M1 t = some (zA 120 f1) → lg.length < 20 → logAdd r.2.2.2 (r.2.1, w, x, k0) = lg ++ [(r.2.1, w, x, k0)] → f1 39 = (lg.length : Nat) → (∀ q, q < 39 → f1 q = f q) → (∀ i, i < lg.length → f1 (40 + 4 * i) = (lg.getD i (0, 0, 0, 0)).1 ∧ f1 (40 + 4 * i + 1) = (lg.getD i (0, 0, 0, 0)).2.1 ∧ f1 (40 + 4 * i + 2) = (lg.getD i (0, 0, 0, 0)).2.2.1 ∧ f1 (40 + 4 * i + 3) = (lg.getD i (0, 0, 0, 0)).2.2.2) → FrI t 1 M M1 → P none mX10_logs 49 [.ref t, zI w, zI x, zI k0, v4] []  M1 Q := by
    intro M f1 lg v4 kT hl1 hE a0 ho ha fr
    have ey : f1 32 = r.2.1 := by rw [ho _ (by omega)]; exact u2
    refine p_bipush (i := 31) rfl (by decide) ?_
    refine p_iconst (i := 32) rfl ?_
    refine p_aload_n (i := 33) rfl rfl ?_
    refine p_bipush (i := 34) rfl (by decide) ?_
    refine p_iaX (i := 35) (39) rfl kT (by omega) (by omega) (by decide) ?_
    refine p_imul (i := 36) rfl ?_
    refine p_iadd (i := 37) rfl ?_
    rw [a0]
    refine p_top (b := ((40 + 4 * lg.length : Nat) : Int)) (by omega) ?_
    refine p_istore (i := 38) rfl rfl ?_
    refine p_aload_n (i := 39) rfl rfl ?_
    refine p_iload (i := 40) rfl rfl ?_
    refine p_aload_n (i := 41) rfl rfl ?_
    refine p_bipush (i := 42) rfl (by decide) ?_
    refine p_iaX (i := 43) (32) rfl kT (by omega) (by omega) (by decide) ?_
    refine p_isX (i := 44) (40 + 4 * lg.length) rfl kT (by omega) (by omega) (by decide) (P_gen fun M e => ?_)
    have fr := fr.up e (by omega)
    have kT := aupE e
    refine p_aload_n (i := 45) rfl rfl ?_
    refine p_iload (i := 46) rfl rfl ?_
    refine p_iconst (i := 47) rfl ?_
    refine p_iadd (i := 48) rfl ?_
    refine p_iload_n (i := 49) rfl rfl ?_
    refine p_isX (i := 50) ((40 + 4 * lg.length + 1)) rfl kT (by omega) (by omega) (by decide) (P_gen fun M e => ?_)
    have fr := fr.up e (by omega)
    have kT := aupE e
    refine p_aload_n (i := 51) rfl rfl ?_
    refine p_iload (i := 52) rfl rfl ?_
    refine p_iconst (i := 53) rfl ?_
    refine p_iadd (i := 54) rfl ?_
    refine p_iload_n (i := 55) rfl rfl ?_
    refine p_isX (i := 56) ((40 + 4 * lg.length + 2)) rfl kT (by omega) (by omega) (by decide) (P_gen fun M e => ?_)
    have fr := fr.up e (by omega)
    have kT := aupE e
    refine p_aload_n (i := 57) rfl rfl ?_
    refine p_iload (i := 58) rfl rfl ?_
    refine p_iconst (i := 59) rfl ?_
    refine p_iadd (i := 60) rfl ?_
    refine p_iload_n (i := 61) rfl rfl ?_
    refine p_isX (i := 62) ((40 + 4 * lg.length + 3)) rfl kT (by omega) (by omega) (by decide) (P_gen fun M e => ?_)
    have fr := fr.up e (by omega)
    have kT := aupE e
    refine p_aload_n (i := 63) rfl rfl ?_
    refine p_bipush (i := 64) rfl (by decide) ?_
    refine p_dup2 (i := 65) rfl rfl rfl ?_
    refine p_iaX (i := 66) (39) rfl kT (by omega) (by omega) (by decide) ?_
    refine p_iconst (i := 67) rfl ?_
    refine p_iadd (i := 68) rfl ?_
    refine p_isX (i := 69) (39) rfl kT (by omega) (by omega) (by decide) (P_gen fun M e => ?_)
    have fr := fr.up e (by omega)
    have kT := aupE e
    refine p_ret (i := 70) rfl rfl ?_
    rw [ey] at kT
    refine h M _ kT ⟨?_, ?_, fun j hj => ?_, ?_, fun i hi => ?_⟩ (fun q hq => ?_) fr
    · rw [zup_n (by omega), zup_n (by omega), zup_n (by omega), zup_n (by omega), zup_n (by omega), ho _ (by omega)]; exact u1
    · rw [zup_n (by omega), zup_n (by omega), zup_n (by omega), zup_n (by omega), zup_n (by omega), ho _ (by omega)]; exact u2
    · rw [zup_n (by omega), zup_n (by omega), zup_n (by omega), zup_n (by omega), zup_n (by omega), ho _ (by omega)]; exact u3 j hj
    · show zup _ _ _ 39 = ((logAdd r.2.2.2 (r.2.1, w, x, k0)).length : Nat)
      rw [zup_e, zup_n (by omega), zup_n (by omega), zup_n (by omega), zup_n (by omega), a0, hE]
      simp
    · have hi : i < (logAdd r.2.2.2 (r.2.1, w, x, k0)).length := hi
      show zup _ _ _ (40 + 4 * i) = ((logAdd r.2.2.2 (r.2.1, w, x, k0)).getD i (0, 0, 0, 0)).1 ∧ _ = ((logAdd r.2.2.2 (r.2.1, w, x, k0)).getD i (0, 0, 0, 0)).2.1 ∧ _ = ((logAdd r.2.2.2 (r.2.1, w, x, k0)).getD i (0, 0, 0, 0)).2.2.1 ∧ _ = ((logAdd r.2.2.2 (r.2.1, w, x, k0)).getD i (0, 0, 0, 0)).2.2.2
      rw [hE] at hi ⊢
      have hi : i < lg.length + 1 := by simpa using hi
      rw [gd_app hi]
      by_cases c : i = lg.length
      · subst c
        rw [if_pos rfl]
        refine ⟨?_, ?_, ?_, ?_⟩
        · rw [zup_n (by omega), zup_n (by omega), zup_n (by omega), zup_n (by omega), zup_e]
        · rw [zup_n (by omega), zup_n (by omega), zup_n (by omega), zup_e]
        · rw [zup_n (by omega), zup_n (by omega), zup_e]
        · rw [zup_n (by omega), zup_e]
      · rw [if_neg c]
        rw [zup_n (by omega), zup_n (by omega), zup_n (by omega), zup_n (by omega), zup_n (by omega)]
        rw [zup_n (by omega), zup_n (by omega), zup_n (by omega), zup_n (by omega), zup_n (by omega)]
        rw [zup_n (by omega), zup_n (by omega), zup_n (by omega), zup_n (by omega), zup_n (by omega)]
        rw [zup_n (by omega), zup_n (by omega), zup_n (by omega), zup_n (by omega), zup_n (by omega)]
        exact ha i (by omega)
    · rw [zup_n (by omega), zup_n (by omega), zup_n (by omega), zup_n (by omega), zup_n (by omega)]; exact ho q hq
  have loop : ∀ (c k : Nat) (M1 : AM) (f1 : Nat → Int), k + c = 76 → r.2.2.2.length = 20 → M1 t = some (zA 120 f1) → (∀ q, f1 q = if 40 ≤ q ∧ q < 40 + k then f (q + 4) else f q) → FrI t 1 M M1 → P none mX10_logs 12 [.ref t, zI w, zI x, zI k0, zI (k : Int)] []  M1 Q := by
    intro c
    induction c with
    | zero =>
      intro k M f1 hk h20 kT hf fr
      obtain rfl : k = 76 := by omega
      have e39 : f1 39 = 20 := by rw [hf, if_neg (by omega), u4]; omega
      refine p_iload (i := 7) rfl rfl ?_
      refine p_bipush (i := 8) rfl (by decide) ?_
      refine p_icmp_ge (i := 9) 41 rfl (by decide) (by omega) (by omega) (fun c16 => ?_) (fun c16 => by exfalso; omega)
      refine p_aload_n (i := 24) rfl rfl ?_
      refine p_bipush (i := 25) rfl (by decide) ?_
      refine p_dup2 (i := 26) rfl rfl rfl ?_
      refine p_iaX (i := 27) (39) rfl kT (by omega) (by omega) (by decide) ?_
      refine p_iconst (i := 28) rfl ?_
      refine p_isub (i := 29) rfl ?_
      refine p_isX (i := 30) (39) rfl kT (by omega) (by omega) (by decide) (P_gen fun M e => ?_)
      have fr := fr.up e (by omega)
      have kT := aupE e
      have el : (r.2.2.2.drop 1).length = 19 := by rw [List.length_drop, h20]
      refine tail M _ (r.2.2.2.drop 1) _ kT (by omega) (by unfold logAdd; rw [if_pos h20]) ?_ (fun q hq => ?_) (fun i hi => ?_) fr
      · rw [zup_e, e39, el]; rfl
      · rw [zup_n (by omega), hf, if_neg (by omega)]
      · rw [gd_drop]
        have := u5 (1 + i) (by omega)
        rw [zup_n (by omega), zup_n (by omega), zup_n (by omega), zup_n (by omega), hf, hf, hf, hf, if_pos (by omega), if_pos (by omega), if_pos (by omega), if_pos (by omega)]
        rw [show 40 + 4 * i + 4 = 40 + 4 * (1 + i) by omega, show 40 + 4 * i + 1 + 4 = 40 + 4 * (1 + i) + 1 by omega, show 40 + 4 * i + 2 + 4 = 40 + 4 * (1 + i) + 2 by omega, show 40 + 4 * i + 3 + 4 = 40 + 4 * (1 + i) + 3 by omega]
        exact this
    | succ c ih =>
      intro k M f1 hk h20 kT hf fr
      refine p_iload (i := 7) rfl rfl ?_
      refine p_bipush (i := 8) rfl (by decide) ?_
      refine p_icmp_ge (i := 9) 41 rfl (by decide) (by omega) (by omega) (fun c16 => by exfalso; omega) (fun c16 => ?_)
      refine p_aload_n (i := 10) rfl rfl ?_
      refine p_bipush (i := 11) rfl (by decide) ?_
      refine p_iload (i := 12) rfl rfl ?_
      refine p_iadd (i := 13) rfl ?_
      refine p_aload_n (i := 14) rfl rfl ?_
      refine p_bipush (i := 15) rfl (by decide) ?_
      refine p_iload (i := 16) rfl rfl ?_
      refine p_iadd (i := 17) rfl ?_
      refine p_iconst (i := 18) rfl ?_
      refine p_iadd (i := 19) rfl ?_
      refine p_iaX (i := 20) (((40 + k) + 4)) rfl kT (by omega) (by omega) (by decide) ?_
      refine p_isX (i := 21) ((40 + k)) rfl kT (by omega) (by omega) (by decide) (P_gen fun M e => ?_)
      have fr := fr.up e (by omega)
      have kT := aupE e
      refine p_iinc (i := 22) rfl rfl rfl ?_
      refine p_goto (i := 23) 12 rfl (by decide) ?_
      refine ih (k + 1) M _ (by omega) h20 kT (fun q => ?_) fr
      by_cases c1 : q = 40 + k
      · rw [c1, zup_e, hf, if_neg (by omega), if_pos (by omega)]
      · rw [zup_n c1, hf]
        by_cases c2 : 40 ≤ q ∧ q < 40 + k
        · rw [if_pos c2, if_pos (by omega)]
        · rw [if_neg c2, if_neg (by omega)]
  refine C_of okX10_logs (by decide) (Nat.le_of_ble_eq_true rfl) ?_
  show P none mX10_logs 0 [.ref t, zI w, zI x, zI k0, .retAddr 0] [] _ _
  refine p_aload_n (i := 0) rfl rfl ?_
  refine p_bipush (i := 1) rfl (by decide) ?_
  refine p_iaX (i := 2) (39) rfl kT (by omega) (by omega) (by decide) ?_
  refine p_bipush (i := 3) rfl (by decide) ?_
  refine p_icmp_ne (i := 4) 49 rfl (by decide) (by omega) (by omega) (fun c6 => ?_) (fun c6 => ?_)
  · exact tail M f r.2.2.2 _ kT (by omega) (by unfold logAdd; rw [if_neg (by omega)]) u4 (fun _ _ => rfl) u5 FrI.rf
  · refine p_iconst (i := 5) rfl ?_
    refine p_istore (i := 6) rfl rfl ?_
    exact loop 76 0 M f (by omega) (by omega) kT (fun q => by rw [if_neg (by omega)]) FrI.rf
theorem y_nextScene {M : AM} {t : Nat} {ln : LN} {f : Nat → Int} {g : GS} {w : Int} {Q : Option Value → AM → Prop} (hL : YL M ln) (hA : YA M t (nS ln) (nW ln) g) (hw : 0 ≤ w ∧ w < nW ln) (h : Q (some (zI (nxt ln g w))) M) : C mX10_nextScene [.ref 276, .ref t, zI w] M Q := by
  obtain ⟨⟨uy, sy, zy, fy, my, by_, ay, gy, ny, hy_, vy, ry, kY⟩, ⟨o1, o2, o3, o4, o5, o6, o7⟩, lf, kL, l0, l1, l2, l3, l4⟩ := id hL
  obtain ⟨⟨q1, q2, q3, q4, q5, q6, q7, q8, q9, q10, q11⟩, f, kT, ⟨t0, t1⟩, ⟨u1, u2, u3, u4, u5⟩⟩ := id hA
  obtain ⟨n1, n2, n3⟩ := o6 w.toNat (by omega)
  obtain ⟨m1, m2⟩ := l4 w.toNat (by omega)
  have h8 := q8 w.toNat (by omega)
  have eh := u3 w.toNat (by omega)
  have hm : (g.2.2.2.1.getD w.toNat 0).toNat % lkN ln w.toNat < lkN ln w.toNat := Nat.mod_lt _ (by omega)
  refine C_of okX10_nextScene (by decide) (Nat.le_of_ble_eq_true rfl) ?_
  show P none mX10_nextScene 0 [.ref 276, .ref t, zI w] [] _ _
  refine p_aload_n (i := 0) rfl rfl ?_
  refine p_getf (i := 1) rfl fX10_7 kY rfl ?_
  refine p_bipush (i := 2) rfl (by decide) ?_
  refine p_bipush (i := 3) rfl (by decide) ?_
  refine p_iload_n (i := 4) rfl rfl ?_
  refine p_imul (i := 5) rfl ?_
  refine p_iadd (i := 6) rfl ?_
  refine p_aload_n (i := 7) rfl rfl ?_
  refine p_bipush (i := 8) rfl (by decide) ?_
  refine p_iload_n (i := 9) rfl rfl ?_
  refine p_iadd (i := 10) rfl ?_
  refine p_iaX (i := 11) (33 + w.toNat) rfl kT (by omega) (by omega) (by decide) ?_
  refine p_aload_n (i := 12) rfl rfl ?_
  refine p_getf (i := 13) rfl fX10_7 kY rfl ?_
  refine p_bipush (i := 14) rfl (by decide) ?_
  refine p_iload_n (i := 15) rfl rfl ?_
  refine p_iadd (i := 16) rfl ?_
  refine p_iaX (i := 17) (19 + w.toNat) rfl kL (by omega) (by omega) (by decide) ?_
  rw [eh, m1]
  have e1 : g.2.2.2.1.getD w.toNat 0 % ((lkN ln w.toNat : Nat) : Int) = (((g.2.2.2.1.getD w.toNat 0).toNat % lkN ln w.toNat : Nat) : Int) := by
    rw [Int.natCast_emod]
    congr 1
    omega
  refine p_irem (i := 18) rfl (by omega) (by omega) ?_
  refine p_iadd (i := 19) rfl ?_
  refine p_iaX (i := 20) (25 + 6 * w.toNat + (g.2.2.2.1.getD w.toNat 0).toNat % lkN ln w.toNat) rfl kL (by omega) (by omega) (by decide) ?_
  refine p_iret (i := 21) rfl rfl (rfl) ?_
  rw [m2 _ hm]
  exact h
theorem y_fading {M : AM} {k t o : Int} {y : Int} {Q : Option Value → AM → Prop} (hk : 0 ≤ k ∧ k ≤ 3) (ht : 0 ≤ t ∧ t ≤ 1000) (ho : (o = 1 ∧ y % 2 = 1) ∨ (o = 0 ∧ ¬ y % 2 = 1)) (h : Q (some (zI (fdg k t y))) M) : C mX10_fading [.ref 276, zI k, zI t, zI o] M Q := by
  have hc : k = 0 ∨ k = 1 ∨ k = 2 ∨ k = 3 := by omega
  refine C_of okX10_fading (by decide) (Nat.le_of_ble_eq_true rfl) ?_
  show P none mX10_fading 0 [.ref 276, zI k, zI t, zI o] [] _ _
  refine p_iload_n (i := 0) rfl rfl ?_
  rcases hc with rfl | rfl | rfl | rfl
  · refine p_tsIn (i := 1) 32 rfl (by omega) (by omega) (by rfl) (by decide) ?_
    refine p_iconst (i := 2) rfl ?_
    refine p_iret (i := 3) rfl rfl (rfl) ?_
    exact h
  ·
    refine p_tsIn (i := 1) 34 rfl (by omega) (by omega) (by rfl) (by decide) ?_
    refine p_iload_n (i := 4) rfl rfl ?_
    refine p_bipush (i := 5) rfl (by decide) ?_
    refine p_idiv (i := 6) rfl (by omega) (by omega) ?_
    refine p_iconst (i := 7) rfl ?_
    refine p_iadd (i := 8) rfl ?_
    refine p_iret (i := 9) rfl rfl (rfl) ?_
    exact h
  ·
    refine p_tsIn (i := 1) 51 rfl (by omega) (by omega) (by rfl) (by decide) ?_
    refine p_iconst (i := 16) rfl ?_
    refine p_iret (i := 17) rfl rfl (rfl) ?_
    exact h
  ·
    refine p_tsIn (i := 1) 41 rfl (by omega) (by omega) (by rfl) (by decide) ?_
    refine p_iload_n (i := 10) rfl rfl ?_
    refine p_if_eq (i := 11) 49 rfl (by decide) (by omega) (fun c42 => ?_) (fun c42 => ?_)
    · refine p_iconst (i := 14) rfl ?_
      refine p_iret (i := 15) rfl rfl (rfl) ?_
      have e : fdg 3 t y = 0 := by unfold fdg; rw [if_neg (by decide), if_neg (by decide), if_pos rfl, if_neg (by omega)]
      rw [e] at h
      exact h
    · refine p_iconst (i := 12) rfl ?_
      refine p_goto (i := 13) 50 rfl (by decide) ?_
      refine p_iret (i := 15) rfl rfl (rfl) ?_
      have e : fdg 3 t y = 3 := by unfold fdg; rw [if_neg (by decide), if_neg (by decide), if_pos rfl, if_pos (by omega)]
      rw [e] at h
      exact h
end
section
-- the reference: a year
theorem GOk.pass {ln : LN} {g : GS} (h : GOk (nS ln) (nW ln) g) (hL : LnOk ln) (hy : g.2.2.1 < 100000) : GOk (nS ln) (nW ln) (passY ln g) := by
  obtain ⟨q1, q2, q3, q4, q5, q6, q7, q8, q9, q10, q11⟩ := id h
  obtain ⟨o1, o2, o3, o4, o5, o6, o7⟩ := hL
  have hok := h.ls
  unfold passY
  by_cases c : 0 ≤ g.2.1
  · rw [if_pos c]
    obtain ⟨n1, n2, n3⟩ := o6 g.2.1.toNat (by omega)
    have hxr : 0 ≤ nxt ln g g.2.1 ∧ nxt ln g g.2.1 < nS ln := n3 _ (Nat.mod_lt _ (by omega))
    obtain ⟨b1, b2, b3, b4⟩ := o5 (nxt ln g g.2.1).toNat (by omega)
    obtain ⟨d1, d2, d3⟩ := hok.deep (w := g.2.1) (x := nxt ln g g.2.1) (gain := br ln (nxt ln g g.2.1).toNat / 10 + 1) (by omega) (by omega) (by omega)
    have hf : LsOk (nS ln) (nW ln) (fadeL ln g.2.2.1 (deepL g.1 g.2.1 (nxt ln g g.2.1) (br ln (nxt ln g g.2.1).toNat / 10 + 1)).2 0 (deepL g.1 g.2.1 (nxt ln g g.2.1) (br ln (nxt ln g g.2.1).toNat / 10 + 1)).1) := d1.fade
    refine ⟨hf.1, hf.at, q3, q4, by show 0 ≤ g.2.2.1 + 1; omega, by show g.2.2.1 + 1 ≤ 100000; omega, by show (g.2.2.2.1.set _ _).length = 6; rw [List.length_set]; exact q7, fun j hj => ?_, by show (logAdd _ _).length ≤ 20; rw [logAdd_len q9]; split <;> omega, q10, q11⟩
    show 0 ≤ (g.2.2.2.1.set _ _).getD j 0 ∧ (g.2.2.2.1.set _ _).getD j 0 ≤ g.2.2.1 + 1
    rw [st_getD _ _ _ _ _ (by omega)]
    have := q8 j hj
    have := q8 g.2.1.toNat (by omega)
    split <;> omega
  · rw [if_neg c]
    have hf : LsOk (nS ln) (nW ln) (fadeL ln g.2.2.1 (-1) 0 g.1) := hok.fade
    refine ⟨hf.1, hf.at, q3, q4, by show 0 ≤ g.2.2.1 + 1; omega, by show g.2.2.1 + 1 ≤ 100000; omega, q7, fun j hj => ?_, q9, q10, q11⟩
    have := q8 j hj
    show 0 ≤ g.2.2.2.1.getD j 0 ∧ g.2.2.2.1.getD j 0 ≤ g.2.2.1 + 1
    omega
theorem y_looks {M : AM} {t : Nat} {ln : LN} {g : GS} {w : Int} {Q : Option Value → AM → Prop} (hL : YL M ln) (hA : YA M t (nS ln) (nW ln) g) (ht : 278 ≤ t) (hw : 0 ≤ w ∧ w < nW ln) (h : ∀ M' f', M' t = some (zA 120 f') → YLay f' (deepL g.1 w (nxt ln g w) (br ln (nxt ln g w).toNat / 10 + 1)).1 → YRst f' (g.2.1, g.2.2.1, g.2.2.2.1.set w.toNat (g.2.2.2.1.getD w.toNat 0 + 1), logAdd g.2.2.2.2 (g.2.2.1, w, nxt ln g w, tk ln g.1 (nxt ln g w) 0 0)) → FrI t 1 M M' → Q (some (zI (deepL g.1 w (nxt ln g w) (br ln (nxt ln g w).toNat / 10 + 1)).2)) M') : C mX10_looks [.ref 276, .ref t, zI w] M Q := by
  obtain ⟨⟨uy, sy, zy, fy, my, by_, ay, gy, ny, hy_, vy, ry, kY⟩, ⟨o1, o2, o3, o4, o5, o6, o7⟩, lf, kL, l0, l1, l2, l3, l4⟩ := id hL
  obtain ⟨⟨q1, q2, q3, q4, q5, q6, q7, q8, q9, q10, q11⟩, f, kT, ⟨t0, t1⟩, ⟨u1, u2, u3, u4, u5⟩⟩ := id hA
  have hok := hA.1.ls
  obtain ⟨n1, n2, n3⟩ := o6 w.toNat (by omega)
  have hx : 0 ≤ nxt ln g w ∧ nxt ln g w < nS ln := n3 _ (Nat.mod_lt _ (by omega))
  obtain ⟨x, ex⟩ : ∃ x, x = nxt ln g w := ⟨_, rfl⟩
  rw [← ex] at h hx
  obtain ⟨b1, b2, b3, b4⟩ := o5 x.toNat (by omega)
  obtain ⟨m1, m2⟩ := l3 x.toNat (by omega)
  have h8 := q8 w.toNat (by omega)
  have eh := u3 w.toNat (by omega)
  refine C_of okX10_looks (by decide) (Nat.le_of_ble_eq_true rfl) ?_
  show P none mX10_looks 0 [.ref 276, .ref t, zI w, .retAddr 0, .retAddr 0, .retAddr 0] [] _ _
  refine p_aload_n (i := 0) rfl rfl ?_
  refine p_aload_n (i := 1) rfl rfl ?_
  refine p_iload_n (i := 2) rfl rfl ?_
  refine p_cV2 (i := 3) rfl ⟨lX10_145, rfl, rfl⟩ kY ⟨_, rfl, rfl⟩ rfl (y_nextScene (f := fun _ => 0) hL hA hw ?_)
  rw [← ex]
  refine p_istore_n (i := 4) rfl rfl ?_
  refine p_aload_n (i := 5) rfl rfl ?_
  refine p_iload_n (i := 6) rfl rfl ?_
  refine p_iload_n (i := 7) rfl rfl ?_
  refine p_aload_n (i := 8) rfl rfl ?_
  refine p_aload_n (i := 9) rfl rfl ?_
  refine p_iload_n (i := 10) rfl rfl ?_
  refine p_iconst (i := 11) rfl ?_
  refine p_aload_n (i := 12) rfl rfl ?_
  refine p_getf (i := 13) rfl fX10_7 kY rfl ?_
  refine p_iconst (i := 14) rfl ?_
  refine p_iaX (i := 15) (0) rfl kL (by omega) (by omega) (by decide) ?_
  refine p_cV4 (i := 16) rfl ⟨lX10_133, rfl, rfl⟩ kY ⟨_, rfl, rfl⟩ rfl (y_takesBy hL hA hx (m := 0) (by omega) (by omega) (wi := 0) (by decide) ?_)
  refine p_cS4 (i := 17) rfl ⟨lX10_148, rfl, rfl⟩ rfl (y_logs kT ⟨u1, u2, u3, u4, u5⟩ q9 (fun M f1 kT hR hlo fr => ?_))
  have kY := fr.at kY (by omega)
  have kL := fr.at kL (by omega)
  have e33 : f1 (33 + w.toNat) = g.2.2.2.1.getD w.toNat 0 := (hlo _ (by omega)).trans eh
  refine p_aload_n (i := 18) rfl rfl ?_
  refine p_bipush (i := 19) rfl (by decide) ?_
  refine p_iload_n (i := 20) rfl rfl ?_
  refine p_iadd (i := 21) rfl ?_
  refine p_dup2 (i := 22) rfl rfl rfl ?_
  refine p_iaX (i := 23) (33 + w.toNat) rfl kT (by omega) (by omega) (by decide) ?_
  refine p_iconst (i := 24) rfl ?_
  refine p_iadd (i := 25) rfl ?_
  refine p_isX (i := 26) (33 + w.toNat) rfl kT (by omega) (by omega) (by decide) (P_gen fun M e => ?_)
  have kY := aupN e kY (by omega)
  have kL := aupN e kL (by omega)
  have fr := fr.up e (by omega)
  have kT := aupE e
  refine p_aload_n (i := 27) rfl rfl ?_
  refine p_getf (i := 28) rfl fX10_7 kY rfl ?_
  refine p_bipush (i := 29) rfl (by decide) ?_
  refine p_iload_n (i := 30) rfl rfl ?_
  refine p_iadd (i := 31) rfl ?_
  refine p_iaX (i := 32) (11 + x.toNat) rfl kL (by omega) (by omega) (by decide) ?_
  refine p_bipush (i := 33) rfl (by decide) ?_
  refine p_idiv (i := 34) rfl (by omega) (by omega) ?_
  refine p_iconst (i := 35) rfl ?_
  refine p_iadd (i := 36) rfl ?_
  refine p_istore (i := 37) rfl rfl ?_
  refine p_iconst (i := 38) rfl ?_
  refine p_istore (i := 39) rfl rfl ?_
  rw [m2, e33] at *
  obtain ⟨f2, ef2⟩ : ∃ f2, f2 = zup f1 (33 + w.toNat) (g.2.2.2.1.getD w.toNat 0 + 1) := ⟨_, rfl⟩
  rw [← ef2] at kT
  have hf2 : ∀ q, q < 31 → f2 q = f q := fun q hq => by rw [ef2, zup_n (by omega)]; exact hlo q (by omega)
  have hRst : YRst f2 (g.2.1, g.2.2.1, g.2.2.2.1.set w.toNat (g.2.2.2.1.getD w.toNat 0 + 1), logAdd g.2.2.2.2 (g.2.2.1, w, x, tk ln g.1 x 0 0)) := by
    obtain ⟨v1, v2, v3, v4, v5⟩ := hR
    have hll := logAdd_len (e := (g.2.2.1, w, x, tk ln g.1 x 0 0)) q9
    refine ⟨by rw [ef2, zup_n (by omega)]; exact v1, by rw [ef2, zup_n (by omega)]; exact v2, fun j hj => ?_, by rw [ef2, zup_n (by omega)]; exact v4, fun i hi => ?_⟩
    · show f2 (33 + j) = (g.2.2.2.1.set _ _).getD j 0
      rw [st_getD _ _ _ _ _ (by omega), ef2]
      by_cases c : j = w.toNat
      · rw [if_pos c, c, zup_e]
      · rw [if_neg c, zup_n (by omega)]; exact v3 j hj
    · rw [ef2, zup_n (by omega), zup_n (by omega), zup_n (by omega), zup_n (by omega)]
      exact v5 i hi
  have hLay : YLay f2 g.1 := ⟨by rw [hf2 _ (by omega)]; exact t0, fun k hk => by rw [hf2 _ (by omega), hf2 _ (by omega), hf2 _ (by omega)]; exact t1 k hk⟩
  have hR2 : ∀ f3 : Nat → Int, (∀ q, 31 ≤ q → f3 q = f2 q) → YRst f3 (g.2.1, g.2.2.1, g.2.2.2.1.set w.toNat (g.2.2.2.1.getD w.toNat 0 + 1), logAdd g.2.2.2.2 (g.2.2.1, w, x, tk ln g.1 x 0 0)) := fun f3 he => hRst.keep (by show (logAdd _ _).length ≤ 20; rw [logAdd_len q9]; split <;> omega) he
  have t0' := hLay.1
  have loop : ∀ (c k : Nat), k + c = g.1.length → fi (fun k => decide (lW g.1 k = w ∧ lS g.1 k = x)) c k = fnd g.1 w x → P none mX10_looks 55 [.ref 276, .ref t, zI w, zI x, zI (br ln x.toNat / 10 + 1), zI (k : Int)] []  M Q := by
    intro c
    induction c with
    | zero =>
      intro k hkc hfi
      have hfi : -1 = fnd g.1 w x := hfi
      refine p_iload (i := 40) rfl rfl ?_
      refine p_aload_n (i := 41) rfl rfl ?_
      refine p_iconst (i := 42) rfl ?_
      refine p_iaX (i := 43) (0) rfl kT (by omega) (by omega) (by decide) ?_
      refine p_icmp_ge (i := 44) 115 rfl (by decide) (by omega) (by omega) (fun c60 => ?_) (fun c60 => by exfalso; omega)
      refine p_aload_n (i := 77) rfl rfl ?_
      refine p_iload_n (i := 78) rfl rfl ?_
      refine p_iload_n (i := 79) rfl rfl ?_
      refine p_iload (i := 80) rfl rfl ?_
      have ed : deepL g.1 w x (br ln x.toNat / 10 + 1) = (layL g.1 (x, w, br ln x.toNat / 10 + 1), ((layL g.1 (x, w, br ln x.toNat / 10 + 1)).length : Int) - 1) := by unfold deepL; rw [if_neg (by omega)]
      rw [ed] at h
      refine p_cS4 (i := 81) rfl ⟨lX10_155, rfl, rfl⟩ rfl (y_lays kT hLay hok (fun M f3 kT hL3 h31 fr3 => ?_))
      have fr := fr.tr fr3
      have l0' := hL3.1
      refine p_aload_n (i := 82) rfl rfl ?_
      refine p_iconst (i := 83) rfl ?_
      refine p_iaX (i := 84) (0) rfl kT (by omega) (by omega) (by decide) ?_
      refine p_iconst (i := 85) rfl ?_
      refine p_isub (i := 86) rfl ?_
      refine p_iret (i := 87) rfl rfl (rfl) ?_
      rw [l0']
      exact h M f3 kT hL3 (hR2 f3 h31) fr
    | succ c ih =>
      intro k hkc hfi
      obtain ⟨e1, e2, e3⟩ := hLay.2 k (by omega)
      have e4 := q2 k (by omega)
      have hfi : (if decide (lW g.1 k = w ∧ lS g.1 k = x) = true then (k : Int) else fi (fun k => decide (lW g.1 k = w ∧ lS g.1 k = x)) c (k + 1)) = fnd g.1 w x := hfi
      refine p_iload (i := 40) rfl rfl ?_
      refine p_aload_n (i := 41) rfl rfl ?_
      refine p_iconst (i := 42) rfl ?_
      refine p_iaX (i := 43) (0) rfl kT (by omega) (by omega) (by decide) ?_
      refine p_icmp_ge (i := 44) 115 rfl (by decide) (by omega) (by omega) (fun c60 => by exfalso; omega) (fun c60 => ?_)
      refine p_aload_n (i := 45) rfl rfl ?_
      refine p_bipush (i := 46) rfl (by decide) ?_
      refine p_iload (i := 47) rfl rfl ?_
      refine p_iadd (i := 48) rfl ?_
      refine p_iaX (i := 49) ((11 + k)) rfl kT (by omega) (by omega) (by decide) ?_
      refine p_iload_n (i := 50) rfl rfl ?_
      refine p_icmp_ne (i := 51) 109 rfl (by decide) (by omega) (by omega) (fun c71 => ?_) (fun c71 => ?_)
      · rw [if_neg (by rw [decide_eq_true_eq]; omega)] at hfi
        refine p_iinc (i := 75) rfl rfl rfl ?_
        refine p_goto (i := 76) 55 rfl (by decide) ?_
        exact ih (k + 1) (by omega) hfi
      · refine p_aload_n (i := 52) rfl rfl ?_
        refine p_iconst (i := 53) rfl ?_
        refine p_iload (i := 54) rfl rfl ?_
        refine p_iadd (i := 55) rfl ?_
        refine p_iaX (i := 56) ((1 + k)) rfl kT (by omega) (by omega) (by decide) ?_
        refine p_iload_n (i := 57) rfl rfl ?_
        refine p_icmp_ne (i := 58) 109 rfl (by decide) (by omega) (by omega) (fun c81 => ?_) (fun c81 => ?_)
        · rw [if_neg (by rw [decide_eq_true_eq]; omega)] at hfi
          refine p_iinc (i := 75) rfl rfl rfl ?_
          refine p_goto (i := 76) 55 rfl (by decide) ?_
          exact ih (k + 1) (by omega) hfi
        · rw [if_pos (by rw [decide_eq_true_eq]; omega)] at hfi
          have ed : deepL g.1 w x (br ln x.toNat / 10 + 1) = (g.1.set k (lS g.1 k, lW g.1 k, min 99 (lT g.1 k + (br ln x.toNat / 10 + 1))), (k : Int)) := by
            unfold deepL
            rw [← hfi, if_pos (by omega), Int.toNat_natCast, show lS g.1 k = x by omega, show lW g.1 k = w by omega]
          rw [ed] at h
          refine p_aload_n (i := 59) rfl rfl ?_
          refine p_bipush (i := 60) rfl (by decide) ?_
          refine p_iload (i := 61) rfl rfl ?_
          refine p_iadd (i := 62) rfl ?_
          refine p_bipush (i := 63) rfl (by decide) ?_
          refine p_aload_n (i := 64) rfl rfl ?_
          refine p_bipush (i := 65) rfl (by decide) ?_
          refine p_iload (i := 66) rfl rfl ?_
          refine p_iadd (i := 67) rfl ?_
          refine p_iaX (i := 68) ((21 + k)) rfl kT (by omega) (by omega) (by decide) ?_
          refine p_iload (i := 69) rfl rfl ?_
          refine p_iadd (i := 70) rfl ?_
          refine p_cS2 (i := 71) rfl ⟨lX10_152, rfl, rfl⟩ rfl (y_lesser (by omega) (by omega) ?_)
          refine p_isX (i := 72) ((21 + k)) rfl kT (by omega) (by omega) (by decide) (P_gen fun M e => ?_)
          have kY := aupN e kY (by omega)
          have kL := aupN e kL (by omega)
          have fr := fr.up e (by omega)
          have kT := aupE e
          refine p_iload (i := 73) rfl rfl ?_
          refine p_iret (i := 74) rfl rfl (rfl) ?_
          rw [e3] at kT
          refine h M _ kT (hLay.setT (t := min 99 (lT g.1 k + (br ln x.toNat / 10 + 1))) (by omega) q1 (by rw [zup_e]) (fun q hq => by rw [zup_n hq])) (hR2 _ (fun q hq => by rw [zup_n (by omega)])) fr
  exact loop g.1.length 0 (by omega) rfl
theorem y_yearGoes {M : AM} {t : Nat} {ln : LN} {g : GS} {Q : Option Value → AM → Prop} (hL : YL M ln) (hA : YA M t (nS ln) (nW ln) g) (ht : 278 ≤ t) (hy : g.2.2.1 < 100000) (h : ∀ M', YA M' t (nS ln) (nW ln) (passY ln g) → FrI t 1 M M' → Q none M') : C mX10_yearGoes [.ref 276, .ref t] M Q := by
  have hgo : GOk (nS ln) (nW ln) (passY ln g) := hA.1.pass hL.2.1 hy
  have hok := hA.1.ls
  have body : ∀ (M1 : AM) (f1 : Nat → Int) (own : Int) (Ls : List LY) (r : Int × Int × List Int × List (Int × Int × Int × Int)), M1 t = some (zA 120 f1) → YLay f1 Ls → YRst f1 r → LsOk (nS ln) (nW ln) Ls → -1 ≤ own ∧ own < Ls.length → r.2.2.2.length ≤ 20 → 0 ≤ r.2.1 ∧ r.2.1 < 100000 → FrI t 1 M M1 → (∀ M' f', M' t = some (zA 120 f') → YLay f' (fadeL ln r.2.1 own 0 Ls) → YRst f' (r.1, r.2.1 + 1, r.2.2) → FrI t 1 M M' → Q none M') → P none mX10_yearGoes 21 [.ref 276, .ref t, .retAddr 0, .retAddr 0, .retAddr 0] [zI own] M1 Q := by
    intro M1 f1 own Ls r kT hLay hRst hok ho hr20 hy fr hQ
    have hl10 := hok.1
    have loop : ∀ (c j : Nat) (s : Int) (M2 : AM) (f2 : Nat → Int), j + c = Ls.length → M2 t = some (zA 120 f2) → YLay f2 (cup ln r.2.1 own Ls j) → (∀ q, 31 ≤ q → f2 q = f1 q) → FrI t 1 M M2 → (own < j → s < cuk ln r.2.1 own Ls j) → ((j : Int) ≤ own → s = own - j + cuk ln r.2.1 own Ls j) → -1 ≤ s → P none mX10_yearGoes 29 [.ref 276, .ref t, zI s, zI (cuk ln r.2.1 own Ls j : Nat), zI ((Ls.length : Int) - j)] []  M2 Q := by
      intro c
      induction c with
      | zero =>
        intro j s M f2 hjc kT hLy he fr i1 i2 i3
        obtain rfl : j = Ls.length := by omega
        refine p_iload (i := 20) rfl rfl ?_
        refine p_if_le (i := 21) 125 rfl (by decide) (by omega) (fun c31 => ?_) (fun c31 => by exfalso; omega)
        refine p_aload_n (i := 83) rfl rfl ?_
        refine p_bipush (i := 84) rfl (by decide) ?_
        refine p_dup2 (i := 85) rfl rfl rfl ?_
        refine p_iaX (i := 86) (32) rfl kT (by omega) (by omega) (by decide) ?_
        refine p_iconst (i := 87) rfl ?_
        refine p_iadd (i := 88) rfl ?_
        refine p_isX (i := 89) (32) rfl kT (by omega) (by omega) (by decide) (P_gen fun M e => ?_)
        have fr := fr.up e (by omega)
        have kT := aupE e
        refine p_ret (i := 90) rfl rfl ?_
        rw [cup_all] at hLy
        have hr2 := hRst.keep hr20 he
        obtain ⟨v1, v2, v3, v4, v5⟩ := hr2
        refine hQ M _ kT ⟨by rw [zup_n (by omega)]; exact hLy.1, fun k hk => ?_⟩ ⟨by rw [zup_n (by omega)]; exact v1, by rw [zup_e, v2], fun j hj => by rw [zup_n (by omega)]; exact v3 j hj, by rw [zup_n (by omega)]; exact v4, fun i hi => ?_⟩ fr
        · have := fadeL_len ln r.2.1 own Ls 0
          rw [zup_n (by omega), zup_n (by omega), zup_n (by omega)]
          exact hLy.2 k hk
        · rw [zup_n (by omega), zup_n (by omega), zup_n (by omega), zup_n (by omega)]
          exact v5 i hi
      | succ c ih =>
        intro j s M f2 hjc kT hLy he fr i1 i2 i3
        have hj : j < Ls.length := by omega
        obtain ⟨a1, a2, a3, a4⟩ := cup_at (ln := ln) (y := r.2.1) (own := own) hj
        obtain ⟨e1, e2, e3⟩ := hLy.2 _ a1
        rw [a2] at e1
        rw [a4] at e3
        obtain ⟨z1, z2⟩ := cup_len (ln := ln) (y := r.2.1) (own := own) (Ls := Ls) (i := j)
        obtain ⟨k, ek⟩ : ∃ k, k = cuk ln r.2.1 own Ls j := ⟨_, rfl⟩
        have hl := hok.at j hj
        have hL1 := hL.fi fr (by omega)
        have e32 : f2 32 = r.2.1 := (he _ (by omega)).trans hRst.2.1
        have eb : (Ls.length : Int) - j + (-1) = (Ls.length : Int) - ((j + 1 : Nat) : Int) := by omega
        rw [← ek] at a1 a2 a3 a4 e1 e2 e3 z2 i1 i2 ⊢
        obtain ⟨n1, n2, n3, n4⟩ := hL1.2.1.2.2.2.2.1 (lS Ls j).toNat (by omega)
        obtain ⟨⟨uy, sy, zy, fy, my, by_, ay, gy, ny, hy_, vy, ry, kY⟩, ⟨o1, o2, o3, o4, o5, o6, o7⟩, lf, kL, l0, l1, l2, l3, l4⟩ := id hL1
        obtain ⟨m1, m2⟩ := l3 (lS Ls j).toNat (by omega)
        refine p_iload (i := 20) rfl rfl ?_
        refine p_if_le (i := 21) 125 rfl (by decide) (by omega) (fun c31 => by exfalso; omega) (fun c31 => ?_)
        refine p_iload_n (i := 22) rfl rfl ?_
        refine p_iload_n (i := 23) rfl rfl ?_
        refine p_icmp_eq (i := 24) 85 rfl (by decide) (by omega) (by omega) (fun c36 => ?_) (fun c36 => ?_)
        · refine p_aload_n (i := 60) rfl rfl ?_
          refine p_bipush (i := 61) rfl (by decide) ?_
          refine p_iload_n (i := 62) rfl rfl ?_
          refine p_iadd (i := 63) rfl ?_
          refine p_iaX (i := 64) ((21 + k)) rfl kT (by omega) (by omega) (by decide) ?_
          refine p_iconst (i := 65) rfl ?_
          refine p_icmp_ge (i := 66) 116 rfl (by decide) (by omega) (by omega) (fun c92 => ?_) (fun c92 => by exfalso; omega)
          refine p_iinc (i := 80) rfl rfl rfl ?_
          refine p_iinc (i := 81) rfl rfl rfl ?_
          refine p_goto (i := 82) 29 rfl (by decide) ?_
          rw [eb]
          obtain ⟨w1, w2⟩ := cup_keep (ln := ln) (y := r.2.1) (own := own) hj (by omega)
          rw [← ek] at w2
          have := ih (j + 1) s M f2 (by omega) kT (by rw [w1]; exact hLy) he fr (by omega) (by omega) i3
          rw [w2] at this
          exact this
        · have fb := fdg_le (k := kd ln (lS Ls j).toNat) (y := r.2.1) (t := lT Ls j) (by omega)
          have fn := fdg_nn (k := kd ln (lS Ls j).toNat) (y := r.2.1) (t := lT Ls j) (by omega)
          have fcase : ∀ o : Int, ((o = 1 ∧ r.2.1 % 2 = 1) ∨ (o = 0 ∧ ¬ r.2.1 % 2 = 1)) → P none mX10_yearGoes 80 [.ref 276, .ref t, zI s, zI (k : Int), zI ((Ls.length : Int) - j)] [zI o, zI (f2 (21 + k)), zI (lf (3 + (lS Ls j).toNat)), .ref 276, zI (f2 (21 + k)), zI (21 + (k : Int)), .ref t] M Q := by
            intro o ho2
            rw [e3, m1]
            refine p_cV3 (i := 57) rfl ⟨lX10_161, rfl, rfl⟩ kY ⟨_, rfl, rfl⟩ rfl (y_fading (y := r.2.1) (by omega) (by omega) ho2 ?_)
            refine p_isub (i := 58) rfl ?_
            refine p_isX (i := 59) (21 + k) rfl kT (by omega) (by omega) (by decide) (P_gen fun M e => ?_)
            have kY := aupN e kY (by omega)
            have kL := aupN e kL (by omega)
            have fr := fr.up e (by omega)
            have kT := aupE e
            refine p_aload_n (i := 60) rfl rfl ?_
            refine p_bipush (i := 61) rfl (by decide) ?_
            refine p_iload_n (i := 62) rfl rfl ?_
            refine p_iadd (i := 63) rfl ?_
            refine p_iaX (i := 64) ((21 + k)) rfl kT (by omega) (by omega) (by decide) ?_
            refine p_iconst (i := 65) rfl ?_
            rw [zup_e]
            have hs2 := hLy.setT (t := lT Ls j - fdg (kd ln (lS Ls j).toNat) (lT Ls j) r.2.1) (k := k) a1 (by omega) (f1 := zup f2 (21 + k) (lT Ls j - fdg (kd ln (lS Ls j).toNat) (lT Ls j) r.2.1)) (by rw [zup_e]) (fun q hq => by rw [zup_n hq])
            have he2 : ∀ q, 31 ≤ q → zup f2 (21 + k) (lT Ls j - fdg (kd ln (lS Ls j).toNat) (lT Ls j) r.2.1) q = f1 q := fun q hq => by rw [zup_n (by omega)]; exact he q hq
            refine p_icmp_ge (i := 66) 116 rfl (by decide) (by omega) (by omega) (fun c92 => ?_) (fun c92 => ?_)
            · refine p_iinc (i := 80) rfl rfl rfl ?_
              refine p_iinc (i := 81) rfl rfl rfl ?_
              refine p_goto (i := 82) 29 rfl (by decide) ?_
              rw [eb]
              obtain ⟨w1, w2⟩ := cup_set (ln := ln) (y := r.2.1) (own := own) hj (by omega) (by omega)
              rw [← ek] at w1 w2
              rw [a2, a3, w1] at hs2
              have := ih (j + 1) s M _ (by omega) kT hs2 he2 fr (by omega) (by omega) i3
              rw [w2] at this
              exact this
            · refine p_aload_n (i := 67) rfl rfl ?_
              refine p_iload_n (i := 68) rfl rfl ?_
              refine p_cS2 (i := 69) rfl ⟨lX10_141, rfl, rfl⟩ rfl (y_removes (k := k) kT hs2 (by rw [List.length_set]; exact a1) (by rw [List.length_set]; omega) (fun M f3 kT hL3 h31 fr3 => ?_))
              have fr := fr.tr fr3
              obtain ⟨w1, w2⟩ := cup_er (ln := ln) (y := r.2.1) (own := own) (z := (lS (cup ln r.2.1 own Ls j) k, lW (cup ln r.2.1 own Ls j) k, lT Ls j - fdg (kd ln (lS Ls j).toNat) (lT Ls j) r.2.1)) hj (by omega) (by omega)
              rw [← ek] at w1 w2
              rw [w1] at hL3
              have he3 : ∀ q, 31 ≤ q → f3 q = f1 q := fun q hq => (h31 q hq).trans (he2 q hq)
              refine p_iload_n (i := 70) rfl rfl ?_
              refine p_iload_n (i := 71) rfl rfl ?_
              refine p_iload_n (i := 72) rfl rfl ?_
              refine p_icmp_ge (i := 73) 110 rfl (by decide) (by omega) (by omega) (fun c103 => ?_) (fun c103 => ?_)
              · refine p_iconst (i := 76) rfl ?_
                refine p_isub (i := 77) rfl ?_
                refine p_istore_n (i := 78) rfl rfl ?_
                refine p_goto (i := 79) 119 rfl (by decide) ?_
                refine p_iinc (i := 81) rfl rfl rfl ?_
                refine p_goto (i := 82) 29 rfl (by decide) ?_
                rw [eb]
                have := ih (j + 1) (s - 0) M f3 (by omega) kT hL3 he3 fr (by omega) (by omega) (by omega)
                rw [w2] at this
                exact this
              · refine p_iconst (i := 74) rfl ?_
                refine p_goto (i := 75) 111 rfl (by decide) ?_
                refine p_isub (i := 77) rfl ?_
                refine p_istore_n (i := 78) rfl rfl ?_
                refine p_goto (i := 79) 119 rfl (by decide) ?_
                refine p_iinc (i := 81) rfl rfl rfl ?_
                refine p_goto (i := 82) 29 rfl (by decide) ?_
                rw [eb]
                have := ih (j + 1) (s - 1) M f3 (by omega) kT hL3 he3 fr (by omega) (by omega) (by omega)
                rw [w2] at this
                exact this
          refine p_aload_n (i := 25) rfl rfl ?_
          refine p_bipush (i := 26) rfl (by decide) ?_
          refine p_iload_n (i := 27) rfl rfl ?_
          refine p_iadd (i := 28) rfl ?_
          refine p_dup2 (i := 29) rfl rfl rfl ?_
          refine p_iaX (i := 30) ((21 + k)) rfl kT (by omega) (by omega) (by decide) ?_
          refine p_aload_n (i := 31) rfl rfl ?_
          refine p_aload_n (i := 32) rfl rfl ?_
          refine p_getf (i := 33) rfl fX10_7 kY rfl ?_
          refine p_iconst (i := 34) rfl ?_
          refine p_aload_n (i := 35) rfl rfl ?_
          refine p_iconst (i := 36) rfl ?_
          refine p_iload_n (i := 37) rfl rfl ?_
          refine p_iadd (i := 38) rfl ?_
          refine p_iaX (i := 39) ((1 + k)) rfl kT (by omega) (by omega) (by decide) ?_
          refine p_iadd (i := 40) rfl ?_
          refine p_iaX (i := 41) (3 + (lS Ls j).toNat) rfl kL (by omega) (by omega) (by decide) ?_
          refine p_aload_n (i := 42) rfl rfl ?_
          refine p_bipush (i := 43) rfl (by decide) ?_
          refine p_iload_n (i := 44) rfl rfl ?_
          refine p_iadd (i := 45) rfl ?_
          refine p_iaX (i := 46) ((21 + k)) rfl kT (by omega) (by omega) (by decide) ?_
          refine p_aload_n (i := 47) rfl rfl ?_
          refine p_bipush (i := 48) rfl (by decide) ?_
          refine p_iaX (i := 49) (32) rfl kT (by omega) (by omega) (by decide) ?_
          refine p_iconst (i := 50) rfl ?_
          refine p_irem (i := 51) rfl (by omega) (by omega) ?_
          refine p_iconst (i := 52) rfl ?_
          refine p_icmp_ne (i := 53) 79 rfl (by decide) (by omega) (by omega) (fun c72 => ?_) (fun c72 => ?_)
          · refine p_iconst (i := 56) rfl ?_
            exact fcase 0 (by omega)
          · refine p_iconst (i := 54) rfl ?_
            refine p_goto (i := 55) 80 rfl (by decide) ?_
            exact fcase 1 (by omega)
    have e0 := hLay.1
    refine p_istore_n (i := 13) rfl rfl ?_
    refine p_iconst (i := 14) rfl ?_
    refine p_istore_n (i := 15) rfl rfl ?_
    refine p_aload_n (i := 16) rfl rfl ?_
    refine p_iconst (i := 17) rfl ?_
    refine p_iaX (i := 18) (0) rfl kT (by omega) (by omega) (by decide) ?_
    refine p_istore (i := 19) rfl rfl ?_
    have := loop Ls.length 0 own M1 f1 (by omega) kT (by rw [cup_0.1]; exact hLay) (fun _ _ => rfl) fr (by omega) (by rw [cup_0.2]; omega) ho.1
    rw [cup_0.2] at this
    rw [e0]
    rw [show (Ls.length : Int) - ((0 : Nat) : Int) = (Ls.length : Int) by omega] at this
    exact this
  obtain ⟨⟨uy, sy, zy, fy, my, by_, ay, gy, ny, hy_, vy, ry, kY⟩, ⟨o1, o2, o3, o4, o5, o6, o7⟩, lf, kL, l0, l1, l2, l3, l4⟩ := id hL
  obtain ⟨⟨q1, q2, q3, q4, q5, q6, q7, q8, q9, q10, q11⟩, f, kT, ⟨t0, t1⟩, ⟨u1, u2, u3, u4, u5⟩⟩ := id hA
  refine C_of okX10_yearGoes (by decide) (Nat.le_of_ble_eq_true rfl) ?_
  show P none mX10_yearGoes 0 [.ref 276, .ref t, .retAddr 0, .retAddr 0, .retAddr 0] [] _ _
  refine p_aload_n (i := 0) rfl rfl ?_
  refine p_bipush (i := 1) rfl (by decide) ?_
  refine p_iaX (i := 2) (31) rfl kT (by omega) (by omega) (by decide) ?_
  refine p_iconst (i := 3) rfl ?_
  refine p_icmp_ne (i := 4) 12 rfl (by decide) (by omega) (by omega) (fun c5 => ?_) (fun c5 => ?_)
  · refine p_aload_n (i := 7) rfl rfl ?_
    refine p_aload_n (i := 8) rfl rfl ?_
    refine p_aload_n (i := 9) rfl rfl ?_
    refine p_bipush (i := 10) rfl (by decide) ?_
    refine p_iaX (i := 11) (31) rfl kT (by omega) (by omega) (by decide) ?_
    obtain ⟨n1, n2, n3⟩ := o6 g.2.1.toNat (by omega)
    have hxr : 0 ≤ nxt ln g g.2.1 ∧ nxt ln g g.2.1 < nS ln := n3 _ (Nat.mod_lt _ (by omega))
    obtain ⟨b1, b2, b3, b4⟩ := o5 (nxt ln g g.2.1).toNat (by omega)
    obtain ⟨d1, d2, d3⟩ := hok.deep (w := g.2.1) (x := nxt ln g g.2.1) (gain := br ln (nxt ln g g.2.1).toNat / 10 + 1) (by omega) (by omega) (by omega)
    rw [u1]
    refine p_cV2 (i := 12) rfl ⟨lX10_158, rfl, rfl⟩ kY ⟨_, rfl, rfl⟩ rfl (y_looks hL hA ht (by omega) (fun M1 f1 kT1 hLay1 hRst1 fr1 => ?_))
    have eP : passY ln g = (fadeL ln g.2.2.1 (deepL g.1 g.2.1 (nxt ln g g.2.1) (br ln (nxt ln g g.2.1).toNat / 10 + 1)).2 0 (deepL g.1 g.2.1 (nxt ln g g.2.1) (br ln (nxt ln g g.2.1).toNat / 10 + 1)).1, g.2.1, g.2.2.1 + 1, g.2.2.2.1.set g.2.1.toNat (g.2.2.2.1.getD g.2.1.toNat 0 + 1), logAdd g.2.2.2.2 (g.2.2.1, g.2.1, nxt ln g g.2.1, tk ln g.1 (nxt ln g g.2.1) 0 0)) := by unfold passY; rw [if_pos (by omega)]
    refine body M1 f1 _ _ _ kT1 hLay1 hRst1 d1 ⟨d2, d3⟩ (by show (logAdd _ _).length ≤ 20; rw [logAdd_len q9]; split <;> omega) (by show 0 ≤ g.2.2.1 ∧ g.2.2.1 < 100000; omega) fr1 (fun M' f' kT' hLay' hRst' fr' => ?_)
    refine h M' ⟨hgo, f', kT', ?_, ?_⟩ fr'
    · rw [eP]; exact hLay'
    · rw [eP]; exact hRst'
  · refine p_iconst (i := 5) rfl ?_
    refine p_goto (i := 6) 21 rfl (by decide) ?_
    have eP : passY ln g = (fadeL ln g.2.2.1 (-1) 0 g.1, g.2.1, g.2.2.1 + 1, g.2.2.2.1, g.2.2.2.2) := by unfold passY; rw [if_neg (by omega)]
    refine body M f _ g.1 g.2 kT ⟨t0, t1⟩ ⟨u1, u2, u3, u4, u5⟩ hok (by omega) q9 (by omega) FrI.rf (fun M' f' kT' hLay' hRst' fr' => ?_)
    refine h M' ⟨hgo, f', kT', ?_, ?_⟩ fr'
    · rw [eP]; exact hLay'
    · rw [eP]; exact hRst'
end
section
/-! ===== how the reference holds the whole state ===== -/
def YRt (M : AM) (u sd sz fa mm bm : Int) : Prop := ∃ (a bg sg fg vl wr : Int), M 276 = some (zO 10 [.ref 277, .ref 278, .ref 279, .ref 280, .ref 281, zI u, .ref 282, .ref 283, zJ sd, .ref 284, zI sz, zI fa, .ref 285, zI mm, .ref 286, zI bm, zI a, zI bg, zI sg, zI fg, zI vl, zI wr, .ref 287])
def YLi (M : AM) (ln : LN) : Prop := LnOk ln ∧ ∃ f, M 277 = some (zA 61 f) ∧ YLn f ln
def YPa (M : AM) (ns nw : Nat) (un : List GS) : Prop := un.length ≤ 30 ∧ ∃ f, M 281 = some (zA 3600 f) ∧ ∀ i, i < un.length → GOk ns nw (un.getD i g0) ∧ YG (fun q => f (120 * i + q)) (un.getD i g0) ∧ (un.getD i g0).2.2.1 ≤ 90030
def YI1 (ns nw : Nat) (f h : Nat → Int) (b : Nat) : Option (GS × Int) → Prop
  | none => h b = 0
  | some q => h b = 1 ∧ f (121 * b + 120) = q.2 ∧ 0 ≤ q.2 ∧ q.2 ≤ 2147483647 ∧ GOk ns nw q.1 ∧ YG (fun j => f (121 * b + j)) q.1 ∧ q.1.2.2.1 ≤ 90030
def YIm (M : AM) (ns nw : Nat) (i0 i1 : Option (GS × Int)) : Prop := ∃ f h, M 282 = some (zA 242 f) ∧ M 283 = some (zB 2 h) ∧ YI1 ns nw f h 0 i0 ∧ YI1 ns nw f h 1 i1
def YTx (M : AM) (tx : List Int) : Prop := tx.length ≤ 240 ∧ ∃ f, M 284 = some (zA 240 f) ∧ ∀ i, i < tx.length → f i = tx.getD i 0 ∧ 0 ≤ tx.getD i 0 ∧ tx.getD i 0 ≤ 255
def YMe (M : AM) (me : List (Int × Int)) : Prop := me.length ≤ 6 ∧ ∃ f, M 285 = some (zA 12 f) ∧ ∀ i, i < me.length → f (2 * i) = (me.getD i (0, 0)).1 ∧ f (2 * i + 1) = (me.getD i (0, 0)).2 ∧ 0 ≤ (me.getD i (0, 0)).1 ∧ (me.getD i (0, 0)).1 ≤ 7 ∧ ((me.getD i (0, 0)).2 = 0 ∨ (me.getD i (0, 0)).2 = 1)
def YBo (M : AM) (bo : List (Int × Int)) : Prop := bo.length ≤ 20 ∧ ∃ f, M 286 = some (zA 40 f) ∧ ∀ i, i < bo.length → f (2 * i) = (bo.getD i (0, 0)).1 ∧ f (2 * i + 1) = (bo.getD i (0, 0)).2 ∧ 0 ≤ (bo.getD i (0, 0)).1 ∧ (bo.getD i (0, 0)).1 ≤ 7 ∧ 0 ≤ (bo.getD i (0, 0)).2 ∧ (bo.getD i (0, 0)).2 ≤ 7
def YNy (M : AM) : Prop := (∃ f, M 278 = some (zA 61 f)) ∧ (∃ f, M 280 = some (zA 120 f)) ∧ ∃ f, M 287 = some (zA 6 f)
def YW (M : AM) (σ : ST) : Prop := match σ with
  | (tx, fa, ln, g, un, i0, i1, sd, me, bo) => YRt M (un.length : Nat) sd (tx.length : Nat) fa (me.length : Nat) (bo.length : Nat) ∧ YLi M ln ∧ YA M 279 (nS ln) (nW ln) g ∧ YPa M (nS ln) (nW ln) un ∧ YIm M (nS ln) (nW ln) i0 i1 ∧ YTx M tx ∧ YMe M me ∧ YBo M bo ∧ YNy M ∧ g.2.2.1 ≤ 90030 ∧ 0 ≤ sd ∧ sd ≤ 2147483647 ∧ LiOk (nS ln) me ∧ LiOk2 (nS ln) bo ∧ -1 ≤ fa ∧ fa ≤ 240
theorem YRt.fi {M M' : AM} {u sd sz fa mm bm : Int} {a n : Nat} (h : YRt M u sd sz fa mm bm) (hf : FrI a n M M') (hd : 277 ≤ a ∨ a + n ≤ 276) : YRt M' u sd sz fa mm bm := by
  obtain ⟨x, bg, sg, fg, vl, wr, h1⟩ := h
  exact ⟨x, bg, sg, fg, vl, wr, hf.at h1 (by omega)⟩
theorem YLi.fi {M M' : AM} {ln : LN} {a n : Nat} (h : YLi M ln) (hf : FrI a n M M') (hd : 278 ≤ a ∨ a + n ≤ 277) : YLi M' ln := by
  obtain ⟨h2, f, h3, h4⟩ := h
  exact ⟨h2, f, hf.at h3 (by omega), h4⟩
theorem YPa.fi {M M' : AM} {ns nw : Nat} {un : List GS} {a n : Nat} (h : YPa M ns nw un) (hf : FrI a n M M') (hd : 282 ≤ a ∨ a + n ≤ 281) : YPa M' ns nw un := by
  obtain ⟨h2, f, h3, h4⟩ := h
  exact ⟨h2, f, hf.at h3 (by omega), h4⟩
theorem YIm.fi {M M' : AM} {ns nw : Nat} {i0 i1 : Option (GS × Int)} {a n : Nat} (h : YIm M ns nw i0 i1) (hf : FrI a n M M') (hd : 284 ≤ a ∨ a + n ≤ 282) : YIm M' ns nw i0 i1 := by
  obtain ⟨f, g, h1, h2, h3⟩ := h
  exact ⟨f, g, hf.at h1 (by omega), hf.at h2 (by omega), h3⟩
theorem YTx.fi {M M' : AM} {tx : List Int} {a n : Nat} (h : YTx M tx) (hf : FrI a n M M') (hd : 285 ≤ a ∨ a + n ≤ 284) : YTx M' tx := by
  obtain ⟨h2, f, h3, h4⟩ := h
  exact ⟨h2, f, hf.at h3 (by omega), h4⟩
theorem YMe.fi {M M' : AM} {me : List (Int × Int)} {a n : Nat} (h : YMe M me) (hf : FrI a n M M') (hd : 286 ≤ a ∨ a + n ≤ 285) : YMe M' me := by
  obtain ⟨h2, f, h3, h4⟩ := h
  exact ⟨h2, f, hf.at h3 (by omega), h4⟩
theorem YBo.fi {M M' : AM} {bo : List (Int × Int)} {a n : Nat} (h : YBo M bo) (hf : FrI a n M M') (hd : 287 ≤ a ∨ a + n ≤ 286) : YBo M' bo := by
  obtain ⟨h2, f, h3, h4⟩ := h
  exact ⟨h2, f, hf.at h3 (by omega), h4⟩
theorem YNy.fi {M M' : AM} {a n : Nat} (h : YNy M) (hf : FrI a n M M') (hd : 288 ≤ a ∨ a + n ≤ 278 ∨ (279 ≤ a ∧ a + n ≤ 280) ∨ (281 ≤ a ∧ a + n ≤ 287)) : YNy M' := by
  obtain ⟨⟨f, h1⟩, ⟨f2, h2⟩, f3, h3⟩ := h
  exact ⟨⟨f, hf.at h1 (by omega)⟩, ⟨f2, hf.at h2 (by omega)⟩, f3, hf.at h3 (by omega)⟩
theorem YNy.as {M M' : AM} {a : Nat} (h : YNy M) (hf : FrI a 1 M M') (ha : a = 280) (hA : ∃ f, M' 280 = some (zA 120 f)) : YNy M' := by
  obtain ⟨⟨f, h1⟩, ⟨f2, h2⟩, f3, h3⟩ := h
  exact ⟨⟨f, hf.at h1 (by omega)⟩, hA, f3, hf.at h3 (by omega)⟩
theorem YRt.h {M : AM} {u sd sz fa mm bm : Int} (h : YRt M u sd sz fa mm bm) : YH M := by
  obtain ⟨x, bg, sg, fg, vl, wr, h1⟩ := h
  exact ⟨_, _, _, _, _, _, x, bg, sg, fg, vl, wr, h1⟩
theorem YLi.l {M : AM} {ln : LN} (h : YLi M ln) (h1 : YH M) : YL M ln := ⟨h1, h.1, h.2⟩
theorem YL.li {M : AM} {ln : LN} (h : YL M ln) : YLi M ln := ⟨h.2.1, h.2.2⟩
theorem YW.fi {M M' : AM} {σ : ST} {a n : Nat} (h : YW M σ) (hf : FrI a n M M') (hd : a + n ≤ 276) : YW M' σ := by
  obtain ⟨tx, fa, ln, g, un, i0, i1, sd, me, bo⟩ := σ
  obtain ⟨h1, h2, h3, h4, h5, h6, h7, h8, h9, h10⟩ := h
  exact ⟨h1.fi hf (by omega), h2.fi hf (by omega), h3.fi hf (by omega), h4.fi hf (by omega), h5.fi hf (by omega), h6.fi hf (by omega), h7.fi hf (by omega), h8.fi hf (by omega), h9.fi hf (by omega), h10⟩
end
section
-- the reference: what is read
theorem y_sawBy {M : AM} {ns nw : Nat} {g : GS} {w : Int} {Q : Option Value → AM → Prop} (hH : YH M) (hA : YA M 279 ns nw g) (hw : -1 ≤ w ∧ w ≤ 10) (h : Q (some (zI (scOf g.1 w : Nat))) M) : C mX10_sawBy [.ref 276, zI w] M Q := by
  obtain ⟨uy, sy, zy, fy, my, by_, ay, gy, ny, hy_, vy, ry, kY⟩ := id hH
  obtain ⟨⟨q1, q2, q3, q4, q5, q6, q7, q8, q9, q10, q11⟩, f, kT, ⟨t0, t1⟩, ⟨u1, u2, u3, u4, u5⟩⟩ := id hA
  have loop : ∀ (c k : Nat) (s : Nat), k + c = g.1.length → Q (some (zI ((fo (fun k s => if lW g.1 k = w then s ||| 2 ^ (lS g.1 k).toNat else s) c k s : Nat) : Int))) M → P none mX10_sawBy 4 [.ref 276, zI w, zI (s : Int), zI (k : Int)] []  M Q := by
    intro c
    induction c with
    | zero =>
      intro k s hk hq
      refine p_iload_n (i := 4) rfl rfl ?_
      refine p_aload_n (i := 5) rfl rfl ?_
      refine p_getf (i := 6) rfl fX10_16 kY rfl ?_
      refine p_iconst (i := 7) rfl ?_
      refine p_iaX (i := 8) (0) rfl kT (by omega) (by omega) (by decide) ?_
      refine p_icmp_ge (i := 9) 50 rfl (by decide) (by omega) (by omega) (fun c11 => ?_) (fun c11 => by exfalso; omega)
      refine p_iload_n (i := 33) rfl rfl ?_
      refine p_iret (i := 34) rfl rfl (rfl) ?_
      exact hq
    | succ c ih =>
      intro k s hk hq
      obtain ⟨e1, e2, e3⟩ := t1 k (by omega)
      have e4 := q2 k (by omega)
      have hq : Q (some (zI ((fo (fun k s => if lW g.1 k = w then s ||| 2 ^ (lS g.1 k).toNat else s) c (k + 1) (if lW g.1 k = w then s ||| 2 ^ (lS g.1 k).toNat else s) : Nat) : Int))) M := hq
      refine p_iload_n (i := 4) rfl rfl ?_
      refine p_aload_n (i := 5) rfl rfl ?_
      refine p_getf (i := 6) rfl fX10_16 kY rfl ?_
      refine p_iconst (i := 7) rfl ?_
      refine p_iaX (i := 8) (0) rfl kT (by omega) (by omega) (by decide) ?_
      refine p_icmp_ge (i := 9) 50 rfl (by decide) (by omega) (by omega) (fun c11 => by exfalso; omega) (fun c11 => ?_)
      refine p_iload_n (i := 10) rfl rfl ?_
      refine p_aload_n (i := 11) rfl rfl ?_
      refine p_getf (i := 12) rfl fX10_16 kY rfl ?_
      refine p_bipush (i := 13) rfl (by decide) ?_
      refine p_iload_n (i := 14) rfl rfl ?_
      refine p_iadd (i := 15) rfl ?_
      refine p_iaX (i := 16) ((11 + k)) rfl kT (by omega) (by omega) (by decide) ?_
      refine p_iload_n (i := 17) rfl rfl ?_
      refine p_icmp_ne (i := 18) 41 rfl (by decide) (by omega) (by omega) (fun c25 => ?_) (fun c25 => ?_)
      · rw [if_neg (show ¬ lW g.1 k = w by omega)] at hq
        refine p_iconst (i := 28) rfl ?_
        refine p_iorN (i := 29) rfl ?_
        refine p_istore_n (i := 30) rfl rfl ?_
        refine p_iinc (i := 31) rfl rfl rfl ?_
        refine p_goto (i := 32) 4 rfl (by decide) ?_
        rw [Nat.or_zero]
        exact ih (k + 1) _ (by omega) hq
      ·
        refine p_iconst (i := 19) rfl ?_
        refine p_aload_n (i := 20) rfl rfl ?_
        refine p_getf (i := 21) rfl fX10_16 kY rfl ?_
        refine p_iconst (i := 22) rfl ?_
        refine p_iload_n (i := 23) rfl rfl ?_
        refine p_iadd (i := 24) rfl ?_
        refine p_iaX (i := 25) ((1 + k)) rfl kT (by omega) (by omega) (by decide) ?_
        rw [if_pos (show lW g.1 k = w by omega)] at hq
        refine p_top (b := (((lS g.1 k).toNat : Nat) : Int)) (by omega) ?_
        refine p_ishl1 (i := 26) rfl (by omega) ?_
        refine p_goto (i := 27) 42 rfl (by decide) ?_
        refine p_iorN (i := 29) rfl ?_
        refine p_istore_n (i := 30) rfl rfl ?_
        refine p_iinc (i := 31) rfl rfl rfl ?_
        refine p_goto (i := 32) 4 rfl (by decide) ?_
        exact ih (k + 1) _ (by omega) hq
  refine C_of okX10_sawBy (by decide) (Nat.le_of_ble_eq_true rfl) ?_
  show P none mX10_sawBy 0 [.ref 276, zI w, .retAddr 0, .retAddr 0] [] _ _
  refine p_iconst (i := 0) rfl ?_
  refine p_istore_n (i := 1) rfl rfl ?_
  refine p_iconst (i := 2) rfl ?_
  refine p_istore_n (i := 3) rfl rfl ?_
  exact loop g.1.length 0 0 (by omega) h
theorem y_seenByAll {M : AM} {ln : LN} {g : GS} {Q : Option Value → AM → Prop} (hL : YL M ln) (hA : YA M 279 (nS ln) (nW ln) g) (h : Q (some (zI (all_ (nW ln) g.1 : Nat))) M) : C mX10_seenByAll [.ref 276] M Q := by
  obtain ⟨⟨uy, sy, zy, fy, my, by_, ay, gy, ny, hy_, vy, ry, kY⟩, ⟨o1, o2, o3, o4, o5, o6, o7⟩, lf, kL, l0, l1, l2, l3, l4⟩ := id hL
  obtain ⟨⟨q1, q2, q3, q4, q5, q6, q7, q8, q9, q10, q11⟩, f, kT, ⟨t0, t1⟩, ⟨u1, u2, u3, u4, u5⟩⟩ := id hA
  have hok := hA.1.ls
  have loop : ∀ (c k s : Nat), k + c = nW ln → Q (some (zI ((fo (fun w s => s &&& scOf g.1 (w : Int)) c k s : Nat) : Int))) M → P none mX10_seenByAll 19 [.ref 276, zI (s : Int), zI (k : Int)] []  M Q := by
    intro c
    induction c with
    | zero =>
      intro k s hk hq
      refine p_iload_n (i := 11) rfl rfl ?_
      refine p_aload_n (i := 12) rfl rfl ?_
      refine p_getf (i := 13) rfl fX10_7 kY rfl ?_
      refine p_iconst (i := 14) rfl ?_
      refine p_iaX (i := 15) (2) rfl kL (by omega) (by omega) (by decide) ?_
      refine p_icmp_ge (i := 16) 43 rfl (by decide) (by omega) (by omega) (fun c26 => ?_) (fun c26 => by exfalso; omega)
      refine p_iload_n (i := 25) rfl rfl ?_
      refine p_iret (i := 26) rfl rfl (rfl) ?_
      exact hq
    | succ c ih =>
      intro k s hk hq
      refine p_iload_n (i := 11) rfl rfl ?_
      refine p_aload_n (i := 12) rfl rfl ?_
      refine p_getf (i := 13) rfl fX10_7 kY rfl ?_
      refine p_iconst (i := 14) rfl ?_
      refine p_iaX (i := 15) (2) rfl kL (by omega) (by omega) (by decide) ?_
      refine p_icmp_ge (i := 16) 43 rfl (by decide) (by omega) (by omega) (fun c26 => by exfalso; omega) (fun c26 => ?_)
      refine p_iload_n (i := 17) rfl rfl ?_
      refine p_aload_n (i := 18) rfl rfl ?_
      refine p_iload_n (i := 19) rfl rfl ?_
      refine p_cV1 (i := 20) rfl ⟨lX10_165, rfl, rfl⟩ kY ⟨_, rfl, rfl⟩ rfl (y_sawBy hL.1 hA (by omega) ?_)
      refine p_iandN (i := 21) rfl ?_
      refine p_istore_n (i := 22) rfl rfl ?_
      refine p_iinc (i := 23) rfl rfl rfl ?_
      refine p_goto (i := 24) 19 rfl (by decide) ?_
      exact ih (k + 1) _ (by omega) hq
  unfold all_ at h
  refine C_of okX10_seenByAll (by decide) (Nat.le_of_ble_eq_true rfl) ?_
  show P none mX10_seenByAll 0 [.ref 276, .retAddr 0, .retAddr 0] [] _ _
  refine p_aload_n (i := 0) rfl rfl ?_
  refine p_getf (i := 1) rfl fX10_7 kY rfl ?_
  refine p_iconst (i := 2) rfl ?_
  refine p_iaX (i := 3) (2) rfl kL (by omega) (by omega) (by decide) ?_
  refine p_if_ne (i := 4) 13 rfl (by decide) (by omega) (fun c6 => ?_) (fun c6 => ?_)
  · refine p_sipush (i := 7) rfl (by decide) ?_
    refine p_istore_n (i := 8) rfl rfl ?_
    refine p_iconst (i := 9) rfl ?_
    refine p_istore_n (i := 10) rfl rfl ?_
    rw [if_neg (by omega)] at h
    refine loop (nW ln) 0 255 (by omega) ?_
    obtain ⟨m, hm⟩ : ∃ m, nW ln = m + 1 := ⟨nW ln - 1, by omega⟩
    rw [hm] at h ⊢
    show Q (some (zI ((fo (fun w s => s &&& scOf g.1 (w : Int)) m 1 (255 &&& scOf g.1 ((0 : Nat) : Int)) : Nat) : Int))) M
    have e : 255 &&& scOf g.1 ((0 : Nat) : Int) = scOf g.1 0 := by
      rw [Nat.and_comm]
      exact Nat.and_two_pow_sub_one_of_lt_two_pow (n := 8) (scOf_lt hok q10)
    rw [e]
    exact h
  · refine p_iconst (i := 5) rfl ?_
    refine p_goto (i := 6) 16 rfl (by decide) ?_
    refine p_istore_n (i := 8) rfl rfl ?_
    refine p_iconst (i := 9) rfl ?_
    refine p_istore_n (i := 10) rfl rfl ?_
    rw [if_pos (by omega)] at h
    refine loop (nW ln) 0 0 (by omega) ?_
    rw [show nW ln = 0 by omega]
    exact h
theorem y_kin {M : AM} {ln : LN} {g : GS} {w : Nat} {Q : Option Value → AM → Prop} (hL : YL M ln) (hA : YA M 279 (nS ln) (nW ln) g) (hw : w < nW ln) (h : Q (some (zI (kin_ (nW ln) g.1 w))) M) : C mX10_kin [.ref 276, zI (w : Int)] M Q := by
  obtain ⟨⟨uy, sy, zy, fy, my, by_, ay, gy, ny, hy_, vy, ry, kY⟩, ⟨o1, o2, o3, o4, o5, o6, o7⟩, lf, kL, l0, l1, l2, l3, l4⟩ := id hL
  obtain ⟨⟨q1, q2, q3, q4, q5, q6, q7, q8, q9, q10, q11⟩, f, kT, ⟨t0, t1⟩, ⟨u1, u2, u3, u4, u5⟩⟩ := id hA
  have hok := hA.1.ls
  have loop : ∀ (c k : Nat) (s : Int × Int) (x : Value), k + c = nW ln → 0 ≤ s.2 ∧ s.2 ≤ 10 → Q (some (zI (fo (kinStep g.1 w) c k s).1)) M → P none mX10_kin 7 [.ref 276, zI (w : Int), zI s.1, zI s.2, zI (k : Int), x] []  M Q := by
    intro c
    induction c with
    | zero =>
      intro k s x hk hs hq
      refine p_iload (i := 6) rfl rfl ?_
      refine p_aload_n (i := 7) rfl rfl ?_
      refine p_getf (i := 8) rfl fX10_7 kY rfl ?_
      refine p_iconst (i := 9) rfl ?_
      refine p_iaX (i := 10) (2) rfl kL (by omega) (by omega) (by decide) ?_
      refine p_icmp_ge (i := 11) 71 rfl (by decide) (by omega) (by omega) (fun c15 => ?_) (fun c15 => by exfalso; omega)
      refine p_iload_n (i := 39) rfl rfl ?_
      refine p_iret (i := 40) rfl rfl (rfl) ?_
      exact hq
    | succ c ih =>
      intro k s x hk hs hq
      have hq : Q (some (zI (fo (kinStep g.1 w) c (k + 1) (kinStep g.1 w k s)).1)) M := hq
      unfold kinStep at hq
      have hc := scOf_lt (w := (k : Int)) hok q10
      have hp10 := popc_le (scOf g.1 (w : Int) &&& scOf g.1 (k : Int))
      refine p_iload (i := 6) rfl rfl ?_
      refine p_aload_n (i := 7) rfl rfl ?_
      refine p_getf (i := 8) rfl fX10_7 kY rfl ?_
      refine p_iconst (i := 9) rfl ?_
      refine p_iaX (i := 10) (2) rfl kL (by omega) (by omega) (by decide) ?_
      refine p_icmp_ge (i := 11) 71 rfl (by decide) (by omega) (by omega) (fun c15 => by exfalso; omega) (fun c15 => ?_)
      refine p_iload (i := 12) rfl rfl ?_
      refine p_iload_n (i := 13) rfl rfl ?_
      refine p_icmp_ne (i := 14) 28 rfl (by decide) (by omega) (by omega) (fun c21 => ?_) (fun c21 => ?_)
      · refine p_aload_n (i := 17) rfl rfl ?_
        refine p_iload (i := 18) rfl rfl ?_
        refine p_cV1 (i := 19) rfl ⟨lX10_165, rfl, rfl⟩ kY ⟨_, rfl, rfl⟩ rfl (y_sawBy hL.1 hA (by omega) ?_)
        refine p_aload_n (i := 20) rfl rfl ?_
        refine p_iload_n (i := 21) rfl rfl ?_
        refine p_cV1 (i := 22) rfl ⟨lX10_165, rfl, rfl⟩ kY ⟨_, rfl, rfl⟩ rfl (y_sawBy hL.1 hA (by omega) ?_)
        refine p_iandN (i := 23) rfl ?_
        refine p_cS1 (i := 24) rfl ⟨lX10_169, rfl, rfl⟩ rfl (y_bits (Nat.lt_of_le_of_lt Nat.and_le_left (by omega)) ?_)
        rw [Nat.and_comm]
        refine p_istore (i := 25) rfl rfl ?_
        refine p_iload (i := 26) rfl rfl ?_
        refine p_iload_n (i := 27) rfl rfl ?_
        refine p_icmp_le (i := 28) 56 rfl (by decide) (by omega) (by omega) (fun c48 => ?_) (fun c48 => ?_)
        · refine p_iload_n (i := 31) rfl rfl ?_
          refine p_istore_n (i := 32) rfl rfl ?_
          refine p_iload_n (i := 33) rfl rfl ?_
          refine p_iload (i := 34) rfl rfl ?_
          refine p_cS2 (i := 35) rfl ⟨lX10_172, rfl, rfl⟩ rfl (y_greater (by omega) (by omega) ?_)
          rw [if_neg (by omega)] at hq
          refine p_istore_n (i := 36) rfl rfl ?_
          refine p_iinc (i := 37) rfl rfl rfl ?_
          refine p_goto (i := 38) 7 rfl (by decide) ?_
          rw [show max s.2 ((popc (scOf g.1 (w : Int) &&& scOf g.1 (k : Int)) : Nat) : Int) = s.2 by omega]
          exact ih (k + 1) s _ (by omega) hs hq
        · refine p_iload (i := 29) rfl rfl ?_
          refine p_goto (i := 30) 57 rfl (by decide) ?_
          refine p_istore_n (i := 32) rfl rfl ?_
          refine p_iload_n (i := 33) rfl rfl ?_
          refine p_iload (i := 34) rfl rfl ?_
          refine p_cS2 (i := 35) rfl ⟨lX10_172, rfl, rfl⟩ rfl (y_greater (by omega) (by omega) ?_)
          rw [if_pos (by omega)] at hq
          refine p_istore_n (i := 36) rfl rfl ?_
          refine p_iinc (i := 37) rfl rfl rfl ?_
          refine p_goto (i := 38) 7 rfl (by decide) ?_
          rw [show max s.2 ((popc (scOf g.1 (w : Int) &&& scOf g.1 (k : Int)) : Nat) : Int) = ((popc (scOf g.1 (w : Int) &&& scOf g.1 (k : Int)) : Nat) : Int) by omega]
          exact ih (k + 1) (_, _) _ (by omega) (by show (0 : Int) ≤ (popc _ : Nat) ∧ ((popc _ : Nat) : Int) ≤ 10; omega) hq
      · refine p_iconst (i := 15) rfl ?_
        refine p_goto (i := 16) 43 rfl (by decide) ?_
        refine p_istore (i := 25) rfl rfl ?_
        refine p_iload (i := 26) rfl rfl ?_
        refine p_iload_n (i := 27) rfl rfl ?_
        refine p_icmp_le (i := 28) 56 rfl (by decide) (by omega) (by omega) (fun c48 => ?_) (fun c48 => by exfalso; omega)
        refine p_iload_n (i := 31) rfl rfl ?_
        refine p_istore_n (i := 32) rfl rfl ?_
        refine p_iload_n (i := 33) rfl rfl ?_
        refine p_iload (i := 34) rfl rfl ?_
        refine p_cS2 (i := 35) rfl ⟨lX10_172, rfl, rfl⟩ rfl (y_greater (by omega) (by omega) ?_)
        rw [if_neg (by omega)] at hq
        refine p_istore_n (i := 36) rfl rfl ?_
        refine p_iinc (i := 37) rfl rfl rfl ?_
        refine p_goto (i := 38) 7 rfl (by decide) ?_
        rw [show max s.2 (0 : Int) = s.2 by omega]
        exact ih (k + 1) s _ (by omega) hs hq
  refine C_of okX10_kin (by decide) (Nat.le_of_ble_eq_true rfl) ?_
  show P none mX10_kin 0 [.ref 276, zI (w : Int), .retAddr 0, .retAddr 0, .retAddr 0, .retAddr 0] [] _ _
  refine p_iconst (i := 0) rfl ?_
  refine p_istore_n (i := 1) rfl rfl ?_
  refine p_iconst (i := 2) rfl ?_
  refine p_istore_n (i := 3) rfl rfl ?_
  refine p_iconst (i := 4) rfl ?_
  refine p_istore (i := 5) rfl rfl ?_
  exact loop (nW ln) 0 (-1, 0) _ (by omega) (by decide) h
theorem y_eyes {M : AM} {ns nw : Nat} {g : GS} {Q : Option Value → AM → Prop} (hH : YH M) (hA : YA M 279 ns nw g) (h : Q (some (zI (low g.1))) M) : C mX10_eyes [.ref 276] M Q := by
  obtain ⟨uy, sy, zy, fy, my, by_, ay, gy, ny, hy_, vy, ry, kY⟩ := id hH
  obtain ⟨⟨q1, q2, q3, q4, q5, q6, q7, q8, q9, q10, q11⟩, f, kT, ⟨t0, t1⟩, ⟨u1, u2, u3, u4, u5⟩⟩ := id hA
  have loop : ∀ (c k : Nat), k + c = g.1.length → Q (some (zI (fi (fun k => decide (lW g.1 k ≠ -1)) c k))) M → P none mX10_eyes 2 [.ref 276, zI (k : Int)] []  M Q := by
    intro c
    induction c with
    | zero =>
      intro k hk hq
      refine p_iload_n (i := 2) rfl rfl ?_
      refine p_aload_n (i := 3) rfl rfl ?_
      refine p_getf (i := 4) rfl fX10_16 kY rfl ?_
      refine p_iconst (i := 5) rfl ?_
      refine p_iaX (i := 6) (0) rfl kT (by omega) (by omega) (by decide) ?_
      refine p_icmp_ge (i := 7) 33 rfl (by decide) (by omega) (by omega) (fun c9 => ?_) (fun c9 => by exfalso; omega)
      refine p_iconst (i := 20) rfl ?_
      refine p_iret (i := 21) rfl rfl (rfl) ?_
      exact hq
    | succ c ih =>
      intro k hk hq
      obtain ⟨e1, e2, e3⟩ := t1 k (by omega)
      have e4 := q2 k (by omega)
      have hq : Q (some (zI (if decide (lW g.1 k ≠ -1) = true then (k : Int) else fi (fun k => decide (lW g.1 k ≠ -1)) c (k + 1)))) M := hq
      refine p_iload_n (i := 2) rfl rfl ?_
      refine p_aload_n (i := 3) rfl rfl ?_
      refine p_getf (i := 4) rfl fX10_16 kY rfl ?_
      refine p_iconst (i := 5) rfl ?_
      refine p_iaX (i := 6) (0) rfl kT (by omega) (by omega) (by decide) ?_
      refine p_icmp_ge (i := 7) 33 rfl (by decide) (by omega) (by omega) (fun c9 => by exfalso; omega) (fun c9 => ?_)
      refine p_aload_n (i := 8) rfl rfl ?_
      refine p_getf (i := 9) rfl fX10_16 kY rfl ?_
      refine p_bipush (i := 10) rfl (by decide) ?_
      refine p_iload_n (i := 11) rfl rfl ?_
      refine p_iadd (i := 12) rfl ?_
      refine p_iaX (i := 13) ((11 + k)) rfl kT (by omega) (by omega) (by decide) ?_
      refine p_iconst (i := 14) rfl ?_
      refine p_icmp_eq (i := 15) 27 rfl (by decide) (by omega) (by omega) (fun c22 => ?_) (fun c22 => ?_)
      · rw [if_neg (by rw [decide_eq_true_eq]; omega)] at hq
        refine p_iinc (i := 18) rfl rfl rfl ?_
        refine p_goto (i := 19) 2 rfl (by decide) ?_
        exact ih (k + 1) (by omega) hq
      · rw [if_pos (by rw [decide_eq_true_eq]; omega)] at hq
        refine p_iload_n (i := 16) rfl rfl ?_
        refine p_iret (i := 17) rfl rfl (rfl) ?_
        exact hq
  refine C_of okX10_eyes (by decide) (Nat.le_of_ble_eq_true rfl) ?_
  show P none mX10_eyes 0 [.ref 276, .retAddr 0] [] _ _
  refine p_iconst (i := 0) rfl ?_
  refine p_istore_n (i := 1) rfl rfl ?_
  exact loop g.1.length 0 (by omega) h
theorem tb_sb0 {Ls : List LY} (h : ∀ k, k < Ls.length → 0 ≤ lT Ls k) : fo (tbStep Ls 0 (-1)) Ls.length 0 (-1) = sb Ls 0 := by
  obtain ⟨⟨b, m⟩, e1⟩ : ∃ s, s = fo (sbStep Ls 0) Ls.length 0 (-1, 0) := ⟨_, rfl⟩
  obtain ⟨c, e2⟩ : ∃ s, s = fo (tbStep Ls 0 (-1)) Ls.length 0 (-1) := ⟨_, rfl⟩
  have hs : sb Ls 0 = b := by unfold sb; rw [← e1]
  rw [hs, ← e2]
  rcases tb_sb h Ls.length (Nat.le_refl _) b m c e1.symm e2.symm with ⟨i1, i2, i3⟩ | ⟨i1, i2, i3, i4⟩
  · omega
  · have := h b.toNat (by omega)
    rw [if_pos (by omega)] at i4
    exact i4
theorem y_strongest {M : AM} {ns nw : Nat} {g : GS} {Q : Option Value → AM → Prop} (hH : YH M) (hA : YA M 279 ns nw g) (h : Q (some (zI (sb g.1 0))) M) : C mX10_strongest [.ref 276] M Q := by
  obtain ⟨uy, sy, zy, fy, my, by_, ay, gy, ny, hy_, vy, ry, kY⟩ := id hH
  obtain ⟨⟨q1, q2, q3, q4, q5, q6, q7, q8, q9, q10, q11⟩, f, kT, ⟨t0, t1⟩, ⟨u1, u2, u3, u4, u5⟩⟩ := id hA
  have loop : ∀ (c k : Nat) (b : Int), k + c = g.1.length → -1 ≤ b ∧ b < k → Q (some (zI (fo (tbStep g.1 0 (-1)) c k b))) M → P none mX10_strongest 4 [.ref 276, zI b, zI (k : Int)] []  M Q := by
    intro c
    induction c with
    | zero =>
      intro k b hk hb hq
      refine p_iload_n (i := 4) rfl rfl ?_
      refine p_aload_n (i := 5) rfl rfl ?_
      refine p_getf (i := 6) rfl fX10_16 kY rfl ?_
      refine p_iconst (i := 7) rfl ?_
      refine p_iaX (i := 8) (0) rfl kT (by omega) (by omega) (by decide) ?_
      refine p_icmp_ge (i := 9) 52 rfl (by decide) (by omega) (by omega) (fun c11 => ?_) (fun c11 => by exfalso; omega)
      refine p_iload_n (i := 32) rfl rfl ?_
      refine p_iret (i := 33) rfl rfl (rfl) ?_
      exact hq
    | succ c ih =>
      intro k b hk hb hq
      obtain ⟨e1, e2, e3⟩ := t1 k (by omega)
      have e4 := q2 k (by omega)
      have hq : Q (some (zI (fo (tbStep g.1 0 (-1)) c (k + 1) (tbStep g.1 0 (-1) k b)))) M := hq
      have e0 : 0 / 2 ^ k % 2 = 0 := by rw [Nat.zero_div]
      refine p_iload_n (i := 4) rfl rfl ?_
      refine p_aload_n (i := 5) rfl rfl ?_
      refine p_getf (i := 6) rfl fX10_16 kY rfl ?_
      refine p_iconst (i := 7) rfl ?_
      refine p_iaX (i := 8) (0) rfl kT (by omega) (by omega) (by decide) ?_
      refine p_icmp_ge (i := 9) 52 rfl (by decide) (by omega) (by omega) (fun c11 => by exfalso; omega) (fun c11 => ?_)
      refine p_iload_n (i := 10) rfl rfl ?_
      refine p_iconst (i := 11) rfl ?_
      refine p_icmp_eq (i := 12) 40 rfl (by decide) (by omega) (by omega) (fun c16 => ?_) (fun c16 => ?_)
      · have es : tbStep g.1 0 (-1) k b = k := by unfold tbStep; rw [if_pos ⟨⟨e0, by omega⟩, Or.inl (by omega)⟩]
        rw [es] at hq
        refine p_iload_n (i := 26) rfl rfl ?_
        refine p_goto (i := 27) 45 rfl (by decide) ?_
        refine p_istore_n (i := 29) rfl rfl ?_
        refine p_iinc (i := 30) rfl rfl rfl ?_
        refine p_goto (i := 31) 4 rfl (by decide) ?_
        exact ih (k + 1) _ (by omega) (by omega) hq
      · obtain ⟨d1, d2, d3⟩ := t1 b.toNat (by omega)
        have d4 := q2 b.toNat (by omega)
        refine p_aload_n (i := 13) rfl rfl ?_
        refine p_getf (i := 14) rfl fX10_16 kY rfl ?_
        refine p_bipush (i := 15) rfl (by decide) ?_
        refine p_iload_n (i := 16) rfl rfl ?_
        refine p_iadd (i := 17) rfl ?_
        refine p_iaX (i := 18) ((21 + k)) rfl kT (by omega) (by omega) (by decide) ?_
        refine p_aload_n (i := 19) rfl rfl ?_
        refine p_getf (i := 20) rfl fX10_16 kY rfl ?_
        refine p_bipush (i := 21) rfl (by decide) ?_
        refine p_iload_n (i := 22) rfl rfl ?_
        refine p_iadd (i := 23) rfl ?_
        refine p_iaX (i := 24) (21 + b.toNat) rfl kT (by omega) (by omega) (by decide) ?_
        refine p_icmp_lt (i := 25) 44 rfl (by decide) (by omega) (by omega) (fun c37 => ?_) (fun c37 => ?_)
        · have es : tbStep g.1 0 (-1) k b = b := by unfold tbStep; rw [if_neg (by omega)]
          rw [es] at hq
          refine p_iload_n (i := 28) rfl rfl ?_
          refine p_istore_n (i := 29) rfl rfl ?_
          refine p_iinc (i := 30) rfl rfl rfl ?_
          refine p_goto (i := 31) 4 rfl (by decide) ?_
          exact ih (k + 1) _ (by omega) (by omega) hq
        · have es : tbStep g.1 0 (-1) k b = k := by unfold tbStep; rw [if_pos ⟨⟨e0, by omega⟩, Or.inr (by omega)⟩]
          rw [es] at hq
          refine p_iload_n (i := 26) rfl rfl ?_
          refine p_goto (i := 27) 45 rfl (by decide) ?_
          refine p_istore_n (i := 29) rfl rfl ?_
          refine p_iinc (i := 30) rfl rfl rfl ?_
          refine p_goto (i := 31) 4 rfl (by decide) ?_
          exact ih (k + 1) _ (by omega) (by omega) hq
  rw [← tb_sb0 (fun k hk => by have := q2 k hk; omega)] at h
  refine C_of okX10_strongest (by decide) (Nat.le_of_ble_eq_true rfl) ?_
  show P none mX10_strongest 0 [.ref 276, .retAddr 0, .retAddr 0] [] _ _
  refine p_iconst (i := 0) rfl ?_
  refine p_istore_n (i := 1) rfl rfl ?_
  refine p_iconst (i := 2) rfl ?_
  refine p_istore_n (i := 3) rfl rfl ?_
  exact loop g.1.length 0 (-1) (by omega) (by omega) h
theorem y_thick {M : AM} {ns nw : Nat} {g : GS} {Q : Option Value → AM → Prop} (hH : YH M) (hA : YA M 279 ns nw g) (h : Q (some (zI (thk g.1))) M) : C mX10_thick [.ref 276] M Q := by
  obtain ⟨uy, sy, zy, fy, my, by_, ay, gy, ny, hy_, vy, ry, kY⟩ := id hH
  obtain ⟨⟨q1, q2, q3, q4, q5, q6, q7, q8, q9, q10, q11⟩, f, kT, ⟨t0, t1⟩, ⟨u1, u2, u3, u4, u5⟩⟩ := id hA
  have loop : ∀ (c k : Nat) (s : Int × Int), k + c = g.1.length → 0 ≤ s.1 ∧ s.1 ≤ k → 0 ≤ s.2 ∧ s.2 ≤ k → Q (some (zI (fo (thStep g.1) c k s).1)) M → P none mX10_thick 6 [.ref 276, zI s.1, zI s.2, zI (k : Int)] []  M Q := by
    intro c
    induction c with
    | zero =>
      intro k s hk h1 h2 hq
      refine p_iload_n (i := 6) rfl rfl ?_
      refine p_aload_n (i := 7) rfl rfl ?_
      refine p_getf (i := 8) rfl fX10_16 kY rfl ?_
      refine p_iconst (i := 9) rfl ?_
      refine p_iaX (i := 10) (0) rfl kT (by omega) (by omega) (by decide) ?_
      refine p_icmp_ge (i := 11) 61 rfl (by decide) (by omega) (by omega) (fun c13 => ?_) (fun c13 => by exfalso; omega)
      refine p_iload_n (i := 41) rfl rfl ?_
      refine p_iret (i := 42) rfl rfl (rfl) ?_
      exact hq
    | succ c ih =>
      intro k s hk h1 h2 hq
      obtain ⟨e1, e2, e3⟩ := t1 k (by omega)
      have e4 := q2 k (by omega)
      have hq : Q (some (zI (fo (thStep g.1) c (k + 1) (thStep g.1 k s)).1)) M := hq
      unfold thStep at hq
      refine p_iload_n (i := 6) rfl rfl ?_
      refine p_aload_n (i := 7) rfl rfl ?_
      refine p_getf (i := 8) rfl fX10_16 kY rfl ?_
      refine p_iconst (i := 9) rfl ?_
      refine p_iaX (i := 10) (0) rfl kT (by omega) (by omega) (by decide) ?_
      refine p_icmp_ge (i := 11) 61 rfl (by decide) (by omega) (by omega) (fun c13 => by exfalso; omega) (fun c13 => ?_)
      refine p_iload_n (i := 12) rfl rfl ?_
      refine p_if_le (i := 13) 47 rfl (by decide) (by omega) (fun c17 => ?_) (fun c17 => ?_)
      · rw [if_neg (by omega)] at hq
        refine p_iconst (i := 33) rfl ?_
        refine p_istore_n (i := 34) rfl rfl ?_
        refine p_iload_n (i := 35) rfl rfl ?_
        refine p_iload_n (i := 36) rfl rfl ?_
        refine p_cS2 (i := 37) rfl ⟨lX10_172, rfl, rfl⟩ rfl (y_greater (by omega) (by omega) ?_)
        refine p_istore_n (i := 38) rfl rfl ?_
        refine p_iinc (i := 39) rfl rfl rfl ?_
        refine p_goto (i := 40) 6 rfl (by decide) ?_
        exact ih (k + 1) (_, _) (by omega) (by dsimp only; omega) (by dsimp only; omega) hq
      · obtain ⟨d1, d2, d3⟩ := t1 (k - 1) (by omega)
        have d4 := q2 (k - 1) (by omega)
        refine p_aload_n (i := 14) rfl rfl ?_
        refine p_getf (i := 15) rfl fX10_16 kY rfl ?_
        refine p_iconst (i := 16) rfl ?_
        refine p_iload_n (i := 17) rfl rfl ?_
        refine p_iadd (i := 18) rfl ?_
        refine p_iaX (i := 19) ((1 + k)) rfl kT (by omega) (by omega) (by decide) ?_
        refine p_aload_n (i := 20) rfl rfl ?_
        refine p_getf (i := 21) rfl fX10_16 kY rfl ?_
        refine p_iconst (i := 22) rfl ?_
        refine p_iload_n (i := 23) rfl rfl ?_
        refine p_iadd (i := 24) rfl ?_
        refine p_iconst (i := 25) rfl ?_
        refine p_isub (i := 26) rfl ?_
        refine p_iaX (i := 27) (1 + (k - 1)) rfl kT (by omega) (by omega) (by decide) ?_
        refine p_icmp_ne (i := 28) 47 rfl (by decide) (by omega) (by omega) (fun c38 => ?_) (fun c38 => ?_)
        · rw [if_neg (by omega)] at hq
          refine p_iconst (i := 33) rfl ?_
          refine p_istore_n (i := 34) rfl rfl ?_
          refine p_iload_n (i := 35) rfl rfl ?_
          refine p_iload_n (i := 36) rfl rfl ?_
          refine p_cS2 (i := 37) rfl ⟨lX10_172, rfl, rfl⟩ rfl (y_greater (by omega) (by omega) ?_)
          refine p_istore_n (i := 38) rfl rfl ?_
          refine p_iinc (i := 39) rfl rfl rfl ?_
          refine p_goto (i := 40) 6 rfl (by decide) ?_
          exact ih (k + 1) (_, _) (by omega) (by dsimp only; omega) (by dsimp only; omega) hq
        · rw [if_pos (by omega)] at hq
          refine p_iload_n (i := 29) rfl rfl ?_
          refine p_iconst (i := 30) rfl ?_
          refine p_iadd (i := 31) rfl ?_
          refine p_goto (i := 32) 48 rfl (by decide) ?_
          refine p_istore_n (i := 34) rfl rfl ?_
          refine p_iload_n (i := 35) rfl rfl ?_
          refine p_iload_n (i := 36) rfl rfl ?_
          refine p_cS2 (i := 37) rfl ⟨lX10_172, rfl, rfl⟩ rfl (y_greater (by omega) (by omega) ?_)
          refine p_istore_n (i := 38) rfl rfl ?_
          refine p_iinc (i := 39) rfl rfl rfl ?_
          refine p_goto (i := 40) 6 rfl (by decide) ?_
          exact ih (k + 1) (_, _) (by omega) (by dsimp only; omega) (by dsimp only; omega) hq
  refine C_of okX10_thick (by decide) (Nat.le_of_ble_eq_true rfl) ?_
  show P none mX10_thick 0 [.ref 276, .retAddr 0, .retAddr 0, .retAddr 0] [] _ _
  refine p_iconst (i := 0) rfl ?_
  refine p_istore_n (i := 1) rfl rfl ?_
  refine p_iconst (i := 2) rfl ?_
  refine p_istore_n (i := 3) rfl rfl ?_
  refine p_iconst (i := 4) rfl ?_
  refine p_istore_n (i := 5) rfl rfl ?_
  exact loop g.1.length 0 (0, 0) (by omega) (by decide) (by decide) h
theorem y_lookFor {M : AM} {ln : LN} {g : GS} {x : Int} {Q : Option Value → AM → Prop} (hL : YL M ln) (hA : YA M 279 (nS ln) (nW ln) g) (hx : -2147483648 ≤ x ∧ x ≤ 2147483647) (h : Q (some (zI (stf ln g.1 x : Nat))) M) : C mX10_lookFor [.ref 276, zI x] M Q := by
  obtain ⟨⟨uy, sy, zy, fy, my, by_, ay, gy, ny, hy_, vy, ry, kY⟩, ⟨o1, o2, o3, o4, o5, o6, o7⟩, lf, kL, l0, l1, l2, l3, l4⟩ := id hL
  have hok := hA.1.ls
  have loop : ∀ (c k s : Nat), k + c = nS ln → Q (some (zI ((fo (fun y s => if tk ln g.1 (y : Int) 0 0 = x then s ||| 2 ^ y else s) c k s : Nat) : Int))) M → P none mX10_lookFor 4 [.ref 276, zI x, zI (s : Int), zI (k : Int)] []  M Q := by
    intro c
    induction c with
    | zero =>
      intro k s hk hq
      refine p_iload_n (i := 4) rfl rfl ?_
      refine p_aload_n (i := 5) rfl rfl ?_
      refine p_getf (i := 6) rfl fX10_7 kY rfl ?_
      refine p_iconst (i := 7) rfl ?_
      refine p_iaX (i := 8) (1) rfl kL (by omega) (by omega) (by decide) ?_
      refine p_icmp_ge (i := 9) 39 rfl (by decide) (by omega) (by omega) (fun c11 => ?_) (fun c11 => by exfalso; omega)
      refine p_iload_n (i := 25) rfl rfl ?_
      refine p_iret (i := 26) rfl rfl (rfl) ?_
      exact hq
    | succ c ih =>
      intro k s hk hq
      have ht := tk_rng (ln := ln) (x := (k : Int)) (m := 0) (wi := 0) hok (Nat.le_refl _) (by omega)
      have hq : Q (some (zI ((fo (fun y s => if tk ln g.1 (y : Int) 0 0 = x then s ||| 2 ^ y else s) c (k + 1) (if tk ln g.1 (k : Int) 0 0 = x then s ||| 2 ^ k else s) : Nat) : Int))) M := hq
      refine p_iload_n (i := 4) rfl rfl ?_
      refine p_aload_n (i := 5) rfl rfl ?_
      refine p_getf (i := 6) rfl fX10_7 kY rfl ?_
      refine p_iconst (i := 7) rfl ?_
      refine p_iaX (i := 8) (1) rfl kL (by omega) (by omega) (by decide) ?_
      refine p_icmp_ge (i := 9) 39 rfl (by decide) (by omega) (by omega) (fun c11 => by exfalso; omega) (fun c11 => ?_)
      refine p_iload_n (i := 10) rfl rfl ?_
      refine p_aload_n (i := 11) rfl rfl ?_
      refine p_iload_n (i := 12) rfl rfl ?_
      refine p_cV1 (i := 13) rfl ⟨lX10_191, rfl, rfl⟩ kY ⟨_, rfl, rfl⟩ rfl (y_takesNow hL hA (by omega) ?_)
      refine p_iload_n (i := 14) rfl rfl ?_
      refine p_icmp_ne (i := 15) 30 rfl (by decide) (by omega) (by omega) (fun c21 => ?_) (fun c21 => ?_)
      · rw [if_neg c21] at hq
        refine p_iconst (i := 20) rfl ?_
        refine p_iorN (i := 21) rfl ?_
        refine p_istore_n (i := 22) rfl rfl ?_
        refine p_iinc (i := 23) rfl rfl rfl ?_
        refine p_goto (i := 24) 4 rfl (by decide) ?_
        rw [Nat.or_zero]
        exact ih (k + 1) s (by omega) hq
      · rw [if_pos c21] at hq
        refine p_iconst (i := 16) rfl ?_
        refine p_iload_n (i := 17) rfl rfl ?_
        refine p_ishl1 (i := 18) rfl (by omega) ?_
        refine p_goto (i := 19) 31 rfl (by decide) ?_
        refine p_iorN (i := 21) rfl ?_
        refine p_istore_n (i := 22) rfl rfl ?_
        refine p_iinc (i := 23) rfl rfl rfl ?_
        refine p_goto (i := 24) 4 rfl (by decide) ?_
        exact ih (k + 1) _ (by omega) hq
  refine C_of okX10_lookFor (by decide) (Nat.le_of_ble_eq_true rfl) ?_
  show P none mX10_lookFor 0 [.ref 276, zI x, .retAddr 0, .retAddr 0] [] _ _
  refine p_iconst (i := 0) rfl ?_
  refine p_istore_n (i := 1) rfl rfl ?_
  refine p_iconst (i := 2) rfl ?_
  refine p_istore_n (i := 3) rfl rfl ?_
  exact loop (nS ln) 0 0 (by omega) h
theorem y_refuses {M : AM} {ln : LN} {g : GS} {n : Int} {Q : Option Value → AM → Prop} (hL : YL M ln) (hA : YA M 279 (nS ln) (nW ln) g) (hn : -2147483648 ≤ n ∧ n ≤ 2147483647) (h : Q (some (zI (refs ln g n))) M) : C mX10_refuses [.ref 276, zI n] M Q := by
  obtain ⟨⟨uy, sy, zy, fy, my, by_, ay, gy, ny, hy_, vy, ry, kY⟩, ⟨o1, o2, o3, o4, o5, o6, o7⟩, lf, kL, l0, l1, l2, l3, l4⟩ := id hL
  obtain ⟨⟨q1, q2, q3, q4, q5, q6, q7, q8, q9, q10, q11⟩, f, kT, ⟨t0, t1⟩, ⟨u1, u2, u3, u4, u5⟩⟩ := id hA
  unfold refs at h
  refine C_of okX10_refuses (by decide) (Nat.le_of_ble_eq_true rfl) ?_
  show P none mX10_refuses 0 [.ref 276, zI n] [] _ _
  refine p_iload_n (i := 0) rfl rfl ?_
  refine p_i2l (i := 1) rfl (by omega) ?_
  refine p_lconst1 (i := 2) rfl ?_
  refine p_ldc2 (i := 3) rfl kX10_214 ?_
  refine p_cS3 (i := 4) rfl ⟨lX10_59, rfl, rfl⟩ rfl (y_in (by omega) (by omega) (by omega) (fun q => ?_) (fun q => ?_))
  · rw [if_neg (by omega)] at h
    refine p_if_ne (i := 5) 15 rfl (by decide) (by omega) (fun c9 => ?_) (fun c9 => by exfalso; omega)
    refine p_aload_n (i := 8) rfl rfl ?_
    refine p_getf (i := 9) rfl fX10_7 kY rfl ?_
    refine p_iconst (i := 10) rfl ?_
    refine p_iaX (i := 11) (0) rfl kL (by omega) (by omega) (by decide) ?_
    refine p_if_ne (i := 12) 29 rfl (by decide) (by omega) (fun c21 => ?_) (fun c21 => ?_)
    · rw [if_neg (by omega)] at h
      refine p_aload_n (i := 15) rfl rfl ?_
      refine p_getf (i := 16) rfl fX10_16 kY rfl ?_
      refine p_bipush (i := 17) rfl (by decide) ?_
      refine p_iaX (i := 18) (32) rfl kT (by omega) (by omega) (by decide) ?_
      refine p_ldc (i := 19) rfl kX10_217 ?_
      refine p_icmp_le (i := 20) 46 rfl (by decide) (by omega) (by omega) (fun c38 => ?_) (fun c38 => ?_)
      · rw [if_neg (by omega)] at h
        refine p_iconst (i := 23) rfl ?_
        refine p_iret (i := 24) rfl rfl (rfl) ?_
        exact h
      · rw [if_pos (by omega)] at h
        refine p_ldc (i := 21) rfl kX10_67 ?_
        refine p_goto (i := 22) 47 rfl (by decide) ?_
        refine p_iret (i := 24) rfl rfl (rfl) ?_
        exact h
    · rw [if_pos (by omega)] at h
      refine p_ldc (i := 13) rfl kX10_216 ?_
      refine p_goto (i := 14) 47 rfl (by decide) ?_
      refine p_iret (i := 24) rfl rfl (rfl) ?_
      exact h
  · rw [if_pos (by omega)] at h
    refine p_if_ne (i := 5) 15 rfl (by decide) (by omega) (fun c9 => by exfalso; omega) (fun c9 => ?_)
    refine p_ldc (i := 6) rfl kX10_63 ?_
    refine p_iret (i := 7) rfl rfl (rfl) ?_
    exact h
theorem y_isScene {M : AM} {ln : LN} {x : Int} {Q : Option Value → AM → Prop} (hL : YL M ln) (hx : -2147483648 ≤ x ∧ x ≤ 2147483647) (h1 : 0 ≤ x ∧ x < nS ln → Q (some (zI 1)) M) (h0 : ¬ (0 ≤ x ∧ x < nS ln) → Q (some (zI 0)) M) : C mX10_isScene [.ref 276, zI x] M Q := by
  obtain ⟨⟨uy, sy, zy, fy, my, by_, ay, gy, ny, hy_, vy, ry, kY⟩, ⟨o1, o2, o3, o4, o5, o6, o7⟩, lf, kL, l0, l1, l2, l3, l4⟩ := id hL
  refine C_of okX10_isScene (by decide) (Nat.le_of_ble_eq_true rfl) ?_
  show P none mX10_isScene 0 [.ref 276, zI x] [] _ _
  refine p_iload_n (i := 0) rfl rfl ?_
  refine p_i2l (i := 1) rfl (by omega) ?_
  refine p_lconst0 (i := 2) rfl ?_
  refine p_aload_n (i := 3) rfl rfl ?_
  refine p_getf (i := 4) rfl fX10_7 kY rfl ?_
  refine p_iconst (i := 5) rfl ?_
  refine p_iaX (i := 6) (1) rfl kL (by omega) (by omega) (by decide) ?_
  refine p_iconst (i := 7) rfl ?_
  refine p_isub (i := 8) rfl ?_
  refine p_i2l (i := 9) rfl (by omega) ?_
  refine p_cS3 (i := 10) rfl ⟨lX10_59, rfl, rfl⟩ rfl (y_in (by omega) (by omega) (by omega) (fun q => ?_) (fun q => ?_))
  · refine p_iret (i := 11) rfl rfl (by decide) ?_
    exact h1 (by omega)
  · refine p_iret (i := 11) rfl rfl (by decide) ?_
    exact h0 (by omega)
theorem y_isWearer {M : AM} {ln : LN} {x : Int} {Q : Option Value → AM → Prop} (hL : YL M ln) (hx : -2147483648 ≤ x ∧ x ≤ 2147483647) (h1 : 0 ≤ x ∧ x < nW ln → Q (some (zI 1)) M) (h0 : ¬ (0 ≤ x ∧ x < nW ln) → Q (some (zI 0)) M) : C mX10_isWearer [.ref 276, zI x] M Q := by
  obtain ⟨⟨uy, sy, zy, fy, my, by_, ay, gy, ny, hy_, vy, ry, kY⟩, ⟨o1, o2, o3, o4, o5, o6, o7⟩, lf, kL, l0, l1, l2, l3, l4⟩ := id hL
  refine C_of okX10_isWearer (by decide) (Nat.le_of_ble_eq_true rfl) ?_
  show P none mX10_isWearer 0 [.ref 276, zI x] [] _ _
  refine p_iload_n (i := 0) rfl rfl ?_
  refine p_i2l (i := 1) rfl (by omega) ?_
  refine p_lconst0 (i := 2) rfl ?_
  refine p_aload_n (i := 3) rfl rfl ?_
  refine p_getf (i := 4) rfl fX10_7 kY rfl ?_
  refine p_iconst (i := 5) rfl ?_
  refine p_iaX (i := 6) (2) rfl kL (by omega) (by omega) (by decide) ?_
  refine p_iconst (i := 7) rfl ?_
  refine p_isub (i := 8) rfl ?_
  refine p_i2l (i := 9) rfl (by omega) ?_
  refine p_cS3 (i := 10) rfl ⟨lX10_59, rfl, rfl⟩ rfl (y_in (by omega) (by omega) (by omega) (fun q => ?_) (fun q => ?_))
  · refine p_iret (i := 11) rfl rfl (by decide) ?_
    exact h1 (by omega)
  · refine p_iret (i := 11) rfl rfl (by decide) ?_
    exact h0 (by omega)
theorem y_isLayer {M : AM} {ns nw : Nat} {g : GS} {x : Int} {Q : Option Value → AM → Prop} (hH : YH M) (hA : YA M 279 ns nw g) (hx : -2147483648 ≤ x ∧ x ≤ 2147483647) (h1 : 0 ≤ x ∧ x < g.1.length → Q (some (zI 1)) M) (h0 : ¬ (0 ≤ x ∧ x < g.1.length) → Q (some (zI 0)) M) : C mX10_isLayer [.ref 276, zI x] M Q := by
  obtain ⟨uy, sy, zy, fy, my, by_, ay, gy, ny, hy_, vy, ry, kY⟩ := id hH
  obtain ⟨⟨q1, q2, q3, q4, q5, q6, q7, q8, q9, q10, q11⟩, f, kT, ⟨t0, t1⟩, ⟨u1, u2, u3, u4, u5⟩⟩ := id hA
  refine C_of okX10_isLayer (by decide) (Nat.le_of_ble_eq_true rfl) ?_
  show P none mX10_isLayer 0 [.ref 276, zI x] [] _ _
  refine p_iload_n (i := 0) rfl rfl ?_
  refine p_i2l (i := 1) rfl (by omega) ?_
  refine p_lconst0 (i := 2) rfl ?_
  refine p_aload_n (i := 3) rfl rfl ?_
  refine p_getf (i := 4) rfl fX10_16 kY rfl ?_
  refine p_iconst (i := 5) rfl ?_
  refine p_iaX (i := 6) (0) rfl kT (by omega) (by omega) (by decide) ?_
  refine p_iconst (i := 7) rfl ?_
  refine p_isub (i := 8) rfl ?_
  refine p_i2l (i := 9) rfl (by omega) ?_
  refine p_cS3 (i := 10) rfl ⟨lX10_59, rfl, rfl⟩ rfl (y_in (by omega) (by omega) (by omega) (fun q => ?_) (fun q => ?_))
  · refine p_iret (i := 11) rfl rfl (by decide) ?_
    exact h1 (by omega)
  · refine p_iret (i := 11) rfl rfl (by decide) ?_
    exact h0 (by omega)
end
section
-- the reference: the calls that read
theorem Y_feed {M : AM} {tx : List Int} {fa : Int} {ln : LN} {g : GS} {un : List GS} {i0 i1 : Option (GS × Int)} {sd : Int} {me bo : List (Int × Int)} {Q : Option Value → AM → Prop} {a : Int} (hY : YW M (tx, fa, ln, g, un, i0, i1, sd, me, bo)) (ha : -2147483648 ≤ a ∧ a ≤ 2147483647) (h : ∀ M', YW M' (a_feed (tx, fa, ln, g, un, i0, i1, sd, me, bo) a).2 → FrI 276 12 M M' → Q (some (zI (a_feed (tx, fa, ln, g, un, i0, i1, sd, me, bo) a).1)) M') : C mX10_feed [.ref 276, zI a] M Q := by
  dsimp only [a_feed] at h
  obtain ⟨hRt, hLn, hA, hPa, hIm, hTx, hMe, hBo, hN, b1, b2, b3, b4, b5, b6, b7⟩ := id hY
  obtain ⟨ay, gy, ny, hy_, vy, ry, kY⟩ := id hRt
  have hL : YL M ln := hLn.l hRt.h
  obtain ⟨⟨o1, o2, o3, o4, o5, o6, o7⟩, lf, kL, l0, l1, l2, l3, l4⟩ := id hLn
  obtain ⟨⟨q1, q2, q3, q4, q5, q6, q7, q8, q9, q10, q11⟩, f, kT, ⟨t0, t1⟩, ⟨u1, u2, u3, u4, u5⟩⟩ := id hA
  obtain ⟨v0, tf, kX, v1⟩ := id hTx
  have fr : FrI 276 12 M M := FrI.rf
  refine C_of okX10_feed (by decide) (Nat.le_of_ble_eq_true rfl) ?_
  show P none mX10_feed 0 [.ref 276, zI a] [] _ _
  refine p_iload_n (i := 0) rfl rfl ?_
  refine p_i2l (i := 1) rfl (by omega) ?_
  refine p_lconst0 (i := 2) rfl ?_
  refine p_ldc2 (i := 3) rfl kX10_57 ?_
  refine p_cS3 (i := 4) rfl ⟨lX10_59, rfl, rfl⟩ rfl (y_in (by omega) (by omega) (by omega) (fun q => ?_) (fun q => ?_))
  · rw [if_neg (by omega)] at h
    refine p_if_ne (i := 5) 15 rfl (by decide) (by omega) (fun c9 => ?_) (fun c9 => by exfalso; omega)
    refine p_aload_n (i := 8) rfl rfl ?_
    refine p_getf (i := 9) rfl fX10_64 kY rfl ?_
    refine p_sipush (i := 10) rfl (by decide) ?_
    refine p_icmp_ne (i := 11) 28 rfl (by decide) (by omega) (by omega) (fun c22 => ?_) (fun c22 => ?_)
    · rw [if_neg (by omega)] at h
      have fr1 : FrI 284 1 M M := FrI.rf
      refine p_aload_n (i := 14) rfl rfl ?_
      refine p_getf (i := 15) rfl fX10_32 kY rfl ?_
      refine p_aload_n (i := 16) rfl rfl ?_
      refine p_getf (i := 17) rfl fX10_64 kY rfl ?_
      refine p_iload_n (i := 18) rfl rfl ?_
      refine p_isX (i := 19) (tx.length) rfl kX (by omega) (by omega) (by decide) (P_gen fun M e => ?_)
      have kY := aupN e kY (by omega)
      have fr1 := fr1.up e (by omega)
      have kX := aupE e
      have eT : ((tx.length : Nat) : Int) + 1 = (((tx ++ [a]).length : Nat) : Int) := by simp
      have hTx1 : YTx M (tx ++ [a]) := by
        refine ⟨by simp; omega, _, kX, fun i hi => ?_⟩
        have hi : i < tx.length + 1 := by simpa using hi
        rw [gd_app hi]
        by_cases c : i = tx.length
        · rw [if_pos c, c, zup_e]; exact ⟨rfl, q.1, q.2⟩
        · rw [if_neg c, zup_n c]; exact v1 i (by omega)
      have fr2 : FrI 276 1 M M := FrI.rf
      refine p_aload_n (i := 20) rfl rfl ?_
      refine p_dup (i := 21) rfl rfl ?_
      refine p_getf (i := 22) rfl fX10_64 kY rfl ?_
      refine p_iconst (i := 23) rfl ?_
      refine p_iadd (i := 24) rfl ?_
      refine p_puti (i := 25) rfl gX10_64 kY rfl (P_gen fun M e => ?_)
      have kX := aupN e kX (by omega)
      have fr2 := fr2.up e (by omega)
      have kY := aupE e
      refine p_aload_n (i := 26) rfl rfl ?_
      refine p_getf (i := 27) rfl fX10_64 kY rfl ?_
      refine p_iret (i := 28) rfl rfl (rfl) ?_
      rw [eT] at kY
      exact h M ⟨⟨ay, gy, ny, hy_, vy, ry, kY⟩, ((hLn.fi fr1 (by omega)).fi fr2 (by omega)), ((hA.fi fr1 (by omega)).fi fr2 (by omega)), ((hPa.fi fr1 (by omega)).fi fr2 (by omega)), ((hIm.fi fr1 (by omega)).fi fr2 (by omega)), (hTx1.fi fr2 (by omega)), ((hMe.fi fr1 (by omega)).fi fr2 (by omega)), ((hBo.fi fr1 (by omega)).fi fr2 (by omega)), ((hN.fi fr1 (by omega)).fi fr2 (by omega)), b1, b2, b3, b4, b5, b6, b7⟩ ((fr1.weak (by omega)).tr (fr2.weak (by omega)))
    · rw [if_pos (by omega)] at h
      refine p_ldc (i := 12) rfl kX10_67 ?_
      refine p_iret (i := 13) rfl rfl (rfl) ?_
      exact h M hY FrI.rf
  · rw [if_pos (by omega)] at h
    refine p_if_ne (i := 5) 15 rfl (by decide) (by omega) (fun c9 => by exfalso; omega) (fun c9 => ?_)
    refine p_ldc (i := 6) rfl kX10_63 ?_
    refine p_iret (i := 7) rfl rfl (rfl) ?_
    exact h M hY FrI.rf
theorem Y_fault {M : AM} {tx : List Int} {fa : Int} {ln : LN} {g : GS} {un : List GS} {i0 i1 : Option (GS × Int)} {sd : Int} {me bo : List (Int × Int)} {Q : Option Value → AM → Prop} (hY : YW M (tx, fa, ln, g, un, i0, i1, sd, me, bo)) (h : ∀ M', YW M' (tx, fa, ln, g, un, i0, i1, sd, me, bo) → FrI 276 12 M M' → Q (some (zI (a_fault (tx, fa, ln, g, un, i0, i1, sd, me, bo)))) M') : C mX10_fault [.ref 276] M Q := by
  obtain ⟨hRt, hLn, hA, hPa, hIm, hTx, hMe, hBo, hN, b1, b2, b3, b4, b5, b6, b7⟩ := id hY
  obtain ⟨ay, gy, ny, hy_, vy, ry, kY⟩ := id hRt
  have hL : YL M ln := hLn.l hRt.h
  obtain ⟨⟨o1, o2, o3, o4, o5, o6, o7⟩, lf, kL, l0, l1, l2, l3, l4⟩ := id hLn
  obtain ⟨⟨q1, q2, q3, q4, q5, q6, q7, q8, q9, q10, q11⟩, f, kT, ⟨t0, t1⟩, ⟨u1, u2, u3, u4, u5⟩⟩ := id hA
  refine C_of okX10_fault (by decide) (Nat.le_of_ble_eq_true rfl) ?_
  show P none mX10_fault 0 [.ref 276] [] _ _
  refine p_aload_n (i := 0) rfl rfl ?_
  refine p_getf (i := 1) rfl fX10_35 kY rfl ?_
  refine p_iret (i := 2) rfl rfl (rfl) ?_
  exact h M hY FrI.rf
theorem Y_told {M : AM} {tx : List Int} {fa : Int} {ln : LN} {g : GS} {un : List GS} {i0 i1 : Option (GS × Int)} {sd : Int} {me bo : List (Int × Int)} {Q : Option Value → AM → Prop} {a : Int} (hY : YW M (tx, fa, ln, g, un, i0, i1, sd, me, bo)) (ha : -2147483648 ≤ a ∧ a ≤ 2147483647) (h : ∀ M', YW M' (tx, fa, ln, g, un, i0, i1, sd, me, bo) → FrI 276 12 M M' → Q (some (zI (a_told (tx, fa, ln, g, un, i0, i1, sd, me, bo) a))) M') : C mX10_told [.ref 276, zI a] M Q := by
  have h := h M hY FrI.rf
  dsimp only [a_told] at h
  obtain ⟨hRt, hLn, hA, hPa, hIm, hTx, hMe, hBo, hN, b1, b2, b3, b4, b5, b6, b7⟩ := id hY
  obtain ⟨ay, gy, ny, hy_, vy, ry, kY⟩ := id hRt
  have hL : YL M ln := hLn.l hRt.h
  obtain ⟨⟨o1, o2, o3, o4, o5, o6, o7⟩, lf, kL, l0, l1, l2, l3, l4⟩ := id hLn
  obtain ⟨⟨q1, q2, q3, q4, q5, q6, q7, q8, q9, q10, q11⟩, f, kT, ⟨t0, t1⟩, ⟨u1, u2, u3, u4, u5⟩⟩ := id hA
  refine C_of okX10_told (by decide) (Nat.le_of_ble_eq_true rfl) ?_
  show P none mX10_told 0 [.ref 276, zI a] [] _ _
  refine p_iload_n (i := 0) rfl rfl ?_
  by_cases hc : 0 ≤ a ∧ a < 16
  · rw [if_neg (not_not_intro hc)] at h
    rcases (show a = 0 ∨ a = 1 ∨ a = 2 ∨ a = 3 ∨ a = 4 ∨ a = 5 ∨ a = 6 ∨ a = 7 ∨ a = 8 ∨ a = 9 ∨ a = 10 ∨ a = 11 ∨ a = 12 ∨ a = 13 ∨ a = 14 ∨ a = 15 by omega) with rfl | rfl | rfl | rfl | rfl | rfl | rfl | rfl | rfl | rfl | rfl | rfl | rfl | rfl | rfl | rfl
    ·
      refine p_tsIn (i := 1) 80 rfl (by omega) (by omega) (by rfl) (by decide) ?_
      refine p_aload_n (i := 2) rfl rfl ?_
      refine p_getf (i := 3) rfl fX10_7 kY rfl ?_
      refine p_iload_n (i := 4) rfl rfl ?_
      refine p_iaX (i := 5) (0) rfl kL (by omega) (by omega) (by decide) ?_
      refine p_iret (i := 6) rfl rfl (rfl) ?_
      rw [l0]
      exact h
    ·
      refine p_tsIn (i := 1) 80 rfl (by omega) (by omega) (by rfl) (by decide) ?_
      refine p_aload_n (i := 2) rfl rfl ?_
      refine p_getf (i := 3) rfl fX10_7 kY rfl ?_
      refine p_iload_n (i := 4) rfl rfl ?_
      refine p_iaX (i := 5) (1) rfl kL (by omega) (by omega) (by decide) ?_
      refine p_iret (i := 6) rfl rfl (rfl) ?_
      rw [l1]
      exact h
    ·
      refine p_tsIn (i := 1) 80 rfl (by omega) (by omega) (by rfl) (by decide) ?_
      refine p_aload_n (i := 2) rfl rfl ?_
      refine p_getf (i := 3) rfl fX10_7 kY rfl ?_
      refine p_iload_n (i := 4) rfl rfl ?_
      refine p_iaX (i := 5) (2) rfl kL (by omega) (by omega) (by decide) ?_
      refine p_iret (i := 6) rfl rfl (rfl) ?_
      rw [l2]
      exact h
    ·
      refine p_tsIn (i := 1) 87 rfl (by omega) (by omega) (by rfl) (by decide) ?_
      refine p_aload_n (i := 7) rfl rfl ?_
      refine p_getf (i := 8) rfl fX10_64 kY rfl ?_
      refine p_iret (i := 9) rfl rfl (rfl) ?_
      exact h
    ·
      refine p_tsIn (i := 1) 92 rfl (by omega) (by omega) (by rfl) (by decide) ?_
      refine p_aload_n (i := 10) rfl rfl ?_
      refine p_getf (i := 11) rfl fX10_16 kY rfl ?_
      refine p_bipush (i := 12) rfl (by decide) ?_
      refine p_iaX (i := 13) (32) rfl kT (by omega) (by omega) (by decide) ?_
      refine p_iret (i := 14) rfl rfl (rfl) ?_
      rw [u2]
      exact h
    ·
      refine p_tsIn (i := 1) 100 rfl (by omega) (by omega) (by rfl) (by decide) ?_
      refine p_aload_n (i := 15) rfl rfl ?_
      refine p_getf (i := 16) rfl fX10_16 kY rfl ?_
      refine p_bipush (i := 17) rfl (by decide) ?_
      refine p_iaX (i := 18) (31) rfl kT (by omega) (by omega) (by decide) ?_
      refine p_iret (i := 19) rfl rfl (rfl) ?_
      rw [u1]
      exact h
    ·
      refine p_tsIn (i := 1) 108 rfl (by omega) (by omega) (by rfl) (by decide) ?_
      refine p_aload_n (i := 20) rfl rfl ?_
      refine p_getf (i := 21) rfl fX10_16 kY rfl ?_
      refine p_iconst (i := 22) rfl ?_
      refine p_iaX (i := 23) (0) rfl kT (by omega) (by omega) (by decide) ?_
      refine p_iret (i := 24) rfl rfl (rfl) ?_
      rw [t0]
      exact h
    ·
      refine p_tsIn (i := 1) 115 rfl (by omega) (by omega) (by rfl) (by decide) ?_
      refine p_aload_n (i := 25) rfl rfl ?_
      refine p_aload_n (i := 26) rfl rfl ?_
      refine p_getf (i := 27) rfl fX10_16 kY rfl ?_
      refine p_cV1 (i := 28) rfl ⟨lX10_175, rfl, rfl⟩ kY ⟨_, rfl, rfl⟩ rfl (y_darkOn hL hA ?_)
      refine p_iret (i := 29) rfl rfl (rfl) ?_
      exact h
    ·
      refine p_tsIn (i := 1) 124 rfl (by omega) (by omega) (by rfl) (by decide) ?_
      refine p_aload_n (i := 30) rfl rfl ?_
      refine p_cV0 (i := 31) rfl ⟨lX10_179, rfl, rfl⟩ kY ⟨_, rfl, rfl⟩ rfl (y_seenByAll hL hA ?_)
      refine p_iret (i := 32) rfl rfl (rfl) ?_
      exact h
    ·
      refine p_tsIn (i := 1) 129 rfl (by omega) (by omega) (by rfl) (by decide) ?_
      refine p_aload_n (i := 33) rfl rfl ?_
      refine p_cV0 (i := 34) rfl ⟨lX10_182, rfl, rfl⟩ kY ⟨_, rfl, rfl⟩ rfl (y_eyes hL.1 hA ?_)
      refine p_iret (i := 35) rfl rfl (rfl) ?_
      exact h
    ·
      refine p_tsIn (i := 1) 134 rfl (by omega) (by omega) (by rfl) (by decide) ?_
      refine p_aload_n (i := 36) rfl rfl ?_
      refine p_cV0 (i := 37) rfl ⟨lX10_185, rfl, rfl⟩ kY ⟨_, rfl, rfl⟩ rfl (y_strongest hL.1 hA ?_)
      refine p_iret (i := 38) rfl rfl (rfl) ?_
      exact h
    ·
      refine p_tsIn (i := 1) 139 rfl (by omega) (by omega) (by rfl) (by decide) ?_
      refine p_aload_n (i := 39) rfl rfl ?_
      refine p_cV0 (i := 40) rfl ⟨lX10_188, rfl, rfl⟩ kY ⟨_, rfl, rfl⟩ rfl (y_thick hL.1 hA ?_)
      refine p_iret (i := 41) rfl rfl (rfl) ?_
      exact h
    ·
      refine p_tsIn (i := 1) 144 rfl (by omega) (by omega) (by rfl) (by decide) ?_
      refine p_aload_n (i := 42) rfl rfl ?_
      refine p_getf (i := 43) rfl fX10_16 kY rfl ?_
      refine p_bipush (i := 44) rfl (by decide) ?_
      refine p_iaX (i := 45) (39) rfl kT (by omega) (by omega) (by decide) ?_
      refine p_iret (i := 46) rfl rfl (rfl) ?_
      rw [u4]
      exact h
    ·
      refine p_tsIn (i := 1) 152 rfl (by omega) (by omega) (by rfl) (by decide) ?_
      refine p_aload_n (i := 47) rfl rfl ?_
      refine p_getf (i := 48) rfl fX10_51 kY rfl ?_
      refine p_iret (i := 49) rfl rfl (rfl) ?_
      exact h
    ·
      refine p_tsIn (i := 1) 157 rfl (by omega) (by omega) (by rfl) (by decide) ?_
      refine p_aload_n (i := 50) rfl rfl ?_
      refine p_getf (i := 51) rfl fX10_54 kY rfl ?_
      refine p_iret (i := 52) rfl rfl (rfl) ?_
      exact h
    ·
      refine p_tsIn (i := 1) 162 rfl (by omega) (by omega) (by rfl) (by decide) ?_
      refine p_aload_n (i := 53) rfl rfl ?_
      refine p_getf (i := 54) rfl fX10_48 kY rfl ?_
      refine p_iret (i := 55) rfl rfl (rfl) ?_
      exact h
  · rw [if_pos hc] at h
    refine p_tsOut (i := 1) 167 rfl (by decide) (by omega) (by omega) ?_
    refine p_ldc (i := 56) rfl kX10_63 ?_
    refine p_iret (i := 57) rfl rfl (rfl) ?_
    exact h
theorem Y_scene {M : AM} {tx : List Int} {fa : Int} {ln : LN} {g : GS} {un : List GS} {i0 i1 : Option (GS × Int)} {sd : Int} {me bo : List (Int × Int)} {Q : Option Value → AM → Prop} {x a : Int} (hY : YW M (tx, fa, ln, g, un, i0, i1, sd, me, bo)) (hx : -2147483648 ≤ x ∧ x ≤ 2147483647) (ha : -2147483648 ≤ a ∧ a ≤ 2147483647) (h : ∀ M', YW M' (tx, fa, ln, g, un, i0, i1, sd, me, bo) → FrI 276 12 M M' → Q (some (zI (a_scene (tx, fa, ln, g, un, i0, i1, sd, me, bo) x a))) M') : C mX10_scene [.ref 276, zI x, zI a] M Q := by
  have h := h M hY FrI.rf
  dsimp only [a_scene] at h
  obtain ⟨hRt, hLn, hA, hPa, hIm, hTx, hMe, hBo, hN, b1, b2, b3, b4, b5, b6, b7⟩ := id hY
  obtain ⟨ay, gy, ny, hy_, vy, ry, kY⟩ := id hRt
  have hL : YL M ln := hLn.l hRt.h
  obtain ⟨⟨o1, o2, o3, o4, o5, o6, o7⟩, lf, kL, l0, l1, l2, l3, l4⟩ := id hLn
  obtain ⟨⟨q1, q2, q3, q4, q5, q6, q7, q8, q9, q10, q11⟩, f, kT, ⟨t0, t1⟩, ⟨u1, u2, u3, u4, u5⟩⟩ := id hA
  refine C_of okX10_scene (by decide) (Nat.le_of_ble_eq_true rfl) ?_
  show P none mX10_scene 0 [.ref 276, zI x, zI a] [] _ _
  refine p_aload_n (i := 0) rfl rfl ?_
  refine p_iload_n (i := 1) rfl rfl ?_
  refine p_cV1 (i := 2) rfl ⟨lX10_194, rfl, rfl⟩ kY ⟨_, rfl, rfl⟩ rfl (y_isScene hL hx (fun q => ?_) (fun q => ?_))
  · rw [if_neg (not_not_intro q)] at h
    obtain ⟨m1, m2⟩ := l3 x.toNat (by omega)
    refine p_if_ne (i := 3) 11 rfl (by decide) (by omega) (fun c5 => ?_) (fun c5 => by exfalso; omega)
    refine p_iload_n (i := 6) rfl rfl ?_
    by_cases hc : 0 ≤ a ∧ a < 4
    · rw [if_neg (not_not_intro hc)] at h
      rcases (show a = 0 ∨ a = 1 ∨ a = 2 ∨ a = 3 by omega) with rfl | rfl | rfl | rfl
      ·
        refine p_tsIn (i := 7) 44 rfl (by omega) (by omega) (by rfl) (by decide) ?_
        refine p_aload_n (i := 8) rfl rfl ?_
        refine p_getf (i := 9) rfl fX10_7 kY rfl ?_
        refine p_iconst (i := 10) rfl ?_
        refine p_iload_n (i := 11) rfl rfl ?_
        refine p_iadd (i := 12) rfl ?_
        refine p_iaX (i := 13) (3 + x.toNat) rfl kL (by omega) (by omega) (by decide) ?_
        refine p_iret (i := 14) rfl rfl (rfl) ?_
        rw [m1]
        exact h
      ·
        refine p_tsIn (i := 7) 53 rfl (by omega) (by omega) (by rfl) (by decide) ?_
        refine p_aload_n (i := 15) rfl rfl ?_
        refine p_getf (i := 16) rfl fX10_7 kY rfl ?_
        refine p_bipush (i := 17) rfl (by decide) ?_
        refine p_iload_n (i := 18) rfl rfl ?_
        refine p_iadd (i := 19) rfl ?_
        refine p_iaX (i := 20) (11 + x.toNat) rfl kL (by omega) (by omega) (by decide) ?_
        refine p_iret (i := 21) rfl rfl (rfl) ?_
        rw [m2]
        exact h
      ·
        refine p_tsIn (i := 7) 63 rfl (by omega) (by omega) (by rfl) (by decide) ?_
        refine p_aload_n (i := 22) rfl rfl ?_
        refine p_iload_n (i := 23) rfl rfl ?_
        refine p_aload_n (i := 24) rfl rfl ?_
        refine p_getf (i := 25) rfl fX10_7 kY rfl ?_
        refine p_iconst (i := 26) rfl ?_
        refine p_iaX (i := 27) (0) rfl kL (by omega) (by omega) (by decide) ?_
        refine p_cV2 (i := 28) rfl ⟨lX10_129, rfl, rfl⟩ kY ⟨_, rfl, rfl⟩ rfl (y_half hL q (by omega) ?_)
        refine p_iret (i := 29) rfl rfl (rfl) ?_
        rw [show lf 0 = ln.1 + 0 by omega]
        exact h
      ·
        refine p_tsIn (i := 7) 75 rfl (by omega) (by omega) (by rfl) (by decide) ?_
        refine p_aload_n (i := 30) rfl rfl ?_
        refine p_iload_n (i := 31) rfl rfl ?_
        refine p_cV1 (i := 32) rfl ⟨lX10_198, rfl, rfl⟩ kY ⟨_, rfl, rfl⟩ rfl (y_lookFor hL hA hx ?_)
        refine p_iret (i := 33) rfl rfl (rfl) ?_
        exact h
    · rw [if_pos hc] at h
      refine p_tsOut (i := 7) 81 rfl (by decide) (by omega) (by omega) ?_
      refine p_ldc (i := 34) rfl kX10_63 ?_
      refine p_iret (i := 35) rfl rfl (rfl) ?_
      exact h
  · rw [if_pos q] at h
    refine p_if_ne (i := 3) 11 rfl (by decide) (by omega) (fun c5 => by exfalso; omega) (fun c5 => ?_)
    refine p_ldc (i := 4) rfl kX10_197 ?_
    refine p_iret (i := 5) rfl rfl (rfl) ?_
    exact h
theorem Y_wearer {M : AM} {tx : List Int} {fa : Int} {ln : LN} {g : GS} {un : List GS} {i0 i1 : Option (GS × Int)} {sd : Int} {me bo : List (Int × Int)} {Q : Option Value → AM → Prop} {x a : Int} (hY : YW M (tx, fa, ln, g, un, i0, i1, sd, me, bo)) (hx : -2147483648 ≤ x ∧ x ≤ 2147483647) (ha : -2147483648 ≤ a ∧ a ≤ 2147483647) (h : ∀ M', YW M' (tx, fa, ln, g, un, i0, i1, sd, me, bo) → FrI 276 12 M M' → Q (some (zI (a_wearer (tx, fa, ln, g, un, i0, i1, sd, me, bo) x a))) M') : C mX10_wearer [.ref 276, zI x, zI a] M Q := by
  have h := h M hY FrI.rf
  dsimp only [a_wearer] at h
  obtain ⟨hRt, hLn, hA, hPa, hIm, hTx, hMe, hBo, hN, b1, b2, b3, b4, b5, b6, b7⟩ := id hY
  obtain ⟨ay, gy, ny, hy_, vy, ry, kY⟩ := id hRt
  have hL : YL M ln := hLn.l hRt.h
  obtain ⟨⟨o1, o2, o3, o4, o5, o6, o7⟩, lf, kL, l0, l1, l2, l3, l4⟩ := id hLn
  obtain ⟨⟨q1, q2, q3, q4, q5, q6, q7, q8, q9, q10, q11⟩, f, kT, ⟨t0, t1⟩, ⟨u1, u2, u3, u4, u5⟩⟩ := id hA
  refine C_of okX10_wearer (by decide) (Nat.le_of_ble_eq_true rfl) ?_
  show P none mX10_wearer 0 [.ref 276, zI x, zI a] [] _ _
  refine p_aload_n (i := 0) rfl rfl ?_
  refine p_iload_n (i := 1) rfl rfl ?_
  refine p_cV1 (i := 2) rfl ⟨lX10_201, rfl, rfl⟩ kY ⟨_, rfl, rfl⟩ rfl (y_isWearer hL hx (fun q => ?_) (fun q => ?_))
  · rw [if_neg (not_not_intro q)] at h
    obtain ⟨m1, m2⟩ := l4 x.toNat (by omega)
    obtain ⟨n1, n2, n3⟩ := o6 x.toNat (by omega)
    have hxr : 0 ≤ nxt ln g x ∧ nxt ln g x < nS ln := n3 _ (Nat.mod_lt _ (by omega))
    have eh := u3 x.toNat (by omega)
    refine p_if_ne (i := 3) 11 rfl (by decide) (by omega) (fun c5 => ?_) (fun c5 => by exfalso; omega)
    refine p_iload_n (i := 6) rfl rfl ?_
    by_cases hc : 0 ≤ a ∧ a < 5
    · rw [if_neg (not_not_intro hc)] at h
      rcases (show a = 0 ∨ a = 1 ∨ a = 2 ∨ a = 3 ∨ a = 4 by omega) with rfl | rfl | rfl | rfl | rfl
      ·
        refine p_tsIn (i := 7) 48 rfl (by omega) (by omega) (by rfl) (by decide) ?_
        refine p_aload_n (i := 8) rfl rfl ?_
        refine p_getf (i := 9) rfl fX10_7 kY rfl ?_
        refine p_bipush (i := 10) rfl (by decide) ?_
        refine p_iload_n (i := 11) rfl rfl ?_
        refine p_iadd (i := 12) rfl ?_
        refine p_iaX (i := 13) (19 + x.toNat) rfl kL (by omega) (by omega) (by decide) ?_
        refine p_iret (i := 14) rfl rfl (rfl) ?_
        rw [m1]
        exact h
      ·
        refine p_tsIn (i := 7) 58 rfl (by omega) (by omega) (by rfl) (by decide) ?_
        refine p_aload_n (i := 15) rfl rfl ?_
        refine p_getf (i := 16) rfl fX10_16 kY rfl ?_
        refine p_bipush (i := 17) rfl (by decide) ?_
        refine p_iload_n (i := 18) rfl rfl ?_
        refine p_iadd (i := 19) rfl ?_
        refine p_iaX (i := 20) (33 + x.toNat) rfl kT (by omega) (by omega) (by decide) ?_
        refine p_iret (i := 21) rfl rfl (rfl) ?_
        rw [eh]
        exact h
      ·
        refine p_tsIn (i := 7) 68 rfl (by omega) (by omega) (by rfl) (by decide) ?_
        refine p_aload_n (i := 22) rfl rfl ?_
        refine p_iload_n (i := 23) rfl rfl ?_
        refine p_cV1 (i := 24) rfl ⟨lX10_165, rfl, rfl⟩ kY ⟨_, rfl, rfl⟩ rfl (y_sawBy hL.1 hA (by omega) ?_)
        refine p_iret (i := 25) rfl rfl (rfl) ?_
        exact h
      ·
        refine p_tsIn (i := 7) 74 rfl (by omega) (by omega) (by rfl) (by decide) ?_
        refine p_aload_n (i := 26) rfl rfl ?_
        refine p_iload_n (i := 27) rfl rfl ?_
        refine p_top (b := ((x.toNat : Nat) : Int)) (by omega) ?_
        refine p_cV1 (i := 28) rfl ⟨lX10_204, rfl, rfl⟩ kY ⟨_, rfl, rfl⟩ rfl (y_kin hL hA (by omega) ?_)
        refine p_iret (i := 29) rfl rfl (rfl) ?_
        exact h
      ·
        refine p_tsIn (i := 7) 80 rfl (by omega) (by omega) (by rfl) (by decide) ?_
        refine p_aload_n (i := 30) rfl rfl ?_
        refine p_aload_n (i := 31) rfl rfl ?_
        refine p_aload_n (i := 32) rfl rfl ?_
        refine p_getf (i := 33) rfl fX10_16 kY rfl ?_
        refine p_iload_n (i := 34) rfl rfl ?_
        refine p_cV2 (i := 35) rfl ⟨lX10_145, rfl, rfl⟩ kY ⟨_, rfl, rfl⟩ rfl (y_nextScene (f := fun _ => 0) hL hA q ?_)
        refine p_cV1 (i := 36) rfl ⟨lX10_191, rfl, rfl⟩ kY ⟨_, rfl, rfl⟩ rfl (y_takesNow hL hA hxr ?_)
        refine p_iret (i := 37) rfl rfl (rfl) ?_
        exact h
    · rw [if_pos hc] at h
      refine p_tsOut (i := 7) 94 rfl (by decide) (by omega) (by omega) ?_
      refine p_ldc (i := 38) rfl kX10_63 ?_
      refine p_iret (i := 39) rfl rfl (rfl) ?_
      exact h
  · rw [if_pos q] at h
    refine p_if_ne (i := 3) 11 rfl (by decide) (by omega) (fun c5 => by exfalso; omega) (fun c5 => ?_)
    refine p_ldc (i := 4) rfl kX10_197 ?_
    refine p_iret (i := 5) rfl rfl (rfl) ?_
    exact h
theorem Y_layer {M : AM} {tx : List Int} {fa : Int} {ln : LN} {g : GS} {un : List GS} {i0 i1 : Option (GS × Int)} {sd : Int} {me bo : List (Int × Int)} {Q : Option Value → AM → Prop} {x a : Int} (hY : YW M (tx, fa, ln, g, un, i0, i1, sd, me, bo)) (hx : -2147483648 ≤ x ∧ x ≤ 2147483647) (ha : -2147483648 ≤ a ∧ a ≤ 2147483647) (h : ∀ M', YW M' (tx, fa, ln, g, un, i0, i1, sd, me, bo) → FrI 276 12 M M' → Q (some (zI (a_layer (tx, fa, ln, g, un, i0, i1, sd, me, bo) x a))) M') : C mX10_layer [.ref 276, zI x, zI a] M Q := by
  have h := h M hY FrI.rf
  dsimp only [a_layer] at h
  obtain ⟨hRt, hLn, hA, hPa, hIm, hTx, hMe, hBo, hN, b1, b2, b3, b4, b5, b6, b7⟩ := id hY
  obtain ⟨ay, gy, ny, hy_, vy, ry, kY⟩ := id hRt
  have hL : YL M ln := hLn.l hRt.h
  obtain ⟨⟨o1, o2, o3, o4, o5, o6, o7⟩, lf, kL, l0, l1, l2, l3, l4⟩ := id hLn
  obtain ⟨⟨q1, q2, q3, q4, q5, q6, q7, q8, q9, q10, q11⟩, f, kT, ⟨t0, t1⟩, ⟨u1, u2, u3, u4, u5⟩⟩ := id hA
  refine C_of okX10_layer (by decide) (Nat.le_of_ble_eq_true rfl) ?_
  show P none mX10_layer 0 [.ref 276, zI x, zI a] [] _ _
  refine p_aload_n (i := 0) rfl rfl ?_
  refine p_iload_n (i := 1) rfl rfl ?_
  refine p_cV1 (i := 2) rfl ⟨lX10_207, rfl, rfl⟩ kY ⟨_, rfl, rfl⟩ rfl (y_isLayer hL.1 hA hx (fun q => ?_) (fun q => ?_))
  · rw [if_neg (not_not_intro q)] at h
    obtain ⟨e1, e2, e3⟩ := t1 x.toNat (by omega)
    refine p_if_ne (i := 3) 11 rfl (by decide) (by omega) (fun c5 => ?_) (fun c5 => by exfalso; omega)
    refine p_iload_n (i := 6) rfl rfl ?_
    refine p_i2l (i := 7) rfl (by omega) ?_
    refine p_lconst0 (i := 8) rfl ?_
    refine p_ldc2 (i := 9) rfl kX10_210 ?_
    refine p_cS3 (i := 10) rfl ⟨lX10_59, rfl, rfl⟩ rfl (y_in (by omega) (by omega) (by omega) (fun q2 => ?_) (fun q2 => ?_))
    · rw [if_neg (by omega)] at h
      refine p_if_eq (i := 11) 39 rfl (by decide) (by omega) (fun c20 => by exfalso; omega) (fun c20 => ?_)
      rcases (show a = 0 ∨ a = 1 ∨ a = 2 by omega) with rfl | rfl | rfl
      ·
        refine p_aload_n (i := 12) rfl rfl ?_
        refine p_getf (i := 13) rfl fX10_16 kY rfl ?_
        refine p_iconst (i := 14) rfl ?_
        refine p_bipush (i := 15) rfl (by decide) ?_
        refine p_iload_n (i := 16) rfl rfl ?_
        refine p_imul (i := 17) rfl ?_
        refine p_iadd (i := 18) rfl ?_
        refine p_iload_n (i := 19) rfl rfl ?_
        refine p_iadd (i := 20) rfl ?_
        refine p_iaX (i := 21) (1 + x.toNat) rfl kT (by omega) (by omega) (by decide) ?_
        refine p_goto (i := 22) 41 rfl (by decide) ?_
        refine p_iret (i := 24) rfl rfl (rfl) ?_
        rw [e1]
        exact h
      ·
        refine p_aload_n (i := 12) rfl rfl ?_
        refine p_getf (i := 13) rfl fX10_16 kY rfl ?_
        refine p_iconst (i := 14) rfl ?_
        refine p_bipush (i := 15) rfl (by decide) ?_
        refine p_iload_n (i := 16) rfl rfl ?_
        refine p_imul (i := 17) rfl ?_
        refine p_iadd (i := 18) rfl ?_
        refine p_iload_n (i := 19) rfl rfl ?_
        refine p_iadd (i := 20) rfl ?_
        refine p_iaX (i := 21) (11 + x.toNat) rfl kT (by omega) (by omega) (by decide) ?_
        refine p_goto (i := 22) 41 rfl (by decide) ?_
        refine p_iret (i := 24) rfl rfl (rfl) ?_
        rw [e2]
        exact h
      ·
        refine p_aload_n (i := 12) rfl rfl ?_
        refine p_getf (i := 13) rfl fX10_16 kY rfl ?_
        refine p_iconst (i := 14) rfl ?_
        refine p_bipush (i := 15) rfl (by decide) ?_
        refine p_iload_n (i := 16) rfl rfl ?_
        refine p_imul (i := 17) rfl ?_
        refine p_iadd (i := 18) rfl ?_
        refine p_iload_n (i := 19) rfl rfl ?_
        refine p_iadd (i := 20) rfl ?_
        refine p_iaX (i := 21) (21 + x.toNat) rfl kT (by omega) (by omega) (by decide) ?_
        refine p_goto (i := 22) 41 rfl (by decide) ?_
        refine p_iret (i := 24) rfl rfl (rfl) ?_
        rw [e3]
        exact h
    · rw [if_pos (by omega)] at h
      refine p_if_eq (i := 11) 39 rfl (by decide) (by omega) (fun c20 => ?_) (fun c20 => by exfalso; omega)
      refine p_ldc (i := 23) rfl kX10_63 ?_
      refine p_iret (i := 24) rfl rfl (rfl) ?_
      exact h
  · rw [if_pos q] at h
    refine p_if_ne (i := 3) 11 rfl (by decide) (by omega) (fun c5 => by exfalso; omega) (fun c5 => ?_)
    refine p_ldc (i := 4) rfl kX10_197 ?_
    refine p_iret (i := 5) rfl rfl (rfl) ?_
    exact h
theorem Y_logged {M : AM} {tx : List Int} {fa : Int} {ln : LN} {g : GS} {un : List GS} {i0 i1 : Option (GS × Int)} {sd : Int} {me bo : List (Int × Int)} {Q : Option Value → AM → Prop} {x a : Int} (hY : YW M (tx, fa, ln, g, un, i0, i1, sd, me, bo)) (hx : -2147483648 ≤ x ∧ x ≤ 2147483647) (ha : -2147483648 ≤ a ∧ a ≤ 2147483647) (h : ∀ M', YW M' (tx, fa, ln, g, un, i0, i1, sd, me, bo) → FrI 276 12 M M' → Q (some (zI (a_logged (tx, fa, ln, g, un, i0, i1, sd, me, bo) x a))) M') : C mX10_logged [.ref 276, zI x, zI a] M Q := by
  have h := h M hY FrI.rf
  dsimp only [a_logged] at h
  obtain ⟨hRt, hLn, hA, hPa, hIm, hTx, hMe, hBo, hN, b1, b2, b3, b4, b5, b6, b7⟩ := id hY
  obtain ⟨ay, gy, ny, hy_, vy, ry, kY⟩ := id hRt
  have hL : YL M ln := hLn.l hRt.h
  obtain ⟨⟨o1, o2, o3, o4, o5, o6, o7⟩, lf, kL, l0, l1, l2, l3, l4⟩ := id hLn
  obtain ⟨⟨q1, q2, q3, q4, q5, q6, q7, q8, q9, q10, q11⟩, f, kT, ⟨t0, t1⟩, ⟨u1, u2, u3, u4, u5⟩⟩ := id hA
  refine C_of okX10_logged (by decide) (Nat.le_of_ble_eq_true rfl) ?_
  show P none mX10_logged 0 [.ref 276, zI x, zI a] [] _ _
  refine p_iload_n (i := 0) rfl rfl ?_
  refine p_i2l (i := 1) rfl (by omega) ?_
  refine p_lconst0 (i := 2) rfl ?_
  refine p_ldc2 (i := 3) rfl kX10_212 ?_
  refine p_cS3 (i := 4) rfl ⟨lX10_59, rfl, rfl⟩ rfl (y_in (by omega) (by omega) (by omega) (fun q => ?_) (fun q => ?_))
  · rw [if_neg (by omega)] at h
    refine p_if_ne (i := 5) 15 rfl (by decide) (by omega) (fun c9 => ?_) (fun c9 => by exfalso; omega)
    refine p_iload_n (i := 8) rfl rfl ?_
    refine p_i2l (i := 9) rfl (by omega) ?_
    refine p_lconst0 (i := 10) rfl ?_
    refine p_aload_n (i := 11) rfl rfl ?_
    refine p_getf (i := 12) rfl fX10_16 kY rfl ?_
    refine p_bipush (i := 13) rfl (by decide) ?_
    refine p_iaX (i := 14) (39) rfl kT (by omega) (by omega) (by decide) ?_
    refine p_iconst (i := 15) rfl ?_
    refine p_isub (i := 16) rfl ?_
    refine p_i2l (i := 17) rfl (by omega) ?_
    rw [u4]
    refine p_cS3 (i := 18) rfl ⟨lX10_59, rfl, rfl⟩ rfl (y_in (by omega) (by omega) (by omega) (fun q2 => ?_) (fun q2 => ?_))
    · unfold logAt at h
      rw [if_pos (by omega)] at h
      obtain ⟨e1, e2, e3, e4⟩ := u5 (g.2.2.2.2.length - 1 - x.toNat) (by omega)
      refine p_if_eq (i := 19) 60 rfl (by decide) (by omega) (fun c31 => by exfalso; omega) (fun c31 => ?_)
      rcases (show a = 0 ∨ a = 1 ∨ a = 2 ∨ a = 3 by omega) with rfl | rfl | rfl | rfl
      ·
        refine p_aload_n (i := 20) rfl rfl ?_
        refine p_getf (i := 21) rfl fX10_16 kY rfl ?_
        refine p_bipush (i := 22) rfl (by decide) ?_
        refine p_iconst (i := 23) rfl ?_
        refine p_aload_n (i := 24) rfl rfl ?_
        refine p_getf (i := 25) rfl fX10_16 kY rfl ?_
        refine p_bipush (i := 26) rfl (by decide) ?_
        refine p_iaX (i := 27) (39) rfl kT (by omega) (by omega) (by decide) ?_
        refine p_iconst (i := 28) rfl ?_
        refine p_isub (i := 29) rfl ?_
        refine p_iload_n (i := 30) rfl rfl ?_
        refine p_isub (i := 31) rfl ?_
        refine p_imul (i := 32) rfl ?_
        refine p_iadd (i := 33) rfl ?_
        refine p_iload_n (i := 34) rfl rfl ?_
        refine p_iadd (i := 35) rfl ?_
        refine p_iaX (i := 36) (40 + 4 * (g.2.2.2.2.length - 1 - x.toNat)) rfl kT (by omega) (by omega) (by decide) ?_
        refine p_goto (i := 37) 61 rfl (by decide) ?_
        refine p_iret (i := 39) rfl rfl (rfl) ?_
        rw [e1]
        exact h
      ·
        refine p_aload_n (i := 20) rfl rfl ?_
        refine p_getf (i := 21) rfl fX10_16 kY rfl ?_
        refine p_bipush (i := 22) rfl (by decide) ?_
        refine p_iconst (i := 23) rfl ?_
        refine p_aload_n (i := 24) rfl rfl ?_
        refine p_getf (i := 25) rfl fX10_16 kY rfl ?_
        refine p_bipush (i := 26) rfl (by decide) ?_
        refine p_iaX (i := 27) (39) rfl kT (by omega) (by omega) (by decide) ?_
        refine p_iconst (i := 28) rfl ?_
        refine p_isub (i := 29) rfl ?_
        refine p_iload_n (i := 30) rfl rfl ?_
        refine p_isub (i := 31) rfl ?_
        refine p_imul (i := 32) rfl ?_
        refine p_iadd (i := 33) rfl ?_
        refine p_iload_n (i := 34) rfl rfl ?_
        refine p_iadd (i := 35) rfl ?_
        refine p_iaX (i := 36) (40 + 4 * (g.2.2.2.2.length - 1 - x.toNat) + 1) rfl kT (by omega) (by omega) (by decide) ?_
        refine p_goto (i := 37) 61 rfl (by decide) ?_
        refine p_iret (i := 39) rfl rfl (rfl) ?_
        rw [e2]
        exact h
      ·
        refine p_aload_n (i := 20) rfl rfl ?_
        refine p_getf (i := 21) rfl fX10_16 kY rfl ?_
        refine p_bipush (i := 22) rfl (by decide) ?_
        refine p_iconst (i := 23) rfl ?_
        refine p_aload_n (i := 24) rfl rfl ?_
        refine p_getf (i := 25) rfl fX10_16 kY rfl ?_
        refine p_bipush (i := 26) rfl (by decide) ?_
        refine p_iaX (i := 27) (39) rfl kT (by omega) (by omega) (by decide) ?_
        refine p_iconst (i := 28) rfl ?_
        refine p_isub (i := 29) rfl ?_
        refine p_iload_n (i := 30) rfl rfl ?_
        refine p_isub (i := 31) rfl ?_
        refine p_imul (i := 32) rfl ?_
        refine p_iadd (i := 33) rfl ?_
        refine p_iload_n (i := 34) rfl rfl ?_
        refine p_iadd (i := 35) rfl ?_
        refine p_iaX (i := 36) (40 + 4 * (g.2.2.2.2.length - 1 - x.toNat) + 2) rfl kT (by omega) (by omega) (by decide) ?_
        refine p_goto (i := 37) 61 rfl (by decide) ?_
        refine p_iret (i := 39) rfl rfl (rfl) ?_
        rw [e3]
        exact h
      ·
        refine p_aload_n (i := 20) rfl rfl ?_
        refine p_getf (i := 21) rfl fX10_16 kY rfl ?_
        refine p_bipush (i := 22) rfl (by decide) ?_
        refine p_iconst (i := 23) rfl ?_
        refine p_aload_n (i := 24) rfl rfl ?_
        refine p_getf (i := 25) rfl fX10_16 kY rfl ?_
        refine p_bipush (i := 26) rfl (by decide) ?_
        refine p_iaX (i := 27) (39) rfl kT (by omega) (by omega) (by decide) ?_
        refine p_iconst (i := 28) rfl ?_
        refine p_isub (i := 29) rfl ?_
        refine p_iload_n (i := 30) rfl rfl ?_
        refine p_isub (i := 31) rfl ?_
        refine p_imul (i := 32) rfl ?_
        refine p_iadd (i := 33) rfl ?_
        refine p_iload_n (i := 34) rfl rfl ?_
        refine p_iadd (i := 35) rfl ?_
        refine p_iaX (i := 36) (40 + 4 * (g.2.2.2.2.length - 1 - x.toNat) + 3) rfl kT (by omega) (by omega) (by decide) ?_
        refine p_goto (i := 37) 61 rfl (by decide) ?_
        refine p_iret (i := 39) rfl rfl (rfl) ?_
        rw [e4]
        exact h
    · unfold logAt at h
      rw [if_neg (by omega)] at h
      refine p_if_eq (i := 19) 60 rfl (by decide) (by omega) (fun c31 => ?_) (fun c31 => by exfalso; omega)
      refine p_iconst (i := 38) rfl ?_
      refine p_iret (i := 39) rfl rfl (rfl) ?_
      exact h
  · rw [if_pos (by omega)] at h
    refine p_if_ne (i := 5) 15 rfl (by decide) (by omega) (fun c9 => by exfalso; omega) (fun c9 => ?_)
    refine p_ldc (i := 6) rfl kX10_63 ?_
    refine p_iret (i := 7) rfl rfl (rfl) ?_
    exact h
theorem Y_takes {M : AM} {tx : List Int} {fa : Int} {ln : LN} {g : GS} {un : List GS} {i0 i1 : Option (GS × Int)} {sd : Int} {me bo : List (Int × Int)} {Q : Option Value → AM → Prop} {x : Int} (hY : YW M (tx, fa, ln, g, un, i0, i1, sd, me, bo)) (hx : -2147483648 ≤ x ∧ x ≤ 2147483647) (h : ∀ M', YW M' (tx, fa, ln, g, un, i0, i1, sd, me, bo) → FrI 276 12 M M' → Q (some (zI (a_takes (tx, fa, ln, g, un, i0, i1, sd, me, bo) x))) M') : C mX10_takes [.ref 276, zI x] M Q := by
  have h := h M hY FrI.rf
  dsimp only [a_takes] at h
  obtain ⟨hRt, hLn, hA, hPa, hIm, hTx, hMe, hBo, hN, b1, b2, b3, b4, b5, b6, b7⟩ := id hY
  obtain ⟨ay, gy, ny, hy_, vy, ry, kY⟩ := id hRt
  have hL : YL M ln := hLn.l hRt.h
  obtain ⟨⟨o1, o2, o3, o4, o5, o6, o7⟩, lf, kL, l0, l1, l2, l3, l4⟩ := id hLn
  obtain ⟨⟨q1, q2, q3, q4, q5, q6, q7, q8, q9, q10, q11⟩, f, kT, ⟨t0, t1⟩, ⟨u1, u2, u3, u4, u5⟩⟩ := id hA
  refine C_of okX10_takes (by decide) (Nat.le_of_ble_eq_true rfl) ?_
  show P none mX10_takes 0 [.ref 276, zI x] [] _ _
  refine p_aload_n (i := 0) rfl rfl ?_
  refine p_iload_n (i := 1) rfl rfl ?_
  refine p_cV1 (i := 2) rfl ⟨lX10_194, rfl, rfl⟩ kY ⟨_, rfl, rfl⟩ rfl (y_isScene hL hx (fun q => ?_) (fun q => ?_))
  · rw [if_neg (not_not_intro q)] at h
    refine p_if_eq (i := 3) 16 rfl (by decide) (by omega) (fun c5 => by exfalso; omega) (fun c5 => ?_)
    refine p_aload_n (i := 4) rfl rfl ?_
    refine p_iload_n (i := 5) rfl rfl ?_
    refine p_cV1 (i := 6) rfl ⟨lX10_191, rfl, rfl⟩ kY ⟨_, rfl, rfl⟩ rfl (y_takesNow hL hA q ?_)
    refine p_goto (i := 7) 18 rfl (by decide) ?_
    refine p_iret (i := 9) rfl rfl (rfl) ?_
    exact h
  · rw [if_pos q] at h
    refine p_if_eq (i := 3) 16 rfl (by decide) (by omega) (fun c5 => ?_) (fun c5 => by exfalso; omega)
    refine p_ldc (i := 8) rfl kX10_197 ?_
    refine p_iret (i := 9) rfl rfl (rfl) ?_
    exact h
theorem Y_only {M : AM} {tx : List Int} {fa : Int} {ln : LN} {g : GS} {un : List GS} {i0 i1 : Option (GS × Int)} {sd : Int} {me bo : List (Int × Int)} {Q : Option Value → AM → Prop} {k x : Int} (hY : YW M (tx, fa, ln, g, un, i0, i1, sd, me, bo)) (hkk : -2147483648 ≤ k ∧ k ≤ 2147483647) (hx : -2147483648 ≤ x ∧ x ≤ 2147483647) (h : ∀ M', YW M' (tx, fa, ln, g, un, i0, i1, sd, me, bo) → FrI 276 12 M M' → Q (some (zI (a_only (tx, fa, ln, g, un, i0, i1, sd, me, bo) k x))) M') : C mX10_only [.ref 276, zI k, zI x] M Q := by
  have h := h M hY FrI.rf
  dsimp only [a_only] at h
  obtain ⟨hRt, hLn, hA, hPa, hIm, hTx, hMe, hBo, hN, b1, b2, b3, b4, b5, b6, b7⟩ := id hY
  obtain ⟨ay, gy, ny, hy_, vy, ry, kY⟩ := id hRt
  have hL : YL M ln := hLn.l hRt.h
  obtain ⟨⟨o1, o2, o3, o4, o5, o6, o7⟩, lf, kL, l0, l1, l2, l3, l4⟩ := id hLn
  obtain ⟨⟨q1, q2, q3, q4, q5, q6, q7, q8, q9, q10, q11⟩, f, kT, ⟨t0, t1⟩, ⟨u1, u2, u3, u4, u5⟩⟩ := id hA
  have loop : ∀ (c j : Nat) (s : Int), 0 ≤ k ∧ k < g.1.length → j + c = g.1.length → 0 ≤ s ∧ s ≤ j → Q (some (zI (fo (lbStep g.1 k.toNat) c j s))) M → P none mX10_only 49 [.ref 276, zI k, zI x, zI s, zI (j : Int)] []  M Q := by
    intro c
    induction c with
    | zero =>
      intro j s hk0 hj hs hq
      refine p_iload (i := 30) rfl rfl ?_
      refine p_aload_n (i := 31) rfl rfl ?_
      refine p_getf (i := 32) rfl fX10_16 kY rfl ?_
      refine p_iconst (i := 33) rfl ?_
      refine p_iaX (i := 34) (0) rfl kT (by omega) (by omega) (by decide) ?_
      refine p_icmp_ge (i := 35) 124 rfl (by decide) (by omega) (by omega) (fun c57 => ?_) (fun c57 => by exfalso; omega)
      refine p_iload_n (i := 73) rfl rfl ?_
      refine p_iret (i := 74) rfl rfl (rfl) ?_
      exact hq
    | succ c ih =>
      intro j s hk0 hj hs hq
      obtain ⟨e1, e2, e3⟩ := t1 j (by omega)
      have e4 := q2 j (by omega)
      obtain ⟨d1, d2, d3⟩ := t1 k.toNat (by omega)
      have d4 := q2 k.toNat (by omega)
      have hq : Q (some (zI (fo (lbStep g.1 k.toNat) c (j + 1) (lbStep g.1 k.toNat j s)))) M := hq
      unfold lbStep at hq
      refine p_iload (i := 30) rfl rfl ?_
      refine p_aload_n (i := 31) rfl rfl ?_
      refine p_getf (i := 32) rfl fX10_16 kY rfl ?_
      refine p_iconst (i := 33) rfl ?_
      refine p_iaX (i := 34) (0) rfl kT (by omega) (by omega) (by decide) ?_
      refine p_icmp_ge (i := 35) 124 rfl (by decide) (by omega) (by omega) (fun c57 => by exfalso; omega) (fun c57 => ?_)
      refine p_iload_n (i := 36) rfl rfl ?_
      refine p_aload_n (i := 37) rfl rfl ?_
      refine p_getf (i := 38) rfl fX10_16 kY rfl ?_
      refine p_bipush (i := 39) rfl (by decide) ?_
      refine p_iload (i := 40) rfl rfl ?_
      refine p_iadd (i := 41) rfl ?_
      refine p_iaX (i := 42) ((21 + j)) rfl kT (by omega) (by omega) (by decide) ?_
      refine p_aload_n (i := 43) rfl rfl ?_
      refine p_getf (i := 44) rfl fX10_16 kY rfl ?_
      refine p_bipush (i := 45) rfl (by decide) ?_
      refine p_iload_n (i := 46) rfl rfl ?_
      refine p_iadd (i := 47) rfl ?_
      refine p_iaX (i := 48) (21 + k.toNat) rfl kT (by omega) (by omega) (by decide) ?_
      refine p_icmp_gt (i := 49) 111 rfl (by decide) (by omega) (by omega) (fun c80 => ?_) (fun c80 => ?_)
      · rw [if_pos (by omega)] at hq
        refine p_iconst (i := 66) rfl ?_
        refine p_goto (i := 67) 116 rfl (by decide) ?_
        refine p_iadd (i := 69) rfl ?_
        refine p_istore_n (i := 70) rfl rfl ?_
        refine p_iinc (i := 71) rfl rfl rfl ?_
        refine p_goto (i := 72) 49 rfl (by decide) ?_
        exact ih (j + 1) _ hk0 (by omega) (by omega) hq
      · refine p_aload_n (i := 50) rfl rfl ?_
        refine p_getf (i := 51) rfl fX10_16 kY rfl ?_
        refine p_bipush (i := 52) rfl (by decide) ?_
        refine p_iload (i := 53) rfl rfl ?_
        refine p_iadd (i := 54) rfl ?_
        refine p_iaX (i := 55) ((21 + j)) rfl kT (by omega) (by omega) (by decide) ?_
        refine p_aload_n (i := 56) rfl rfl ?_
        refine p_getf (i := 57) rfl fX10_16 kY rfl ?_
        refine p_bipush (i := 58) rfl (by decide) ?_
        refine p_iload_n (i := 59) rfl rfl ?_
        refine p_iadd (i := 60) rfl ?_
        refine p_iaX (i := 61) (21 + k.toNat) rfl kT (by omega) (by omega) (by decide) ?_
        refine p_icmp_ne (i := 62) 115 rfl (by decide) (by omega) (by omega) (fun c102 => ?_) (fun c102 => ?_)
        · rw [if_neg (by omega)] at hq
          refine p_iconst (i := 68) rfl ?_
          refine p_iadd (i := 69) rfl ?_
          refine p_istore_n (i := 70) rfl rfl ?_
          refine p_iinc (i := 71) rfl rfl rfl ?_
          refine p_goto (i := 72) 49 rfl (by decide) ?_
          rw [show s + 0 = s by omega]
          exact ih (j + 1) _ hk0 (by omega) (by omega) hq
        · refine p_iload (i := 63) rfl rfl ?_
          refine p_iload_n (i := 64) rfl rfl ?_
          refine p_icmp_le (i := 65) 115 rfl (by decide) (by omega) (by omega) (fun c108 => ?_) (fun c108 => ?_)
          · rw [if_neg (by omega)] at hq
            refine p_iconst (i := 68) rfl ?_
            refine p_iadd (i := 69) rfl ?_
            refine p_istore_n (i := 70) rfl rfl ?_
            refine p_iinc (i := 71) rfl rfl rfl ?_
            refine p_goto (i := 72) 49 rfl (by decide) ?_
            rw [show s + 0 = s by omega]
            exact ih (j + 1) _ hk0 (by omega) (by omega) hq
          · rw [if_pos (by omega)] at hq
            refine p_iconst (i := 66) rfl ?_
            refine p_goto (i := 67) 116 rfl (by decide) ?_
            refine p_iadd (i := 69) rfl ?_
            refine p_istore_n (i := 70) rfl rfl ?_
            refine p_iinc (i := 71) rfl rfl rfl ?_
            refine p_goto (i := 72) 49 rfl (by decide) ?_
            exact ih (j + 1) _ hk0 (by omega) (by omega) hq
  refine C_of okX10_only (by decide) (Nat.le_of_ble_eq_true rfl) ?_
  show P none mX10_only 0 [.ref 276, zI k, zI x, .retAddr 0, .retAddr 0] [] _ _
  refine p_aload_n (i := 0) rfl rfl ?_
  refine p_iload_n (i := 1) rfl rfl ?_
  refine p_cV1 (i := 2) rfl ⟨lX10_207, rfl, rfl⟩ kY ⟨_, rfl, rfl⟩ rfl (y_isLayer hL.1 hA hkk (fun q => ?_) (fun q => ?_))
  · refine p_if_eq (i := 3) 16 rfl (by decide) (by omega) (fun c5 => by exfalso; omega) (fun c5 => ?_)
    refine p_aload_n (i := 4) rfl rfl ?_
    refine p_iload_n (i := 5) rfl rfl ?_
    refine p_cV1 (i := 6) rfl ⟨lX10_194, rfl, rfl⟩ kY ⟨_, rfl, rfl⟩ rfl (y_isScene hL hx (fun p => ?_) (fun p => ?_))
    · rw [if_neg (by omega)] at h
      obtain ⟨d1, d2, d3⟩ := t1 k.toNat (by omega)
      have d4 := q2 k.toNat (by omega)
      obtain ⟨n1, n2, n3, n4⟩ := o5 x.toNat (by omega)
      refine p_if_ne (i := 7) 19 rfl (by decide) (by omega) (fun c13 => ?_) (fun c13 => by exfalso; omega)
      refine p_aload_n (i := 10) rfl rfl ?_
      refine p_getf (i := 11) rfl fX10_16 kY rfl ?_
      refine p_bipush (i := 12) rfl (by decide) ?_
      refine p_iload_n (i := 13) rfl rfl ?_
      refine p_iadd (i := 14) rfl ?_
      refine p_iaX (i := 15) (21 + k.toNat) rfl kT (by omega) (by omega) (by decide) ?_
      refine p_aload_n (i := 16) rfl rfl ?_
      refine p_iload_n (i := 17) rfl rfl ?_
      refine p_aload_n (i := 18) rfl rfl ?_
      refine p_getf (i := 19) rfl fX10_7 kY rfl ?_
      refine p_iconst (i := 20) rfl ?_
      refine p_iaX (i := 21) (0) rfl kL (by omega) (by omega) (by decide) ?_
      refine p_cV2 (i := 22) rfl ⟨lX10_129, rfl, rfl⟩ kY ⟨_, rfl, rfl⟩ rfl (y_half hL p (by omega) ?_)
      refine p_icmp_gt (i := 23) 44 rfl (by decide) (by omega) (by omega) (fun c39 => ?_) (fun c39 => ?_)
      · rw [if_neg (by omega)] at h
        refine p_iconst (i := 26) rfl ?_
        refine p_istore_n (i := 27) rfl rfl ?_
        refine p_iconst (i := 28) rfl ?_
        refine p_istore (i := 29) rfl rfl ?_
        exact loop g.1.length 0 0 q (by omega) (by omega) h
      · rw [if_pos (by omega)] at h
        refine p_iconst (i := 24) rfl ?_
        refine p_iret (i := 25) rfl rfl (rfl) ?_
        exact h
    · rw [if_pos (by omega)] at h
      refine p_if_ne (i := 7) 19 rfl (by decide) (by omega) (fun c13 => by exfalso; omega) (fun c13 => ?_)
      refine p_ldc (i := 8) rfl kX10_197 ?_
      refine p_iret (i := 9) rfl rfl (rfl) ?_
      exact h
  · rw [if_pos (by omega)] at h
    refine p_if_eq (i := 3) 16 rfl (by decide) (by omega) (fun c5 => ?_) (fun c5 => by exfalso; omega)
    refine p_ldc (i := 8) rfl kX10_197 ?_
    refine p_iret (i := 9) rfl rfl (rfl) ?_
    exact h
theorem Y_ground {M : AM} {tx : List Int} {fa : Int} {ln : LN} {g : GS} {un : List GS} {i0 i1 : Option (GS × Int)} {sd : Int} {me bo : List (Int × Int)} {Q : Option Value → AM → Prop} {x : Int} (hY : YW M (tx, fa, ln, g, un, i0, i1, sd, me, bo)) (hx : -2147483648 ≤ x ∧ x ≤ 2147483647) (h : ∀ M', YW M' (tx, fa, ln, g, un, i0, i1, sd, me, bo) → FrI 276 12 M M' → Q (some (zI (a_ground (tx, fa, ln, g, un, i0, i1, sd, me, bo) x))) M') : C mX10_ground [.ref 276, zI x] M Q := by
  have h := h M hY FrI.rf
  dsimp only [a_ground] at h
  obtain ⟨hRt, hLn, hA, hPa, hIm, hTx, hMe, hBo, hN, b1, b2, b3, b4, b5, b6, b7⟩ := id hY
  obtain ⟨ay, gy, ny, hy_, vy, ry, kY⟩ := id hRt
  have hL : YL M ln := hLn.l hRt.h
  obtain ⟨⟨o1, o2, o3, o4, o5, o6, o7⟩, lf, kL, l0, l1, l2, l3, l4⟩ := id hLn
  obtain ⟨⟨q1, q2, q3, q4, q5, q6, q7, q8, q9, q10, q11⟩, f, kT, ⟨t0, t1⟩, ⟨u1, u2, u3, u4, u5⟩⟩ := id hA
  have hok := hA.1.ls
  have loop : ∀ (c k : Nat), 0 ≤ x ∧ x < nS ln → k + c = 100 → Q (some (zI (grd ln g.1 x c k))) M → P none mX10_ground 13 [.ref 276, zI x, zI (k : Int)] []  M Q := by
    intro c
    induction c with
    | zero =>
      intro k hx0 hkc hq
      refine p_iload_n (i := 8) rfl rfl ?_
      refine p_bipush (i := 9) rfl (by decide) ?_
      refine p_icmp_ge (i := 10) 49 rfl (by decide) (by omega) (by omega) (fun c16 => ?_) (fun c16 => by exfalso; omega)
      refine p_iconst (i := 29) rfl ?_
      refine p_iret (i := 30) rfl rfl (rfl) ?_
      exact hq
    | succ c ih =>
      intro k hx0 hkc hq
      unfold grd at hq
      have ht := tk_rng (ln := ln) (x := x) (m := (k : Int)) (wi := 0) hok (Nat.le_refl _) hx0
      refine p_iload_n (i := 8) rfl rfl ?_
      refine p_bipush (i := 9) rfl (by decide) ?_
      refine p_icmp_ge (i := 10) 49 rfl (by decide) (by omega) (by omega) (fun c16 => by exfalso; omega) (fun c16 => ?_)
      refine p_aload_n (i := 11) rfl rfl ?_
      refine p_aload_n (i := 12) rfl rfl ?_
      refine p_getf (i := 13) rfl fX10_16 kY rfl ?_
      refine p_iload_n (i := 14) rfl rfl ?_
      refine p_iconst (i := 15) rfl ?_
      refine p_aload_n (i := 16) rfl rfl ?_
      refine p_getf (i := 17) rfl fX10_7 kY rfl ?_
      refine p_iconst (i := 18) rfl ?_
      refine p_iaX (i := 19) (0) rfl kL (by omega) (by omega) (by decide) ?_
      refine p_iload_n (i := 20) rfl rfl ?_
      refine p_iadd (i := 21) rfl ?_
      refine p_cV4 (i := 22) rfl ⟨lX10_133, rfl, rfl⟩ kY ⟨_, rfl, rfl⟩ rfl (y_takesBy hL hA hx0 (m := (k : Int)) (by omega) (by omega) (wi := 0) (by decide) ?_)
      refine p_iload_n (i := 23) rfl rfl ?_
      refine p_icmp_ne (i := 24) 43 rfl (by decide) (by omega) (by omega) (fun c38 => ?_) (fun c38 => ?_)
      · rw [if_neg c38] at hq
        refine p_iinc (i := 27) rfl rfl rfl ?_
        refine p_goto (i := 28) 13 rfl (by decide) ?_
        exact ih (k + 1) hx0 (by omega) hq
      · rw [if_pos c38] at hq
        refine p_iload_n (i := 25) rfl rfl ?_
        refine p_iret (i := 26) rfl rfl (rfl) ?_
        exact hq
  refine C_of okX10_ground (by decide) (Nat.le_of_ble_eq_true rfl) ?_
  show P none mX10_ground 0 [.ref 276, zI x, .retAddr 0] [] _ _
  refine p_aload_n (i := 0) rfl rfl ?_
  refine p_iload_n (i := 1) rfl rfl ?_
  refine p_cV1 (i := 2) rfl ⟨lX10_194, rfl, rfl⟩ kY ⟨_, rfl, rfl⟩ rfl (y_isScene hL hx (fun q => ?_) (fun q => ?_))
  · rw [if_neg (not_not_intro q)] at h
    refine p_if_ne (i := 3) 11 rfl (by decide) (by omega) (fun c5 => ?_) (fun c5 => by exfalso; omega)
    refine p_iconst (i := 6) rfl ?_
    refine p_istore_n (i := 7) rfl rfl ?_
    exact loop 100 0 q (by omega) h
  · rw [if_pos q] at h
    refine p_if_ne (i := 3) 11 rfl (by decide) (by omega) (fun c5 => by exfalso; omega) (fun c5 => ?_)
    refine p_ldc (i := 4) rfl kX10_197 ?_
    refine p_iret (i := 5) rfl rfl (rfl) ?_
    exact h
theorem Y_mist {M : AM} {n q : Int} {Q : Option Value → AM → Prop} (hn : -2147483648 ≤ n ∧ n ≤ 2147483647) (hq : -2147483648 ≤ q ∧ q ≤ 2147483647) (h : Q (some (zI (a_mist n q))) M) : C mX10_mist [.ref 276, zI n, zI q] M Q := by
  unfold a_mist at h
  have loop : ∀ (c k : Nat) (x : Int), (k : Int) + c = n → n ≤ 60 → 0 ≤ q ∧ q ≤ 100 → 0 ≤ x ∧ x ≤ 1000000000 → Q (some (zI (mst q c x))) M → P none mX10_mist 34 [.ref 276, zI n, zI q, zJ x, .retAddr 0, zI (k : Int)] []  M Q := by
    intro c
    induction c with
    | zero =>
      intro k x hk hn60 hq0 hx h
      refine p_iload (i := 18) rfl rfl ?_
      refine p_iload_n (i := 19) rfl rfl ?_
      refine p_icmp_ge (i := 20) 55 rfl (by decide) (by omega) (by omega) (fun c37 => ?_) (fun c37 => by exfalso; omega)
      refine p_lload_n (i := 30) rfl rfl ?_
      refine p_l2i (i := 31) rfl ?_
      refine p_iret (i := 32) rfl rfl (rfl) ?_
      exact h
    | succ c ih =>
      intro k x hk hn60 hq0 hx h
      have m1 : 0 ≤ x * q := Int.mul_nonneg hx.1 hq0.1
      have m2 : x * q ≤ 1000000000 * 100 := Int.mul_le_mul hx.2 hq0.2 hq0.1 (by decide)
      refine p_iload (i := 18) rfl rfl ?_
      refine p_iload_n (i := 19) rfl rfl ?_
      refine p_icmp_ge (i := 20) 55 rfl (by decide) (by omega) (by omega) (fun c37 => by exfalso; omega) (fun c37 => ?_)
      refine p_lload_n (i := 21) rfl rfl ?_
      refine p_iload_n (i := 22) rfl rfl ?_
      refine p_i2l (i := 23) rfl (by omega) ?_
      refine p_lmul (i := 24) rfl ?_
      refine p_ldc2 (i := 25) rfl kX10_265 ?_
      refine p_ldiv (i := 26) rfl (by omega) (by omega) ?_
      refine p_lstore_n (i := 27) rfl rfl rfl ?_
      refine p_iinc (i := 28) rfl rfl rfl ?_
      refine p_goto (i := 29) 34 rfl (by decide) ?_
      exact ih (k + 1) (x * q / 100) (by omega) hn60 hq0 (by omega) h
  refine C_of okX10_mist (by decide) (Nat.le_of_ble_eq_true rfl) ?_
  show P none mX10_mist 0 [.ref 276, zI n, zI q, .retAddr 0, .retAddr 0, .retAddr 0] [] _ _
  refine p_iload_n (i := 0) rfl rfl ?_
  refine p_i2l (i := 1) rfl (by omega) ?_
  refine p_lconst0 (i := 2) rfl ?_
  refine p_ldc2 (i := 3) rfl kX10_248 ?_
  refine p_cS3 (i := 4) rfl ⟨lX10_59, rfl, rfl⟩ rfl (y_in (by omega) (by omega) (by omega) (fun z1 => ?_) (fun z1 => ?_))
  · refine p_if_eq (i := 5) 24 rfl (by decide) (by omega) (fun c9 => by exfalso; omega) (fun c9 => ?_)
    refine p_iload_n (i := 6) rfl rfl ?_
    refine p_i2l (i := 7) rfl (by omega) ?_
    refine p_lconst0 (i := 8) rfl ?_
    refine p_ldc2 (i := 9) rfl kX10_265 ?_
    refine p_cS3 (i := 10) rfl ⟨lX10_59, rfl, rfl⟩ rfl (y_in (by omega) (by omega) (by omega) (fun z2 => ?_) (fun z2 => ?_))
    · rw [if_neg (by omega)] at h
      refine p_if_ne (i := 11) 27 rfl (by decide) (by omega) (fun c21 => ?_) (fun c21 => by exfalso; omega)
      refine p_ldc2 (i := 14) rfl kX10_267 ?_
      refine p_lstore_n (i := 15) rfl rfl rfl ?_
      refine p_iconst (i := 16) rfl ?_
      refine p_istore (i := 17) rfl rfl ?_
      exact loop n.toNat 0 1000000000 (by omega) (by omega) (by omega) (by decide) h
    · rw [if_pos (by omega)] at h
      refine p_if_ne (i := 11) 27 rfl (by decide) (by omega) (fun c21 => by exfalso; omega) (fun c21 => ?_)
      refine p_ldc (i := 12) rfl kX10_63 ?_
      refine p_iret (i := 13) rfl rfl (rfl) ?_
      exact h
  · rw [if_pos (by omega)] at h
    refine p_if_eq (i := 5) 24 rfl (by decide) (by omega) (fun c9 => ?_) (fun c9 => by exfalso; omega)
    refine p_ldc (i := 12) rfl kX10_63 ?_
    refine p_iret (i := 13) rfl rfl (rfl) ?_
    exact h
end
