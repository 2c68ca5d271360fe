section
-- ===== PART A: goes FIRST, ahead of the names: the tables' words, and 'selects' of the private methods out of them =====
/-- a private method of a class that the tables say can be made, by its rows of tables_1 -/
def lw_okq (q : MethodName × Nat) : Prop := (q.1.cls ≠ "java/lang/invoke/MethodHandle" ∧ q.1.cls ≠ "java/lang/invoke/VarHandle") ∧ Cond.instantiable q.1.cls q.2 ∈ tables_1 ∧ Cond.privateMethod q.1 ∈ tables_1 ∧ Cond.instanceMethod q.1 ∈ tables_1
theorem lw_p0 : lw_okq (⟨"DependentReplay$Log", "firstNeeds", "(III)J"⟩, 7) := ⟨⟨by decide +kernel, by decide +kernel⟩, List.mem_of_getElem? (i := 30) (by decide +kernel), List.mem_of_getElem? (i := 293) (by decide +kernel), List.mem_of_getElem? (i := 294) (by decide +kernel)⟩
theorem lw_p1 : lw_okq (⟨"DependentReplay$Log", "latestOfFile", "(I)J"⟩, 7) := ⟨⟨by decide +kernel, by decide +kernel⟩, List.mem_of_getElem? (i := 30) (by decide +kernel), List.mem_of_getElem? (i := 297) (by decide +kernel), List.mem_of_getElem? (i := 298) (by decide +kernel)⟩
theorem lw_p2 : lw_okq (⟨"DependentReplay$Log", "latestInDirectory", "(I)J"⟩, 7) := ⟨⟨by decide +kernel, by decide +kernel⟩, List.mem_of_getElem? (i := 30) (by decide +kernel), List.mem_of_getElem? (i := 305) (by decide +kernel), List.mem_of_getElem? (i := 306) (by decide +kernel)⟩
theorem lw_p3 : lw_okq (⟨"DependentReplay", "recorded", "(I)I"⟩, 7) := ⟨⟨by decide +kernel, by decide +kernel⟩, List.mem_of_getElem? (i := 16) (by decide +kernel), List.mem_of_getElem? (i := 317) (by decide +kernel), List.mem_of_getElem? (i := 318) (by decide +kernel)⟩
theorem lw_p4 : lw_okq (⟨"DependentReplay$State", "turnLost", "(IZ)I"⟩, 2) := ⟨⟨by decide +kernel, by decide +kernel⟩, List.mem_of_getElem? (i := 24) (by decide +kernel), List.mem_of_getElem? (i := 369) (by decide +kernel), List.mem_of_getElem? (i := 370) (by decide +kernel)⟩
theorem lw_p5 : lw_okq (⟨"DependentReplay$Replay", "replayReady", "(LDependentReplay$Log;J)I"⟩, 7) := ⟨⟨by decide +kernel, by decide +kernel⟩, List.mem_of_getElem? (i := 75) (by decide +kernel), List.mem_of_getElem? (i := 412) (by decide +kernel), List.mem_of_getElem? (i := 413) (by decide +kernel)⟩
theorem lw_p6 : lw_okq (⟨"DependentReplay$Tree", "refusal", "(III)I"⟩, 2) := ⟨⟨by decide +kernel, by decide +kernel⟩, List.mem_of_getElem? (i := 81) (by decide +kernel), List.mem_of_getElem? (i := 420) (by decide +kernel), List.mem_of_getElem? (i := 421) (by decide +kernel)⟩
theorem lw_p7 : lw_okq (⟨"DependentReplay$Tree", "isOrLiesIn", "(II)Z"⟩, 2) := ⟨⟨by decide +kernel, by decide +kernel⟩, List.mem_of_getElem? (i := 81) (by decide +kernel), List.mem_of_getElem? (i := 429) (by decide +kernel), List.mem_of_getElem? (i := 430) (by decide +kernel)⟩
theorem lw_p8 : lw_okq (⟨"DependentReplay$Tree", "carry", "(III)V"⟩, 2) := ⟨⟨by decide +kernel, by decide +kernel⟩, List.mem_of_getElem? (i := 81) (by decide +kernel), List.mem_of_getElem? (i := 438) (by decide +kernel), List.mem_of_getElem? (i := 439) (by decide +kernel)⟩
theorem lw_p9 : lw_okq (⟨"DependentReplay", "tryReplay", "()V"⟩, 7) := ⟨⟨by decide +kernel, by decide +kernel⟩, List.mem_of_getElem? (i := 16) (by decide +kernel), List.mem_of_getElem? (i := 503) (by decide +kernel), List.mem_of_getElem? (i := 504) (by decide +kernel)⟩
theorem lw_p10 : lw_okq (⟨"DependentReplay$Reader", "readFirstFile", "()Z"⟩, 5) := ⟨⟨by decide +kernel, by decide +kernel⟩, List.mem_of_getElem? (i := 184) (by decide +kernel), List.mem_of_getElem? (i := 570) (by decide +kernel), List.mem_of_getElem? (i := 571) (by decide +kernel)⟩
theorem lw_p11 : lw_okq (⟨"DependentReplay$Reader", "readFile", "()I"⟩, 5) := ⟨⟨by decide +kernel, by decide +kernel⟩, List.mem_of_getElem? (i := 184) (by decide +kernel), List.mem_of_getElem? (i := 574) (by decide +kernel), List.mem_of_getElem? (i := 575) (by decide +kernel)⟩
theorem lw_p12 : lw_okq (⟨"DependentReplay$Reader", "readSecondFile", "()Z"⟩, 5) := ⟨⟨by decide +kernel, by decide +kernel⟩, List.mem_of_getElem? (i := 184) (by decide +kernel), List.mem_of_getElem? (i := 579) (by decide +kernel), List.mem_of_getElem? (i := 580) (by decide +kernel)⟩
theorem lw_p13 : lw_okq (⟨"DependentReplay$Reader", "readSecondNumber", "()Z"⟩, 5) := ⟨⟨by decide +kernel, by decide +kernel⟩, List.mem_of_getElem? (i := 184) (by decide +kernel), List.mem_of_getElem? (i := 583) (by decide +kernel), List.mem_of_getElem? (i := 584) (by decide +kernel)⟩
theorem lw_p14 : lw_okq (⟨"DependentReplay$Reader", "readNumber", "()I"⟩, 5) := ⟨⟨by decide +kernel, by decide +kernel⟩, List.mem_of_getElem? (i := 184) (by decide +kernel), List.mem_of_getElem? (i := 587) (by decide +kernel), List.mem_of_getElem? (i := 588) (by decide +kernel)⟩
theorem lw_p15 : lw_okq (⟨"DependentReplay$Reader", "readFirstNumber", "()Z"⟩, 5) := ⟨⟨by decide +kernel, by decide +kernel⟩, List.mem_of_getElem? (i := 184) (by decide +kernel), List.mem_of_getElem? (i := 595) (by decide +kernel), List.mem_of_getElem? (i := 596) (by decide +kernel)⟩
def lw_privs_1 : List (MethodName × Nat) := [(⟨"DependentReplay$Log", "firstNeeds", "(III)J"⟩, 7), (⟨"DependentReplay$Log", "latestOfFile", "(I)J"⟩, 7), (⟨"DependentReplay$Log", "latestInDirectory", "(I)J"⟩, 7), (⟨"DependentReplay", "recorded", "(I)I"⟩, 7), (⟨"DependentReplay$State", "turnLost", "(IZ)I"⟩, 2), (⟨"DependentReplay$Replay", "replayReady", "(LDependentReplay$Log;J)I"⟩, 7), (⟨"DependentReplay$Tree", "refusal", "(III)I"⟩, 2), (⟨"DependentReplay$Tree", "isOrLiesIn", "(II)Z"⟩, 2), (⟨"DependentReplay$Tree", "carry", "(III)V"⟩, 2), (⟨"DependentReplay", "tryReplay", "()V"⟩, 7), (⟨"DependentReplay$Reader", "readFirstFile", "()Z"⟩, 5), (⟨"DependentReplay$Reader", "readFile", "()I"⟩, 5), (⟨"DependentReplay$Reader", "readSecondFile", "()Z"⟩, 5), (⟨"DependentReplay$Reader", "readSecondNumber", "()Z"⟩, 5), (⟨"DependentReplay$Reader", "readNumber", "()I"⟩, 5), (⟨"DependentReplay$Reader", "readFirstNumber", "()Z"⟩, 5)]
theorem lw_r1 : ∀ q ∈ lw_privs_1, lw_okq q := List.forall_mem_cons.mpr ⟨lw_p0, List.forall_mem_cons.mpr ⟨lw_p1, List.forall_mem_cons.mpr ⟨lw_p2, List.forall_mem_cons.mpr ⟨lw_p3, List.forall_mem_cons.mpr ⟨lw_p4, List.forall_mem_cons.mpr ⟨lw_p5, List.forall_mem_cons.mpr ⟨lw_p6, List.forall_mem_cons.mpr ⟨lw_p7, List.forall_mem_cons.mpr ⟨lw_p8, List.forall_mem_cons.mpr ⟨lw_p9, List.forall_mem_cons.mpr ⟨lw_p10, List.forall_mem_cons.mpr ⟨lw_p11, List.forall_mem_cons.mpr ⟨lw_p12, List.forall_mem_cons.mpr ⟨lw_p13, List.forall_mem_cons.mpr ⟨lw_p14, List.forall_mem_cons.mpr ⟨lw_p15, fun _ h => absurd h List.not_mem_nil⟩⟩⟩⟩⟩⟩⟩⟩⟩⟩⟩⟩⟩⟩⟩⟩
theorem lw_p16 : lw_okq (⟨"DependentReplay", "carryOrderOut", "()I"⟩, 7) := ⟨⟨by decide +kernel, by decide +kernel⟩, List.mem_of_getElem? (i := 16) (by decide +kernel), List.mem_of_getElem? (i := 605) (by decide +kernel), List.mem_of_getElem? (i := 606) (by decide +kernel)⟩
theorem lw_p17 : lw_okq (⟨"DependentReplayModel", "emptyTree", "()V"⟩, 15) := ⟨⟨by decide +kernel, by decide +kernel⟩, List.mem_of_getElem? (i := 630) (by decide +kernel), List.mem_of_getElem? (i := 636) (by decide +kernel), List.mem_of_getElem? (i := 637) (by decide +kernel)⟩
theorem lw_p18 : lw_okq (⟨"DependentReplayModel", "setFile", "(IIII)V"⟩, 15) := ⟨⟨by decide +kernel, by decide +kernel⟩, List.mem_of_getElem? (i := 630) (by decide +kernel), List.mem_of_getElem? (i := 640) (by decide +kernel), List.mem_of_getElem? (i := 641) (by decide +kernel)⟩
theorem lw_p19 : lw_okq (⟨"DependentReplayModel", "whyNotWritten", "(III)I"⟩, 15) := ⟨⟨by decide +kernel, by decide +kernel⟩, List.mem_of_getElem? (i := 630) (by decide +kernel), List.mem_of_getElem? (i := 694) (by decide +kernel), List.mem_of_getElem? (i := 695) (by decide +kernel)⟩
theorem lw_p20 : lw_okq (⟨"DependentReplayModel", "record", "()V"⟩, 15) := ⟨⟨by decide +kernel, by decide +kernel⟩, List.mem_of_getElem? (i := 630) (by decide +kernel), List.mem_of_getElem? (i := 704) (by decide +kernel), List.mem_of_getElem? (i := 705) (by decide +kernel)⟩
theorem lw_p21 : lw_okq (⟨"DependentReplayModel", "written", "(III)I"⟩, 15) := ⟨⟨by decide +kernel, by decide +kernel⟩, List.mem_of_getElem? (i := 630) (by decide +kernel), List.mem_of_getElem? (i := 711) (by decide +kernel), List.mem_of_getElem? (i := 712) (by decide +kernel)⟩
theorem lw_p22 : lw_okq (⟨"DependentReplayModel", "setPart", "(III)V"⟩, 15) := ⟨⟨by decide +kernel, by decide +kernel⟩, List.mem_of_getElem? (i := 630) (by decide +kernel), List.mem_of_getElem? (i := 715) (by decide +kernel), List.mem_of_getElem? (i := 716) (by decide +kernel)⟩
theorem lw_p23 : lw_okq (⟨"DependentReplayModel", "latestOf", "(II)I"⟩, 15) := ⟨⟨by decide +kernel, by decide +kernel⟩, List.mem_of_getElem? (i := 630) (by decide +kernel), List.mem_of_getElem? (i := 719) (by decide +kernel), List.mem_of_getElem? (i := 720) (by decide +kernel)⟩
theorem lw_p24 : lw_okq (⟨"DependentReplayModel", "part", "(II)I"⟩, 15) := ⟨⟨by decide +kernel, by decide +kernel⟩, List.mem_of_getElem? (i := 630) (by decide +kernel), List.mem_of_getElem? (i := 723) (by decide +kernel), List.mem_of_getElem? (i := 724) (by decide +kernel)⟩
theorem lw_p25 : lw_okq (⟨"DependentReplayModel", "dependsIfAny", "(II)V"⟩, 15) := ⟨⟨by decide +kernel, by decide +kernel⟩, List.mem_of_getElem? (i := 630) (by decide +kernel), List.mem_of_getElem? (i := 727) (by decide +kernel), List.mem_of_getElem? (i := 728) (by decide +kernel)⟩
theorem lw_p26 : lw_okq (⟨"DependentReplayModel", "depends", "(II)V"⟩, 15) := ⟨⟨by decide +kernel, by decide +kernel⟩, List.mem_of_getElem? (i := 630) (by decide +kernel), List.mem_of_getElem? (i := 731) (by decide +kernel), List.mem_of_getElem? (i := 732) (by decide +kernel)⟩
theorem lw_p27 : lw_okq (⟨"DependentReplayModel", "hasDirectory", "(I)Z"⟩, 15) := ⟨⟨by decide +kernel, by decide +kernel⟩, List.mem_of_getElem? (i := 630) (by decide +kernel), List.mem_of_getElem? (i := 735) (by decide +kernel), List.mem_of_getElem? (i := 736) (by decide +kernel)⟩
theorem lw_p28 : lw_okq (⟨"DependentReplayModel", "latestIn", "(II)I"⟩, 15) := ⟨⟨by decide +kernel, by decide +kernel⟩, List.mem_of_getElem? (i := 630) (by decide +kernel), List.mem_of_getElem? (i := 739) (by decide +kernel), List.mem_of_getElem? (i := 740) (by decide +kernel)⟩
theorem lw_p29 : lw_okq (⟨"DependentReplayModel", "whyNotNeeded", "(II)I"⟩, 15) := ⟨⟨by decide +kernel, by decide +kernel⟩, List.mem_of_getElem? (i := 630) (by decide +kernel), List.mem_of_getElem? (i := 759) (by decide +kernel), List.mem_of_getElem? (i := 760) (by decide +kernel)⟩
theorem lw_p30 : lw_okq (⟨"DependentReplayModel", "isEntry", "(I)Z"⟩, 15) := ⟨⟨by decide +kernel, by decide +kernel⟩, List.mem_of_getElem? (i := 630) (by decide +kernel), List.mem_of_getElem? (i := 763) (by decide +kernel), List.mem_of_getElem? (i := 764) (by decide +kernel)⟩
theorem lw_p31 : lw_okq (⟨"DependentReplayModel", "needed", "(II)I"⟩, 15) := ⟨⟨by decide +kernel, by decide +kernel⟩, List.mem_of_getElem? (i := 630) (by decide +kernel), List.mem_of_getElem? (i := 767) (by decide +kernel), List.mem_of_getElem? (i := 768) (by decide +kernel)⟩
def lw_privs_2 : List (MethodName × Nat) := [(⟨"DependentReplay", "carryOrderOut", "()I"⟩, 7), (⟨"DependentReplayModel", "emptyTree", "()V"⟩, 15), (⟨"DependentReplayModel", "setFile", "(IIII)V"⟩, 15), (⟨"DependentReplayModel", "whyNotWritten", "(III)I"⟩, 15), (⟨"DependentReplayModel", "record", "()V"⟩, 15), (⟨"DependentReplayModel", "written", "(III)I"⟩, 15), (⟨"DependentReplayModel", "setPart", "(III)V"⟩, 15), (⟨"DependentReplayModel", "latestOf", "(II)I"⟩, 15), (⟨"DependentReplayModel", "part", "(II)I"⟩, 15), (⟨"DependentReplayModel", "dependsIfAny", "(II)V"⟩, 15), (⟨"DependentReplayModel", "depends", "(II)V"⟩, 15), (⟨"DependentReplayModel", "hasDirectory", "(I)Z"⟩, 15), (⟨"DependentReplayModel", "latestIn", "(II)I"⟩, 15), (⟨"DependentReplayModel", "whyNotNeeded", "(II)I"⟩, 15), (⟨"DependentReplayModel", "isEntry", "(I)Z"⟩, 15), (⟨"DependentReplayModel", "needed", "(II)I"⟩, 15)]
theorem lw_r2 : ∀ q ∈ lw_privs_2, lw_okq q := List.forall_mem_cons.mpr ⟨lw_p16, List.forall_mem_cons.mpr ⟨lw_p17, List.forall_mem_cons.mpr ⟨lw_p18, List.forall_mem_cons.mpr ⟨lw_p19, List.forall_mem_cons.mpr ⟨lw_p20, List.forall_mem_cons.mpr ⟨lw_p21, List.forall_mem_cons.mpr ⟨lw_p22, List.forall_mem_cons.mpr ⟨lw_p23, List.forall_mem_cons.mpr ⟨lw_p24, List.forall_mem_cons.mpr ⟨lw_p25, List.forall_mem_cons.mpr ⟨lw_p26, List.forall_mem_cons.mpr ⟨lw_p27, List.forall_mem_cons.mpr ⟨lw_p28, List.forall_mem_cons.mpr ⟨lw_p29, List.forall_mem_cons.mpr ⟨lw_p30, List.forall_mem_cons.mpr ⟨lw_p31, fun _ h => absurd h List.not_mem_nil⟩⟩⟩⟩⟩⟩⟩⟩⟩⟩⟩⟩⟩⟩⟩⟩
theorem lw_p32 : lw_okq (⟨"DependentReplayModel", "beginsAnew", "()V"⟩, 15) := ⟨⟨by decide +kernel, by decide +kernel⟩, List.mem_of_getElem? (i := 630) (by decide +kernel), List.mem_of_getElem? (i := 771) (by decide +kernel), List.mem_of_getElem? (i := 772) (by decide +kernel)⟩
theorem lw_p33 : lw_okq (⟨"DependentReplayModel", "dependencies", "(I)J"⟩, 15) := ⟨⟨by decide +kernel, by decide +kernel⟩, List.mem_of_getElem? (i := 630) (by decide +kernel), List.mem_of_getElem? (i := 775) (by decide +kernel), List.mem_of_getElem? (i := 776) (by decide +kernel)⟩
theorem lw_p34 : lw_okq (⟨"DependentReplayModel", "whyNotBecome", "(II)I"⟩, 15) := ⟨⟨by decide +kernel, by decide +kernel⟩, List.mem_of_getElem? (i := 630) (by decide +kernel), List.mem_of_getElem? (i := 786) (by decide +kernel), List.mem_of_getElem? (i := 787) (by decide +kernel)⟩
theorem lw_p35 : lw_okq (⟨"DependentReplayModel", "becomes", "(II)I"⟩, 15) := ⟨⟨by decide +kernel, by decide +kernel⟩, List.mem_of_getElem? (i := 630) (by decide +kernel), List.mem_of_getElem? (i := 790) (by decide +kernel), List.mem_of_getElem? (i := 791) (by decide +kernel)⟩
theorem lw_p36 : lw_okq (⟨"DependentReplayModel", "lostOnes", "()J"⟩, 15) := ⟨⟨by decide +kernel, by decide +kernel⟩, List.mem_of_getElem? (i := 630) (by decide +kernel), List.mem_of_getElem? (i := 794) (by decide +kernel), List.mem_of_getElem? (i := 795) (by decide +kernel)⟩
theorem lw_p37 : lw_okq (⟨"DependentReplayModel", "orphansBy", "(J)J"⟩, 15) := ⟨⟨by decide +kernel, by decide +kernel⟩, List.mem_of_getElem? (i := 630) (by decide +kernel), List.mem_of_getElem? (i := 798) (by decide +kernel), List.mem_of_getElem? (i := 799) (by decide +kernel)⟩
theorem lw_p38 : lw_okq (⟨"DependentReplayModel", "findLeans", "()V"⟩, 15) := ⟨⟨by decide +kernel, by decide +kernel⟩, List.mem_of_getElem? (i := 630) (by decide +kernel), List.mem_of_getElem? (i := 802) (by decide +kernel), List.mem_of_getElem? (i := 803) (by decide +kernel)⟩
theorem lw_p39 : lw_okq (⟨"DependentReplayModel", "replayedOnes", "()J"⟩, 15) := ⟨⟨by decide +kernel, by decide +kernel⟩, List.mem_of_getElem? (i := 630) (by decide +kernel), List.mem_of_getElem? (i := 814) (by decide +kernel), List.mem_of_getElem? (i := 815) (by decide +kernel)⟩
theorem lw_p40 : lw_okq (⟨"DependentReplayModel", "makesRound", "()I"⟩, 15) := ⟨⟨by decide +kernel, by decide +kernel⟩, List.mem_of_getElem? (i := 630) (by decide +kernel), List.mem_of_getElem? (i := 822) (by decide +kernel), List.mem_of_getElem? (i := 823) (by decide +kernel)⟩
theorem lw_p41 : lw_okq (⟨"DependentReplayModel", "readyOnes", "()J"⟩, 15) := ⟨⟨by decide +kernel, by decide +kernel⟩, List.mem_of_getElem? (i := 630) (by decide +kernel), List.mem_of_getElem? (i := 826) (by decide +kernel), List.mem_of_getElem? (i := 827) (by decide +kernel)⟩
theorem lw_p42 : lw_okq (⟨"DependentReplayModel", "plays", "(I)I"⟩, 15) := ⟨⟨by decide +kernel, by decide +kernel⟩, List.mem_of_getElem? (i := 630) (by decide +kernel), List.mem_of_getElem? (i := 831) (by decide +kernel), List.mem_of_getElem? (i := 832) (by decide +kernel)⟩
theorem lw_p43 : lw_okq (⟨"DependentReplayModel", "reasonOf", "(I)I"⟩, 15) := ⟨⟨by decide +kernel, by decide +kernel⟩, List.mem_of_getElem? (i := 630) (by decide +kernel), List.mem_of_getElem? (i := 835) (by decide +kernel), List.mem_of_getElem? (i := 836) (by decide +kernel)⟩
theorem lw_p44 : lw_okq (⟨"DependentReplayModel", "isThere", "(I)Z"⟩, 15) := ⟨⟨by decide +kernel, by decide +kernel⟩, List.mem_of_getElem? (i := 630) (by decide +kernel), List.mem_of_getElem? (i := 839) (by decide +kernel), List.mem_of_getElem? (i := 840) (by decide +kernel)⟩
theorem lw_p45 : lw_okq (⟨"DependentReplayModel", "filePart", "(II)I"⟩, 15) := ⟨⟨by decide +kernel, by decide +kernel⟩, List.mem_of_getElem? (i := 630) (by decide +kernel), List.mem_of_getElem? (i := 843) (by decide +kernel), List.mem_of_getElem? (i := 844) (by decide +kernel)⟩
theorem lw_p46 : lw_okq (⟨"DependentReplayModel", "isUnder", "(II)Z"⟩, 15) := ⟨⟨by decide +kernel, by decide +kernel⟩, List.mem_of_getElem? (i := 630) (by decide +kernel), List.mem_of_getElem? (i := 847) (by decide +kernel), List.mem_of_getElem? (i := 848) (by decide +kernel)⟩
theorem lw_p47 : lw_okq (⟨"DependentReplayModel", "filesIn", "(I)I"⟩, 15) := ⟨⟨by decide +kernel, by decide +kernel⟩, List.mem_of_getElem? (i := 630) (by decide +kernel), List.mem_of_getElem? (i := 851) (by decide +kernel), List.mem_of_getElem? (i := 852) (by decide +kernel)⟩
def lw_privs_3 : List (MethodName × Nat) := [(⟨"DependentReplayModel", "beginsAnew", "()V"⟩, 15), (⟨"DependentReplayModel", "dependencies", "(I)J"⟩, 15), (⟨"DependentReplayModel", "whyNotBecome", "(II)I"⟩, 15), (⟨"DependentReplayModel", "becomes", "(II)I"⟩, 15), (⟨"DependentReplayModel", "lostOnes", "()J"⟩, 15), (⟨"DependentReplayModel", "orphansBy", "(J)J"⟩, 15), (⟨"DependentReplayModel", "findLeans", "()V"⟩, 15), (⟨"DependentReplayModel", "replayedOnes", "()J"⟩, 15), (⟨"DependentReplayModel", "makesRound", "()I"⟩, 15), (⟨"DependentReplayModel", "readyOnes", "()J"⟩, 15), (⟨"DependentReplayModel", "plays", "(I)I"⟩, 15), (⟨"DependentReplayModel", "reasonOf", "(I)I"⟩, 15), (⟨"DependentReplayModel", "isThere", "(I)Z"⟩, 15), (⟨"DependentReplayModel", "filePart", "(II)I"⟩, 15), (⟨"DependentReplayModel", "isUnder", "(II)Z"⟩, 15), (⟨"DependentReplayModel", "filesIn", "(I)I"⟩, 15)]
theorem lw_r3 : ∀ q ∈ lw_privs_3, lw_okq q := List.forall_mem_cons.mpr ⟨lw_p32, List.forall_mem_cons.mpr ⟨lw_p33, List.forall_mem_cons.mpr ⟨lw_p34, List.forall_mem_cons.mpr ⟨lw_p35, List.forall_mem_cons.mpr ⟨lw_p36, List.forall_mem_cons.mpr ⟨lw_p37, List.forall_mem_cons.mpr ⟨lw_p38, List.forall_mem_cons.mpr ⟨lw_p39, List.forall_mem_cons.mpr ⟨lw_p40, List.forall_mem_cons.mpr ⟨lw_p41, List.forall_mem_cons.mpr ⟨lw_p42, List.forall_mem_cons.mpr ⟨lw_p43, List.forall_mem_cons.mpr ⟨lw_p44, List.forall_mem_cons.mpr ⟨lw_p45, List.forall_mem_cons.mpr ⟨lw_p46, List.forall_mem_cons.mpr ⟨lw_p47, fun _ h => absurd h List.not_mem_nil⟩⟩⟩⟩⟩⟩⟩⟩⟩⟩⟩⟩⟩⟩⟩⟩
theorem lw_p48 : lw_okq (⟨"DependentReplayModel", "replays", "()I"⟩, 15) := ⟨⟨by decide +kernel, by decide +kernel⟩, List.mem_of_getElem? (i := 630) (by decide +kernel), List.mem_of_getElem? (i := 859) (by decide +kernel), List.mem_of_getElem? (i := 860) (by decide +kernel)⟩
theorem lw_p49 : lw_okq (⟨"DependentReplayModel", "leanOn", "(I)I"⟩, 15) := ⟨⟨by decide +kernel, by decide +kernel⟩, List.mem_of_getElem? (i := 630) (by decide +kernel), List.mem_of_getElem? (i := 867) (by decide +kernel), List.mem_of_getElem? (i := 868) (by decide +kernel)⟩
theorem lw_p50 : lw_okq (⟨"DependentReplayModel", "above", "(I)I"⟩, 15) := ⟨⟨by decide +kernel, by decide +kernel⟩, List.mem_of_getElem? (i := 630) (by decide +kernel), List.mem_of_getElem? (i := 879) (by decide +kernel), List.mem_of_getElem? (i := 880) (by decide +kernel)⟩
theorem lw_p51 : lw_okq (⟨"DependentReplayModel", "allUnder", "(I)I"⟩, 15) := ⟨⟨by decide +kernel, by decide +kernel⟩, List.mem_of_getElem? (i := 630) (by decide +kernel), List.mem_of_getElem? (i := 883) (by decide +kernel), List.mem_of_getElem? (i := 884) (by decide +kernel)⟩
theorem lw_p52 : lw_okq (⟨"DependentReplayModel", "refusedOnes", "()J"⟩, 15) := ⟨⟨by decide +kernel, by decide +kernel⟩, List.mem_of_getElem? (i := 630) (by decide +kernel), List.mem_of_getElem? (i := 891) (by decide +kernel), List.mem_of_getElem? (i := 892) (by decide +kernel)⟩
theorem lw_p53 : lw_okq (⟨"DependentReplayModel", "filesThere", "()I"⟩, 15) := ⟨⟨by decide +kernel, by decide +kernel⟩, List.mem_of_getElem? (i := 630) (by decide +kernel), List.mem_of_getElem? (i := 895) (by decide +kernel), List.mem_of_getElem? (i := 896) (by decide +kernel)⟩
theorem lw_p54 : lw_okq (⟨"DependentReplayModel", "widest", "()I"⟩, 15) := ⟨⟨by decide +kernel, by decide +kernel⟩, List.mem_of_getElem? (i := 630) (by decide +kernel), List.mem_of_getElem? (i := 899) (by decide +kernel), List.mem_of_getElem? (i := 900) (by decide +kernel)⟩
theorem lw_p55 : lw_okq (⟨"DependentReplayModel", "findFault", "()I"⟩, 15) := ⟨⟨by decide +kernel, by decide +kernel⟩, List.mem_of_getElem? (i := 630) (by decide +kernel), List.mem_of_getElem? (i := 937) (by decide +kernel), List.mem_of_getElem? (i := 938) (by decide +kernel)⟩
theorem lw_p56 : lw_okq (⟨"DependentReplayModel", "readsOrder", "()Z"⟩, 15) := ⟨⟨by decide +kernel, by decide +kernel⟩, List.mem_of_getElem? (i := 630) (by decide +kernel), List.mem_of_getElem? (i := 941) (by decide +kernel), List.mem_of_getElem? (i := 942) (by decide +kernel)⟩
theorem lw_p57 : lw_okq (⟨"DependentReplayModel", "character", "(I)I"⟩, 15) := ⟨⟨by decide +kernel, by decide +kernel⟩, List.mem_of_getElem? (i := 630) (by decide +kernel), List.mem_of_getElem? (i := 945) (by decide +kernel), List.mem_of_getElem? (i := 946) (by decide +kernel)⟩
theorem lw_p58 : lw_okq (⟨"DependentReplayModel", "takeFile", "()I"⟩, 15) := ⟨⟨by decide +kernel, by decide +kernel⟩, List.mem_of_getElem? (i := 630) (by decide +kernel), List.mem_of_getElem? (i := 949) (by decide +kernel), List.mem_of_getElem? (i := 950) (by decide +kernel)⟩
theorem lw_p59 : lw_okq (⟨"DependentReplayModel", "takes", "(I)Z"⟩, 15) := ⟨⟨by decide +kernel, by decide +kernel⟩, List.mem_of_getElem? (i := 630) (by decide +kernel), List.mem_of_getElem? (i := 953) (by decide +kernel), List.mem_of_getElem? (i := 954) (by decide +kernel)⟩
theorem lw_p60 : lw_okq (⟨"DependentReplayModel", "takeNumber", "()I"⟩, 15) := ⟨⟨by decide +kernel, by decide +kernel⟩, List.mem_of_getElem? (i := 630) (by decide +kernel), List.mem_of_getElem? (i := 957) (by decide +kernel), List.mem_of_getElem? (i := 958) (by decide +kernel)⟩
theorem lw_p61 : lw_okq (⟨"DependentReplayModel", "whyNotDone", "()I"⟩, 15) := ⟨⟨by decide +kernel, by decide +kernel⟩, List.mem_of_getElem? (i := 630) (by decide +kernel), List.mem_of_getElem? (i := 965) (by decide +kernel), List.mem_of_getElem? (i := 966) (by decide +kernel)⟩
theorem lw_p62 : lw_okq (⟨"DependentReplayModel", "does", "()V"⟩, 15) := ⟨⟨by decide +kernel, by decide +kernel⟩, List.mem_of_getElem? (i := 630) (by decide +kernel), List.mem_of_getElem? (i := 969) (by decide +kernel), List.mem_of_getElem? (i := 970) (by decide +kernel)⟩
def lw_privs_4 : List (MethodName × Nat) := [(⟨"DependentReplayModel", "replays", "()I"⟩, 15), (⟨"DependentReplayModel", "leanOn", "(I)I"⟩, 15), (⟨"DependentReplayModel", "above", "(I)I"⟩, 15), (⟨"DependentReplayModel", "allUnder", "(I)I"⟩, 15), (⟨"DependentReplayModel", "refusedOnes", "()J"⟩, 15), (⟨"DependentReplayModel", "filesThere", "()I"⟩, 15), (⟨"DependentReplayModel", "widest", "()I"⟩, 15), (⟨"DependentReplayModel", "findFault", "()I"⟩, 15), (⟨"DependentReplayModel", "readsOrder", "()Z"⟩, 15), (⟨"DependentReplayModel", "character", "(I)I"⟩, 15), (⟨"DependentReplayModel", "takeFile", "()I"⟩, 15), (⟨"DependentReplayModel", "takes", "(I)Z"⟩, 15), (⟨"DependentReplayModel", "takeNumber", "()I"⟩, 15), (⟨"DependentReplayModel", "whyNotDone", "()I"⟩, 15), (⟨"DependentReplayModel", "does", "()V"⟩, 15)]
theorem lw_r4 : ∀ q ∈ lw_privs_4, lw_okq q := List.forall_mem_cons.mpr ⟨lw_p48, List.forall_mem_cons.mpr ⟨lw_p49, List.forall_mem_cons.mpr ⟨lw_p50, List.forall_mem_cons.mpr ⟨lw_p51, List.forall_mem_cons.mpr ⟨lw_p52, List.forall_mem_cons.mpr ⟨lw_p53, List.forall_mem_cons.mpr ⟨lw_p54, List.forall_mem_cons.mpr ⟨lw_p55, List.forall_mem_cons.mpr ⟨lw_p56, List.forall_mem_cons.mpr ⟨lw_p57, List.forall_mem_cons.mpr ⟨lw_p58, List.forall_mem_cons.mpr ⟨lw_p59, List.forall_mem_cons.mpr ⟨lw_p60, List.forall_mem_cons.mpr ⟨lw_p61, List.forall_mem_cons.mpr ⟨lw_p62, fun _ h => absurd h List.not_mem_nil⟩⟩⟩⟩⟩⟩⟩⟩⟩⟩⟩⟩⟩⟩⟩
def lw_privs : List (MethodName × Nat) := lw_privs_1 ++ (lw_privs_2 ++ (lw_privs_3 ++ (lw_privs_4)))
def lw_tbl : List Cond := k2_sels lw_privs ++ tables_1
theorem lw_privs_ok : ∀ q ∈ lw_privs, lw_okq q := by
  show ∀ q ∈ lw_privs_1 ++ (lw_privs_2 ++ (lw_privs_3 ++ (lw_privs_4))), lw_okq q
  exact List.forall_mem_append.mpr ⟨lw_r1, List.forall_mem_append.mpr ⟨lw_r2, List.forall_mem_append.mpr ⟨lw_r3, lw_r4⟩⟩⟩
end
section
/-! the tables of the small machine: classes, fields, methods, links (printed by wip/whole/gen01.py out of the claim) -/
abbrev CN : Nat → String := fun k => match k with
  | 0 => "DependentReplay"
  | 1 => "DependentReplay$State"
  | 2 => "DependentReplay$Log"
  | 3 => "DependentReplay$Replay"
  | 4 => "DependentReplay$Tree"
  | 5 => "DependentReplay$History"
  | 6 => "DependentReplay$Pad"
  | 7 => "DependentReplay$Reader"
  | 8 => "DependentReplay$Slot"
  | 9 => "DependentReplayModel"
  | 10 => "java/util/Arrays"
  | 11 => "java/lang/Math"
  | 12 => "java/lang/Long"
  | _ => "DependentReplayLaw"
def T_0 : u_T := fun k => match k with
  | 0 => ("DependentReplay", "now", "LDependentReplay$State;", true)
  | 1 => ("DependentReplay", "history", "LDependentReplay$History;", true)
  | 2 => ("DependentReplay", "slots", "[LDependentReplay$Slot;", true)
  | 3 => ("DependentReplay", "pad", "LDependentReplay$Pad;", true)
  | 4 => ("DependentReplay", "reader", "LDependentReplay$Reader;", true)
  | 5 => ("DependentReplay", "trial", "LDependentReplay$Replay;", true)
  | _ => ("DependentReplay", "treeOfWriting", "LDependentReplay$Tree;", true)
def t_0 : Nat → FieldType := fun k => match k with
  | 0 => .object "DependentReplay$State"
  | 1 => .object "DependentReplay$History"
  | 2 => .array (.object "DependentReplay$Slot")
  | 3 => .object "DependentReplay$Pad"
  | 4 => .object "DependentReplay$Reader"
  | 5 => .object "DependentReplay$Replay"
  | _ => .object "DependentReplay$Tree"
def T_1 : u_T := fun k => match k with
  | 0 => ("DependentReplay$State", "log", "LDependentReplay$Log;", true)
  | _ => ("DependentReplay$State", "replay", "LDependentReplay$Replay;", true)
def t_1 : Nat → FieldType := fun k => match k with
  | 0 => .object "DependentReplay$Log"
  | _ => .object "DependentReplay$Replay"
def T_2 : u_T := fun k => match k with
  | 0 => ("DependentReplay$Log", "size", "I", false)
  | 1 => ("DependentReplay$Log", "lost", "J", false)
  | 2 => ("DependentReplay$Log", "kinds", "[I", true)
  | 3 => ("DependentReplay$Log", "files", "[I", true)
  | 4 => ("DependentReplay$Log", "arguments", "[I", true)
  | 5 => ("DependentReplay$Log", "needs", "[J", true)
  | _ => ("DependentReplay$Log", "leansOn", "[J", true)
def t_2 : Nat → FieldType := fun k => match k with
  | 0 => .int
  | 1 => .long
  | 2 => .array (.int)
  | 3 => .array (.int)
  | 4 => .array (.int)
  | 5 => .array (.long)
  | _ => .array (.long)
def T_3 : u_T := fun k => match k with
  | 0 => ("DependentReplay$Replay", "replayed", "J", false)
  | 1 => ("DependentReplay$Replay", "refused", "J", false)
  | 2 => ("DependentReplay$Replay", "rounds", "I", false)
  | 3 => ("DependentReplay$Replay", "widest", "I", false)
  | 4 => ("DependentReplay$Replay", "roundOf", "[I", true)
  | 5 => ("DependentReplay$Replay", "reasonOf", "[I", true)
  | _ => ("DependentReplay$Replay", "tree", "LDependentReplay$Tree;", true)
def t_3 : Nat → FieldType := fun k => match k with
  | 0 => .long
  | 1 => .long
  | 2 => .int
  | 3 => .int
  | 4 => .array (.int)
  | 5 => .array (.int)
  | _ => .object "DependentReplay$Tree"
def T_4 : u_T := fun k => match k with
  | 0 => ("DependentReplay$Tree", "directories", "[I", true)
  | _ => ("DependentReplay$Tree", "values", "[I", true)
def t_4 : Nat → FieldType := fun k => match k with
  | 0 => .array (.int)
  | _ => .array (.int)
def T_5 : u_T := fun k => match k with
  | 0 => ("DependentReplay$History", "states", "[LDependentReplay$State;", true)
  | 1 => ("DependentReplay$History", "next", "I", false)
  | _ => ("DependentReplay$History", "kept", "I", false)
def t_5 : Nat → FieldType := fun k => match k with
  | 0 => .array (.object "DependentReplay$State")
  | 1 => .int
  | _ => .int
def T_6 : u_T := fun k => match k with
  | 0 => ("DependentReplay$Pad", "codes", "[I", true)
  | _ => ("DependentReplay$Pad", "length", "I", false)
def t_6 : Nat → FieldType := fun k => match k with
  | 0 => .array (.int)
  | _ => .int
def T_7 : u_T := fun k => match k with
  | 0 => ("DependentReplay$Reader", "pad", "LDependentReplay$Pad;", true)
  | 1 => ("DependentReplay$Reader", "at", "I", false)
  | 2 => ("DependentReplay$Reader", "letter", "I", false)
  | 3 => ("DependentReplay$Reader", "first", "I", false)
  | _ => ("DependentReplay$Reader", "second", "I", false)
def t_7 : Nat → FieldType := fun k => match k with
  | 0 => .object "DependentReplay$Pad"
  | 1 => .int
  | 2 => .int
  | 3 => .int
  | _ => .int
def T_8 : u_T := fun k => match k with
  | 0 => ("DependentReplay$Slot", "state", "LDependentReplay$State;", true)
  | _ => ("DependentReplay$Slot", "isUsed", "Z", false)
def t_8 : Nat → FieldType := fun k => match k with
  | 0 => .object "DependentReplay$State"
  | _ => .boolean
def T_9 : u_T := fun k => match k with
  | 0 => ("DependentReplayModel", "state", "[I", true)
  | 1 => ("DependentReplayModel", "kept", "[I", true)
  | 2 => ("DependentReplayModel", "history", "[I", true)
  | 3 => ("DependentReplayModel", "recorded", "I", false)
  | 4 => ("DependentReplayModel", "slots", "[I", true)
  | 5 => ("DependentReplayModel", "isSaved", "[I", true)
  | 6 => ("DependentReplayModel", "pad", "[I", true)
  | 7 => ("DependentReplayModel", "padLength", "I", false)
  | 8 => ("DependentReplayModel", "leans", "[J", true)
  | 9 => ("DependentReplayModel", "depths", "[I", true)
  | 10 => ("DependentReplayModel", "byOrder", "[I", true)
  | 11 => ("DependentReplayModel", "at", "I", false)
  | 12 => ("DependentReplayModel", "letter", "I", false)
  | 13 => ("DependentReplayModel", "first", "I", false)
  | _ => ("DependentReplayModel", "second", "I", false)
def t_9 : Nat → FieldType := fun k => match k with
  | 0 => .array (.int)
  | 1 => .array (.int)
  | 2 => .array (.int)
  | 3 => .int
  | 4 => .array (.int)
  | 5 => .array (.int)
  | 6 => .array (.int)
  | 7 => .int
  | 8 => .array (.long)
  | 9 => .array (.int)
  | 10 => .array (.int)
  | 11 => .int
  | 12 => .int
  | 13 => .int
  | _ => .int
def TT : Nat → u_T := fun c => match c with
  | 0 => T_0
  | 1 => T_1
  | 2 => T_2
  | 3 => T_3
  | 4 => T_4
  | 5 => T_5
  | 6 => T_6
  | 7 => T_7
  | 8 => T_8
  | _ => T_9
def tT : Nat → Nat → FieldType := fun c => match c with
  | 0 => t_0
  | 1 => t_1
  | 2 => t_2
  | 3 => t_3
  | 4 => t_4
  | 5 => t_5
  | 6 => t_6
  | 7 => t_7
  | 8 => t_8
  | _ => t_9
def NN : Nat → Nat := fun c => match c with
  | 0 => 7
  | 1 => 2
  | 2 => 7
  | 3 => 7
  | 4 => 2
  | 5 => 3
  | 6 => 2
  | 7 => 5
  | 8 => 2
  | _ => 15
def nCl : Nat := 10
/-- 0 an int, 1 a long, 2 a reference, 3 a boolean -/
def fT (ci k : Nat) : Nat := match tT ci k with | .int => 0 | .long => 1 | .boolean => 3 | _ => 2
abbrev classes : List vw_C := [("DependentReplay", T_0, 7), ("DependentReplay$State", T_1, 2), ("DependentReplay$Log", T_2, 7), ("DependentReplay$Replay", T_3, 7), ("DependentReplay$Tree", T_4, 2), ("DependentReplay$History", T_5, 3), ("DependentReplay$Pad", T_6, 2), ("DependentReplay$Reader", T_7, 5), ("DependentReplay$Slot", T_8, 2), ("DependentReplayModel", T_9, 15)]
abbrev MT : Type := MethodName × ByteArray × Nat × Option FieldType × Nat × Nat × Nat × Nat × Nat × Bool
def mt_0 : MT := (⟨"DependentReplay", "<init>", "()V"⟩, prog_1_method_1_code, 2, none, 0, 6, 82, 81, 0, false)
def mt_1 : MT := (⟨"DependentReplay$State", "<init>", "()V"⟩, prog_8_method_1_code, 1, none, 1, 4, 90, 89, 0, false)
def mt_2 : MT := (⟨"DependentReplay$Log", "<init>", "()V"⟩, prog_3_method_1_code, 1, none, 2, 1, 96, 95, 0, false)
def mt_3 : MT := (⟨"DependentReplay$Replay", "<init>", "()V"⟩, prog_6_method_1_code, 1, none, 3, 3, 141, 140, 0, false)
def mt_4 : MT := (⟨"DependentReplay$Tree", "<init>", "()V"⟩, prog_9_method_1_code, 1, none, 4, 2, 147, 146, 0, false)
def mt_5 : MT := (⟨"DependentReplay$Tree", "clear", "()V"⟩, prog_9_method_2_code, 1, none, 4, 1, 152, 150, 151, false)
def mt_6 : MT := (⟨"java/util/Arrays", "fill", "([II)V"⟩, prog_15_method_103_code, 4, none, 10, 0, 155, 154, 0, true)
def mt_7 : MT := (⟨"DependentReplay$Replay", "clear", "()V"⟩, prog_6_method_2_code, 1, none, 3, 2, 168, 166, 167, false)
def mt_8 : MT := (⟨"DependentReplay$History", "<init>", "()V"⟩, prog_2_method_1_code, 2, none, 5, 5, 213, 212, 0, false)
def mt_9 : MT := (⟨"DependentReplay$Pad", "<init>", "()V"⟩, prog_4_method_1_code, 1, none, 6, 1, 235, 234, 0, false)
def mt_10 : MT := (⟨"DependentReplay$Reader", "<init>", "(LDependentReplay$Pad;)V"⟩, prog_5_method_1_code, 2, none, 7, 1, 250, 249, 0, false)
def mt_11 : MT := (⟨"DependentReplay$Slot", "<init>", "()V"⟩, prog_7_method_1_code, 1, none, 8, 5, 278, 277, 0, false)
def mt_12 : MT := (⟨"DependentReplay", "make", "(II)I"⟩, prog_1_method_2_code, 3, (some .int), 0, 5, 315, 313, 314, false)
def mt_13 : MT := (⟨"DependentReplay$History", "prepare", "(LDependentReplay$State;)V"⟩, prog_2_method_2_code, 2, none, 5, 4, 319, 317, 318, false)
def mt_14 : MT := (⟨"DependentReplay$State", "copyFrom", "(LDependentReplay$State;)V"⟩, prog_8_method_2_code, 2, none, 1, 3, 323, 321, 322, false)
def mt_15 : MT := (⟨"DependentReplay$Log", "copyFrom", "(LDependentReplay$Log;)V"⟩, prog_3_method_2_code, 2, none, 2, 1, 327, 325, 326, false)
def mt_16 : MT := (⟨"DependentReplay$Replay", "copyFrom", "(LDependentReplay$Replay;)V"⟩, prog_6_method_3_code, 2, none, 3, 2, 334, 332, 333, false)
def mt_17 : MT := (⟨"DependentReplay$Tree", "copyFrom", "(LDependentReplay$Tree;)V"⟩, prog_9_method_3_code, 2, none, 4, 1, 339, 337, 338, false)
def mt_18 : MT := (⟨"DependentReplay$State", "writeEntry", "(III)I"⟩, prog_8_method_3_code, 4, (some .int), 1, 4, 344, 342, 343, false)
def mt_19 : MT := (⟨"DependentReplay", "isFile", "(I)Z"⟩, prog_1_method_31_code, 1, (some .boolean), 0, 0, 347, 346, 0, true)
def mt_20 : MT := (⟨"DependentReplay", "hasDirectory", "(I)Z"⟩, prog_1_method_33_code, 1, (some .boolean), 0, 0, 350, 349, 0, true)
def mt_21 : MT := (⟨"DependentReplay$Log", "append", "(III)I"⟩, prog_3_method_4_code, 5, (some .int), 2, 3, 354, 352, 353, false)
def mt_22 : MT := (⟨"DependentReplay$Log", "firstNeeds", "(III)J"⟩, prog_3_method_5_code, 6, (some .long), 2, 2, 358, 357, 0, false)
def mt_23 : MT := (⟨"DependentReplay$Log", "latestOfFile", "(I)J"⟩, prog_3_method_6_code, 3, (some .long), 2, 1, 362, 361, 1, false)
def mt_24 : MT := (⟨"DependentReplay", "bit", "(I)J"⟩, prog_1_method_34_code, 1, (some .long), 0, 0, 365, 364, 0, true)
def mt_25 : MT := (⟨"DependentReplay$Log", "latestInDirectory", "(I)J"⟩, prog_3_method_7_code, 3, (some .long), 2, 1, 370, 369, 2, false)
def mt_26 : MT := (⟨"DependentReplay$Log", "lean", "(I)V"⟩, prog_3_method_8_code, 6, none, 2, 2, 374, 372, 373, false)
def mt_27 : MT := (⟨"DependentReplay", "holds", "(JI)Z"⟩, prog_1_method_35_code, 3, (some .boolean), 0, 1, 377, 376, 0, true)
def mt_28 : MT := (⟨"DependentReplay", "recorded", "(I)I"⟩, prog_1_method_28_code, 2, (some .int), 0, 2, 382, 381, 3, false)
def mt_29 : MT := (⟨"DependentReplay$History", "keepPrepared", "()V"⟩, prog_2_method_3_code, 1, none, 5, 1, 386, 384, 385, false)
def mt_30 : MT := (⟨"java/lang/Math", "min", "(II)I"⟩, prog_13_method_69_code, 2, (some .int), 11, 0, 389, 388, 0, true)
def mt_31 : MT := (⟨"DependentReplay", "write", "(II)I"⟩, prog_1_method_3_code, 3, (some .int), 0, 5, 393, 391, 392, false)
def mt_32 : MT := (⟨"DependentReplay", "move", "(II)I"⟩, prog_1_method_4_code, 3, (some .int), 0, 5, 397, 395, 396, false)
def mt_33 : MT := (⟨"DependentReplay", "drop", "(I)I"⟩, prog_1_method_5_code, 2, (some .int), 0, 5, 401, 399, 400, false)
def mt_34 : MT := (⟨"DependentReplay", "need", "(II)I"⟩, prog_1_method_6_code, 3, (some .int), 0, 5, 405, 403, 404, false)
def mt_35 : MT := (⟨"DependentReplay$State", "tellNeed", "(II)I"⟩, prog_8_method_4_code, 3, (some .int), 1, 3, 409, 407, 408, false)
def mt_36 : MT := (⟨"DependentReplay$Log", "has", "(I)Z"⟩, prog_3_method_3_code, 2, (some .boolean), 2, 0, 413, 411, 412, false)
def mt_37 : MT := (⟨"java/lang/Long", "bitCount", "(J)I"⟩, prog_12_method_50_code, 2, (some .int), 12, 0, 419, 418, 0, true)
def mt_38 : MT := (⟨"DependentReplay", "lose", "(I)I"⟩, prog_1_method_7_code, 2, (some .int), 0, 5, 426, 424, 425, false)
def mt_39 : MT := (⟨"DependentReplay$State", "loseEntry", "(I)I"⟩, prog_8_method_5_code, 2, (some .int), 1, 4, 430, 428, 429, false)
def mt_40 : MT := (⟨"DependentReplay$State", "turnLost", "(IZ)I"⟩, prog_8_method_7_code, 3, (some .int), 1, 3, 434, 433, 4, false)
def mt_41 : MT := (⟨"DependentReplay$Log", "orphans", "()J"⟩, prog_3_method_10_code, 1, (some .long), 2, 2, 439, 437, 438, false)
def mt_42 : MT := (⟨"DependentReplay$Log", "orphansOf", "(J)J"⟩, prog_3_method_11_code, 6, (some .long), 2, 1, 443, 441, 442, false)
def mt_43 : MT := (⟨"DependentReplay", "find", "(I)I"⟩, prog_1_method_8_code, 2, (some .int), 0, 5, 448, 446, 447, false)
def mt_44 : MT := (⟨"DependentReplay$State", "findEntry", "(I)I"⟩, prog_8_method_6_code, 2, (some .int), 1, 4, 452, 450, 451, false)
def mt_45 : MT := (⟨"DependentReplay", "beginAnew", "()I"⟩, prog_1_method_9_code, 2, (some .int), 0, 5, 456, 454, 455, false)
def mt_46 : MT := (⟨"DependentReplay", "round", "()I"⟩, prog_1_method_10_code, 1, (some .int), 0, 6, 462, 460, 461, false)
def mt_47 : MT := (⟨"DependentReplay$Replay", "makeRound", "(LDependentReplay$Log;)I"⟩, prog_6_method_5_code, 2, (some .int), 3, 5, 466, 464, 465, false)
def mt_48 : MT := (⟨"DependentReplay$Replay", "ready", "(LDependentReplay$Log;)J"⟩, prog_6_method_4_code, 7, (some .long), 3, 2, 470, 468, 469, false)
def mt_49 : MT := (⟨"DependentReplay$Replay", "replayReady", "(LDependentReplay$Log;J)I"⟩, prog_6_method_7_code, 5, (some .int), 3, 4, 477, 476, 5, false)
def mt_50 : MT := (⟨"DependentReplay$Tree", "apply", "(III)I"⟩, prog_9_method_6_code, 5, (some .int), 4, 3, 481, 479, 480, false)
def mt_51 : MT := (⟨"DependentReplay$Tree", "refusal", "(III)I"⟩, prog_9_method_7_code, 4, (some .int), 4, 2, 485, 484, 6, false)
def mt_52 : MT := (⟨"DependentReplay$Tree", "has", "(I)Z"⟩, prog_9_method_4_code, 2, (some .boolean), 4, 0, 489, 487, 488, false)
def mt_53 : MT := (⟨"DependentReplay$Tree", "isOrLiesIn", "(II)Z"⟩, prog_9_method_9_code, 5, (some .boolean), 4, 1, 494, 493, 7, false)
def mt_54 : MT := (⟨"DependentReplay$Tree", "filesIn", "(I)I"⟩, prog_9_method_10_code, 4, (some .int), 4, 0, 499, 497, 498, false)
def mt_55 : MT := (⟨"DependentReplay$Tree", "carry", "(III)V"⟩, prog_9_method_8_code, 4, none, 4, 1, 503, 502, 8, false)
def mt_56 : MT := (⟨"java/lang/Math", "max", "(II)I"⟩, prog_13_method_65_code, 2, (some .int), 11, 0, 507, 506, 0, true)
def mt_57 : MT := (⟨"DependentReplay", "replay", "()I"⟩, prog_1_method_11_code, 1, (some .int), 0, 6, 511, 509, 510, false)
def mt_58 : MT := (⟨"DependentReplay$Replay", "makeRounds", "(LDependentReplay$Log;)I"⟩, prog_6_method_6_code, 5, (some .int), 3, 5, 515, 513, 514, false)
def mt_59 : MT := (⟨"DependentReplay", "ofEntry", "(II)I"⟩, prog_1_method_12_code, 4, (some .int), 0, 3, 519, 517, 518, false)
def mt_60 : MT := (⟨"DependentReplay$Log", "leaningOn", "(I)I"⟩, prog_3_method_9_code, 4, (some .int), 2, 2, 526, 524, 525, false)
def mt_61 : MT := (⟨"DependentReplay", "dependsOn", "(I)J"⟩, prog_1_method_13_code, 2, (some .long), 0, 1, 530, 528, 529, false)
def mt_62 : MT := (⟨"DependentReplay", "ofFile", "(II)I"⟩, prog_1_method_14_code, 4, (some .int), 0, 3, 535, 533, 534, false)
def mt_63 : MT := (⟨"DependentReplay$Tree", "directoriesAbove", "(I)I"⟩, prog_9_method_11_code, 4, (some .int), 4, 1, 542, 540, 541, false)
def mt_64 : MT := (⟨"DependentReplay$Tree", "filesBelow", "(I)I"⟩, prog_9_method_12_code, 4, (some .int), 4, 2, 546, 544, 545, false)
def mt_65 : MT := (⟨"DependentReplay", "count", "(I)I"⟩, prog_1_method_15_code, 2, (some .int), 0, 3, 550, 548, 549, false)
def mt_66 : MT := (⟨"DependentReplay$Tree", "size", "()I"⟩, prog_9_method_5_code, 3, (some .int), 4, 1, 554, 552, 553, false)
def mt_67 : MT := (⟨"DependentReplay", "set", "(I)J"⟩, prog_1_method_16_code, 2, (some .long), 0, 3, 558, 556, 557, false)
def mt_68 : MT := (⟨"DependentReplay", "depth", "(I)I"⟩, prog_1_method_17_code, 2, (some .int), 0, 7, 564, 562, 563, false)
def mt_69 : MT := (⟨"DependentReplay", "tryReplay", "()V"⟩, prog_1_method_29_code, 1, none, 0, 6, 568, 567, 9, false)
def mt_70 : MT := (⟨"DependentReplay", "wants", "(I)J"⟩, prog_1_method_18_code, 2, (some .long), 0, 1, 572, 570, 571, false)
def mt_71 : MT := (⟨"DependentReplay", "worst", "(I)I"⟩, prog_1_method_19_code, 6, (some .int), 0, 2, 576, 574, 575, false)
def mt_72 : MT := (⟨"DependentReplay", "unlike", "()I"⟩, prog_1_method_20_code, 3, (some .int), 0, 7, 581, 579, 580, false)
def mt_73 : MT := (⟨"DependentReplay$Tree", "otherwiseThan", "(LDependentReplay$Tree;)I"⟩, prog_9_method_13_code, 4, (some .int), 4, 0, 587, 585, 586, false)
def mt_74 : MT := (⟨"DependentReplay", "put", "(J)I"⟩, prog_1_method_21_code, 3, (some .int), 0, 2, 591, 589, 590, false)
def mt_75 : MT := (⟨"DependentReplay$Pad", "append", "(J)I"⟩, prog_4_method_4_code, 5, (some .int), 6, 1, 595, 593, 594, false)
def mt_76 : MT := (⟨"DependentReplay$Pad", "numberOf", "(J)I"⟩, prog_4_method_5_code, 6, (some .int), 6, 0, 598, 597, 0, true)
def mt_77 : MT := (⟨"DependentReplay", "wipe", "()I"⟩, prog_1_method_22_code, 1, (some .int), 0, 1, 603, 601, 602, false)
def mt_78 : MT := (⟨"DependentReplay$Pad", "clear", "()I"⟩, prog_4_method_3_code, 2, (some .int), 6, 0, 607, 605, 606, false)
def mt_79 : MT := (⟨"DependentReplay", "fault", "()I"⟩, prog_1_method_23_code, 1, (some .int), 0, 6, 611, 609, 610, false)
def mt_80 : MT := (⟨"DependentReplay$Reader", "firstFault", "()I"⟩, prog_5_method_3_code, 3, (some .int), 7, 5, 615, 613, 614, false)
def mt_81 : MT := (⟨"DependentReplay$Reader", "begin", "()V"⟩, prog_5_method_2_code, 1, none, 7, 0, 619, 617, 618, false)
def mt_82 : MT := (⟨"DependentReplay$Reader", "readOrder", "()Z"⟩, prog_5_method_4_code, 1, (some .boolean), 7, 4, 623, 621, 622, false)
def mt_83 : MT := (⟨"DependentReplay$Pad", "codeAt", "(I)I"⟩, prog_4_method_2_code, 2, (some .int), 6, 0, 627, 625, 626, false)
def mt_84 : MT := (⟨"DependentReplay$Reader", "readSign", "(I)Z"⟩, prog_5_method_5_code, 2, (some .boolean), 7, 1, 631, 629, 630, false)
def mt_85 : MT := (⟨"DependentReplay$Reader", "readFirstFile", "()Z"⟩, prog_5_method_6_code, 1, (some .boolean), 7, 2, 635, 634, 10, false)
def mt_86 : MT := (⟨"DependentReplay$Reader", "readFile", "()I"⟩, prog_5_method_10_code, 2, (some .int), 7, 1, 639, 638, 11, false)
def mt_87 : MT := (⟨"DependentReplay$Reader", "readSecondFile", "()Z"⟩, prog_5_method_7_code, 1, (some .boolean), 7, 2, 644, 643, 12, false)
def mt_88 : MT := (⟨"DependentReplay$Reader", "readSecondNumber", "()Z"⟩, prog_5_method_9_code, 1, (some .boolean), 7, 3, 648, 647, 13, false)
def mt_89 : MT := (⟨"DependentReplay$Reader", "readNumber", "()I"⟩, prog_5_method_11_code, 3, (some .int), 7, 2, 652, 651, 14, false)
def mt_90 : MT := (⟨"DependentReplay$Reader", "isDigit", "(I)Z"⟩, prog_5_method_12_code, 1, (some .boolean), 7, 0, 655, 654, 0, true)
def mt_91 : MT := (⟨"DependentReplay$Reader", "readFirstNumber", "()Z"⟩, prog_5_method_8_code, 1, (some .boolean), 7, 3, 660, 659, 15, false)
def mt_92 : MT := (⟨"DependentReplay", "carryOut", "()I"⟩, prog_1_method_24_code, 2, (some .int), 0, 7, 664, 662, 663, false)
def mt_93 : MT := (⟨"DependentReplay", "carryOrderOut", "()I"⟩, prog_1_method_30_code, 1, (some .int), 0, 6, 670, 669, 16, false)
def mt_94 : MT := (⟨"DependentReplay", "undo", "()I"⟩, prog_1_method_25_code, 1, (some .int), 0, 5, 675, 673, 674, false)
def mt_95 : MT := (⟨"DependentReplay$History", "takeBack", "(LDependentReplay$State;)I"⟩, prog_2_method_4_code, 2, (some .int), 5, 4, 679, 677, 678, false)
def mt_96 : MT := (⟨"DependentReplay", "save", "(I)I"⟩, prog_1_method_26_code, 2, (some .int), 0, 4, 683, 681, 682, false)
def mt_97 : MT := (⟨"DependentReplay", "isSlot", "(I)Z"⟩, prog_1_method_32_code, 1, (some .boolean), 0, 0, 686, 685, 0, true)
def mt_98 : MT := (⟨"DependentReplay", "restore", "(I)I"⟩, prog_1_method_27_code, 2, (some .int), 0, 5, 691, 689, 690, false)
def mt_99 : MT := (⟨"DependentReplayModel", "<init>", "()V"⟩, prog_11_method_1_code, 1, none, 9, 2, 696, 695, 0, false)
def mt_100 : MT := (⟨"DependentReplayModel", "emptyTree", "()V"⟩, prog_11_method_22_code, 2, none, 9, 1, 701, 700, 17, false)
def mt_101 : MT := (⟨"DependentReplayModel", "setFile", "(IIII)V"⟩, prog_11_method_21_code, 5, none, 9, 0, 705, 704, 18, false)
def mt_102 : MT := (⟨"DependentReplayModel", "make", "(II)I"⟩, prog_11_method_36_code, 4, (some .int), 9, 4, 755, 753, 754, false)
def mt_103 : MT := (⟨"DependentReplayModel", "whyNotWritten", "(III)I"⟩, prog_11_method_35_code, 4, (some .int), 9, 2, 759, 758, 19, false)
def mt_104 : MT := (⟨"DependentReplayModel", "within", "(III)Z"⟩, prog_11_method_4_code, 3, (some .boolean), 9, 0, 762, 761, 0, true)
def mt_105 : MT := (⟨"DependentReplayModel", "isFile", "(I)Z"⟩, prog_11_method_34_code, 1, (some .boolean), 9, 1, 765, 764, 0, true)
def mt_106 : MT := (⟨"DependentReplayModel", "record", "()V"⟩, prog_11_method_5_code, 2, none, 9, 1, 769, 768, 20, false)
def mt_107 : MT := (⟨"DependentReplayModel", "moves", "([II[II)V"⟩, prog_11_method_3_code, 5, none, 9, 0, 772, 771, 0, true)
def mt_108 : MT := (⟨"DependentReplayModel", "written", "(III)I"⟩, prog_11_method_16_code, 5, (some .int), 9, 3, 776, 775, 21, false)
def mt_109 : MT := (⟨"DependentReplayModel", "setPart", "(III)V"⟩, prog_11_method_8_code, 4, none, 9, 0, 780, 779, 22, false)
def mt_110 : MT := (⟨"DependentReplayModel", "latestOf", "(II)I"⟩, prog_11_method_13_code, 5, (some .int), 9, 1, 784, 783, 23, false)
def mt_111 : MT := (⟨"DependentReplayModel", "part", "(II)I"⟩, prog_11_method_7_code, 3, (some .int), 9, 0, 788, 787, 24, false)
def mt_112 : MT := (⟨"DependentReplayModel", "dependsIfAny", "(II)V"⟩, prog_11_method_15_code, 3, none, 9, 2, 792, 791, 25, false)
def mt_113 : MT := (⟨"DependentReplayModel", "depends", "(II)V"⟩, prog_11_method_11_code, 3, none, 9, 1, 796, 795, 26, false)
def mt_114 : MT := (⟨"DependentReplayModel", "hasDirectory", "(I)Z"⟩, prog_11_method_12_code, 2, (some .boolean), 9, 1, 800, 799, 27, false)
def mt_115 : MT := (⟨"DependentReplayModel", "latestIn", "(II)I"⟩, prog_11_method_14_code, 5, (some .int), 9, 2, 804, 803, 28, false)
def mt_116 : MT := (⟨"DependentReplayModel", "write", "(II)I"⟩, prog_11_method_37_code, 4, (some .int), 9, 4, 808, 806, 807, false)
def mt_117 : MT := (⟨"DependentReplayModel", "move", "(II)I"⟩, prog_11_method_38_code, 4, (some .int), 9, 4, 812, 810, 811, false)
def mt_118 : MT := (⟨"DependentReplayModel", "drop", "(I)I"⟩, prog_11_method_39_code, 3, (some .int), 9, 4, 816, 814, 815, false)
def mt_119 : MT := (⟨"DependentReplayModel", "need", "(II)I"⟩, prog_11_method_42_code, 4, (some .int), 9, 4, 820, 818, 819, false)
def mt_120 : MT := (⟨"DependentReplayModel", "whyNotNeeded", "(II)I"⟩, prog_11_method_40_code, 3, (some .int), 9, 2, 824, 823, 29, false)
def mt_121 : MT := (⟨"DependentReplayModel", "isEntry", "(I)Z"⟩, prog_11_method_9_code, 2, (some .boolean), 9, 1, 828, 827, 30, false)
def mt_122 : MT := (⟨"DependentReplayModel", "needed", "(II)I"⟩, prog_11_method_41_code, 3, (some .int), 9, 3, 832, 831, 31, false)
def mt_123 : MT := (⟨"DependentReplayModel", "beginsAnew", "()V"⟩, prog_11_method_33_code, 2, none, 9, 2, 836, 835, 32, false)
def mt_124 : MT := (⟨"DependentReplayModel", "dependencies", "(I)J"⟩, prog_11_method_10_code, 2, (some .long), 9, 1, 840, 839, 33, false)
def mt_125 : MT := (⟨"DependentReplayModel", "bits", "(J)I"⟩, prog_11_method_6_code, 4, (some .int), 9, 0, 843, 842, 0, true)
def mt_126 : MT := (⟨"DependentReplayModel", "lose", "(I)I"⟩, prog_11_method_45_code, 3, (some .int), 9, 5, 847, 845, 846, false)
def mt_127 : MT := (⟨"DependentReplayModel", "whyNotBecome", "(II)I"⟩, prog_11_method_43_code, 3, (some .int), 9, 2, 851, 850, 34, false)
def mt_128 : MT := (⟨"DependentReplayModel", "becomes", "(II)I"⟩, prog_11_method_44_code, 3, (some .int), 9, 4, 855, 854, 35, false)
def mt_129 : MT := (⟨"DependentReplayModel", "lostOnes", "()J"⟩, prog_11_method_17_code, 4, (some .long), 9, 1, 859, 858, 36, false)
def mt_130 : MT := (⟨"DependentReplayModel", "orphansBy", "(J)J"⟩, prog_11_method_19_code, 6, (some .long), 9, 3, 863, 862, 37, false)
def mt_131 : MT := (⟨"DependentReplayModel", "findLeans", "()V"⟩, prog_11_method_18_code, 5, none, 9, 2, 867, 866, 38, false)
def mt_132 : MT := (⟨"DependentReplayModel", "find", "(I)I"⟩, prog_11_method_46_code, 3, (some .int), 9, 5, 871, 869, 870, false)
def mt_133 : MT := (⟨"DependentReplayModel", "beginAnew", "()I"⟩, prog_11_method_47_code, 2, (some .int), 9, 3, 875, 873, 874, false)
def mt_134 : MT := (⟨"DependentReplayModel", "replayedOnes", "()J"⟩, prog_11_method_28_code, 4, (some .long), 9, 1, 879, 878, 39, false)
def mt_135 : MT := (⟨"DependentReplayModel", "round", "()I"⟩, prog_11_method_48_code, 1, (some .int), 9, 6, 883, 881, 882, false)
def mt_136 : MT := (⟨"DependentReplayModel", "makesRound", "()I"⟩, prog_11_method_31_code, 4, (some .int), 9, 5, 887, 886, 40, false)
def mt_137 : MT := (⟨"DependentReplayModel", "readyOnes", "()J"⟩, prog_11_method_30_code, 7, (some .long), 9, 2, 891, 890, 41, false)
def mt_138 : MT := (⟨"DependentReplayModel", "plays", "(I)I"⟩, prog_11_method_27_code, 5, (some .int), 9, 4, 896, 895, 42, false)
def mt_139 : MT := (⟨"DependentReplayModel", "reasonOf", "(I)I"⟩, prog_11_method_26_code, 5, (some .int), 9, 3, 900, 899, 43, false)
def mt_140 : MT := (⟨"DependentReplayModel", "isThere", "(I)Z"⟩, prog_11_method_23_code, 2, (some .boolean), 9, 1, 904, 903, 44, false)
def mt_141 : MT := (⟨"DependentReplayModel", "filePart", "(II)I"⟩, prog_11_method_20_code, 3, (some .int), 9, 0, 908, 907, 45, false)
def mt_142 : MT := (⟨"DependentReplayModel", "isUnder", "(II)Z"⟩, prog_11_method_25_code, 4, (some .boolean), 9, 1, 912, 911, 46, false)
def mt_143 : MT := (⟨"DependentReplayModel", "filesIn", "(I)I"⟩, prog_11_method_24_code, 4, (some .int), 9, 2, 916, 915, 47, false)
def mt_144 : MT := (⟨"DependentReplayModel", "replay", "()I"⟩, prog_11_method_49_code, 1, (some .int), 9, 7, 920, 918, 919, false)
def mt_145 : MT := (⟨"DependentReplayModel", "replays", "()I"⟩, prog_11_method_32_code, 2, (some .int), 9, 6, 924, 923, 48, false)
def mt_146 : MT := (⟨"DependentReplayModel", "ofEntry", "(II)I"⟩, prog_11_method_51_code, 3, (some .int), 9, 4, 928, 926, 927, false)
def mt_147 : MT := (⟨"DependentReplayModel", "leanOn", "(I)I"⟩, prog_11_method_50_code, 4, (some .int), 9, 3, 932, 931, 49, false)
def mt_148 : MT := (⟨"DependentReplayModel", "dependsOn", "(I)J"⟩, prog_11_method_52_code, 2, (some .long), 9, 2, 936, 934, 935, false)
def mt_149 : MT := (⟨"DependentReplayModel", "ofFile", "(II)I"⟩, prog_11_method_55_code, 3, (some .int), 9, 3, 940, 938, 939, false)
def mt_150 : MT := (⟨"DependentReplayModel", "above", "(I)I"⟩, prog_11_method_53_code, 4, (some .int), 9, 1, 944, 943, 50, false)
def mt_151 : MT := (⟨"DependentReplayModel", "allUnder", "(I)I"⟩, prog_11_method_54_code, 4, (some .int), 9, 2, 948, 947, 51, false)
def mt_152 : MT := (⟨"DependentReplayModel", "count", "(I)I"⟩, prog_11_method_58_code, 2, (some .int), 9, 4, 952, 950, 951, false)
def mt_153 : MT := (⟨"DependentReplayModel", "refusedOnes", "()J"⟩, prog_11_method_29_code, 4, (some .long), 9, 1, 956, 955, 52, false)
def mt_154 : MT := (⟨"DependentReplayModel", "filesThere", "()I"⟩, prog_11_method_56_code, 3, (some .int), 9, 1, 960, 959, 53, false)
def mt_155 : MT := (⟨"DependentReplayModel", "widest", "()I"⟩, prog_11_method_57_code, 5, (some .int), 9, 1, 964, 963, 54, false)
def mt_156 : MT := (⟨"DependentReplayModel", "set", "(I)J"⟩, prog_11_method_59_code, 2, (some .long), 9, 4, 968, 966, 967, false)
def mt_157 : MT := (⟨"DependentReplayModel", "depth", "(I)I"⟩, prog_11_method_60_code, 6, (some .int), 9, 4, 973, 971, 972, false)
def mt_158 : MT := (⟨"DependentReplayModel", "wants", "(I)J"⟩, prog_11_method_61_code, 2, (some .long), 9, 3, 977, 975, 976, false)
def mt_159 : MT := (⟨"DependentReplayModel", "worst", "(I)I"⟩, prog_11_method_62_code, 8, (some .int), 9, 4, 981, 979, 980, false)
def mt_160 : MT := (⟨"DependentReplayModel", "unlike", "()I"⟩, prog_11_method_63_code, 3, (some .int), 9, 7, 985, 983, 984, false)
def mt_161 : MT := (⟨"DependentReplayModel", "put", "(J)I"⟩, prog_11_method_64_code, 8, (some .int), 9, 1, 989, 987, 988, false)
def mt_162 : MT := (⟨"DependentReplayModel", "wipe", "()I"⟩, prog_11_method_65_code, 2, (some .int), 9, 0, 994, 992, 993, false)
def mt_163 : MT := (⟨"DependentReplayModel", "fault", "()I"⟩, prog_11_method_72_code, 1, (some .int), 9, 5, 998, 996, 997, false)
def mt_164 : MT := (⟨"DependentReplayModel", "findFault", "()I"⟩, prog_11_method_71_code, 1, (some .int), 9, 4, 1002, 1001, 55, false)
def mt_165 : MT := (⟨"DependentReplayModel", "readsOrder", "()Z"⟩, prog_11_method_70_code, 1, (some .boolean), 9, 3, 1006, 1005, 56, false)
def mt_166 : MT := (⟨"DependentReplayModel", "character", "(I)I"⟩, prog_11_method_66_code, 2, (some .int), 9, 0, 1010, 1009, 57, false)
def mt_167 : MT := (⟨"DependentReplayModel", "takeFile", "()I"⟩, prog_11_method_68_code, 2, (some .int), 9, 2, 1014, 1013, 58, false)
def mt_168 : MT := (⟨"DependentReplayModel", "takes", "(I)Z"⟩, prog_11_method_67_code, 3, (some .boolean), 9, 1, 1018, 1017, 59, false)
def mt_169 : MT := (⟨"DependentReplayModel", "takeNumber", "()I"⟩, prog_11_method_69_code, 3, (some .int), 9, 1, 1022, 1021, 60, false)
def mt_170 : MT := (⟨"DependentReplayModel", "carryOut", "()I"⟩, prog_11_method_75_code, 3, (some .int), 9, 7, 1026, 1024, 1025, false)
def mt_171 : MT := (⟨"DependentReplayModel", "whyNotDone", "()I"⟩, prog_11_method_73_code, 1, (some .int), 9, 3, 1030, 1029, 61, false)
def mt_172 : MT := (⟨"DependentReplayModel", "does", "()V"⟩, prog_11_method_74_code, 1, none, 9, 6, 1034, 1033, 62, false)
def mt_173 : MT := (⟨"DependentReplayModel", "undo", "()I"⟩, prog_11_method_76_code, 1, (some .int), 9, 1, 1038, 1036, 1037, false)
def mt_174 : MT := (⟨"DependentReplayModel", "save", "(I)I"⟩, prog_11_method_77_code, 2, (some .int), 9, 1, 1042, 1040, 1041, false)
def mt_175 : MT := (⟨"DependentReplayModel", "restore", "(I)I"⟩, prog_11_method_78_code, 2, (some .int), 9, 2, 1046, 1044, 1045, false)
def mt_176 : MT := (⟨"DependentReplayLaw", "law", "([I)Z"⟩, code, 4, (some .boolean), 13, 8, 0, 0, 0, true)
def mtab : List MT := [mt_0, mt_1, mt_2, mt_3, mt_4, mt_5, mt_6, mt_7, mt_8, mt_9, mt_10, mt_11, mt_12, mt_13, mt_14, mt_15, mt_16, mt_17, mt_18, mt_19, mt_20, mt_21, mt_22, mt_23, mt_24, mt_25, mt_26, mt_27, mt_28, mt_29, mt_30, mt_31, mt_32, mt_33, mt_34, mt_35, mt_36, mt_37, mt_38, mt_39, mt_40, mt_41, mt_42, mt_43, mt_44, mt_45, mt_46, mt_47, mt_48, mt_49, mt_50, mt_51, mt_52, mt_53, mt_54, mt_55, mt_56, mt_57, mt_58, mt_59, mt_60, mt_61, mt_62, mt_63, mt_64, mt_65, mt_66, mt_67, mt_68, mt_69, mt_70, mt_71, mt_72, mt_73, mt_74, mt_75, mt_76, mt_77, mt_78, mt_79, mt_80, mt_81, mt_82, mt_83, mt_84, mt_85, mt_86, mt_87, mt_88, mt_89, mt_90, mt_91, mt_92, mt_93, mt_94, mt_95, mt_96, mt_97, mt_98, mt_99, mt_100, mt_101, mt_102, mt_103, mt_104, mt_105, mt_106, mt_107, mt_108, mt_109, mt_110, mt_111, mt_112, mt_113, mt_114, mt_115, mt_116, mt_117, mt_118, mt_119, mt_120, mt_121, mt_122, mt_123, mt_124, mt_125, mt_126, mt_127, mt_128, mt_129, mt_130, mt_131, mt_132, mt_133, mt_134, mt_135, mt_136, mt_137, mt_138, mt_139, mt_140, mt_141, mt_142, mt_143, mt_144, mt_145, mt_146, mt_147, mt_148, mt_149, mt_150, mt_151, mt_152, mt_153, mt_154, mt_155, mt_156, mt_157, mt_158, mt_159, mt_160, mt_161, mt_162, mt_163, mt_164, mt_165, mt_166, mt_167, mt_168, mt_169, mt_170, mt_171, mt_172, mt_173, mt_174, mt_175, mt_176]
def mt (q : Nat) : MT := mtab.getD q mt_0
def yN (q : Nat) : MethodName := (mt q).1
def mB (q : Nat) : ByteArray := (mt q).2.1
def mL (q : Nat) : Nat := (mt q).2.2.1
def mRt (q : Nat) : Option FieldType := (mt q).2.2.2.1
def ow (q : Nat) : Nat := (mt q).2.2.2.2.1
def dp (q : Nat) : Nat := (mt q).2.2.2.2.2.1
def wpM (q : Nat) : Nat := (mt q).2.2.2.2.2.2.1
def ipM (q : Nat) : Nat := (mt q).2.2.2.2.2.2.2.1
def spM (q : Nat) : Nat := (mt q).2.2.2.2.2.2.2.2.1
def stM (q : Nat) : Bool := (mt q).2.2.2.2.2.2.2.2.2
def iniM : List Nat := [0, 1, 2, 3, 4, 8, 9, 10, 11, 99]
/-- a constructor -/
def isI (q : Nat) : Bool := iniM.contains q
def nM : Nat := 177
def calT : List (Nat × Nat × Nat × Nat × Nat) := [(0, 9, 1, 5, 88), (0, 18, 8, 4, 211), (0, 31, 9, 5, 233), (0, 38, 10, 4, 248), (0, 47, 3, 4, 272), (0, 54, 4, 4, 274), (0, 59, 11, 5, 276), (0, 60, 13, 0, 316), (0, 64, 18, 0, 341), (0, 68, 28, 0, 379), (0, 72, 35, 0, 406), (0, 76, 39, 0, 427), (0, 79, 44, 0, 449), (0, 89, 37, 2, 457), (0, 95, 7, 0, 458), (0, 102, 47, 0, 463), (0, 106, 58, 0, 512), (0, 109, 36, 0, 520), (0, 128, 27, 2, 521), (0, 132, 41, 0, 522), (0, 146, 60, 0, 523), (0, 154, 19, 2, 536), (0, 157, 52, 0, 537), (0, 164, 54, 0, 538), (0, 167, 63, 0, 539), (0, 170, 64, 0, 543), (0, 183, 66, 0, 551), (0, 195, 48, 0, 559), (0, 201, 69, 0, 565), (0, 207, 24, 2, 378), (0, 211, 42, 0, 577), (0, 215, 5, 0, 582), (0, 216, 50, 0, 583), (0, 219, 73, 0, 584), (0, 223, 75, 0, 592), (0, 226, 78, 0, 604), (0, 228, 80, 0, 612), (0, 231, 81, 0, 665), (0, 234, 82, 0, 666), (0, 238, 93, 0, 667), (0, 241, 84, 0, 671), (0, 244, 95, 0, 676), (0, 248, 97, 2, 684), (0, 254, 14, 0, 687), (0, 261, 29, 0, 383), (1, 11, 2, 5, 94), (1, 20, 3, 4, 139), (1, 25, 15, 0, 324), (1, 29, 16, 0, 331), (1, 32, 19, 3, 345), (1, 36, 20, 3, 348), (1, 39, 21, 0, 351), (1, 43, 36, 0, 410), (1, 50, 24, 3, 414), (1, 54, 26, 0, 415), (1, 58, 7, 0, 416), (1, 61, 37, 2, 417), (1, 67, 40, 0, 431), (1, 75, 27, 3, 435), (1, 79, 41, 0, 436), (2, 42, 22, 0, 355), (2, 46, 26, 0, 371), (2, 50, 23, 0, 359), (2, 54, 20, 3, 366), (2, 58, 25, 0, 367), (2, 61, 24, 3, 363), (2, 64, 27, 3, 375), (2, 68, 42, 0, 440), (3, 20, 4, 4, 145), (3, 25, 7, 0, 165), (3, 42, 6, 2, 169), (3, 48, 5, 0, 170), (3, 55, 17, 0, 336), (3, 67, 27, 3, 471), (3, 77, 24, 3, 473), (3, 81, 48, 0, 467), (3, 85, 49, 0, 474), (3, 98, 50, 0, 478), (3, 102, 37, 2, 504), (3, 108, 56, 2, 505), (4, 18, 5, 0, 149), (4, 21, 6, 2, 153), (4, 33, 52, 0, 486), (4, 37, 51, 0, 482), (4, 41, 19, 3, 495), (4, 44, 55, 0, 500), (4, 48, 20, 3, 490), (4, 51, 53, 0, 491), (4, 55, 54, 0, 496), (5, 17, 1, 5, 217), (5, 22, 14, 0, 320), (5, 29, 30, 2, 387), (6, 19, 76, 2, 596), (7, 19, 81, 0, 616), (7, 22, 82, 0, 620), (7, 26, 84, 0, 628), (7, 35, 83, 0, 624), (7, 42, 85, 0, 632), (7, 45, 87, 0, 641), (7, 48, 88, 0, 645), (7, 51, 91, 0, 657), (7, 54, 86, 0, 636), (7, 64, 89, 0, 649), (7, 67, 19, 3, 640), (7, 70, 90, 2, 653), (7, 73, 56, 2, 656), (8, 9, 1, 5, 281), (9, 38, 100, 0, 698), (9, 45, 107, 2, 770), (9, 49, 104, 2, 760), (9, 53, 111, 0, 785), (9, 57, 109, 0, 777), (9, 61, 114, 0, 797), (9, 65, 113, 0, 793), (9, 69, 110, 0, 781), (9, 72, 112, 0, 789), (9, 75, 115, 0, 801), (9, 78, 124, 0, 837), (9, 82, 131, 0, 864), (9, 85, 101, 0, 702), (9, 89, 141, 0, 905), (9, 92, 140, 0, 901), (9, 95, 142, 0, 909), (9, 99, 143, 0, 913), (9, 103, 139, 0, 897), (9, 106, 134, 0, 876), (9, 112, 137, 0, 888), (9, 115, 138, 0, 893), (9, 118, 125, 2, 841), (9, 122, 136, 0, 884), (9, 126, 105, 2, 763), (9, 129, 103, 0, 756), (9, 133, 106, 0, 766), (9, 136, 108, 0, 773), (9, 139, 121, 0, 825), (9, 142, 123, 0, 833), (9, 145, 120, 0, 821), (9, 148, 122, 0, 829), (9, 151, 129, 0, 856), (9, 154, 130, 0, 860), (9, 158, 127, 0, 848), (9, 161, 128, 0, 852), (9, 164, 145, 0, 921), (9, 167, 147, 0, 929), (9, 170, 150, 0, 941), (9, 173, 151, 0, 945), (9, 176, 153, 0, 953), (9, 179, 154, 0, 957), (9, 182, 155, 0, 961), (9, 195, 166, 0, 1007), (9, 201, 167, 0, 1011), (9, 207, 168, 0, 1015), (9, 213, 169, 0, 1019), (9, 216, 165, 0, 1003), (9, 220, 164, 0, 999), (9, 223, 171, 0, 1027), (9, 226, 172, 0, 1031), (13, 9, 0, 4, 80), (13, 12, 99, 4, 694), (13, 13, 12, 0, 312), (13, 17, 102, 0, 752), (13, 18, 31, 0, 390), (13, 21, 116, 0, 805), (13, 22, 32, 0, 394), (13, 25, 117, 0, 809), (13, 26, 33, 0, 398), (13, 30, 118, 0, 813), (13, 31, 34, 0, 402), (13, 34, 119, 0, 817), (13, 35, 38, 0, 423), (13, 38, 126, 0, 844), (13, 39, 43, 0, 445), (13, 42, 132, 0, 868), (13, 43, 45, 0, 453), (13, 47, 133, 0, 872), (13, 48, 46, 0, 459), (13, 51, 135, 0, 880), (13, 52, 57, 0, 508), (13, 55, 144, 0, 917), (13, 56, 59, 0, 516), (13, 59, 146, 0, 925), (13, 60, 61, 0, 527), (13, 64, 148, 0, 933), (13, 65, 62, 0, 532), (13, 68, 149, 0, 937), (13, 69, 65, 0, 547), (13, 72, 152, 0, 949), (13, 73, 67, 0, 555), (13, 76, 156, 0, 965), (13, 77, 68, 0, 561), (13, 80, 157, 0, 970), (13, 81, 70, 0, 569), (13, 84, 158, 0, 974), (13, 85, 71, 0, 573), (13, 88, 159, 0, 978), (13, 89, 72, 0, 578), (13, 92, 160, 0, 982), (13, 95, 74, 0, 588), (13, 99, 161, 0, 986), (13, 100, 77, 0, 600), (13, 103, 162, 0, 991), (13, 104, 79, 0, 608), (13, 107, 163, 0, 995), (13, 108, 92, 0, 661), (13, 111, 170, 0, 1023), (13, 112, 94, 0, 672), (13, 115, 173, 0, 1035), (13, 116, 96, 0, 680), (13, 119, 174, 0, 1039), (13, 120, 98, 0, 688), (13, 123, 175, 0, 1043)]
def objT : List (Nat × Nat × Nat) := [(0, 1, 83), (1, 3, 91), (2, 3, 97), (3, 3, 142), (4, 3, 148), (5, 3, 214), (6, 3, 236), (7, 3, 251), (8, 1, 279), (9, 1, 697)]
def cpyT : List (Nat × Nat × Nat) := [(2, 36, 328), (3, 49, 335), (4, 27, 340)]
def fldT : List (Nat × Nat × Nat × Nat × Nat) := [(0, 10, 0, 0, 290), (0, 19, 0, 1, 291), (0, 25, 0, 2, 292), (0, 32, 0, 3, 293), (0, 41, 0, 4, 294), (0, 48, 0, 5, 295), (0, 55, 0, 6, 296), (0, 82, 1, 1, 203), (0, 85, 3, 0, 172), (0, 98, 1, 0, 201), (0, 115, 2, 2, 107), (0, 119, 2, 3, 110), (0, 122, 2, 4, 113), (0, 125, 2, 1, 104), (0, 136, 3, 4, 180), (0, 139, 3, 5, 182), (0, 142, 2, 5, 117), (0, 151, 3, 6, 184), (0, 158, 4, 0, 157), (0, 161, 4, 1, 159), (0, 173, 2, 0, 100), (0, 177, 3, 1, 174), (0, 180, 3, 2, 176), (0, 186, 3, 3, 178), (0, 189, 6, 1, 240), (0, 192, 5, 2, 221), (0, 204, 2, 6, 119), (0, 251, 8, 0, 283), (0, 257, 8, 1, 284), (0, 264, 7, 2, 255), (0, 267, 7, 3, 257), (0, 270, 7, 4, 259), (1, 12, 1, 0, 200), (1, 21, 1, 1, 202), (1, 46, 2, 5, 116), (1, 71, 2, 1, 103), (2, 9, 2, 2, 105), (2, 15, 2, 3, 108), (2, 18, 2, 4, 111), (2, 21, 2, 5, 114), (2, 25, 2, 6, 118), (2, 28, 2, 0, 98), (2, 32, 2, 1, 101), (3, 9, 3, 4, 179), (3, 15, 3, 5, 181), (3, 21, 3, 6, 183), (3, 28, 3, 0, 171), (3, 32, 3, 1, 173), (3, 35, 3, 2, 175), (3, 39, 3, 3, 177), (3, 59, 2, 1, 102), (3, 64, 2, 0, 99), (3, 71, 2, 5, 115), (3, 89, 2, 2, 106), (3, 92, 2, 3, 109), (3, 95, 2, 4, 112), (4, 9, 4, 0, 156), (4, 15, 4, 1, 158), (5, 13, 5, 0, 218), (5, 18, 5, 1, 219), (5, 26, 5, 2, 220), (6, 9, 6, 0, 237), (6, 15, 6, 1, 238), (7, 9, 7, 0, 252), (7, 15, 7, 1, 253), (7, 30, 6, 1, 239), (7, 39, 7, 2, 254), (7, 58, 7, 3, 256), (7, 61, 7, 4, 258), (8, 10, 8, 0, 282), (9, 7, 9, 0, 706), (9, 13, 9, 1, 707), (9, 16, 9, 2, 708), (9, 19, 9, 4, 710), (9, 22, 9, 5, 711), (9, 25, 9, 6, 712), (9, 28, 9, 8, 714), (9, 32, 9, 9, 715), (9, 35, 9, 10, 716), (9, 41, 9, 3, 709), (9, 185, 9, 7, 713), (9, 192, 9, 11, 717), (9, 198, 9, 12, 718), (9, 204, 9, 13, 719), (9, 210, 9, 14, 720)]
def cstT : List (Nat × Nat × Int64 × Nat) := [(0, 149, -1, 531), (0, 199, -2, 560), (2, 72, -1, 444), (3, 75, -1, 472), (6, 23, 255, 599), (9, 110, -1, 892), (9, 188, -2, 969), (9, 190, 255, 990), (12, 314, 6148914691236517205, 420), (12, 316, 3689348814741910323, 421), (12, 318, 1085102592571150095, 422), (13, 93, 4294967295, 1047)]
def nclT : List (Nat × Nat × Nat × Nat) := [(0, 7, 1, 86), (0, 16, 5, 209), (0, 23, 8, 229), (0, 29, 6, 231), (0, 36, 7, 246), (0, 45, 3, 271), (0, 52, 4, 273), (1, 9, 2, 92), (1, 18, 3, 137), (3, 18, 4, 143), (5, 11, 1, 215), (8, 7, 1, 280), (13, 7, 0, 78), (13, 10, 9, 692)]
def iniT : List Nat := [64, 65, 66, 67, 68, 70, 71, 72, 73, 74, 69, 76, 77, 63]
def insT : List Nat := [79, 87, 93, 138, 144, 210, 232, 247, 275, 693]
def layT : List (List Nat) := [[297, 299, 301, 303, 305, 307, 309], [204, 206], [120, 122, 124, 126, 128, 130, 132], [185, 187, 189, 191, 193, 195, 197], [160, 162], [222, 224, 226], [241, 243], [260, 262, 264, 266, 268], [285, 287], [721, 723, 725, 727, 729, 731, 733, 735, 737, 739, 741, 743, 745, 747, 749]]
def arcI : Nat := 135
def arcJ : Nat := 136
def AON : Nat → String := fun k => match k with | 3 => "DependentReplay$State" | _ => "DependentReplay$Slot"
def aovT : List Nat := [216, 230]
def sysW : Nat × Nat × Nat := (75, 329, 330)
def objW : Nat × Nat := (84, 85)
end
section
/-! the small machine: the class and the reference over a memory of rows -/
/-- ints, longs, references by address and place; kind (tag, length); next address; slots used -/
abbrev SM : Type := (Nat → Nat → Int32) × (Nat → Nat → Int64) × (Nat → Nat → Option Nat) × (Nat → Nat × Nat) × Nat × Nat
def mI (M : SM) : Nat → Nat → Int32 := M.1
def mJ (M : SM) : Nat → Nat → Int64 := M.2.1
def mP (M : SM) : Nat → Nat → Option Nat := M.2.2.1
def mK (M : SM) : Nat → Nat × Nat := M.2.2.2.1
def mS (M : SM) : Nat := M.2.2.2.2.1
def mU (M : SM) : Nat := M.2.2.2.2.2
def sI (M : SM) (a : Nat) (f : Nat → Int32) : SM := (fun b => if b = a then f else mI M b, M.2)
def sJ (M : SM) (a : Nat) (f : Nat → Int64) : SM := (M.1, fun b => if b = a then f else mJ M b, M.2.2)
def sP (M : SM) (a : Nat) (f : Nat → Option Nat) : SM := (M.1, M.2.1, fun b => if b = a then f else mP M b, M.2.2.2)
/-- a new cell of that kind, of so many slots -/
def nw (M : SM) (kd : Nat × Nat) (u : Nat) : SM := (fun b => if b = mS M then fun _ => 0 else mI M b, fun b => if b = mS M then fun _ => 0 else mJ M b, fun b => if b = mS M then fun _ => none else mP M b, fun b => if b = mS M then kd else mK M b, mS M + 1, mU M + u)
/-- what a field holds -/
def fv (M : SM) (a ci k : Nat) : Value := match fT ci k with
  | 0 => .int (mI M a k)
  | 1 => .long (mJ M a k)
  | 2 => va_rf (mP M a k)
  | _ => .int (mI M a k)
def fld (own idx : Nat) : Option (Nat × Nat) := (fldT.find? fun e => e.1 == own && e.2.1 == idx).map fun e => (e.2.2.1, e.2.2.2.1)
def cal (own idx : Nat) : Option (Nat × Nat) := (calT.find? fun e => e.1 == own && e.2.1 == idx).map fun e => (e.2.2.1, e.2.2.2.1)
def cst (own idx : Nat) : Option Int64 := (cstT.find? fun e => e.1 == own && e.2.1 == idx).map fun e => e.2.2.1
def ncl (own idx : Nat) : Option Nat := (nclT.find? fun e => e.1 == own && e.2.1 == idx).map fun e => e.2.2.1
def isObj (own idx : Nat) : Bool := objT.any fun e => e.1 == own && e.2.1 == idx
def isCpy (own idx : Nat) : Bool := cpyT.any fun e => e.1 == own && e.2.1 == idx
def nPar (q : Nat) : Nat := match parseMethodDescriptor (yN q).desc with
  | some d => d.parameters.length
  | none => 0
def catS (st : List Value) : Nat := (st.map fun v => v.category).sum
/-- the locals with which a method begins -/
def entA : List Value → List (Option Value)
  | [] => []
  | v :: vs => if v.category = 2 then some v :: none :: entA vs else some v :: entA vs
def ent (q : Nat) (args : List Value) : List (Option Value) := entA args ++ List.replicate (mL q - (entA args).length) none
abbrev Nx : Type := Nat × List (Option Value) × List Value × SM
abbrev Res : Type := Nx ⊕ ((Option Value × SM) ⊕ (Nat × List Value × SM × Nat × List (Option Value) × List Value))
abbrev Out : Type := Option (Option Value × SM)
/-- a place of a row -/
abbrev inR (i : Int32) (n : Nat) : Prop := ¬ i < 0 ∧ i.toNatClampNeg < n
def nx (pc : Nat) (ls : List (Option Value)) (st : List Value) (M : SM) : Option Nx := some (pc, ls, st, M)
/-- an int may be returned as it is -/
def retOK (r : Option FieldType) (v : Int32) : Bool := match r with
  | some .int => true
  | some .boolean => v == 0 || v == 1
  | _ => false
/-- the classes of the arrays of references, by tag -/
def aoC (tag : Nat) : Nat := if tag = 3 then 1 else 8
/-- what can be said of a call ahead of the run: its arguments fit the callee's locals, the rest is small, the depth falls -/
def callOK (q q2 : Nat) (as rest : List Value) : Bool := Nat.ble (entA as).length (mL q2) && Nat.ble (catS rest) 8 && Nat.blt (dp q2) (dp q)
def doV (q pc : Nat) (ls : List (Option Value)) (st : List Value) (M : SM) (q2 kd : Nat) : Option Res :=
  match (st.take (nPar q2)).reverse, st.drop (nPar q2) with
  | as, .ref a :: r => if callOK q q2 (.ref a :: as) r && (kd == 0 || kd == 1) && as.length == nPar q2 then (if mK M a = (10 + ow q2, 0) then some (.inr (.inr (q2, .ref a :: as, M, pc + 3, ls, r))) else none) else none
  | _, _ => none
def doI (q pc : Nat) (ls : List (Option Value)) (st : List Value) (M : SM) (q2 kd : Nat) : Option Res :=
  match (st.take (nPar q2)).reverse, st.drop (nPar q2) with
  | as, .ref a :: r => if callOK q q2 (.ref a :: as) r && (kd == 4 || kd == 5) && as.length == nPar q2 then some (.inr (.inr (q2, .ref a :: as, M, pc + 3, ls, r))) else none
  | _, _ => none
def doS (q pc : Nat) (ls : List (Option Value)) (st : List Value) (M : SM) (q2 kd : Nat) : Option Res :=
  match (st.take (nPar q2)).reverse, st.drop (nPar q2) with
  | as, r => if callOK q q2 as r && (kd == 2 || kd == 3) && as.length == nPar q2 then some (.inr (.inr (q2, as, M, pc + 3, ls, r))) else none
/-- System.arraycopy, rows of ints and of longs -/
def doC (q pc : Nat) (ls : List (Option Value)) (st : List Value) (M : SM) : Option Nx :=
  match st with
  | .int n :: .int dp0 :: .ref a :: .int sp0 :: .ref b :: r =>
    if Nat.ble (catS r) 8 && Nat.ble 1 (dp q) then
      (if (¬ sp0 < 0 ∧ ¬ dp0 < 0 ∧ ¬ n < 0) ∧ sp0.toNatClampNeg + n.toNatClampNeg ≤ (mK M b).2 ∧ dp0.toNatClampNeg + n.toNatClampNeg ≤ (mK M a).2 then
        (if (mK M a).1 = 1 ∧ (mK M b).1 = 1 then nx (pc + 3) ls r (sI M a (va_cpy (mI M b) (mI M a) sp0.toNatClampNeg dp0.toNatClampNeg n.toNatClampNeg))
         else if (mK M a).1 = 2 ∧ (mK M b).1 = 2 then nx (pc + 3) ls r (sJ M a (va_cpy (mJ M b) (mJ M a) sp0.toNatClampNeg dp0.toNatClampNeg n.toNatClampNeg)) else none)
       else none)
    else none
  | _ => none
/-- a jump -/
def nxj (pc : Nat) (o : Int) (ls : List (Option Value)) (st : List Value) (M : SM) : Option Nx := if 0 ≤ (pc : Int) + o then nx ((pc : Int) + o).toNat ls st M else none
/-- an instruction's length -/
def lenOK (i : Instr) (len : Nat) : Bool := match i with
  | .iload _ | .lload _ | .aload _ | .istore _ | .lstore _ | .astore _ | .bipush _ | .newarray _ => len == 2
  | .iinc _ _ | .sipush _ | .ldc2_w _ | .goto _ | .ifCond _ _ | .if_icmp _ _ | .getfield _ | .putfield _ | .new _ | .anewarray _ | .invokevirtual _ | .invokestatic _ | .invokespecial _ => len == 3
  | .tableswitch _ _ _ _ => true
  | _ => len == 1
/-- a final field is written in its own class's constructor -/
def finOK (ci k q : Nat) : Bool := !(TT ci k).2.2.2 || (isI q && ci == ow q)
def stp (i : Instr) (q pc : Nat) (ls : List (Option Value)) (st : List Value) (M : SM) : Option Nx := match i with
  | .iload_n k => match ls[(k : Nat)]? with | some (some (.int x)) => nx (pc + 1) ls (.int x :: st) M | _ => none
  | .iload k => match ls[k]? with | some (some (.int x)) => nx (pc + 2) ls (.int x :: st) M | _ => none
  | .aload_n k => match ls[(k : Nat)]? with | some (some (.ref x)) => nx (pc + 1) ls (.ref x :: st) M | _ => none
  | .aload k => match ls[k]? with | some (some (.ref x)) => nx (pc + 2) ls (.ref x :: st) M | _ => none
  | .lload_n k => match ls[(k : Nat)]?, ls[(k : Nat) + 1]? with | some (some (.long x)), some none => nx (pc + 1) ls (.long x :: st) M | _, _ => none
  | .lload k => match ls[k]?, ls[k + 1]? with | some (some (.long x)), some none => nx (pc + 2) ls (.long x :: st) M | _, _ => none
  | .istore_n k => match st with | .int x :: r => if (k : Nat) < ls.length then nx (pc + 1) (ls.set (k : Nat) (some (.int x))) r M else none | _ => none
  | .istore k => match st with | .int x :: r => if k < ls.length then nx (pc + 2) (ls.set k (some (.int x))) r M else none | _ => none
  | .astore_n k => match st with | .ref x :: r => if (k : Nat) < ls.length then nx (pc + 1) (ls.set (k : Nat) (some (.ref x))) r M else none | _ => none
  | .astore k => match st with | .ref x :: r => if k < ls.length then nx (pc + 2) (ls.set k (some (.ref x))) r M else none | _ => none
  | .lstore_n k => match st with | .long x :: r => if (k : Nat) + 1 < ls.length then nx (pc + 1) ((ls.set (k : Nat) (some (.long x))).set ((k : Nat) + 1) none) r M else none | _ => none
  | .lstore k => match st with | .long x :: r => if k + 1 < ls.length then nx (pc + 2) ((ls.set k (some (.long x))).set (k + 1) none) r M else none | _ => none
  | .iinc k n => match ls[k]? with | some (some (.int x)) => nx (pc + 3) (ls.set k (some (.int (x + Int32.ofInt n)))) st M | _ => none
  | .iconst n => nx (pc + 1) ls (.int (Int32.ofInt n) :: st) M
  | .bipush n => nx (pc + 2) ls (.int (Int8.ofInt n).toInt32 :: st) M
  | .sipush n => nx (pc + 3) ls (.int (Int16.ofInt n).toInt32 :: st) M
  | .lconst n => nx (pc + 1) ls (.long (Int64.ofNat (n : Nat)) :: st) M
  | .ldc2_w i => match cst (ow q) i with | some x => nx (pc + 3) ls (.long x :: st) M | none => none
  | .iadd => match st with | .int y :: .int x :: r => nx (pc + 1) ls (.int (x + y) :: r) M | _ => none
  | .isub => match st with | .int y :: .int x :: r => nx (pc + 1) ls (.int (x - y) :: r) M | _ => none
  | .imul => match st with | .int y :: .int x :: r => nx (pc + 1) ls (.int (x * y) :: r) M | _ => none
  | .iand => match st with | .int y :: .int x :: r => nx (pc + 1) ls (.int (x &&& y) :: r) M | _ => none
  | .ior => match st with | .int y :: .int x :: r => nx (pc + 1) ls (.int (x ||| y) :: r) M | _ => none
  | .ishl => match st with | .int y :: .int x :: r => nx (pc + 1) ls (.int (x <<< (y &&& 31)) :: r) M | _ => none
  | .idiv => match st with | .int y :: .int x :: r => if y = 0 then none else nx (pc + 1) ls (.int (x / y) :: r) M | _ => none
  | .ladd => match st with | .long y :: .long x :: r => nx (pc + 1) ls (.long (x + y) :: r) M | _ => none
  | .lsub => match st with | .long y :: .long x :: r => nx (pc + 1) ls (.long (x - y) :: r) M | _ => none
  | .land => match st with | .long y :: .long x :: r => nx (pc + 1) ls (.long (x &&& y) :: r) M | _ => none
  | .lor => match st with | .long y :: .long x :: r => nx (pc + 1) ls (.long (x ||| y) :: r) M | _ => none
  | .lxor => match st with | .long y :: .long x :: r => nx (pc + 1) ls (.long (x ^^^ y) :: r) M | _ => none
  | .lshl => match st with | .int y :: .long x :: r => nx (pc + 1) ls (.long (x <<< (y.toInt64 &&& 63)) :: r) M | _ => none
  | .lshr => match st with | .int y :: .long x :: r => nx (pc + 1) ls (.long (x >>> (y.toInt64 &&& 63)) :: r) M | _ => none
  | .lushr => match st with | .int y :: .long x :: r => nx (pc + 1) ls (.long ((x.toUInt64 >>> (y.toInt64.toUInt64 &&& Int64.toUInt64 63)).toInt64) :: r) M | _ => none
  | .lcmp => match st with | .long y :: .long x :: r => nx (pc + 1) ls (.int (lg_cmp x y) :: r) M | _ => none
  | .i2l => match st with | .int x :: r => nx (pc + 1) ls (.long x.toInt64 :: r) M | _ => none
  | .l2i => match st with | .long x :: r => nx (pc + 1) ls (.int x.toInt32 :: r) M | _ => none
  | .dup => match st with | v :: r => if v.category = 1 then nx (pc + 1) ls (v :: v :: r) M else none | _ => none
  | .pop => match st with | v :: r => if v.category = 1 then nx (pc + 1) ls r M else none | _ => none
  | .dup2 => match st with | v :: w :: r => if v.category = 1 ∧ w.category = 1 then nx (pc + 1) ls (v :: w :: v :: w :: r) M else none | _ => none
  | .goto o => nxj pc o ls st M
  | .ifCond c o => match st with | .int x :: r => (match c with | .eq => if 0 ≤ (pc : Int) + o then (if x = 0 then nx ((pc : Int) + o).toNat ls r M else nx (pc + 3) ls r M) else none | .ne => if 0 ≤ (pc : Int) + o then (if ¬ x = 0 then nx ((pc : Int) + o).toNat ls r M else nx (pc + 3) ls r M) else none | .lt => if 0 ≤ (pc : Int) + o then (if x < 0 then nx ((pc : Int) + o).toNat ls r M else nx (pc + 3) ls r M) else none | .ge => if 0 ≤ (pc : Int) + o then (if 0 ≤ x then nx ((pc : Int) + o).toNat ls r M else nx (pc + 3) ls r M) else none | .gt => if 0 ≤ (pc : Int) + o then (if 0 < x then nx ((pc : Int) + o).toNat ls r M else nx (pc + 3) ls r M) else none | .le => if 0 ≤ (pc : Int) + o then (if x ≤ 0 then nx ((pc : Int) + o).toNat ls r M else nx (pc + 3) ls r M) else none) | _ => none
  | .if_icmp c o => match st with | .int y :: .int x :: r => (match c with | .eq => if 0 ≤ (pc : Int) + o then (if x = y then nx ((pc : Int) + o).toNat ls r M else nx (pc + 3) ls r M) else none | .ne => if 0 ≤ (pc : Int) + o then (if ¬ x = y then nx ((pc : Int) + o).toNat ls r M else nx (pc + 3) ls r M) else none | .lt => if 0 ≤ (pc : Int) + o then (if x < y then nx ((pc : Int) + o).toNat ls r M else nx (pc + 3) ls r M) else none | .ge => if 0 ≤ (pc : Int) + o then (if y ≤ x then nx ((pc : Int) + o).toNat ls r M else nx (pc + 3) ls r M) else none | .gt => if 0 ≤ (pc : Int) + o then (if y < x then nx ((pc : Int) + o).toNat ls r M else nx (pc + 3) ls r M) else none | .le => if 0 ≤ (pc : Int) + o then (if x ≤ y then nx ((pc : Int) + o).toNat ls r M else nx (pc + 3) ls r M) else none) | _ => none
  | .tableswitch d lo hi offs => match st with | .int x :: r => if x.toInt < lo ∨ hi < x.toInt then nxj pc d ls r M else (match offs[(x.toInt - lo).toNat]? with | some o => nxj pc o ls r M | none => none) | _ => none
  | .getfield i => match fld (ow q) i, st with | some (ci, k), .ref a :: r => if mK M a = (10 + ci, 0) then nx (pc + 3) ls (fv M a ci k :: r) M else none | _, _ => none
  | .putfield i => match fld (ow q) i, st with
    | some (ci, k), .int x :: .ref a :: r => if mK M a = (10 + ci, 0) ∧ finOK ci k q = true then (if fT ci k = 0 ∨ (fT ci k = 3 ∧ (x = 0 ∨ x = 1)) then nx (pc + 3) ls r (sI M a (va_up (mI M a) k x)) else none) else none
    | some (ci, k), .long x :: .ref a :: r => if mK M a = (10 + ci, 0) ∧ finOK ci k q = true then (if fT ci k = 1 then nx (pc + 3) ls r (sJ M a (va_up (mJ M a) k x)) else none) else none
    | some (ci, k), .ref b :: .ref a :: r => if mK M a = (10 + ci, 0) ∧ finOK ci k q = true then (if fT ci k = 2 then nx (pc + 3) ls r (sP M a (va_up (mP M a) k (some b))) else none) else none
    | _, _ => none
  | .iaload => match st with | .int i :: .ref a :: r => if ((mK M a).1 = 1 ∨ (mK M a).1 = 5) ∧ inR i (mK M a).2 then nx (pc + 1) ls (.int (mI M a i.toNatClampNeg) :: r) M else none | _ => none
  | .laload => match st with | .int i :: .ref a :: r => if (mK M a).1 = 2 ∧ inR i (mK M a).2 then nx (pc + 1) ls (.long (mJ M a i.toNatClampNeg) :: r) M else none | _ => none
  | .aaload => match st with | .int i :: .ref a :: r => if ((mK M a).1 = 3 ∨ (mK M a).1 = 4) ∧ inR i (mK M a).2 then nx (pc + 1) ls (va_rf (mP M a i.toNatClampNeg) :: r) M else none | _ => none
  | .iastore => match st with | .int x :: .int i :: .ref a :: r => if (mK M a).1 = 1 ∧ inR i (mK M a).2 then nx (pc + 1) ls r (sI M a (va_up (mI M a) i.toNatClampNeg x)) else none | _ => none
  | .lastore => match st with | .long x :: .int i :: .ref a :: r => if (mK M a).1 = 2 ∧ inR i (mK M a).2 then nx (pc + 1) ls r (sJ M a (va_up (mJ M a) i.toNatClampNeg x)) else none | _ => none
  | .aastore => match st with | .ref b :: .int i :: .ref a :: r => if ((mK M a = (3, (mK M a).2) ∧ mK M b = (10 + aoC 3, 0)) ∨ (mK M a = (4, (mK M a).2) ∧ mK M b = (10 + aoC 4, 0))) ∧ inR i (mK M a).2 then nx (pc + 1) ls r (sP M a (va_up (mP M a) i.toNatClampNeg (some b))) else none | _ => none
  | .arraylength => match st with | .ref a :: r => if (mK M a).1 = 1 ∨ (mK M a).1 = 5 then nx (pc + 1) ls (.int (Int32.ofNat (mK M a).2) :: r) M else none | _ => none
  | .new i => match ncl (ow q) i with | some ci => if ci < nCl then nx (pc + 3) ls (.ref (mS M) :: st) (nw M (10 + ci, 0) (NN ci)) else none | none => none
  | .newarray t => match t, st with | .int, .int n :: r => if 0 ≤ n ∧ n ≤ 100000 then nx (pc + 2) ls (.ref (mS M) :: r) (nw M (1, n.toNatClampNeg) n.toNatClampNeg) else none | .long, .int n :: r => if 0 ≤ n ∧ n ≤ 100000 then nx (pc + 2) ls (.ref (mS M) :: r) (nw M (2, n.toNatClampNeg) n.toNatClampNeg) else none | _, _ => none
  | .anewarray i => match ncl (ow q) i, st with | some ci, .int n :: r => if (0 ≤ n ∧ n ≤ 100000) ∧ (ci = aoC 3 ∨ ci = aoC 4) then nx (pc + 3) ls (.ref (mS M) :: r) (nw M ((if ci = aoC 3 then 3 else 4), n.toNatClampNeg) n.toNatClampNeg) else none | _, _ => none
  | .invokestatic i => if isCpy (ow q) i = true then doC q pc ls st M else none
  | .invokespecial i => if isObj (ow q) i = true then (match st with | .ref a :: r => if catS r ≤ 8 ∧ 1 ≤ dp q then nx (pc + 3) ls r M else none | _ => none) else none
  | _ => none
/-- the way out of a method, a call, or the next instruction -/
def sto (i : Instr) (q pc : Nat) (ls : List (Option Value)) (st : List Value) (M : SM) : Option Res := match i with
  | .return_ => match st with | [] => if mRt q = none then some (.inr (.inl (none, M))) else none | _ => none
  | .ireturn => match st with | [.int x] => if retOK (mRt q) x = true then some (.inr (.inl (some (.int x), M))) else none | _ => none
  | .lreturn => match st with | [.long x] => if mRt q = some .long then some (.inr (.inl (some (.long x), M))) else none | _ => none
  | .invokevirtual k => match cal (ow q) k with | some (q2, kd) => doV q pc ls st M q2 kd | none => none
  | .invokestatic k => if isCpy (ow q) k = true then (stp (.invokestatic k) q pc ls st M).map .inl else match cal (ow q) k with | some (q2, kd) => doS q pc ls st M q2 kd | none => none
  | .invokespecial k => if isObj (ow q) k = true then (stp (.invokespecial k) q pc ls st M).map .inl else match cal (ow q) k with | some (q2, kd) => doI q pc ls st M q2 kd | none => none
  | i => (stp i q pc ls st M).map .inl
def stq (i : Instr) (len q pc : Nat) (ls : List (Option Value)) (st : List Value) (M : SM) : Option Res := if lenOK i len = true then sto i q pc ls st M else none
def hdl (K : Nat → List (Option Value) → List Value → SM → Out) (C : Nat → List Value → SM → Out) : Option Res → Out
  | none => none
  | some (.inl (pc, ls, st, M)) => K pc ls st M
  | some (.inr (.inl r)) => some r
  | some (.inr (.inr (q, as, M, pc, ls, rest))) => match C q as M with
    | some (v, M1) => K pc ls (v.toList ++ rest) M1
    | none => none
/-- so many steps, calls counted with theirs -/
def ex : Nat → Nat → Nat → List (Option Value) → List Value → SM → Out
  | 0, _, _, _, _, _ => none
  | n + 1, q, pc, ls, st, M => match decode (mB q) pc with
    | .ok (i, len) => hdl (ex n q) (fun q2 as M2 => ex n q2 0 (ent q2 as) [] M2) (stq i len q pc ls st M)
    | _ => none
theorem hdl_mono {K K' : Nat → List (Option Value) → List Value → SM → Out} {C C' : Nat → List Value → SM → Out} (hK : ∀ pc ls st M r, K pc ls st M = some r → K' pc ls st M = some r) (hC : ∀ q as M r, C q as M = some r → C' q as M = some r) (x : Option Res) (r : Option Value × SM) (h : hdl K C x = some r) : hdl K' C' x = some r := by
  match x, h with
  | some (.inl (pc, ls, st, M)), h => exact hK _ _ _ _ _ h
  | some (.inr (.inl r')), h => exact h
  | some (.inr (.inr (q, as, M, pc, ls, rest))), h =>
    simp only [hdl] at h ⊢
    cases hc : C q as M with
    | none => rw [hc] at h; cases h
    | some y =>
      obtain ⟨v, M1⟩ := y
      rw [hc] at h
      rw [hC _ _ _ _ hc]
      exact hK _ _ _ _ _ h
theorem ex_mono1 : ∀ (n q pc : Nat) (ls : List (Option Value)) (st : List Value) (M : SM) (r : Option Value × SM), ex n q pc ls st M = some r → ex (n + 1) q pc ls st M = some r
  | 0, _, _, _, _, _, _, h => by cases h
  | n + 1, q, pc, ls, st, M, r, h => by
    rw [ex] at h ⊢
    cases hd : decode (mB q) pc with
    | error _ => rw [hd] at h; cases h
    | ok x =>
      obtain ⟨i, l⟩ := x
      rw [hd] at h
      exact hdl_mono (fun pc ls st M r h => ex_mono1 n q pc ls st M r h) (fun q as M r h => ex_mono1 n q 0 (ent q as) [] M r h) _ _ h
theorem ex_mono {n n' : Nat} (hn : n ≤ n') {q pc : Nat} {ls : List (Option Value)} {st : List Value} {M : SM} {r : Option Value × SM} (h : ex n q pc ls st M = some r) : ex n' q pc ls st M = some r := by
  induction hn with
  | refl => exact h
  | step _ ih => exact ex_mono1 _ _ _ _ _ _ _ ih
/-- the whole run, without a count -/
noncomputable def rn (q pc : Nat) (ls : List (Option Value)) (st : List Value) (M : SM) : Out := @dite Out (∃ (r : Option Value × SM) (n : Nat), ex n q pc ls st M = some r) (Classical.propDecidable _) (fun h => some (Classical.choose h)) (fun _ => none)
theorem rn_iff {q pc : Nat} {ls : List (Option Value)} {st : List Value} {M : SM} {r : Option Value × SM} : rn q pc ls st M = some r ↔ ∃ n, ex n q pc ls st M = some r := by
  unfold rn
  constructor
  · intro h
    split at h
    · rename_i h0
      cases h
      exact Classical.choose_spec h0
    · cases h
  · rintro ⟨n, hn⟩
    have h0 : ∃ (r : Option Value × SM) (n : Nat), ex n q pc ls st M = some r := ⟨r, n, hn⟩
    rw [dif_pos h0]
    obtain ⟨n2, hn2⟩ := Classical.choose_spec h0
    have a := ex_mono (Nat.le_max_left n n2) hn
    have b := ex_mono (Nat.le_max_right n n2) hn2
    rw [← b, a]
/-- a call -/
noncomputable def cl (q : Nat) (as : List Value) (M : SM) : Out := rn q 0 (ent q as) [] M
theorem out_ext {a b : Out} (h : ∀ r, a = some r ↔ b = some r) : a = b := by
  cases a with
  | none => cases b with
    | none => rfl
    | some y => exact ((h y).mpr rfl)
  | some x => exact ((h x).mp rfl).symm
theorem rn_eq {q pc len : Nat} {i : Instr} (hd : decode (mB q) pc = .ok (i, len)) (ls : List (Option Value)) (st : List Value) (M : SM) : rn q pc ls st M = hdl (rn q) cl (stq i len q pc ls st M) := by
  apply out_ext
  intro r
  rw [rn_iff]
  constructor
  · rintro ⟨n, h⟩
    cases n with
    | zero => cases h
    | succ n =>
      rw [ex, hd] at h
      exact hdl_mono (fun pc ls st M r h => rn_iff.mpr ⟨n, h⟩) (fun q as M r h => rn_iff.mpr ⟨n, h⟩) _ _ h
  · intro h
    have up : ∀ (n : Nat), hdl (ex n q) (fun q2 as M2 => ex n q2 0 (ent q2 as) [] M2) (stq i len q pc ls st M) = some r → ∃ n, ex n q pc ls st M = some r := fun n h => ⟨n + 1, by rw [ex, hd]; exact h⟩
    match hx : stq i len q pc ls st M, h with
    | some (.inl (pc', ls', st', M')), h =>
      obtain ⟨n, hn⟩ := rn_iff.mp (show rn q pc' ls' st' M' = some r from h)
      exact up n (by rw [hx]; exact hn)
    | some (.inr (.inl r')), h => exact up 0 (by rw [hx]; exact h)
    | some (.inr (.inr (q2, as, M', pc', ls', rest))), h =>
      simp only [hdl] at h
      cases hc : cl q2 as M' with
      | none => rw [hc] at h; cases h
      | some y =>
        obtain ⟨v, M1⟩ := y
        rw [hc] at h
        obtain ⟨n1, h1⟩ := rn_iff.mp hc
        obtain ⟨n2, h2⟩ := rn_iff.mp h
        refine up (max n1 n2) ?_
        rw [hx]
        show (match ex (max n1 n2) q2 0 (ent q2 as) [] M' with | some (v, M1) => ex (max n1 n2) q pc' ls' (v.toList ++ rest) M1 | none => none) = some r
        rw [ex_mono (Nat.le_max_left n1 n2) h1]
        exact ex_mono (Nat.le_max_right n1 n2) h2
end
section
/-! what the tables say, looked up once -/
def lw_gd : List Cond := lw_tbl.filter goodWord
def hasW (i : Nat) (w : Cond) : Bool := decide (lw_tbl[i]? = some w) && goodWord w
theorem hasW_in {i : Nat} {w : Cond} (h : hasW i w = true) : w ∈ lw_gd := by
  unfold hasW at h
  rw [Bool.and_eq_true, decide_eq_true_eq] at h
  exact List.mem_filter.mpr ⟨List.mem_of_getElem? h.1, h.2⟩
theorem gd_good : GoodIn lw_gd lw_gd := fun w hw => ⟨hw, good_of_word (List.mem_filter.mp hw).2⟩
def codW (q : Nat) : Cond := .code (yN q) (mB q) (mL q) (mRt q)
def mWs (q : Nat) : List Cond := codW q :: lw_gd
def NH : String := "DependentReplay"
set_option maxRecDepth 100000 in
theorem cd_0 : lw_tbl[wpM 0]? = some (codW 0) := rfl
set_option maxRecDepth 100000 in
theorem cd_1 : lw_tbl[wpM 1]? = some (codW 1) := rfl
set_option maxRecDepth 100000 in
theorem cd_2 : lw_tbl[wpM 2]? = some (codW 2) := rfl
set_option maxRecDepth 100000 in
theorem cd_3 : lw_tbl[wpM 3]? = some (codW 3) := rfl
set_option maxRecDepth 100000 in
theorem cd_4 : lw_tbl[wpM 4]? = some (codW 4) := rfl
set_option maxRecDepth 100000 in
theorem cd_5 : lw_tbl[wpM 5]? = some (codW 5) := rfl
set_option maxRecDepth 100000 in
theorem cd_6 : lw_tbl[wpM 6]? = some (codW 6) := rfl
set_option maxRecDepth 100000 in
theorem cd_7 : lw_tbl[wpM 7]? = some (codW 7) := rfl
set_option maxRecDepth 100000 in
theorem cd_8 : lw_tbl[wpM 8]? = some (codW 8) := rfl
set_option maxRecDepth 100000 in
theorem cd_9 : lw_tbl[wpM 9]? = some (codW 9) := rfl
set_option maxRecDepth 100000 in
theorem cd_10 : lw_tbl[wpM 10]? = some (codW 10) := rfl
set_option maxRecDepth 100000 in
theorem cd_11 : lw_tbl[wpM 11]? = some (codW 11) := rfl
set_option maxRecDepth 100000 in
theorem cd_12 : lw_tbl[wpM 12]? = some (codW 12) := rfl
set_option maxRecDepth 100000 in
theorem cd_13 : lw_tbl[wpM 13]? = some (codW 13) := rfl
set_option maxRecDepth 100000 in
theorem cd_14 : lw_tbl[wpM 14]? = some (codW 14) := rfl
set_option maxRecDepth 100000 in
theorem cd_15 : lw_tbl[wpM 15]? = some (codW 15) := rfl
set_option maxRecDepth 100000 in
theorem cd_16 : lw_tbl[wpM 16]? = some (codW 16) := rfl
set_option maxRecDepth 100000 in
theorem cd_17 : lw_tbl[wpM 17]? = some (codW 17) := rfl
set_option maxRecDepth 100000 in
theorem cd_18 : lw_tbl[wpM 18]? = some (codW 18) := rfl
set_option maxRecDepth 100000 in
theorem cd_19 : lw_tbl[wpM 19]? = some (codW 19) := rfl
set_option maxRecDepth 100000 in
theorem cd_20 : lw_tbl[wpM 20]? = some (codW 20) := rfl
set_option maxRecDepth 100000 in
theorem cd_21 : lw_tbl[wpM 21]? = some (codW 21) := rfl
set_option maxRecDepth 100000 in
theorem cd_22 : lw_tbl[wpM 22]? = some (codW 22) := rfl
set_option maxRecDepth 100000 in
theorem cd_23 : lw_tbl[wpM 23]? = some (codW 23) := rfl
set_option maxRecDepth 100000 in
theorem cd_24 : lw_tbl[wpM 24]? = some (codW 24) := rfl
set_option maxRecDepth 100000 in
theorem cd_25 : lw_tbl[wpM 25]? = some (codW 25) := rfl
set_option maxRecDepth 100000 in
theorem cd_26 : lw_tbl[wpM 26]? = some (codW 26) := rfl
set_option maxRecDepth 100000 in
theorem cd_27 : lw_tbl[wpM 27]? = some (codW 27) := rfl
set_option maxRecDepth 100000 in
theorem cd_28 : lw_tbl[wpM 28]? = some (codW 28) := rfl
set_option maxRecDepth 100000 in
theorem cd_29 : lw_tbl[wpM 29]? = some (codW 29) := rfl
set_option maxRecDepth 100000 in
theorem cd_30 : lw_tbl[wpM 30]? = some (codW 30) := rfl
set_option maxRecDepth 100000 in
theorem cd_31 : lw_tbl[wpM 31]? = some (codW 31) := rfl
set_option maxRecDepth 100000 in
theorem cd_32 : lw_tbl[wpM 32]? = some (codW 32) := rfl
set_option maxRecDepth 100000 in
theorem cd_33 : lw_tbl[wpM 33]? = some (codW 33) := rfl
set_option maxRecDepth 100000 in
theorem cd_34 : lw_tbl[wpM 34]? = some (codW 34) := rfl
set_option maxRecDepth 100000 in
theorem cd_35 : lw_tbl[wpM 35]? = some (codW 35) := rfl
set_option maxRecDepth 100000 in
theorem cd_36 : lw_tbl[wpM 36]? = some (codW 36) := rfl
set_option maxRecDepth 100000 in
theorem cd_37 : lw_tbl[wpM 37]? = some (codW 37) := rfl
set_option maxRecDepth 100000 in
theorem cd_38 : lw_tbl[wpM 38]? = some (codW 38) := rfl
set_option maxRecDepth 100000 in
theorem cd_39 : lw_tbl[wpM 39]? = some (codW 39) := rfl
set_option maxRecDepth 100000 in
theorem cd_40 : lw_tbl[wpM 40]? = some (codW 40) := rfl
set_option maxRecDepth 100000 in
theorem cd_41 : lw_tbl[wpM 41]? = some (codW 41) := rfl
set_option maxRecDepth 100000 in
theorem cd_42 : lw_tbl[wpM 42]? = some (codW 42) := rfl
set_option maxRecDepth 100000 in
theorem cd_43 : lw_tbl[wpM 43]? = some (codW 43) := rfl
set_option maxRecDepth 100000 in
theorem cd_44 : lw_tbl[wpM 44]? = some (codW 44) := rfl
set_option maxRecDepth 100000 in
theorem cd_45 : lw_tbl[wpM 45]? = some (codW 45) := rfl
set_option maxRecDepth 100000 in
theorem cd_46 : lw_tbl[wpM 46]? = some (codW 46) := rfl
set_option maxRecDepth 100000 in
theorem cd_47 : lw_tbl[wpM 47]? = some (codW 47) := rfl
set_option maxRecDepth 100000 in
theorem cd_48 : lw_tbl[wpM 48]? = some (codW 48) := rfl
set_option maxRecDepth 100000 in
theorem cd_49 : lw_tbl[wpM 49]? = some (codW 49) := rfl
set_option maxRecDepth 100000 in
theorem cd_50 : lw_tbl[wpM 50]? = some (codW 50) := rfl
set_option maxRecDepth 100000 in
theorem cd_51 : lw_tbl[wpM 51]? = some (codW 51) := rfl
set_option maxRecDepth 100000 in
theorem cd_52 : lw_tbl[wpM 52]? = some (codW 52) := rfl
set_option maxRecDepth 100000 in
theorem cd_53 : lw_tbl[wpM 53]? = some (codW 53) := rfl
set_option maxRecDepth 100000 in
theorem cd_54 : lw_tbl[wpM 54]? = some (codW 54) := rfl
set_option maxRecDepth 100000 in
theorem cd_55 : lw_tbl[wpM 55]? = some (codW 55) := rfl
set_option maxRecDepth 100000 in
theorem cd_56 : lw_tbl[wpM 56]? = some (codW 56) := rfl
set_option maxRecDepth 100000 in
theorem cd_57 : lw_tbl[wpM 57]? = some (codW 57) := rfl
set_option maxRecDepth 100000 in
theorem cd_58 : lw_tbl[wpM 58]? = some (codW 58) := rfl
set_option maxRecDepth 100000 in
theorem cd_59 : lw_tbl[wpM 59]? = some (codW 59) := rfl
set_option maxRecDepth 100000 in
theorem cd_60 : lw_tbl[wpM 60]? = some (codW 60) := rfl
set_option maxRecDepth 100000 in
theorem cd_61 : lw_tbl[wpM 61]? = some (codW 61) := rfl
set_option maxRecDepth 100000 in
theorem cd_62 : lw_tbl[wpM 62]? = some (codW 62) := rfl
set_option maxRecDepth 100000 in
theorem cd_63 : lw_tbl[wpM 63]? = some (codW 63) := rfl
set_option maxRecDepth 100000 in
theorem cd_64 : lw_tbl[wpM 64]? = some (codW 64) := rfl
set_option maxRecDepth 100000 in
theorem cd_65 : lw_tbl[wpM 65]? = some (codW 65) := rfl
set_option maxRecDepth 100000 in
theorem cd_66 : lw_tbl[wpM 66]? = some (codW 66) := rfl
set_option maxRecDepth 100000 in
theorem cd_67 : lw_tbl[wpM 67]? = some (codW 67) := rfl
set_option maxRecDepth 100000 in
theorem cd_68 : lw_tbl[wpM 68]? = some (codW 68) := rfl
set_option maxRecDepth 100000 in
theorem cd_69 : lw_tbl[wpM 69]? = some (codW 69) := rfl
set_option maxRecDepth 100000 in
theorem cd_70 : lw_tbl[wpM 70]? = some (codW 70) := rfl
set_option maxRecDepth 100000 in
theorem cd_71 : lw_tbl[wpM 71]? = some (codW 71) := rfl
set_option maxRecDepth 100000 in
theorem cd_72 : lw_tbl[wpM 72]? = some (codW 72) := rfl
set_option maxRecDepth 100000 in
theorem cd_73 : lw_tbl[wpM 73]? = some (codW 73) := rfl
set_option maxRecDepth 100000 in
theorem cd_74 : lw_tbl[wpM 74]? = some (codW 74) := rfl
set_option maxRecDepth 100000 in
theorem cd_75 : lw_tbl[wpM 75]? = some (codW 75) := rfl
set_option maxRecDepth 100000 in
theorem cd_76 : lw_tbl[wpM 76]? = some (codW 76) := rfl
set_option maxRecDepth 100000 in
theorem cd_77 : lw_tbl[wpM 77]? = some (codW 77) := rfl
set_option maxRecDepth 100000 in
theorem cd_78 : lw_tbl[wpM 78]? = some (codW 78) := rfl
set_option maxRecDepth 100000 in
theorem cd_79 : lw_tbl[wpM 79]? = some (codW 79) := rfl
set_option maxRecDepth 100000 in
theorem cd_80 : lw_tbl[wpM 80]? = some (codW 80) := rfl
set_option maxRecDepth 100000 in
theorem cd_81 : lw_tbl[wpM 81]? = some (codW 81) := rfl
set_option maxRecDepth 100000 in
theorem cd_82 : lw_tbl[wpM 82]? = some (codW 82) := rfl
set_option maxRecDepth 100000 in
theorem cd_83 : lw_tbl[wpM 83]? = some (codW 83) := rfl
set_option maxRecDepth 100000 in
theorem cd_84 : lw_tbl[wpM 84]? = some (codW 84) := rfl
set_option maxRecDepth 100000 in
theorem cd_85 : lw_tbl[wpM 85]? = some (codW 85) := rfl
set_option maxRecDepth 100000 in
theorem cd_86 : lw_tbl[wpM 86]? = some (codW 86) := rfl
set_option maxRecDepth 100000 in
theorem cd_87 : lw_tbl[wpM 87]? = some (codW 87) := rfl
set_option maxRecDepth 100000 in
theorem cd_88 : lw_tbl[wpM 88]? = some (codW 88) := rfl
set_option maxRecDepth 100000 in
theorem cd_89 : lw_tbl[wpM 89]? = some (codW 89) := rfl
set_option maxRecDepth 100000 in
theorem cd_90 : lw_tbl[wpM 90]? = some (codW 90) := rfl
set_option maxRecDepth 100000 in
theorem cd_91 : lw_tbl[wpM 91]? = some (codW 91) := rfl
set_option maxRecDepth 100000 in
theorem cd_92 : lw_tbl[wpM 92]? = some (codW 92) := rfl
set_option maxRecDepth 100000 in
theorem cd_93 : lw_tbl[wpM 93]? = some (codW 93) := rfl
set_option maxRecDepth 100000 in
theorem cd_94 : lw_tbl[wpM 94]? = some (codW 94) := rfl
set_option maxRecDepth 100000 in
theorem cd_95 : lw_tbl[wpM 95]? = some (codW 95) := rfl
set_option maxRecDepth 100000 in
theorem cd_96 : lw_tbl[wpM 96]? = some (codW 96) := rfl
set_option maxRecDepth 100000 in
theorem cd_97 : lw_tbl[wpM 97]? = some (codW 97) := rfl
set_option maxRecDepth 100000 in
theorem cd_98 : lw_tbl[wpM 98]? = some (codW 98) := rfl
set_option maxRecDepth 100000 in
theorem cd_99 : lw_tbl[wpM 99]? = some (codW 99) := rfl
set_option maxRecDepth 100000 in
theorem cd_100 : lw_tbl[wpM 100]? = some (codW 100) := rfl
set_option maxRecDepth 100000 in
theorem cd_101 : lw_tbl[wpM 101]? = some (codW 101) := rfl
set_option maxRecDepth 100000 in
theorem cd_102 : lw_tbl[wpM 102]? = some (codW 102) := rfl
set_option maxRecDepth 100000 in
theorem cd_103 : lw_tbl[wpM 103]? = some (codW 103) := rfl
set_option maxRecDepth 100000 in
theorem cd_104 : lw_tbl[wpM 104]? = some (codW 104) := rfl
set_option maxRecDepth 100000 in
theorem cd_105 : lw_tbl[wpM 105]? = some (codW 105) := rfl
set_option maxRecDepth 100000 in
theorem cd_106 : lw_tbl[wpM 106]? = some (codW 106) := rfl
set_option maxRecDepth 100000 in
theorem cd_107 : lw_tbl[wpM 107]? = some (codW 107) := rfl
set_option maxRecDepth 100000 in
theorem cd_108 : lw_tbl[wpM 108]? = some (codW 108) := rfl
set_option maxRecDepth 100000 in
theorem cd_109 : lw_tbl[wpM 109]? = some (codW 109) := rfl
set_option maxRecDepth 100000 in
theorem cd_110 : lw_tbl[wpM 110]? = some (codW 110) := rfl
set_option maxRecDepth 100000 in
theorem cd_111 : lw_tbl[wpM 111]? = some (codW 111) := rfl
set_option maxRecDepth 100000 in
theorem cd_112 : lw_tbl[wpM 112]? = some (codW 112) := rfl
set_option maxRecDepth 100000 in
theorem cd_113 : lw_tbl[wpM 113]? = some (codW 113) := rfl
set_option maxRecDepth 100000 in
theorem cd_114 : lw_tbl[wpM 114]? = some (codW 114) := rfl
set_option maxRecDepth 100000 in
theorem cd_115 : lw_tbl[wpM 115]? = some (codW 115) := rfl
set_option maxRecDepth 100000 in
theorem cd_116 : lw_tbl[wpM 116]? = some (codW 116) := rfl
set_option maxRecDepth 100000 in
theorem cd_117 : lw_tbl[wpM 117]? = some (codW 117) := rfl
set_option maxRecDepth 100000 in
theorem cd_118 : lw_tbl[wpM 118]? = some (codW 118) := rfl
set_option maxRecDepth 100000 in
theorem cd_119 : lw_tbl[wpM 119]? = some (codW 119) := rfl
set_option maxRecDepth 100000 in
theorem cd_120 : lw_tbl[wpM 120]? = some (codW 120) := rfl
set_option maxRecDepth 100000 in
theorem cd_121 : lw_tbl[wpM 121]? = some (codW 121) := rfl
set_option maxRecDepth 100000 in
theorem cd_122 : lw_tbl[wpM 122]? = some (codW 122) := rfl
set_option maxRecDepth 100000 in
theorem cd_123 : lw_tbl[wpM 123]? = some (codW 123) := rfl
set_option maxRecDepth 100000 in
theorem cd_124 : lw_tbl[wpM 124]? = some (codW 124) := rfl
set_option maxRecDepth 100000 in
theorem cd_125 : lw_tbl[wpM 125]? = some (codW 125) := rfl
set_option maxRecDepth 100000 in
theorem cd_126 : lw_tbl[wpM 126]? = some (codW 126) := rfl
set_option maxRecDepth 100000 in
theorem cd_127 : lw_tbl[wpM 127]? = some (codW 127) := rfl
set_option maxRecDepth 100000 in
theorem cd_128 : lw_tbl[wpM 128]? = some (codW 128) := rfl
set_option maxRecDepth 100000 in
theorem cd_129 : lw_tbl[wpM 129]? = some (codW 129) := rfl
set_option maxRecDepth 100000 in
theorem cd_130 : lw_tbl[wpM 130]? = some (codW 130) := rfl
set_option maxRecDepth 100000 in
theorem cd_131 : lw_tbl[wpM 131]? = some (codW 131) := rfl
set_option maxRecDepth 100000 in
theorem cd_132 : lw_tbl[wpM 132]? = some (codW 132) := rfl
set_option maxRecDepth 100000 in
theorem cd_133 : lw_tbl[wpM 133]? = some (codW 133) := rfl
set_option maxRecDepth 100000 in
theorem cd_134 : lw_tbl[wpM 134]? = some (codW 134) := rfl
set_option maxRecDepth 100000 in
theorem cd_135 : lw_tbl[wpM 135]? = some (codW 135) := rfl
set_option maxRecDepth 100000 in
theorem cd_136 : lw_tbl[wpM 136]? = some (codW 136) := rfl
set_option maxRecDepth 100000 in
theorem cd_137 : lw_tbl[wpM 137]? = some (codW 137) := rfl
set_option maxRecDepth 100000 in
theorem cd_138 : lw_tbl[wpM 138]? = some (codW 138) := rfl
set_option maxRecDepth 100000 in
theorem cd_139 : lw_tbl[wpM 139]? = some (codW 139) := rfl
set_option maxRecDepth 100000 in
theorem cd_140 : lw_tbl[wpM 140]? = some (codW 140) := rfl
set_option maxRecDepth 100000 in
theorem cd_141 : lw_tbl[wpM 141]? = some (codW 141) := rfl
set_option maxRecDepth 100000 in
theorem cd_142 : lw_tbl[wpM 142]? = some (codW 142) := rfl
set_option maxRecDepth 100000 in
theorem cd_143 : lw_tbl[wpM 143]? = some (codW 143) := rfl
set_option maxRecDepth 100000 in
theorem cd_144 : lw_tbl[wpM 144]? = some (codW 144) := rfl
set_option maxRecDepth 100000 in
theorem cd_145 : lw_tbl[wpM 145]? = some (codW 145) := rfl
set_option maxRecDepth 100000 in
theorem cd_146 : lw_tbl[wpM 146]? = some (codW 146) := rfl
set_option maxRecDepth 100000 in
theorem cd_147 : lw_tbl[wpM 147]? = some (codW 147) := rfl
set_option maxRecDepth 100000 in
theorem cd_148 : lw_tbl[wpM 148]? = some (codW 148) := rfl
set_option maxRecDepth 100000 in
theorem cd_149 : lw_tbl[wpM 149]? = some (codW 149) := rfl
set_option maxRecDepth 100000 in
theorem cd_150 : lw_tbl[wpM 150]? = some (codW 150) := rfl
set_option maxRecDepth 100000 in
theorem cd_151 : lw_tbl[wpM 151]? = some (codW 151) := rfl
set_option maxRecDepth 100000 in
theorem cd_152 : lw_tbl[wpM 152]? = some (codW 152) := rfl
set_option maxRecDepth 100000 in
theorem cd_153 : lw_tbl[wpM 153]? = some (codW 153) := rfl
set_option maxRecDepth 100000 in
theorem cd_154 : lw_tbl[wpM 154]? = some (codW 154) := rfl
set_option maxRecDepth 100000 in
theorem cd_155 : lw_tbl[wpM 155]? = some (codW 155) := rfl
set_option maxRecDepth 100000 in
theorem cd_156 : lw_tbl[wpM 156]? = some (codW 156) := rfl
set_option maxRecDepth 100000 in
theorem cd_157 : lw_tbl[wpM 157]? = some (codW 157) := rfl
set_option maxRecDepth 100000 in
theorem cd_158 : lw_tbl[wpM 158]? = some (codW 158) := rfl
set_option maxRecDepth 100000 in
theorem cd_159 : lw_tbl[wpM 159]? = some (codW 159) := rfl
set_option maxRecDepth 100000 in
theorem cd_160 : lw_tbl[wpM 160]? = some (codW 160) := rfl
set_option maxRecDepth 100000 in
theorem cd_161 : lw_tbl[wpM 161]? = some (codW 161) := rfl
set_option maxRecDepth 100000 in
theorem cd_162 : lw_tbl[wpM 162]? = some (codW 162) := rfl
set_option maxRecDepth 100000 in
theorem cd_163 : lw_tbl[wpM 163]? = some (codW 163) := rfl
set_option maxRecDepth 100000 in
theorem cd_164 : lw_tbl[wpM 164]? = some (codW 164) := rfl
set_option maxRecDepth 100000 in
theorem cd_165 : lw_tbl[wpM 165]? = some (codW 165) := rfl
set_option maxRecDepth 100000 in
theorem cd_166 : lw_tbl[wpM 166]? = some (codW 166) := rfl
set_option maxRecDepth 100000 in
theorem cd_167 : lw_tbl[wpM 167]? = some (codW 167) := rfl
set_option maxRecDepth 100000 in
theorem cd_168 : lw_tbl[wpM 168]? = some (codW 168) := rfl
set_option maxRecDepth 100000 in
theorem cd_169 : lw_tbl[wpM 169]? = some (codW 169) := rfl
set_option maxRecDepth 100000 in
theorem cd_170 : lw_tbl[wpM 170]? = some (codW 170) := rfl
set_option maxRecDepth 100000 in
theorem cd_171 : lw_tbl[wpM 171]? = some (codW 171) := rfl
set_option maxRecDepth 100000 in
theorem cd_172 : lw_tbl[wpM 172]? = some (codW 172) := rfl
set_option maxRecDepth 100000 in
theorem cd_173 : lw_tbl[wpM 173]? = some (codW 173) := rfl
set_option maxRecDepth 100000 in
theorem cd_174 : lw_tbl[wpM 174]? = some (codW 174) := rfl
set_option maxRecDepth 100000 in
theorem cd_175 : lw_tbl[wpM 175]? = some (codW 175) := rfl
theorem cd_all : ∀ q, q < 176 → lw_tbl[wpM q]? = some (codW q)
  | 0, _ => cd_0
  | 1, _ => cd_1
  | 2, _ => cd_2
  | 3, _ => cd_3
  | 4, _ => cd_4
  | 5, _ => cd_5
  | 6, _ => cd_6
  | 7, _ => cd_7
  | 8, _ => cd_8
  | 9, _ => cd_9
  | 10, _ => cd_10
  | 11, _ => cd_11
  | 12, _ => cd_12
  | 13, _ => cd_13
  | 14, _ => cd_14
  | 15, _ => cd_15
  | 16, _ => cd_16
  | 17, _ => cd_17
  | 18, _ => cd_18
  | 19, _ => cd_19
  | 20, _ => cd_20
  | 21, _ => cd_21
  | 22, _ => cd_22
  | 23, _ => cd_23
  | 24, _ => cd_24
  | 25, _ => cd_25
  | 26, _ => cd_26
  | 27, _ => cd_27
  | 28, _ => cd_28
  | 29, _ => cd_29
  | 30, _ => cd_30
  | 31, _ => cd_31
  | 32, _ => cd_32
  | 33, _ => cd_33
  | 34, _ => cd_34
  | 35, _ => cd_35
  | 36, _ => cd_36
  | 37, _ => cd_37
  | 38, _ => cd_38
  | 39, _ => cd_39
  | 40, _ => cd_40
  | 41, _ => cd_41
  | 42, _ => cd_42
  | 43, _ => cd_43
  | 44, _ => cd_44
  | 45, _ => cd_45
  | 46, _ => cd_46
  | 47, _ => cd_47
  | 48, _ => cd_48
  | 49, _ => cd_49
  | 50, _ => cd_50
  | 51, _ => cd_51
  | 52, _ => cd_52
  | 53, _ => cd_53
  | 54, _ => cd_54
  | 55, _ => cd_55
  | 56, _ => cd_56
  | 57, _ => cd_57
  | 58, _ => cd_58
  | 59, _ => cd_59
  | 60, _ => cd_60
  | 61, _ => cd_61
  | 62, _ => cd_62
  | 63, _ => cd_63
  | 64, _ => cd_64
  | 65, _ => cd_65
  | 66, _ => cd_66
  | 67, _ => cd_67
  | 68, _ => cd_68
  | 69, _ => cd_69
  | 70, _ => cd_70
  | 71, _ => cd_71
  | 72, _ => cd_72
  | 73, _ => cd_73
  | 74, _ => cd_74
  | 75, _ => cd_75
  | 76, _ => cd_76
  | 77, _ => cd_77
  | 78, _ => cd_78
  | 79, _ => cd_79
  | 80, _ => cd_80
  | 81, _ => cd_81
  | 82, _ => cd_82
  | 83, _ => cd_83
  | 84, _ => cd_84
  | 85, _ => cd_85
  | 86, _ => cd_86
  | 87, _ => cd_87
  | 88, _ => cd_88
  | 89, _ => cd_89
  | 90, _ => cd_90
  | 91, _ => cd_91
  | 92, _ => cd_92
  | 93, _ => cd_93
  | 94, _ => cd_94
  | 95, _ => cd_95
  | 96, _ => cd_96
  | 97, _ => cd_97
  | 98, _ => cd_98
  | 99, _ => cd_99
  | 100, _ => cd_100
  | 101, _ => cd_101
  | 102, _ => cd_102
  | 103, _ => cd_103
  | 104, _ => cd_104
  | 105, _ => cd_105
  | 106, _ => cd_106
  | 107, _ => cd_107
  | 108, _ => cd_108
  | 109, _ => cd_109
  | 110, _ => cd_110
  | 111, _ => cd_111
  | 112, _ => cd_112
  | 113, _ => cd_113
  | 114, _ => cd_114
  | 115, _ => cd_115
  | 116, _ => cd_116
  | 117, _ => cd_117
  | 118, _ => cd_118
  | 119, _ => cd_119
  | 120, _ => cd_120
  | 121, _ => cd_121
  | 122, _ => cd_122
  | 123, _ => cd_123
  | 124, _ => cd_124
  | 125, _ => cd_125
  | 126, _ => cd_126
  | 127, _ => cd_127
  | 128, _ => cd_128
  | 129, _ => cd_129
  | 130, _ => cd_130
  | 131, _ => cd_131
  | 132, _ => cd_132
  | 133, _ => cd_133
  | 134, _ => cd_134
  | 135, _ => cd_135
  | 136, _ => cd_136
  | 137, _ => cd_137
  | 138, _ => cd_138
  | 139, _ => cd_139
  | 140, _ => cd_140
  | 141, _ => cd_141
  | 142, _ => cd_142
  | 143, _ => cd_143
  | 144, _ => cd_144
  | 145, _ => cd_145
  | 146, _ => cd_146
  | 147, _ => cd_147
  | 148, _ => cd_148
  | 149, _ => cd_149
  | 150, _ => cd_150
  | 151, _ => cd_151
  | 152, _ => cd_152
  | 153, _ => cd_153
  | 154, _ => cd_154
  | 155, _ => cd_155
  | 156, _ => cd_156
  | 157, _ => cd_157
  | 158, _ => cd_158
  | 159, _ => cd_159
  | 160, _ => cd_160
  | 161, _ => cd_161
  | 162, _ => cd_162
  | 163, _ => cd_163
  | 164, _ => cd_164
  | 165, _ => cd_165
  | 166, _ => cd_166
  | 167, _ => cd_167
  | 168, _ => cd_168
  | 169, _ => cd_169
  | 170, _ => cd_170
  | 171, _ => cd_171
  | 172, _ => cd_172
  | 173, _ => cd_173
  | 174, _ => cd_174
  | 175, _ => cd_175
  | n + 176, h => absurd h (by omega)
theorem nM_eq : nM = 177 := rfl
theorem cod_in {q : Nat} (h : q < 176) : codW q ∈ lw_gd := List.mem_filter.mpr ⟨List.mem_of_getElem? (cd_all q h), rfl⟩
def ipOK (q : Nat) : Bool := if stM q = true then hasW (ipM q) (.static (yN q)) else hasW (ipM q) (.instanceMethod (yN q))
theorem ipA : (List.range 176).all ipOK = true := by decide +kernel
def spOK (q : Nat) : Bool := stM q || isI q || hasW (spM q) (.selects (yN q).cls (yN q) (yN q))
theorem spA : (List.range 176).all spOK = true := by decide +kernel
def clsOK (q : Nat) : Bool := (yN q).cls == CN (ow q) && hasW (iniT.getD (ow q) 0) (.initialized (CN (ow q)))
theorem clsA : (List.range 176).all clsOK = true := by decide +kernel
theorem mhA : (List.range 14).all (fun k => CN k != "java/lang/invoke/MethodHandle" && CN k != "java/lang/invoke/VarHandle") = true := by decide +kernel
theorem plA : (List.range 177).all (fun q => plainFor (yN q)) = true := by decide +kernel
theorem owA : (List.range 177).all (fun q => Nat.blt (ow q) 14 && Nat.ble (mL q) 8) = true := by decide +kernel
theorem iniA : (List.range 177).all (fun q => !(isI q) || ((yN q).name == "<init>" && mRt q == none)) = true := by decide +kernel
/-- of a link: its target, its kind, its word -/
def calOK (e : Nat × Nat × Nat × Nat × Nat) : Bool := Nat.blt e.2.2.1 176 && (match e.2.2.2.1 with
  | 0 => hasW e.2.2.2.2 (.methodLink (CN e.1) e.2.1 (yN e.2.2.1)) && !(stM e.2.2.1) && !(isI e.2.2.1) && Nat.blt (ow e.2.2.1) nCl
  | 1 => !(stM e.2.2.1) && !(isI e.2.2.1) && Nat.blt (ow e.2.2.1) nCl
  | 2 => hasW e.2.2.2.2 (.methodLink (CN e.1) e.2.1 (yN e.2.2.1)) && stM e.2.2.1
  | 3 => stM e.2.2.1
  | 4 => hasW e.2.2.2.2 (.methodLink (CN e.1) e.2.1 (yN e.2.2.1)) && !(stM e.2.2.1) && isI e.2.2.1
  | 5 => !(stM e.2.2.1) && isI e.2.2.1
  | _ => false)
theorem calA : calT.all calOK = true := by decide +kernel
def fldOK (e : Nat × Nat × Nat × Nat × Nat) : Bool := hasW e.2.2.2.2 (.fieldLink (CN e.1) e.2.1 (TT e.2.2.1 e.2.2.2.1).1 (TT e.2.2.1 e.2.2.2.1).2.1 (TT e.2.2.1 e.2.2.2.1).2.2.1) && Nat.blt e.2.2.2.1 (NN e.2.2.1) && Nat.blt e.2.2.1 nCl
theorem fldA : fldT.all fldOK = true := by decide +kernel
theorem layA : (List.range nCl).all (fun ci => (List.range (NN ci)).all fun k => hasW ((layT.getD ci []).getD k 0) (u_lay (CN ci) (TT ci) k)) = true := by decide +kernel
theorem cstA : cstT.all (fun e => hasW e.2.2.2 (.constantLong (CN e.1) e.2.1 e.2.2.1)) = true := by decide +kernel
theorem nclA : nclT.all (fun e => hasW e.2.2.2 (.classLink (CN e.1) e.2.1 (CN e.2.2.1))) = true := by decide +kernel
theorem insA : (List.range nCl).all (fun ci => hasW (insT.getD ci 0) (.instantiable (CN ci) (NN ci)) && hasW (iniT.getD ci 0) (.initialized (CN ci))) = true := by decide +kernel
theorem arcA : (hasW arcI (.arrayClass .int) && hasW arcJ (.arrayClass .long)) = true := by decide +kernel
theorem objA : objT.all (fun e => hasW e.2.2 (.methodLink (CN e.1) e.2.1 objectInit)) = true := by decide +kernel
theorem objB : (hasW objW.1 (.instanceMethod objectInit) && hasW objW.2 (.code objectInit ⟨#[0xb1]⟩ 1 none)) = true := by decide +kernel
theorem cpyA : cpyT.all (fun e => hasW e.2.2 (.methodLink (CN e.1) e.2.1 arraycopyName)) = true := by decide +kernel
theorem cpyB : (hasW sysW.1 (.initialized "java/lang/System") && hasW sysW.2.1 (.static arraycopyName) && hasW sysW.2.2 (.native arraycopyName)) = true := by decide +kernel
theorem aovA : (decide (lw_tbl[aovT.getD 0 0]? = some (.arrayOver (.object (AON 3)))) && decide (lw_tbl[aovT.getD 1 0]? = some (.arrayOver (.object (AON 4)))) && (AON 3 == CN (aoC 3)) && (AON 4 == CN (aoC 4))) = true := by decide +kernel
theorem nstA : calT.all (fun e => (e.2.2.2.1 % 2 == 0) || decide (lw_tbl[e.2.2.2.2]? = some (.methodLinkNest (CN e.1) e.2.1 (yN e.2.2.1) NH))) = true := by decide +kernel
theorem tyA : (List.range nCl).all (fun ci => (List.range (NN ci)).all fun k => decide (parseFieldDescriptor (TT ci k).2.2.1 = some (tT ci k)) && (TT ci k).1 == CN ci && decide (defaultValue (tT ci k) = match fT ci k with | 0 => .int 0 | 1 => .long 0 | 2 => .null | _ => .int 0)) = true := by decide +kernel
theorem nmA : (List.range nCl).all (fun ci => (List.range (NN ci)).all fun a => (List.range (NN ci)).all fun b => a == b || (TT ci a).2.1 != (TT ci b).2.1) = true := by decide +kernel
def fKOK (ty : FieldType) (f : Nat) : Bool := match ty, f with
  | .int, 0 | .long, 1 | .boolean, 3 | .object _, 2 | .array _, 2 => true
  | _, _ => false
theorem fkA : (List.range nCl).all (fun ci => (List.range (NN ci)).all fun k => fKOK (tT ci k) (fT ci k)) = true := by decide +kernel
theorem cls_at : ∀ ci, ci < nCl → classes[ci]? = some (CN ci, TT ci, NN ci)
  | 0, _ => rfl | 1, _ => rfl | 2, _ => rfl | 3, _ => rfl | 4, _ => rfl | 5, _ => rfl | 6, _ => rfl | 7, _ => rfl | 8, _ => rfl | 9, _ => rfl
  | n + 10, h => absurd h (by unfold nCl; omega)
end
section
/-! locals by places, the world of the machine -/
/-- the locals that are known: a long counts only while its second half is free -/
def lA (lv : List (Option Value)) : List (Nat × Value) := (List.range lv.length).filterMap fun i => match lv[i]? with
  | some (some v) => if v.category = 2 ∧ lv[i + 1]? ≠ some none then none else some (i, v)
  | _ => none
theorem lA_mem {lv : List (Option Value)} {i : Nat} {v : Value} : (i, v) ∈ lA lv ↔ lv[i]? = some (some v) ∧ (v.category = 2 → lv[i + 1]? = some none) := by
  unfold lA
  rw [List.mem_filterMap]
  constructor
  · rintro ⟨j, hj, h⟩
    split at h
    · rename_i w hw
      split at h
      · cases h
      · rename_i hn
        cases h
        refine ⟨hw, fun hc => ?_⟩
        by_cases h2 : lv[i + 1]? = some none
        · exact h2
        · exact absurd ⟨hc, h2⟩ hn
    · cases h
  · rintro ⟨h1, h2⟩
    have hl : i < lv.length := (List.getElem?_eq_some_iff.mp h1).1
    refine ⟨i, List.mem_range.mpr hl, ?_⟩
    rw [h1]
    show (if v.category = 2 ∧ lv[i + 1]? ≠ some none then none else some (i, v)) = some (i, v)
    rw [if_neg]
    rintro ⟨a, b⟩
    exact b (h2 a)
theorem lv_mono {ls : Array Slot} {n : Nat} {l l' : List (Nat × Value)} (h : lv_has ls n l) (hm : ∀ x ∈ l', x ∈ l) : lv_has ls n l' := ⟨h.1, h.2.1, fun x hx => h.2.2 x (hm x hx)⟩
theorem lA_get {ls : Array Slot} {n : Nat} {lv : List (Option Value)} (h : lv_has ls n (lA lv)) {i : Nat} {v : Value} (h1 : lv[i]? = some (some v)) (h2 : v.category = 2 → lv[i + 1]? = some none) : ls[i]? = some (.val v) := h.2.2 (i, v) (lA_mem.mpr ⟨h1, h2⟩)
theorem lA_set1 {ls : Array Slot} {n i : Nat} {v : Value} {lv : List (Option Value)} (h : lv_has ls n ((i, v) :: (lA lv).filter (fun q => !(q.1 == i) && !(q.1 + 1 == i && q.2.category == 2)))) (hi : i < lv.length) : lv_has ls n (lA (lv.set i (some v))) := by
  refine lv_mono h fun x hx => ?_
  obtain ⟨j, w⟩ := x
  obtain ⟨h1, h2⟩ := lA_mem.mp hx
  by_cases hj : j = i
  · subst hj
    rw [List.getElem?_set_self hi] at h1
    cases h1
    exact List.mem_cons_self
  · rw [List.getElem?_set_ne (Ne.symm hj)] at h1
    have h3 : w.category = 2 → ¬ j + 1 = i := fun hc e => by
      have := h2 hc
      rw [e, List.getElem?_set_self hi] at this
      cases this
    refine List.mem_cons_of_mem _ (List.mem_filter.mpr ⟨lA_mem.mpr ⟨h1, fun hc => ?_⟩, ?_⟩)
    · have := h2 hc
      rwa [List.getElem?_set_ne (Ne.symm (h3 hc))] at this
    · have e1 : (j == i) = false := beq_eq_false_iff_ne.mpr hj
      by_cases hc : w.category = 2
      · have e2 : (j + 1 == i) = false := beq_eq_false_iff_ne.mpr (h3 hc)
        simp [e1, e2]
      · have e2 : (w.category == 2) = false := beq_eq_false_iff_ne.mpr hc
        simp [e1, e2]
theorem lA_set2 {ls : Array Slot} {n i : Nat} {v : Value} {lv : List (Option Value)} (h : lv_has ls n ((i, v) :: (lA lv).filter (fun q => !(q.1 == i) && (!(q.1 == i + 1) && !(q.1 + 1 == i && q.2.category == 2))))) (hi : i + 1 < lv.length) : lv_has ls n (lA ((lv.set i (some v)).set (i + 1) none)) := by
  refine lv_mono h fun x hx => ?_
  obtain ⟨j, w⟩ := x
  obtain ⟨h1, h2⟩ := lA_mem.mp hx
  have hl2 : i + 1 < (lv.set i (some v)).length := by rw [List.length_set]; exact hi
  by_cases hj : j = i
  · subst hj
    rw [List.getElem?_set_ne (by omega), List.getElem?_set_self (by omega)] at h1
    cases h1
    exact List.mem_cons_self
  · by_cases hj2 : j = i + 1
    · subst hj2
      rw [List.getElem?_set_self hl2] at h1
      cases h1
    · rw [List.getElem?_set_ne (Ne.symm hj2), List.getElem?_set_ne (Ne.symm hj)] at h1
      have h3 : w.category = 2 → ¬ j + 1 = i := fun hc e => by
        have := h2 hc
        rw [e, List.getElem?_set_ne (by omega), List.getElem?_set_self (by omega)] at this
        cases this
      refine List.mem_cons_of_mem _ (List.mem_filter.mpr ⟨lA_mem.mpr ⟨h1, fun hc => ?_⟩, ?_⟩)
      · have := h2 hc
        rwa [List.getElem?_set_ne (by omega), List.getElem?_set_ne (Ne.symm (h3 hc))] at this
      · have e1 : (j == i) = false := beq_eq_false_iff_ne.mpr hj
        have e3 : (j == i + 1) = false := beq_eq_false_iff_ne.mpr hj2
        by_cases hc : w.category = 2
        · have e2 : (j + 1 == i) = false := beq_eq_false_iff_ne.mpr (h3 hc)
          simp [e1, e2, e3]
        · have e2 : (w.category == 2) = false := beq_eq_false_iff_ne.mpr hc
          simp [e1, e2, e3]
theorem entA_args : ∀ (vs : List Value) (off j : Nat) (w : Value), (entA vs)[j]? = some (some w) → (off + j, w) ∈ lv_args off vs
  | [], _, _, _, h => by simp [entA] at h
  | v :: vs, off, j, w, h => by
    unfold entA at h
    unfold lv_args
    split at h
    · rename_i hc
      rw [if_pos hc]
      match j, h with
      | 0, h => simp at h; rw [← h]; exact List.mem_cons_self
      | 1, h => simp at h
      | j + 2, h =>
        have := entA_args vs (off + 2) j w (by simpa using h)
        rw [show off + (j + 2) = off + 2 + j by omega]
        exact List.mem_cons_of_mem _ this
    · rename_i hc
      rw [if_neg hc]
      match j, h with
      | 0, h => simp at h; rw [← h]; exact List.mem_cons_self
      | j + 1, h =>
        have := entA_args vs (off + 1) j w (by simpa using h)
        rw [show off + (j + 1) = off + 1 + j by omega]
        exact List.mem_cons_of_mem _ this
theorem entA_len : ∀ vs : List Value, (entA vs).length = (lg_sl vs).length
  | [] => rfl
  | v :: vs => by
    unfold entA
    have e : lg_sl (v :: vs) = (if v.category = 2 then [.val v, .second] else [.val v]) ++ lg_sl vs := rfl
    rw [e]
    split <;> simp [entA_len vs] <;> omega
theorem ent_has (q : Nat) (vs : List Value) (h : (entA vs).length ≤ mL q) : lv_has ((lg_sl vs ++ List.replicate (mL q - (lg_sl vs).length) Slot.unset).toArray) (mL q) (lA (ent q vs)) := by
  refine lv_mono (lv_entry vs (n := mL q) (by rw [← entA_len]; exact h)) fun x hx => ?_
  obtain ⟨j, w⟩ := x
  obtain ⟨h1, -⟩ := lA_mem.mp hx
  unfold ent at h1
  have hj : j < (entA vs).length := by
    rcases Nat.lt_or_ge j (entA vs).length with q | q
    · exact q
    · rw [List.getElem?_append_right q] at h1
      have := List.mem_of_getElem? h1
      have := List.eq_of_mem_replicate this
      cases this
  rw [List.getElem?_append_left hj] at h1
  have := entA_args vs 0 j w h1
  rwa [Nat.zero_add] at this
theorem ent_len (q : Nat) (vs : List Value) (h : (entA vs).length ≤ mL q) : (ent q vs).length = mL q := by
  unfold ent
  rw [List.length_append, List.length_replicate]
  omega
/-! the world -/
/-- classes and slots; the first new address, the arrays' classes; the script: its cell, length, ints, the heap at the start -/
abbrev GT : Type := va_G × (Nat × (Nat → ClassId)) × (Nat × Nat × (Nat → Int32) × Heap)
def gB (G : GT) : Nat := G.2.1.1
def gR (G : GT) : Nat → ClassId := G.2.1.2
def gb (G : GT) : Nat := G.2.2.1
def gL (G : GT) : Nat := G.2.2.2.1
def gX (G : GT) : Nat → Int32 := G.2.2.2.2.1
def gH (G : GT) : Heap := G.2.2.2.2.2
def arTy : Nat → FieldType := fun k => if k = 1 then .int else if k = 2 then .long else .object (AON k)
def elV (M : SM) (a k j : Nat) : Value := if k = 1 then .int (mI M a j) else if k = 2 then .long (mJ M a j) else va_rf (mP M a j)
def wAt (G : GT) (M : SM) (a : Nat) (H : Heap) : Prop :=
  ((mK M a).1 = 5 → a = gb G ∧ (mK M a).2 = gL G ∧ mI M a = gX G ∧ H[a]? = (gH G)[a]?) ∧
  (∀ k, (mK M a).1 = k → 1 ≤ k → k ≤ 4 → gB G ≤ a ∧ H[a]? = some (arrV (gR G k) (mK M a).2 (elV M a k))) ∧
  (∀ ci, ci < nCl → (mK M a).1 = 10 + ci → gB G ≤ a ∧ t_OB a (G.1.1 ci) (NN ci) (G.1.2 ci) H (fv M a ci))
def Wld (G : GT) (M : SM) (H : Heap) : Prop := H.size = mS M ∧ gB G ≤ mS M ∧ gb G < gB G ∧ ∀ a, wAt G M a H
def nstN (e : Nat × Nat × Nat × Nat × Nat) : Cond := .methodLinkNest (CN e.1) e.2.1 (yN e.2.2.1) NH
def Kn (G : GT) (U : State) : Prop := va_K G.1 classes [] U ∧ (∀ k, 1 ≤ k → k ≤ 4 → ArrOfT U (gR G k) (arTy k) ∧ va_RA U (gR G k) (arTy k)) ∧ va_X (gb G) (gL G) (gX G) U (gH G) ∧ (∀ e ∈ calT, e.2.2.2.1 % 2 = 1 → va_Nw (nstN e) U) ∧ va_AO (AON 3) U ∧ va_AO (AON 4) U
theorem Kn.moved {G : GT} {s U : State} (hW : s.WarmedH U.vm) (h : Kn G s) : Kn G U :=
  ⟨h.1.moved hW.alike, fun k h1 h2 => ⟨arrOfT_moved hW.alike (h.2.1 k h1 h2).1, (h.2.1 k h1 h2).2.moved hW.alike⟩, h.2.2.1.moved hW.alike, fun e he ho => va_Nw.warmM hW (h.2.2.2.1 e he ho), h.2.2.2.2.1.moved hW.alike, h.2.2.2.2.2.moved hW.alike⟩
theorem Kn.blind {G : GT} {U : State} {g : JFrame} {mk : MethodId} {a : Array Value} (h : Kn G U) : Kn G (U.calling g mk a) :=
  ⟨h.1.moved (u := U) (U := U.calling g mk a) (Vm.Alike.refl U.vm), fun k h1 h2 => ⟨arrOfT_moved (u := U) (Vm.Alike.refl U.vm) (h.2.1 k h1 h2).1, (h.2.1 k h1 h2).2.moved (u := U) (U := U.calling g mk a) (Vm.Alike.refl U.vm)⟩, h.2.2.1.moved (u := U) (U := U.calling g mk a) (Vm.Alike.refl U.vm), fun e he ho => va_Nw.same rfl (u := U) (U := U.calling g mk a) rfl (h.2.2.2.1 e he ho), h.2.2.2.2.1.moved (u := U) (U := U.calling g mk a) (Vm.Alike.refl U.vm), h.2.2.2.2.2.moved (u := U) (U := U.calling g mk a) (Vm.Alike.refl U.vm)⟩
theorem wAt.kept {G : GT} {M M' : SM} {a : Nat} {H H' : Heap} (h : wAt G M a H) (hk : mK M' a = mK M a) (hi : mI M' a = mI M a) (hj : mJ M' a = mJ M a) (hp : mP M' a = mP M a) (hg : gb G < H.size) (hh : a < H.size → H'[a]? = H[a]?) : wAt G M' a H' := by
  have e1 : ∀ k, elV M' a k = elV M a k := fun k => by funext j; simp only [elV, hi, hj, hp]
  have e2 : ∀ ci, fv M' a ci = fv M a ci := fun ci => by funext j; simp only [fv, hi, hj, hp]
  refine ⟨fun h5 => ?_, fun k h1 h2 h3 => ?_, fun ci h1 h2 => ?_⟩
  · rw [hk] at h5 ⊢
    obtain ⟨a1, a2, a3, a4⟩ := h.1 h5
    exact ⟨a1, a2, hi.trans a3, (hh (by rw [a1]; exact hg)).trans a4⟩
  · rw [hk] at h1 ⊢
    obtain ⟨a1, a2⟩ := h.2.1 k h1 h2 h3
    exact ⟨a1, by rw [hh (Array.getElem?_eq_some_iff.mp a2).1, a2, e1]⟩
  · rw [hk] at h2
    obtain ⟨a1, a2⟩ := h.2.2 ci h1 h2
    exact ⟨a1, by rw [e2]; exact a2.kept (hh (by obtain ⟨cell, q, -⟩ := a2; exact (Array.getElem?_eq_some_iff.mp q).1))⟩
/-- one cell is written -/
theorem Wld.upd {G : GT} {M M' : SM} {H H' : Heap} {a : Nat} (h : Wld G M H) (hK : mK M' = mK M) (hS : mS M' = mS M) (hi : ∀ b, b ≠ a → mI M' b = mI M b) (hj : ∀ b, b ≠ a → mJ M' b = mJ M b) (hp : ∀ b, b ≠ a → mP M' b = mP M b) (hz : H'.size = H.size) (ho : ∀ b, b ≠ a → H'[b]? = H[b]?) (ha : wAt G M' a H') : Wld G M' H' := by
  refine ⟨by rw [hz, hS]; exact h.1, by rw [hS]; exact h.2.1, h.2.2.1, fun b => ?_⟩
  by_cases hb : b = a
  · subst hb; exact ha
  · exact (h.2.2.2 b).kept (by rw [hK]) (hi b hb) (hj b hb) (hp b hb) (by rw [h.1]; have := h.2.1; have := h.2.2.1; omega) (fun _ => ho b hb)
theorem mI_nw {M : SM} {kd : Nat × Nat} {u b : Nat} (h : b ≠ mS M) : mI (nw M kd u) b = mI M b := if_neg h
theorem mJ_nw {M : SM} {kd : Nat × Nat} {u b : Nat} (h : b ≠ mS M) : mJ (nw M kd u) b = mJ M b := if_neg h
theorem mP_nw {M : SM} {kd : Nat × Nat} {u b : Nat} (h : b ≠ mS M) : mP (nw M kd u) b = mP M b := if_neg h
theorem mK_nw {M : SM} {kd : Nat × Nat} {u b : Nat} (h : b ≠ mS M) : mK (nw M kd u) b = mK M b := if_neg h
theorem mI_nw0 (M : SM) (kd : Nat × Nat) (u : Nat) : mI (nw M kd u) (mS M) = fun _ => 0 := if_pos rfl
theorem mJ_nw0 (M : SM) (kd : Nat × Nat) (u : Nat) : mJ (nw M kd u) (mS M) = fun _ => 0 := if_pos rfl
theorem mP_nw0 (M : SM) (kd : Nat × Nat) (u : Nat) : mP (nw M kd u) (mS M) = fun _ => none := if_pos rfl
theorem mK_nw0 (M : SM) (kd : Nat × Nat) (u : Nat) : mK (nw M kd u) (mS M) = kd := if_pos rfl
/-- one cell is made -/
theorem Wld.push {G : GT} {M : SM} {H H' : Heap} {kd : Nat × Nat} {u : Nat} (h : Wld G M H) (hz : H'.size = mS M + 1) (ho : ∀ b, b < mS M → H'[b]? = H[b]?) (ha : wAt G (nw M kd u) (mS M) H') : Wld G (nw M kd u) H' := by
  refine ⟨hz, Nat.le_succ_of_le h.2.1, h.2.2.1, fun b => ?_⟩
  by_cases hb : b = mS M
  · subst hb; exact ha
  · exact (h.2.2.2 b).kept (mK_nw hb) (mI_nw hb) (mJ_nw hb) (mP_nw hb) (by rw [h.1]; have := h.2.1; have := h.2.2.1; omega) (fun hl => ho b (by rw [← h.1]; exact hl))
theorem mI_sI (M : SM) (a : Nat) (f : Nat → Int32) (b : Nat) : mI (sI M a f) b = if b = a then f else mI M b := rfl
theorem mJ_sJ (M : SM) (a : Nat) (f : Nat → Int64) (b : Nat) : mJ (sJ M a f) b = if b = a then f else mJ M b := rfl
theorem mP_sP (M : SM) (a : Nat) (f : Nat → Option Nat) (b : Nat) : mP (sP M a f) b = if b = a then f else mP M b := rfl
theorem Wld.sI {G : GT} {M : SM} {H H' : Heap} {a : Nat} {f : Nat → Int32} (h : Wld G M H) (hz : H'.size = H.size) (ho : ∀ b, b ≠ a → H'[b]? = H[b]?) (ha : wAt G (sI M a f) a H') : Wld G (sI M a f) H' :=
  h.upd rfl rfl (fun b hb => by rw [mI_sI, if_neg hb]) (fun _ _ => rfl) (fun _ _ => rfl) hz ho ha
theorem Wld.sJ {G : GT} {M : SM} {H H' : Heap} {a : Nat} {f : Nat → Int64} (h : Wld G M H) (hz : H'.size = H.size) (ho : ∀ b, b ≠ a → H'[b]? = H[b]?) (ha : wAt G (sJ M a f) a H') : Wld G (sJ M a f) H' :=
  h.upd rfl rfl (fun _ _ => rfl) (fun b hb => by rw [mJ_sJ, if_neg hb]) (fun _ _ => rfl) hz ho ha
theorem Wld.sP {G : GT} {M : SM} {H H' : Heap} {a : Nat} {f : Nat → Option Nat} (h : Wld G M H) (hz : H'.size = H.size) (ho : ∀ b, b ≠ a → H'[b]? = H[b]?) (ha : wAt G (sP M a f) a H') : Wld G (sP M a f) H' :=
  h.upd rfl rfl (fun _ _ => rfl) (fun _ _ => rfl) (fun b hb => by rw [mP_sP, if_neg hb]) hz ho ha
/-- what holds along a method -/
def Cx (G : GT) (q : Nat) (p : Program) (R : Room) (s : State) (m : MethodId) (args : Array Value) (meth : Method) (c : Code) : Prop :=
  p.tables.exec = Jvm.exec ∧ c.code = mB q ∧ c.maxLocals = mL q ∧ s.vm.findClass (CN (ow q)) = some m.cls ∧ (∀ w ∈ lw_gd, w.before args s = true) ∧ Kn G s ∧ (isI q = true → meth.name = "<init>") ∧ dp q ≤ R.frames ∧ 36 * dp q ≤ R.locals
def Sd (G : GT) (q : Nat) (M : SM) (H : Heap) (locs : List Loc) (ls : Array Slot) (lv : List (Option Value)) : Prop := Wld G M H ∧ (∀ x ∈ locs, gB G ≤ x.base) ∧ lv_has ls (mL q) (lA lv) ∧ lv.length = mL q
theorem Sd.heap {G : GT} {q : Nat} {M M' : SM} {H H' : Heap} {locs : List Loc} {ls : Array Slot} {lv : List (Option Value)} {a k : Nat} (h : Sd G q M H locs ls lv) (hw : Wld G M' H') (ha : gB G ≤ a) : Sd G q M' H' (locs ++ [⟨a, k⟩]) ls lv := by
  refine ⟨hw, fun x hx => ?_, h.2.2⟩
  rcases List.mem_append.mp hx with h1 | h1
  · exact h.2.1 x h1
  · rw [List.mem_singleton.mp h1]; exact ha
theorem inR_vp {i : Int32} {n : Nat} (h : inR i n) : ¬ (i < 0 ∨ n ≤ i.toNatClampNeg) := fun q => q.elim h.1 (fun z => absurd h.2 (Nat.not_lt.mpr z))
end
section
/-! fields, rows, new cells: the machine's instruction over the small machine's memory -/
theorem fld_spec {own i ci k : Nat} (h : fld own i = some (ci, k)) : Cond.fieldLink (CN own) i (TT ci k).1 (TT ci k).2.1 (TT ci k).2.2.1 ∈ lw_gd ∧ k < NN ci ∧ ci < nCl := by
  unfold fld at h
  cases hf : fldT.find? (fun e => e.1 == own && e.2.1 == i) with
  | none => rw [hf] at h; cases h
  | some e =>
    rw [hf] at h
    cases h
    have h1 := List.find?_some hf
    have h2 := List.all_eq_true.mp fldA e (List.mem_of_find?_eq_some hf)
    simp only [Bool.and_eq_true, beq_iff_eq] at h1
    simp only [fldOK, Bool.and_eq_true] at h2
    obtain ⟨⟨h3, h4⟩, h5⟩ := h2
    obtain ⟨rfl, rfl⟩ := h1
    exact ⟨hasW_in h3, Nat.le_of_ble_eq_true h4, Nat.le_of_ble_eq_true h5⟩
theorem lay_in {ci : Nat} (h : ci < nCl) : ∀ w ∈ u_ws (CN ci) (TT ci) (NN ci), w ∈ lw_gd := by
  intro w hw
  obtain ⟨k, hk, rfl⟩ := List.mem_map.mp hw
  exact hasW_in (List.all_eq_true.mp (List.all_eq_true.mp layA ci (List.mem_range.mpr h)) k hk)
theorem ty_ok {ci k : Nat} (h : ci < nCl) (hk : k < NN ci) : parseFieldDescriptor (TT ci k).2.2.1 = some (tT ci k) ∧ (TT ci k).1 = CN ci ∧ defaultValue (tT ci k) = (match fT ci k with | 0 => .int 0 | 1 => .long 0 | 2 => .null | _ => .int 0) := by
  have h2 := List.all_eq_true.mp (List.all_eq_true.mp tyA ci (List.mem_range.mpr h)) k (List.mem_range.mpr hk)
  simp only [Bool.and_eq_true, decide_eq_true_eq, beq_iff_eq] at h2
  exact ⟨h2.1.1, h2.1.2, h2.2⟩
theorem nm_ok {ci : Nat} (h : ci < nCl) : ∀ a, a < NN ci → ∀ b, b < NN ci → a ≠ b → (TT ci a).2.1 ≠ (TT ci b).2.1 := by
  intro a ha b hb hne
  have h2 := List.all_eq_true.mp (List.all_eq_true.mp (List.all_eq_true.mp nmA ci (List.mem_range.mpr h)) a (List.mem_range.mpr ha)) b (List.mem_range.mpr hb)
  simp only [Bool.or_eq_true, beq_iff_eq, bne_iff_ne] at h2
  exact h2.resolve_left hne
theorem fk_ok {ci k : Nat} (h : ci < nCl) (hk : k < NN ci) : fKOK (tT ci k) (fT ci k) = true := List.all_eq_true.mp (List.all_eq_true.mp fkA ci (List.mem_range.mpr h)) k (List.mem_range.mpr hk)
theorem put_i {ci k : Nat} {x : Int32} (h : ci < nCl) (hk : k < NN ci) (hf : fT ci k = 0 ∨ (fT ci k = 3 ∧ (x = 0 ∨ x = 1))) : narrow (tT ci k) (.int x) = .int x ∧ fits (tT ci k) (.int x) = true := by
  have h2 := fk_ok h hk
  rcases hf with hf | ⟨hf, hx⟩
  · rw [hf] at h2
    cases ht : tT ci k <;> rw [ht] at h2 <;> first | exact ⟨rfl, rfl⟩ | (simp [fKOK] at h2)
  · rw [hf] at h2
    cases ht : tT ci k <;> rw [ht] at h2 <;> first | (rcases hx with rfl | rfl <;> exact ⟨by decide, by decide⟩) | (simp [fKOK] at h2)
theorem put_l {ci k : Nat} {x : Int64} (h : ci < nCl) (hk : k < NN ci) (hf : fT ci k = 1) : narrow (tT ci k) (.long x) = .long x ∧ fits (tT ci k) (.long x) = true := by
  have h2 := fk_ok h hk
  rw [hf] at h2
  cases ht : tT ci k <;> rw [ht] at h2 <;> first | exact ⟨rfl, rfl⟩ | (simp [fKOK] at h2)
theorem put_r {ci k : Nat} {x : Nat} (h : ci < nCl) (hk : k < NN ci) (hf : fT ci k = 2) : narrow (tT ci k) (.ref x) = .ref x ∧ fits (tT ci k) (.ref x) = true := by
  have h2 := fk_ok h hk
  rw [hf] at h2
  cases ht : tT ci k <;> rw [ht] at h2 <;> first | exact ⟨rfl, rfl⟩ | (simp [fKOK] at h2)
theorem ini_nm {q : Nat} (h : isI q = true) (hq : q < 177) : (yN q).name = "<init>" ∧ mRt q = none := by
  have h2 := List.all_eq_true.mp iniA q (List.mem_range.mpr hq)
  rw [h] at h2
  simp only [Bool.not_true, Bool.false_or, Bool.and_eq_true, beq_iff_eq] at h2
  exact h2
theorem elI (M : SM) (a : Nat) : elV M a 1 = fun j => .int (mI M a j) := rfl
theorem elJ (M : SM) (a : Nat) : elV M a 2 = fun j => .long (mJ M a j) := rfl
theorem elP (M : SM) (a k : Nat) (hk : k = 3 ∨ k = 4) : elV M a k = fun j => va_rf (mP M a j) := by rcases hk with rfl | rfl <;> rfl
section HP
variable {p : Program} {l : Launch} {e : Env} {R : Room} {s : State} {m : MethodId} {args : Array Value} {below : List Frame} {meth : Method} {c : Code} {H : Heap} {locs : List Loc} {cells slots : Nat} {Q : State → Prop}
variable {G : GT} {q : Nat} {M : SM} {pc : Nat} {ls : Array Slot} {lv : List (Option Value)} {rest : List Value}
theorem s_get (C : Cx G q p R s m args meth c) (S : Sd G q M H locs ls lv) {i ci k a : Nat} (hf : fld (ow q) i = some (ci, k)) (hk : mK M a = (10 + ci, 0)) (hd : decode (mB q) pc = .ok (.getfield i, 3))
    (kk : W p l e R s m args below meth c H locs cells slots Q (F0 m (pc + 3) ls (fv M a ci k :: rest))) : W p l e R s m args below meth c H locs cells slots Q (F0 m pc ls (.ref a :: rest)) := by
  obtain ⟨hx, hb, -, hown, hts, hK, -⟩ := C
  obtain ⟨h1, h2, h3⟩ := fld_spec hf
  obtain ⟨-, cell, q1, q2, q3, q4⟩ := (S.1.2.2.2 a).2.2 ci h3 (by rw [hk])
  obtain ⟨hS, hfc, kC, hkC, hkind⟩ := hK.1.1 ci _ (cls_at ci h3)
  obtain ⟨cf, kf, fi, f, hi, hsl⟩ := hS k h2
  exact W.getf hx hb hown (hts _ h1) hi (u_facts hfc hkC (u_lays hts (lay_in h3) h2) hi).1 q1 (by rw [q3]; exact fun h => by cases h) (v := fv M a ci k) (by rw [hsl]; exact q4 k h2) rfl rfl hd kk
theorem s_put (C : Cx G q p R s m args meth c) (S : Sd G q M H locs ls lv) {i ci k a : Nat} {v : Value} (hq : q < 177) (hf : fld (ow q) i = some (ci, k)) (hk : mK M a = (10 + ci, 0)) (hfin : finOK ci k q = true) (hv : narrow (tT ci k) v = v ∧ fits (tT ci k) v = true) (hd : decode (mB q) pc = .ok (.putfield i, 3))
    (kk : ∀ (H1 : Heap) (j : Nat), gB G ≤ a → H1.size = H.size → (∀ b, b ≠ a → H1[b]? = H[b]?) → t_OB a (G.1.1 ci) (NN ci) (G.1.2 ci) H1 (updV (fv M a ci) k v) → W p l e R s m args below meth c H1 (locs ++ [⟨a, j⟩]) cells slots Q (F0 m (pc + 3) ls rest)) : W p l e R s m args below meth c H locs cells slots Q (F0 m pc ls (v :: .ref a :: rest)) := by
  obtain ⟨hx, hb, -, hown, hts, hK, hin, -⟩ := C
  obtain ⟨h1, h2, h3⟩ := fld_spec hf
  obtain ⟨hB, cell, q1, q2, q3, q4⟩ := (S.1.2.2.2 a).2.2 ci h3 (by rw [hk])
  have hKn := hK.1.1 ci _ (cls_at ci h3)
  have hap := va_apart (own := CN (ow q)) hts (lay_in h3) (tT ci) (fun k hk => (ty_ok h3 hk).1) (nm_ok h3) hK.1 (cls_at ci h3)
  obtain ⟨hS, hfc, kC, hkC, hkind⟩ := hKn
  obtain ⟨cf, kf, fi, f, hi, hsl⟩ := hS k h2
  have hl := u_lays hts (lay_in h3) h2
  have hst := (u_facts hfc hkC hl hi).1
  have hlay := hts _ (lay_in h3 _ (u_in_lay h2))
  unfold u_lay at hlay
  by_cases hfn : (TT ci k).2.2.2 = true
  · rw [if_pos hfn] at hlay
    unfold finOK at hfin
    rw [hfn] at hfin
    simp only [Bool.not_true, Bool.false_or, Bool.and_eq_true, beq_iff_eq] at hfin
    have hcf : m.cls = cf := by
      obtain ⟨_, _, c', _, _, _, -, -, hf', -, -, -, hown2, -⟩ := Cond.laysFinal_spec hlay
      have e1 : c' = cf := by have := hi.symm.trans hf'; simp at this; exact this.1.symm
      rw [(ty_ok h3 h2).2.1, hfin.2] at hown2
      rw [← e1]; exact Option.some.inj (hown.symm.trans hown2)
    have h6 := u_fits hfc hkC hkind (Or.inr hlay) hi (ty_ok h3 h2).1 hv.1 hv.2
    refine W.putFinK hx hb hown (hts _ h1) hi hst hcf (hin hfin.1) (by rw [q2]; exact h6) q1 q3 (by rw [hsl]; exact k2_hasslot (q4 k h2)) rfl rfl hd fun H' e1 e2 e3 => ?_
    rw [hsl] at e1 ⊢
    exact kk H' _ hB e2 e3 ⟨_, e1, q2, q3, t_set q4 hap h2 v⟩
  · rw [if_neg hfn] at hlay
    have h6 := u_store hfc hkC hkind hlay hi (ty_ok h3 h2).1 hv.1 hv.2
    refine W.putK hx hb (f := f) ⟨hown, hts _ h1, ⟨_, _, _, hi⟩, hst⟩ (by rw [q2]; exact h6) q1 q3 (by rw [hsl]; exact k2_hasslot (q4 k h2)) rfl rfl hd fun H' e1 e2 e3 => ?_
    rw [hsl] at e1 ⊢
    exact kk H' _ hB e2 e3 ⟨_, e1, q2, q3, t_set q4 hap h2 v⟩
theorem fv_sI {ci k a : Nat} {x : Int32} (hf : fT ci k = 0 ∨ fT ci k = 3) : updV (fv M a ci) k (.int x) = fv (sI M a (va_up (mI M a) k x)) a ci := by
  funext j
  unfold updV fv
  by_cases hj : j = k
  · subst hj
    rw [if_pos rfl, mI_sI, if_pos rfl, va_up_self]
    rcases hf with hf | hf <;> rw [hf] <;> rfl
  · rw [if_neg hj, mI_sI, if_pos rfl, va_up_ne _ _ hj]
    rfl
theorem fv_sJ {ci k a : Nat} {x : Int64} (hf : fT ci k = 1) : updV (fv M a ci) k (.long x) = fv (sJ M a (va_up (mJ M a) k x)) a ci := by
  funext j
  unfold updV fv
  by_cases hj : j = k
  · subst hj
    rw [if_pos rfl, mJ_sJ, if_pos rfl, va_up_self, hf]
    rfl
  · rw [if_neg hj, mJ_sJ, if_pos rfl, va_up_ne _ _ hj]
    rfl
theorem fv_sP {ci k a b : Nat} (hf : fT ci k = 2) : updV (fv M a ci) k (.ref b) = fv (sP M a (va_up (mP M a) k (some b))) a ci := by
  funext j
  unfold updV fv
  by_cases hj : j = k
  · subst hj
    rw [if_pos rfl, mP_sP, if_pos rfl, va_up_self, hf]
    rfl
  · rw [if_neg hj, mP_sP, if_pos rfl, va_up_ne _ _ hj]
    rfl
/-- an object's cell, written -/
theorem wAt_obj {M' : SM} {a ci : Nat} {H' : Heap} (h : ci < nCl) (hk : mK M' a = (10 + ci, 0)) (hB : gB G ≤ a) (ho : t_OB a (G.1.1 ci) (NN ci) (G.1.2 ci) H' (fv M' a ci)) : wAt G M' a H' := by
  refine ⟨fun h5 => ?_, fun k h1 h2 h3 => ?_, fun ci' h1 h2 => ?_⟩
  · rw [hk] at h5; simp at h5; omega
  · rw [hk] at h1; simp at h1; omega
  · rw [hk] at h2
    have : ci' = ci := by simp at h2; omega
    subst this
    exact ⟨hB, ho⟩
theorem wAt_arr {M' : SM} {a k n : Nat} {H' : Heap} (hk1 : 1 ≤ k) (hk4 : k ≤ 4) (hk : mK M' a = (k, n)) (hB : gB G ≤ a) (ho : H'[a]? = some (arrV (gR G k) n (elV M' a k))) : wAt G M' a H' := by
  refine ⟨fun h5 => ?_, fun k' h1 h2 h3 => ?_, fun ci' h1 h2 => ?_⟩
  · rw [hk] at h5; simp at h5; omega
  · rw [hk] at h1
    have : k' = k := by simp at h1; omega
    subst this
    exact ⟨hB, by rw [hk]; exact ho⟩
  · rw [hk] at h2; simp at h2; omega
theorem s_iald (C : Cx G q p R s m args meth c) (S : Sd G q M H locs ls lv) {a : Nat} {i : Int32} (hk : (mK M a).1 = 1 ∨ (mK M a).1 = 5) (hi : inR i (mK M a).2) (hd : decode (mB q) pc = .ok (.iaload, 1))
    (kk : W p l e R s m args below meth c H locs cells slots Q (F0 m (pc + 1) ls (.int (mI M a i.toNatClampNeg) :: rest))) : W p l e R s m args below meth c H locs cells slots Q (F0 m pc ls (.int i :: .ref a :: rest)) := by
  obtain ⟨hx, hb, -, hown, hts, hK, -⟩ := C
  rcases hk with hk | hk
  · obtain ⟨-, h1⟩ := (S.1.2.2.2 a).2.1 1 hk (by omega) (by omega)
    have hA := (hK.2.1 1 (by omega) (by omega)).1
    exact W.iald (v := .int (mI M a i.toNatClampNeg)) hx hb h1 (hA _ _) (fun q => by cases q) (by rw [arrV_size]; exact inR_vp hi) (by rw [arrV_read _ _ hi.2]; rfl) rfl rfl hd kk
  · obtain ⟨h1, h2, h3, h4⟩ := (S.1.2.2.2 a).1 hk
    obtain ⟨scr, g1, g2, g3, g4, g5⟩ := hK.2.2.1
    refine W.iald (v := .int (mI M a i.toNatClampNeg)) hx hb (by rw [h4, h1]; exact g1) g2 g3 (by rw [g4, ← h2]; exact inR_vp hi) (by rw [h3]; exact g5 _ (by rw [← h2]; exact hi.2)) rfl rfl hd kk
theorem s_lald (C : Cx G q p R s m args meth c) (S : Sd G q M H locs ls lv) {a : Nat} {i : Int32} (hk : (mK M a).1 = 2) (hi : inR i (mK M a).2) (hd : decode (mB q) pc = .ok (.laload, 1))
    (kk : W p l e R s m args below meth c H locs cells slots Q (F0 m (pc + 1) ls (.long (mJ M a i.toNatClampNeg) :: rest))) : W p l e R s m args below meth c H locs cells slots Q (F0 m pc ls (.int i :: .ref a :: rest)) := by
  obtain ⟨hx, hb, -, hown, hts, hK, -⟩ := C
  obtain ⟨-, h1⟩ := (S.1.2.2.2 a).2.1 2 hk (by omega) (by omega)
  have hA := (hK.2.1 2 (by omega) (by omega)).1
  exact W.lald (v := .long (mJ M a i.toNatClampNeg)) hx hb h1 (hA _ _) (fun q => by cases q) (by rw [arrV_size]; exact inR_vp hi) (by rw [arrV_read _ _ hi.2]; rfl) rfl rfl hd kk
theorem s_aald (C : Cx G q p R s m args meth c) (S : Sd G q M H locs ls lv) {a : Nat} {i : Int32} (hk : (mK M a).1 = 3 ∨ (mK M a).1 = 4) (hi : inR i (mK M a).2) (hd : decode (mB q) pc = .ok (.aaload, 1))
    (kk : W p l e R s m args below meth c H locs cells slots Q (F0 m (pc + 1) ls (va_rf (mP M a i.toNatClampNeg) :: rest))) : W p l e R s m args below meth c H locs cells slots Q (F0 m pc ls (.int i :: .ref a :: rest)) := by
  obtain ⟨hx, hb, -, hown, hts, hK, -⟩ := C
  rcases hk with hk | hk
  · obtain ⟨-, h1⟩ := (S.1.2.2.2 a).2.1 3 hk (by omega) (by omega)
    have hA := (hK.2.1 3 (by omega) (by omega)).1
    exact W.aald (v := va_rf (mP M a i.toNatClampNeg)) (ty := .object (AON 3)) hx hb h1 (hA _ _) rfl (fun q => by cases q) (by rw [arrV_size]; exact inR_vp hi) (by rw [arrV_read _ _ hi.2]; rfl) rfl rfl hd kk
  · obtain ⟨-, h1⟩ := (S.1.2.2.2 a).2.1 4 hk (by omega) (by omega)
    have hA := (hK.2.1 4 (by omega) (by omega)).1
    exact W.aald (v := va_rf (mP M a i.toNatClampNeg)) (ty := .object (AON 4)) hx hb h1 (hA _ _) rfl (fun q => by cases q) (by rw [arrV_size]; exact inR_vp hi) (by rw [arrV_read _ _ hi.2]; rfl) rfl rfl hd kk
theorem s_alen (C : Cx G q p R s m args meth c) (S : Sd G q M H locs ls lv) {a : Nat} (hk : (mK M a).1 = 1 ∨ (mK M a).1 = 5) (hd : decode (mB q) pc = .ok (.arraylength, 1))
    (kk : W p l e R s m args below meth c H locs cells slots Q (F0 m (pc + 1) ls (.int (Int32.ofNat (mK M a).2) :: rest))) : W p l e R s m args below meth c H locs cells slots Q (F0 m pc ls (.ref a :: rest)) := by
  obtain ⟨hx, hb, -, hown, hts, hK, -⟩ := C
  rcases hk with hk | hk
  · obtain ⟨-, h1⟩ := (S.1.2.2.2 a).2.1 1 hk (by omega) (by omega)
    have hA := (hK.2.1 1 (by omega) (by omega)).1
    exact W.alen (n := Int32.ofNat (mK M a).2) hx hb h1 (hA _ _) (by rw [arrV_size]) rfl rfl hd kk
  · obtain ⟨h1, h2, h3, h4⟩ := (S.1.2.2.2 a).1 hk
    obtain ⟨scr, g1, g2, g3, g4, g5⟩ := hK.2.2.1
    exact W.alen (n := Int32.ofNat (mK M a).2) hx hb (by rw [h4, h1]; exact g1) g2 (by rw [g4, h2]) rfl rfl hd kk
theorem s_iast (C : Cx G q p R s m args meth c) (S : Sd G q M H locs ls lv) {a : Nat} {i x : Int32} (hk : (mK M a).1 = 1) (hi : inR i (mK M a).2) (hd : decode (mB q) pc = .ok (.iastore, 1))
    (kk : ∀ (H1 : Heap) (locs1 : List Loc), Sd G q (sI M a (va_up (mI M a) i.toNatClampNeg x)) H1 locs1 ls lv → W p l e R s m args below meth c H1 locs1 cells slots Q (F0 m (pc + 1) ls rest)) : W p l e R s m args below meth c H locs cells slots Q (F0 m pc ls (.int x :: .int i :: .ref a :: rest)) := by
  obtain ⟨hx, hb, -, hown, hts, hK, -⟩ := C
  obtain ⟨hB, h1⟩ := (S.1.2.2.2 a).2.1 1 hk (by omega) (by omega)
  have hA := (hK.2.1 1 (by omega) (by omega)).1
  refine W.iast hx hb h1 (hA _ _) (fun q => by cases q) (by rw [arrV_size]; exact inR_vp hi) rfl rfl hd fun H1 e1 z o => ?_
  refine kk H1 _ (S.heap (S.1.sI z o ?_) hB)
  refine wAt_arr (k := 1) (n := (mK M a).2) (by omega) (by omega) (by rw [← hk]; rfl) hB ?_
  rw [e1, arrV_store, elI, elI, mI_sI, if_pos rfl]
  congr 2
  funext j
  unfold updV va_up
  split <;> rfl
theorem s_last (C : Cx G q p R s m args meth c) (S : Sd G q M H locs ls lv) {a : Nat} {i : Int32} {x : Int64} (hk : (mK M a).1 = 2) (hi : inR i (mK M a).2) (hd : decode (mB q) pc = .ok (.lastore, 1))
    (kk : ∀ (H1 : Heap) (locs1 : List Loc), Sd G q (sJ M a (va_up (mJ M a) i.toNatClampNeg x)) H1 locs1 ls lv → W p l e R s m args below meth c H1 locs1 cells slots Q (F0 m (pc + 1) ls rest)) : W p l e R s m args below meth c H locs cells slots Q (F0 m pc ls (.long x :: .int i :: .ref a :: rest)) := by
  obtain ⟨hx, hb, -, hown, hts, hK, -⟩ := C
  obtain ⟨hB, h1⟩ := (S.1.2.2.2 a).2.1 2 hk (by omega) (by omega)
  have hA := (hK.2.1 2 (by omega) (by omega)).1
  refine W.last hx hb h1 (hA _ _) (fun q => by cases q) (by rw [arrV_size]; exact inR_vp hi) rfl rfl hd fun H1 e1 z o => ?_
  refine kk H1 _ (S.heap (S.1.sJ z o ?_) hB)
  refine wAt_arr (k := 2) (n := (mK M a).2) (by omega) (by omega) (by rw [← hk]; rfl) hB ?_
  rw [e1, arrV_store, elJ, elJ, mJ_sJ, if_pos rfl]
  congr 2
  funext j
  unfold updV va_up
  split <;> rfl
theorem s_aast (C : Cx G q p R s m args meth c) (S : Sd G q M H locs ls lv) {a b k n : Nat} {i : Int32} (hk3 : k = 3 ∨ k = 4) (hk : mK M a = (k, n)) (hkb : mK M b = (10 + aoC k, 0)) (hi : inR i n) (hd : decode (mB q) pc = .ok (.aastore, 1))
    (kk : ∀ (H1 : Heap) (locs1 : List Loc), Sd G q (sP M a (va_up (mP M a) i.toNatClampNeg (some b))) H1 locs1 ls lv → W p l e R s m args below meth c H1 locs1 cells slots Q (F0 m (pc + 1) ls rest)) : W p l e R s m args below meth c H locs cells slots Q (F0 m pc ls (.ref b :: .int i :: .ref a :: rest)) := by
  obtain ⟨hx, hb, -, hown, hts, hK, -⟩ := C
  have hkr : 1 ≤ k ∧ k ≤ 4 := by omega
  obtain ⟨hB, h1⟩ := (S.1.2.2.2 a).2.1 k (by rw [hk]) hkr.1 hkr.2
  rw [hk] at h1
  have hA := hK.2.1 k hkr.1 hkr.2
  have hci : aoC k < nCl := by rcases hk3 with rfl | rfl <;> decide
  obtain ⟨-, cellV, g1, g2, g3, -⟩ := (S.1.2.2.2 b).2.2 (aoC k) hci (by rw [hkb])
  have hcls := (hK.1.1 (aoC k) _ (cls_at _ hci)).2
  have hnm : arTy k = .object (CN (aoC k)) := by rcases hk3 with rfl | rfl <;> rfl
  have hRA := hA.2
  rw [hnm] at hRA
  obtain ⟨kA, comp, k1, k2, k3, -⟩ := hRA
  have hcomp : comp = G.1.1 (aoC k) := Option.some.inj (k3.symm.trans hcls.1)
  subst hcomp
  have hasg := va_assign hcls
  obtain ⟨-, kC, hkC, -⟩ := hcls
  refine W.aast hx hb h1 (fun q h => by cases h) (fun h => by cases h) k1 k2 rfl hkC ⟨hi.1, by rw [arrV_size]; exact hi.2⟩ g1 (fun q h => by rw [g3] at h; cases h) (by rw [g2]; exact hkC) (by rw [g2]; exact hasg) rfl rfl hd fun H1 e1 z o => ?_
  refine kk H1 _ (S.heap (S.1.sP z o ?_) hB)
  refine wAt_arr (k := k) (n := n) hkr.1 hkr.2 (by rw [← hk]; rfl) hB ?_
  rw [e1, arrV_store, elP _ _ _ hk3, elP _ _ _ hk3, mP_sP, if_pos rfl]
  congr 2
  funext j
  unfold updV va_up
  split <;> rfl
end HP
end
section
/-! new cells, arraycopy, Object's constructor -/
theorem ncl_spec {own i ci : Nat} (h : ncl own i = some ci) : Cond.classLink (CN own) i (CN ci) ∈ lw_gd := by
  unfold ncl at h
  cases hf : nclT.find? (fun e => e.1 == own && e.2.1 == i) with
  | none => rw [hf] at h; cases h
  | some e =>
    rw [hf] at h
    cases h
    have h1 := List.find?_some hf
    simp only [Bool.and_eq_true, beq_iff_eq] at h1
    obtain ⟨rfl, rfl⟩ := h1
    exact hasW_in (List.all_eq_true.mp nclA e (List.mem_of_find?_eq_some hf))
theorem cst_spec {own i : Nat} {x : Int64} (h : cst own i = some x) : Cond.constantLong (CN own) i x ∈ lw_gd := by
  unfold cst at h
  cases hf : cstT.find? (fun e => e.1 == own && e.2.1 == i) with
  | none => rw [hf] at h; cases h
  | some e =>
    rw [hf] at h
    cases h
    have h1 := List.find?_some hf
    simp only [Bool.and_eq_true, beq_iff_eq] at h1
    obtain ⟨rfl, rfl⟩ := h1
    exact hasW_in (List.all_eq_true.mp cstA e (List.mem_of_find?_eq_some hf))
theorem obj_spec {own i : Nat} (h : isObj own i = true) : Cond.methodLink (CN own) i objectInit ∈ lw_gd := by
  obtain ⟨e, he, h1⟩ := List.any_eq_true.mp h
  simp only [Bool.and_eq_true, beq_iff_eq] at h1
  obtain ⟨rfl, rfl⟩ := h1
  exact hasW_in (List.all_eq_true.mp objA e he)
theorem cpy_spec {own i : Nat} (h : isCpy own i = true) : Cond.methodLink (CN own) i arraycopyName ∈ lw_gd := by
  obtain ⟨e, he, h1⟩ := List.any_eq_true.mp h
  simp only [Bool.and_eq_true, beq_iff_eq] at h1
  obtain ⟨rfl, rfl⟩ := h1
  exact hasW_in (List.all_eq_true.mp cpyA e he)
theorem nn_clamp {z : Int32} (hz : ¬ z < 0) : z.toInt = (z.toNatClampNeg : Int) := by
  have hz0 : (0 : Int) ≤ z.toInt := by
    have := Int32.not_lt.mp hz
    simpa using Int32.le_iff_toInt_le.mp this
  show z.toInt = ((z.toInt.toNat : Nat) : Int)
  omega
theorem le_clamp {z : Int32} (h : z ≤ 100000) : z.toNatClampNeg ≤ 100000 := by
  have := Int32.le_iff_toInt_le.mp h
  have e : (100000 : Int32).toInt = 100000 := by decide
  show z.toInt.toNat ≤ 100000
  omega
section CL
variable {p : Program} {l : Launch} {e : Env} {R : Room} {s : State} {m : MethodId} {args : Array Value} {below : List Frame} {meth : Method} {c : Code} {H : Heap} {locs : List Loc} {cells slots : Nat} {Q : State → Prop}
variable {G : GT} {q : Nat} {M : SM} {pc : Nat} {ls : Array Slot} {lv : List (Option Value)} {rest : List Value}
theorem s_new (C : Cx G q p R s m args meth c) (S : Sd G q M H locs ls lv) {i ci : Nat} (hf : ncl (ow q) i = some ci) (hci : ci < nCl) (hcells : cells + 1 ≤ R.cells) (hslots : slots + NN ci ≤ R.slots) (hd : decode (mB q) pc = .ok (.new i, 3))
    (kk : ∀ H1 : Heap, Sd G q (nw M (10 + ci, 0) (NN ci)) H1 locs ls lv → W p l e R s m args below meth c H1 locs (cells + 1) (slots + NN ci) Q (F0 m (pc + 3) ls (.ref (mS M) :: rest))) : W p l e R s m args below meth c H locs cells slots Q (F0 m pc ls rest) := by
  obtain ⟨hx, hb, -, hown, hts, hK, -⟩ := C
  have hKn := hK.1.1 ci _ (cls_at ci hci)
  have hi := List.all_eq_true.mp insA ci (List.mem_range.mpr hci)
  rw [Bool.and_eq_true] at hi
  refine W.newcK hx hb hown (hts _ (ncl_spec hf)) (hts _ (hasW_in hi.1)) (hts _ (hasW_in hi.2)) rfl hd hcells hslots hKn.2.1 S.1.1 fun H1 kC hkC e1 z1 o1 => ?_
  refine kk H1 ⟨S.1.push z1 (fun b hb => o1 b hb) ?_, S.2⟩
  refine wAt_obj hci (mK_nw0 _ _ _) S.1.2.1 ((u_born (tT ci) hts (lay_in hci) hKn hkC e1 (fun k hk => (ty_ok hci hk).1)).to fun k hk => ?_)
  rw [(ty_ok hci hk).2.2]
  unfold fv
  rw [mI_nw0, mJ_nw0, mP_nw0]
  generalize fT ci k = z
  match z with
  | 0 => rfl
  | 1 => rfl
  | 2 => rfl
  | n + 3 => rfl
theorem s_newI (C : Cx G q p R s m args meth c) (S : Sd G q M H locs ls lv) {n : Int32} (h0 : 0 ≤ n) (h1 : n ≤ 100000) (hcells : cells + 1 ≤ R.cells) (hslots : slots + n.toNatClampNeg ≤ R.slots) (hd : decode (mB q) pc = .ok (.newarray .int, 2))
    (kk : ∀ H1 : Heap, Sd G q (nw M (1, n.toNatClampNeg) n.toNatClampNeg) H1 locs ls lv → W p l e R s m args below meth c H1 locs (cells + 1) (slots + n.toNatClampNeg) Q (F0 m (pc + 2) ls (.ref (mS M) :: rest))) : W p l e R s m args below meth c H locs cells slots Q (F0 m pc ls (.int n :: rest)) := by
  obtain ⟨hx, hb, -, hown, hts, hK, -⟩ := C
  have hc := le_clamp h1
  have ha := arcA
  rw [Bool.and_eq_true] at ha
  refine va_newaK (atype := .int) hx hb (hts _ (hasW_in ha.1)) rfl hd rfl (Int32.not_lt.mpr h0) rfl (by show n.toNatClampNeg * 4 ≤ _; omega) hcells hslots S.1.1 fun H1 cA e1 z1 o1 hAr hNm => ?_
  have hcA : cA = gR G 1 := Option.some.inj (hNm.symm.trans (hK.2.1 1 (by omega) (by omega)).2)
  subst hcA
  refine kk H1 ⟨S.1.push z1 (fun b hb => o1 b hb) (wAt_arr (k := 1) (n := n.toNatClampNeg) (by omega) (by omega) (mK_nw0 _ _ _) S.1.2.1 ?_), S.2⟩
  rw [e1, elI, mI_nw0]
  rfl
theorem s_newJ (C : Cx G q p R s m args meth c) (S : Sd G q M H locs ls lv) {n : Int32} (h0 : 0 ≤ n) (h1 : n ≤ 100000) (hcells : cells + 1 ≤ R.cells) (hslots : slots + n.toNatClampNeg ≤ R.slots) (hd : decode (mB q) pc = .ok (.newarray .long, 2))
    (kk : ∀ H1 : Heap, Sd G q (nw M (2, n.toNatClampNeg) n.toNatClampNeg) H1 locs ls lv → W p l e R s m args below meth c H1 locs (cells + 1) (slots + n.toNatClampNeg) Q (F0 m (pc + 2) ls (.ref (mS M) :: rest))) : W p l e R s m args below meth c H locs cells slots Q (F0 m pc ls (.int n :: rest)) := by
  obtain ⟨hx, hb, -, hown, hts, hK, -⟩ := C
  have hc := le_clamp h1
  have ha := arcA
  rw [Bool.and_eq_true] at ha
  refine va_newaK (atype := .long) hx hb (hts _ (hasW_in ha.2)) rfl hd rfl (Int32.not_lt.mpr h0) rfl (by show n.toNatClampNeg * 8 ≤ _; omega) hcells hslots S.1.1 fun H1 cA e1 z1 o1 hAr hNm => ?_
  have hcA : cA = gR G 2 := Option.some.inj (hNm.symm.trans (hK.2.1 2 (by omega) (by omega)).2)
  subst hcA
  refine kk H1 ⟨S.1.push z1 (fun b hb => o1 b hb) (wAt_arr (k := 2) (n := n.toNatClampNeg) (by omega) (by omega) (mK_nw0 _ _ _) S.1.2.1 ?_), S.2⟩
  rw [e1, elJ, mJ_nw0]
  rfl
theorem s_newP (C : Cx G q p R s m args meth c) (S : Sd G q M H locs ls lv) {n : Int32} {i k : Nat} (hk : k = 3 ∨ k = 4) (hf : ncl (ow q) i = some (aoC k)) (h0 : 0 ≤ n) (h1 : n ≤ 100000) (hcells : cells + 1 ≤ R.cells) (hslots : slots + n.toNatClampNeg ≤ R.slots) (hd : decode (mB q) pc = .ok (.anewarray i, 3))
    (kk : ∀ H1 : Heap, Sd G q (nw M (k, n.toNatClampNeg) n.toNatClampNeg) H1 locs ls lv → W p l e R s m args below meth c H1 locs (cells + 1) (slots + n.toNatClampNeg) Q (F0 m (pc + 3) ls (.ref (mS M) :: rest))) : W p l e R s m args below meth c H locs cells slots Q (F0 m pc ls (.int n :: rest)) := by
  obtain ⟨hx, hb, -, hown, hts, hK, -⟩ := C
  have hc := le_clamp h1
  have hAO : va_AO (CN (aoC k)) s := hk.elim (fun z => by rw [z]; exact hK.2.2.2.2.1) (fun z => by rw [z]; exact hK.2.2.2.2.2)
  refine W.anew hx hb hown (hts _ (ncl_spec hf)) (va_AO.use hAO) rfl hd rfl (Int32.not_lt.mpr h0) (by omega) hcells hslots fun cA kA comp f1 f2 f3 f4 => ?_
  have hRA := (hK.2.1 k (by omega) (by omega)).2
  have hnm : arTy k = .object (CN (aoC k)) := by rcases hk with rfl | rfl <;> rfl
  rw [hnm] at hRA
  obtain ⟨kA', comp', k1, k2, k3, k4⟩ := hRA
  have hcA : cA = gR G k := Option.some.inj (f1.symm.trans k4)
  subst hcA
  rw [S.1.1]
  refine kk _ ⟨S.1.push (by rw [Array.size_push, S.1.1]) (fun b hb => by rw [Array.getElem?_push, if_neg (by rw [S.1.1]; omega)]) (wAt_arr (k := k) (n := n.toNatClampNeg) (by omega) (by omega) (mK_nw0 _ _ _) S.1.2.1 ?_), S.2⟩
  rw [← S.1.1, Array.getElem?_push_size, arrV_new, S.1.1, elP _ _ _ hk, mP_nw0]
  rfl
theorem s_cpy (C : Cx G q p R s m args meth c) (S : Sd G q M H locs ls lv) (hls : ls.size = mL q) {i a a0 k : Nat} {sp dp0 n : Int32} (hk : k = 1 ∨ k = 2) (hka : (mK M a).1 = k) (hkb : (mK M a0).1 = k) (hf : isCpy (ow q) i = true)
    (h1 : ¬ sp < 0) (h2 : ¬ dp0 < 0) (h3 : ¬ n < 0) (h4 : sp.toNatClampNeg + n.toNatClampNeg ≤ (mK M a0).2) (h5 : dp0.toNatClampNeg + n.toNatClampNeg ≤ (mK M a).2)
    (hr : catS rest ≤ 8) (hdp : 1 ≤ dp q) (hd : decode (mB q) pc = .ok (.invokestatic i, 3))
    (kk : ∀ (H1 : Heap) (locs1 : List Loc), gB G ≤ a → (∀ x ∈ locs1, gB G ≤ x.base) → H1.size = H.size → (∀ b, b ≠ a → H1[b]? = H[b]?) → H1[a]? = some (arrV (gR G k) (mK M a).2 (fun j => if dp0.toNatClampNeg ≤ j ∧ j < dp0.toNatClampNeg + n.toNatClampNeg then elV M a0 k (sp.toNatClampNeg + (j - dp0.toNatClampNeg)) else elV M a k j)) → W p l e R s m args below meth c H1 locs1 cells slots Q (F0 m (pc + 3) ls rest)) : W p l e R s m args below meth c H locs cells slots Q (F0 m pc ls (.int n :: .int dp0 :: .ref a :: .int sp :: .ref a0 :: rest)) := by
  obtain ⟨hx, hb, hml, hown, hts, hK, -, hfr, hlo⟩ := C
  have hkr : 1 ≤ k ∧ k ≤ 4 := by omega
  obtain ⟨hB, hc1⟩ := (S.1.2.2.2 a).2.1 k hka hkr.1 hkr.2
  obtain ⟨-, hc0⟩ := (S.1.2.2.2 a0).2.1 k hkb hkr.1 hkr.2
  obtain ⟨-, k0, hk0, cm0, hkk0⟩ := (hK.2.1 k hkr.1 hkr.2).1 0 (fun _ => .null)
  have hc := cpyB
  simp only [Bool.and_eq_true] at hc
  have hfit : ∀ j, fits (arTy k) (elV M a0 k j) = true := fun j => by rcases hk with rfl | rfl <;> rfl
  have hrk : refKind (arTy k) = false := by rcases hk with rfl | rfl <;> rfl
  intro T hT X
  obtain ⟨vm', X', step⟩ := X.arraycopy hx hown (hts _ (cpy_spec hf)) (hts _ (hasW_in hc.2)) (hts _ (hasW_in hc.1.2)) (hts _ (hasW_in hc.1.1)) (src := a0) (dst := a) (cs := arrV (gR G k) (mK M a0).2 (elV M a0 k)) (cd := arrV (gR G k) (mK M a).2 (elV M a k)) (srcPos := sp) (destPos := dp0) (n := n) (by rw [hT]; exact hc0) (by rw [hT]; exact hc1)
    (fun _ h => by cases h) (fun _ h => by cases h) (fun h => by cases h) (fun h => by cases h) hk0 hk0 hkk0 hkk0 (by simp [hrk]) h1 h2 h3
    (by rw [nn_clamp h1, nn_clamp h3, arrV_size]; omega) (by rw [nn_clamp h2, nn_clamp h3, arrV_size]; omega)
    (fun vm₁ _ i hi => by
      have e : (arrV (gR G k) (mK M a0).2 (elV M a0 k)).slots.getD (sp.toNatClampNeg + i) .null = elV M a0 k (sp.toNatClampNeg + i) := by
        rw [Array.getD_eq_getD_getElem?, arrV_read _ _ (by omega)]
        rfl
      refine ⟨by rw [e]; exact hfit _, ?_⟩
      rw [e]
      rcases hk with rfl | rfl <;> exact trivial)
    (g := F0 m pc ls (.int n :: .int dp0 :: .ref a :: .int sp :: .ref a0 :: rest)) rfl (by rw [hml]; exact hls) (rest := rest) rfl (by rw [hb]; exact hd) (by omega) (by
      have e0 : nativeFrameWords "java/lang/System" "arraycopy" 5 = 7 := by decide +kernel
      rw [e0]
      show 2 * 0 + catS rest + (7 + 11) ≤ _
      omega)
  have e1 : copied (arrV (gR G k) (mK M a0).2 (elV M a0 k)) (arrV (gR G k) (mK M a).2 (elV M a k)) sp dp0 n = arrV (gR G k) (mK M a).2 (va_cpy (elV M a0 k) (elV M a k) sp.toNatClampNeg dp0.toNatClampNeg n.toNatClampNeg) := va_copied (fun z : Value => z) (gR G k) (gR G k) (elV M a0 k) (elV M a k) h4
  rw [e1] at X' step
  have hl : a < H.size := (Array.getElem?_eq_some_iff.mp hc1).1
  obtain ⟨t, a1, b1⟩ := kk (H.setIfInBounds a (arrV (gR G k) (mK M a).2 (va_cpy (elV M a0 k) (elV M a k) sp.toNatClampNeg dp0.toNatClampNeg n.toNatClampNeg))) _ hB (fun x hx' => by
      rcases List.mem_append.mp hx' with h | h
      · exact S.2.1 x h
      · obtain ⟨z, -, hz⟩ := List.mem_map.mp h
        rw [← hz]; exact hB) (by simp) (fun b hb => by simp [Array.getElem?_setIfInBounds, Ne.symm hb]) (by simp [Array.getElem?_setIfInBounds, hl]; rfl) _ (by rw [← hT]; rfl) X'
  exact ⟨t, step t a1, b1⟩
end CL
end
section
/-! one instruction that is no call: the machine goes as the small machine goes -/
theorem nx_inj {a a' : Nat} {b b' : List (Option Value)} {c c' : List Value} {d d' : SM} (h : nx a b c d = some (a', b', c', d')) : a' = a ∧ b' = b ∧ c' = c ∧ d' = d := by
  unfold nx at h
  simp only [Option.some.injEq, Prod.mk.injEq] at h
  exact ⟨h.1.symm, h.2.1.symm, h.2.2.1.symm, h.2.2.2.symm⟩
theorem nxj_inj {a a' : Nat} {j : Int} {b b' : List (Option Value)} {c c' : List Value} {d d' : SM} (h : nxj a j b c d = some (a', b', c', d')) : (a : Int) + j = (a' : Int) ∧ b' = b ∧ c' = c ∧ d' = d := by
  unfold nxj at h
  split at h
  · rename_i h0
    obtain ⟨rfl, h2⟩ := nx_inj h
    exact ⟨(Int.toNat_of_nonneg h0).symm, h2⟩
  · cases h
theorem len1 {i : Instr} {len k : Nat} (h : lenOK i len = true) (hk : lenOK i len = (len == k)) : len = k := by
  rw [hk, beq_iff_eq] at h
  exact h
section ST
variable {p : Program} {l : Launch} {e : Env} {R : Room} {s : State} {m : MethodId} {args : Array Value} {below : List Frame} {meth : Method} {c : Code} {H : Heap} {locs : List Loc} {Q : State → Prop}
variable {G : GT} {q : Nat} {M M' : SM} {pc pc' len S0 U0 : Nat} {ls : Array Slot} {lv lv' : List (Option Value)} {st st' : List Value}
/-- the road on -/
def Kk (G : GT) (q : Nat) (p : Program) (l : Launch) (e : Env) (R : Room) (s : State) (m : MethodId) (args : Array Value) (below : List Frame) (meth : Method) (c : Code) (Q : State → Prop) (S0 U0 pc' : Nat) (lv' : List (Option Value)) (st' : List Value) (M' : SM) : Prop :=
  ∀ (H' : Heap) (locs' : List Loc) (ls' : Array Slot), Sd G q M' H' locs' ls' lv' → W p l e R s m args below meth c H' locs' (mS M' - S0) (mU M' - U0) Q (F0 m pc' ls' st')
theorem st_iload_n {k : Fin 4} (C : Cx G q p R s m args meth c) (S : Sd G q M H locs ls lv) (hq : q < 177) (hS0 : S0 ≤ mS M) (hU0 : U0 ≤ mU M) (hc : mS M' ≤ R.cells + S0) (hu : mU M' ≤ R.slots + U0) (hd : decode (mB q) pc = .ok ((.iload_n k), len)) (hl : lenOK (.iload_n k) len = true) (h : stp (.iload_n k) q pc lv st M = some (pc', lv', st', M')) (kk : Kk G q p l e R s m args below meth c Q S0 U0 pc' lv' st' M') : W p l e R s m args below meth c H locs (mS M - S0) (mU M - U0) Q (F0 m pc ls st) := by
  obtain rfl : len = 1 := len1 hl rfl
  unfold stp at h
  dsimp only at h
  split at h
  · rename_i x hx
    obtain ⟨rfl, rfl, rfl, rfl⟩ := nx_inj h
    exact lv_iload_n C.1 C.2.1 hd rfl (lA_get S.2.2.1 hx (fun z => absurd (show (1 : Nat) = 2 from z) (by decide))) (kk H locs ls S)
  · cases h
theorem st_iload {k : Nat} (C : Cx G q p R s m args meth c) (S : Sd G q M H locs ls lv) (hq : q < 177) (hS0 : S0 ≤ mS M) (hU0 : U0 ≤ mU M) (hc : mS M' ≤ R.cells + S0) (hu : mU M' ≤ R.slots + U0) (hd : decode (mB q) pc = .ok ((.iload k), len)) (hl : lenOK (.iload k) len = true) (h : stp (.iload k) q pc lv st M = some (pc', lv', st', M')) (kk : Kk G q p l e R s m args below meth c Q S0 U0 pc' lv' st' M') : W p l e R s m args below meth c H locs (mS M - S0) (mU M - U0) Q (F0 m pc ls st) := by
  obtain rfl : len = 2 := len1 hl rfl
  unfold stp at h
  dsimp only at h
  split at h
  · rename_i x hx
    obtain ⟨rfl, rfl, rfl, rfl⟩ := nx_inj h
    exact lv_iload C.1 C.2.1 hd (lA_get S.2.2.1 hx (fun z => absurd (show (1 : Nat) = 2 from z) (by decide))) (kk H locs ls S)
  · cases h
theorem st_aload_n {k : Fin 4} (C : Cx G q p R s m args meth c) (S : Sd G q M H locs ls lv) (hq : q < 177) (hS0 : S0 ≤ mS M) (hU0 : U0 ≤ mU M) (hc : mS M' ≤ R.cells + S0) (hu : mU M' ≤ R.slots + U0) (hd : decode (mB q) pc = .ok ((.aload_n k), len)) (hl : lenOK (.aload_n k) len = true) (h : stp (.aload_n k) q pc lv st M = some (pc', lv', st', M')) (kk : Kk G q p l e R s m args below meth c Q S0 U0 pc' lv' st' M') : W p l e R s m args below meth c H locs (mS M - S0) (mU M - U0) Q (F0 m pc ls st) := by
  obtain rfl : len = 1 := len1 hl rfl
  unfold stp at h
  dsimp only at h
  split at h
  · rename_i x hx
    obtain ⟨rfl, rfl, rfl, rfl⟩ := nx_inj h
    exact lv_aload_n C.1 C.2.1 hd rfl (lA_get S.2.2.1 hx (fun z => absurd (show (1 : Nat) = 2 from z) (by decide))) (kk H locs ls S)
  · cases h
theorem st_aload {k : Nat} (C : Cx G q p R s m args meth c) (S : Sd G q M H locs ls lv) (hq : q < 177) (hS0 : S0 ≤ mS M) (hU0 : U0 ≤ mU M) (hc : mS M' ≤ R.cells + S0) (hu : mU M' ≤ R.slots + U0) (hd : decode (mB q) pc = .ok ((.aload k), len)) (hl : lenOK (.aload k) len = true) (h : stp (.aload k) q pc lv st M = some (pc', lv', st', M')) (kk : Kk G q p l e R s m args below meth c Q S0 U0 pc' lv' st' M') : W p l e R s m args below meth c H locs (mS M - S0) (mU M - U0) Q (F0 m pc ls st) := by
  obtain rfl : len = 2 := len1 hl rfl
  unfold stp at h
  dsimp only at h
  split at h
  · rename_i x hx
    obtain ⟨rfl, rfl, rfl, rfl⟩ := nx_inj h
    exact lv_aload C.1 C.2.1 hd (lA_get S.2.2.1 hx (fun z => absurd (show (1 : Nat) = 2 from z) (by decide))) (kk H locs ls S)
  · cases h
theorem st_lload_n {k : Fin 4} (C : Cx G q p R s m args meth c) (S : Sd G q M H locs ls lv) (hq : q < 177) (hS0 : S0 ≤ mS M) (hU0 : U0 ≤ mU M) (hc : mS M' ≤ R.cells + S0) (hu : mU M' ≤ R.slots + U0) (hd : decode (mB q) pc = .ok ((.lload_n k), len)) (hl : lenOK (.lload_n k) len = true) (h : stp (.lload_n k) q pc lv st M = some (pc', lv', st', M')) (kk : Kk G q p l e R s m args below meth c Q S0 U0 pc' lv' st' M') : W p l e R s m args below meth c H locs (mS M - S0) (mU M - U0) Q (F0 m pc ls st) := by
  obtain rfl : len = 1 := len1 hl rfl
  unfold stp at h
  dsimp only at h
  split at h
  · rename_i x hx hx2
    obtain ⟨rfl, rfl, rfl, rfl⟩ := nx_inj h
    exact lv_lload_n C.1 C.2.1 hd rfl (lA_get S.2.2.1 hx (fun _ => hx2)) (kk H locs ls S)
  · cases h
theorem st_lload {k : Nat} (C : Cx G q p R s m args meth c) (S : Sd G q M H locs ls lv) (hq : q < 177) (hS0 : S0 ≤ mS M) (hU0 : U0 ≤ mU M) (hc : mS M' ≤ R.cells + S0) (hu : mU M' ≤ R.slots + U0) (hd : decode (mB q) pc = .ok ((.lload k), len)) (hl : lenOK (.lload k) len = true) (h : stp (.lload k) q pc lv st M = some (pc', lv', st', M')) (kk : Kk G q p l e R s m args below meth c Q S0 U0 pc' lv' st' M') : W p l e R s m args below meth c H locs (mS M - S0) (mU M - U0) Q (F0 m pc ls st) := by
  obtain rfl : len = 2 := len1 hl rfl
  unfold stp at h
  dsimp only at h
  split at h
  · rename_i x hx hx2
    obtain ⟨rfl, rfl, rfl, rfl⟩ := nx_inj h
    exact lv_lload C.1 C.2.1 hd (lA_get S.2.2.1 hx (fun _ => hx2)) (kk H locs ls S)
  · cases h
theorem st_istore_n {k : Fin 4} (C : Cx G q p R s m args meth c) (S : Sd G q M H locs ls lv) (hq : q < 177) (hS0 : S0 ≤ mS M) (hU0 : U0 ≤ mU M) (hc : mS M' ≤ R.cells + S0) (hu : mU M' ≤ R.slots + U0) (hd : decode (mB q) pc = .ok ((.istore_n k), len)) (hl : lenOK (.istore_n k) len = true) (h : stp (.istore_n k) q pc lv st M = some (pc', lv', st', M')) (kk : Kk G q p l e R s m args below meth c Q S0 U0 pc' lv' st' M') : W p l e R s m args below meth c H locs (mS M - S0) (mU M - U0) Q (F0 m pc ls st) := by
  obtain rfl : len = 1 := len1 hl rfl
  unfold stp at h
  dsimp only at h
  split at h
  · split at h
    · rename_i x r hlt
      obtain ⟨rfl, rfl, rfl, rfl⟩ := nx_inj h
      exact lv_istore_n C.1 C.2.1 hd rfl S.2.2.1 (by rw [← S.2.2.2]; exact hlt) rfl (fun ls' hl' => kk H locs ls' ⟨S.1, S.2.1, lA_set1 hl' hlt, by rw [List.length_set]; exact S.2.2.2⟩)
    · cases h
  · cases h
theorem st_istore {k : Nat} (C : Cx G q p R s m args meth c) (S : Sd G q M H locs ls lv) (hq : q < 177) (hS0 : S0 ≤ mS M) (hU0 : U0 ≤ mU M) (hc : mS M' ≤ R.cells + S0) (hu : mU M' ≤ R.slots + U0) (hd : decode (mB q) pc = .ok ((.istore k), len)) (hl : lenOK (.istore k) len = true) (h : stp (.istore k) q pc lv st M = some (pc', lv', st', M')) (kk : Kk G q p l e R s m args below meth c Q S0 U0 pc' lv' st' M') : W p l e R s m args below meth c H locs (mS M - S0) (mU M - U0) Q (F0 m pc ls st) := by
  obtain rfl : len = 2 := len1 hl rfl
  unfold stp at h
  dsimp only at h
  split at h
  · split at h
    · rename_i x r hlt
      obtain ⟨rfl, rfl, rfl, rfl⟩ := nx_inj h
      exact lv_istore C.1 C.2.1 hd S.2.2.1 (by rw [← S.2.2.2]; exact hlt) rfl (fun ls' hl' => kk H locs ls' ⟨S.1, S.2.1, lA_set1 hl' hlt, by rw [List.length_set]; exact S.2.2.2⟩)
    · cases h
  · cases h
theorem st_astore_n {k : Fin 4} (C : Cx G q p R s m args meth c) (S : Sd G q M H locs ls lv) (hq : q < 177) (hS0 : S0 ≤ mS M) (hU0 : U0 ≤ mU M) (hc : mS M' ≤ R.cells + S0) (hu : mU M' ≤ R.slots + U0) (hd : decode (mB q) pc = .ok ((.astore_n k), len)) (hl : lenOK (.astore_n k) len = true) (h : stp (.astore_n k) q pc lv st M = some (pc', lv', st', M')) (kk : Kk G q p l e R s m args below meth c Q S0 U0 pc' lv' st' M') : W p l e R s m args below meth c H locs (mS M - S0) (mU M - U0) Q (F0 m pc ls st) := by
  obtain rfl : len = 1 := len1 hl rfl
  unfold stp at h
  dsimp only at h
  split at h
  · split at h
    · rename_i x r hlt
      obtain ⟨rfl, rfl, rfl, rfl⟩ := nx_inj h
      exact lv_astore_n C.1 C.2.1 hd rfl S.2.2.1 (by rw [← S.2.2.2]; exact hlt) rfl (fun ls' hl' => kk H locs ls' ⟨S.1, S.2.1, lA_set1 hl' hlt, by rw [List.length_set]; exact S.2.2.2⟩)
    · cases h
  · cases h
theorem st_astore {k : Nat} (C : Cx G q p R s m args meth c) (S : Sd G q M H locs ls lv) (hq : q < 177) (hS0 : S0 ≤ mS M) (hU0 : U0 ≤ mU M) (hc : mS M' ≤ R.cells + S0) (hu : mU M' ≤ R.slots + U0) (hd : decode (mB q) pc = .ok ((.astore k), len)) (hl : lenOK (.astore k) len = true) (h : stp (.astore k) q pc lv st M = some (pc', lv', st', M')) (kk : Kk G q p l e R s m args below meth c Q S0 U0 pc' lv' st' M') : W p l e R s m args below meth c H locs (mS M - S0) (mU M - U0) Q (F0 m pc ls st) := by
  obtain rfl : len = 2 := len1 hl rfl
  unfold stp at h
  dsimp only at h
  split at h
  · split at h
    · rename_i x r hlt
      obtain ⟨rfl, rfl, rfl, rfl⟩ := nx_inj h
      exact lv_astore C.1 C.2.1 hd S.2.2.1 (by rw [← S.2.2.2]; exact hlt) rfl (fun ls' hl' => kk H locs ls' ⟨S.1, S.2.1, lA_set1 hl' hlt, by rw [List.length_set]; exact S.2.2.2⟩)
    · cases h
  · cases h
theorem st_lstore_n {k : Fin 4} (C : Cx G q p R s m args meth c) (S : Sd G q M H locs ls lv) (hq : q < 177) (hS0 : S0 ≤ mS M) (hU0 : U0 ≤ mU M) (hc : mS M' ≤ R.cells + S0) (hu : mU M' ≤ R.slots + U0) (hd : decode (mB q) pc = .ok ((.lstore_n k), len)) (hl : lenOK (.lstore_n k) len = true) (h : stp (.lstore_n k) q pc lv st M = some (pc', lv', st', M')) (kk : Kk G q p l e R s m args below meth c Q S0 U0 pc' lv' st' M') : W p l e R s m args below meth c H locs (mS M - S0) (mU M - U0) Q (F0 m pc ls st) := by
  obtain rfl : len = 1 := len1 hl rfl
  unfold stp at h
  dsimp only at h
  split at h
  · split at h
    · rename_i x r hlt
      obtain ⟨rfl, rfl, rfl, rfl⟩ := nx_inj h
      exact lv_lstore_n C.1 C.2.1 hd rfl S.2.2.1 (by rw [← S.2.2.2]; exact hlt) rfl (fun ls' hl' => kk H locs ls' ⟨S.1, S.2.1, lA_set2 hl' hlt, by rw [List.length_set, List.length_set]; exact S.2.2.2⟩)
    · cases h
  · cases h
theorem st_lstore {k : Nat} (C : Cx G q p R s m args meth c) (S : Sd G q M H locs ls lv) (hq : q < 177) (hS0 : S0 ≤ mS M) (hU0 : U0 ≤ mU M) (hc : mS M' ≤ R.cells + S0) (hu : mU M' ≤ R.slots + U0) (hd : decode (mB q) pc = .ok ((.lstore k), len)) (hl : lenOK (.lstore k) len = true) (h : stp (.lstore k) q pc lv st M = some (pc', lv', st', M')) (kk : Kk G q p l e R s m args below meth c Q S0 U0 pc' lv' st' M') : W p l e R s m args below meth c H locs (mS M - S0) (mU M - U0) Q (F0 m pc ls st) := by
  obtain rfl : len = 2 := len1 hl rfl
  unfold stp at h
  dsimp only at h
  split at h
  · split at h
    · rename_i x r hlt
      obtain ⟨rfl, rfl, rfl, rfl⟩ := nx_inj h
      exact lv_lstore C.1 C.2.1 hd S.2.2.1 (by rw [← S.2.2.2]; exact hlt) rfl (fun ls' hl' => kk H locs ls' ⟨S.1, S.2.1, lA_set2 hl' hlt, by rw [List.length_set, List.length_set]; exact S.2.2.2⟩)
    · cases h
  · cases h
theorem st_iinc {k : Nat} {n : Int} (C : Cx G q p R s m args meth c) (S : Sd G q M H locs ls lv) (hq : q < 177) (hS0 : S0 ≤ mS M) (hU0 : U0 ≤ mU M) (hc : mS M' ≤ R.cells + S0) (hu : mU M' ≤ R.slots + U0) (hd : decode (mB q) pc = .ok ((.iinc k n), len)) (hl : lenOK (.iinc k n) len = true) (h : stp (.iinc k n) q pc lv st M = some (pc', lv', st', M')) (kk : Kk G q p l e R s m args below meth c Q S0 U0 pc' lv' st' M') : W p l e R s m args below meth c H locs (mS M - S0) (mU M - U0) Q (F0 m pc ls st) := by
  obtain rfl : len = 3 := len1 hl rfl
  unfold stp at h
  dsimp only at h
  split at h
  · rename_i x hx
    obtain ⟨rfl, rfl, rfl, rfl⟩ := nx_inj h
    have hlt : k < lv.length := (List.getElem?_eq_some_iff.mp hx).1
    obtain ⟨j, hj⟩ := List.getElem?_of_mem (lA_mem.mpr ⟨hx, (fun z => absurd (show (1 : Nat) = 2 from z) (by decide))⟩)
    exact lv_iinc C.1 C.2.1 hd S.2.2.1 hj rfl (by rw [← S.2.2.2]; exact hlt) rfl (fun ls' hl' => kk H locs ls' ⟨S.1, S.2.1, lA_set1 hl' hlt, by rw [List.length_set]; exact S.2.2.2⟩)
  · cases h
theorem st_iconst {n : Int} (C : Cx G q p R s m args meth c) (S : Sd G q M H locs ls lv) (hq : q < 177) (hS0 : S0 ≤ mS M) (hU0 : U0 ≤ mU M) (hc : mS M' ≤ R.cells + S0) (hu : mU M' ≤ R.slots + U0) (hd : decode (mB q) pc = .ok ((.iconst n), len)) (hl : lenOK (.iconst n) len = true) (h : stp (.iconst n) q pc lv st M = some (pc', lv', st', M')) (kk : Kk G q p l e R s m args below meth c Q S0 U0 pc' lv' st' M') : W p l e R s m args below meth c H locs (mS M - S0) (mU M - U0) Q (F0 m pc ls st) := by
  obtain rfl : len = 1 := len1 hl rfl
  unfold stp at h
  dsimp only at h
  obtain ⟨rfl, rfl, rfl, rfl⟩ := nx_inj h
  exact lv_iconst C.1 C.2.1 hd rfl (kk H locs ls S)
theorem st_bipush {n : Int} (C : Cx G q p R s m args meth c) (S : Sd G q M H locs ls lv) (hq : q < 177) (hS0 : S0 ≤ mS M) (hU0 : U0 ≤ mU M) (hc : mS M' ≤ R.cells + S0) (hu : mU M' ≤ R.slots + U0) (hd : decode (mB q) pc = .ok ((.bipush n), len)) (hl : lenOK (.bipush n) len = true) (h : stp (.bipush n) q pc lv st M = some (pc', lv', st', M')) (kk : Kk G q p l e R s m args below meth c Q S0 U0 pc' lv' st' M') : W p l e R s m args below meth c H locs (mS M - S0) (mU M - U0) Q (F0 m pc ls st) := by
  obtain rfl : len = 2 := len1 hl rfl
  unfold stp at h
  dsimp only at h
  obtain ⟨rfl, rfl, rfl, rfl⟩ := nx_inj h
  exact lv_bipush C.1 C.2.1 hd rfl (kk H locs ls S)
theorem st_sipush {n : Int} (C : Cx G q p R s m args meth c) (S : Sd G q M H locs ls lv) (hq : q < 177) (hS0 : S0 ≤ mS M) (hU0 : U0 ≤ mU M) (hc : mS M' ≤ R.cells + S0) (hu : mU M' ≤ R.slots + U0) (hd : decode (mB q) pc = .ok ((.sipush n), len)) (hl : lenOK (.sipush n) len = true) (h : stp (.sipush n) q pc lv st M = some (pc', lv', st', M')) (kk : Kk G q p l e R s m args below meth c Q S0 U0 pc' lv' st' M') : W p l e R s m args below meth c H locs (mS M - S0) (mU M - U0) Q (F0 m pc ls st) := by
  obtain rfl : len = 3 := len1 hl rfl
  unfold stp at h
  dsimp only at h
  obtain ⟨rfl, rfl, rfl, rfl⟩ := nx_inj h
  exact lv_sipush C.1 C.2.1 hd rfl (kk H locs ls S)
theorem st_lconst {n : Fin 2} (C : Cx G q p R s m args meth c) (S : Sd G q M H locs ls lv) (hq : q < 177) (hS0 : S0 ≤ mS M) (hU0 : U0 ≤ mU M) (hc : mS M' ≤ R.cells + S0) (hu : mU M' ≤ R.slots + U0) (hd : decode (mB q) pc = .ok ((.lconst n), len)) (hl : lenOK (.lconst n) len = true) (h : stp (.lconst n) q pc lv st M = some (pc', lv', st', M')) (kk : Kk G q p l e R s m args below meth c Q S0 U0 pc' lv' st' M') : W p l e R s m args below meth c H locs (mS M - S0) (mU M - U0) Q (F0 m pc ls st) := by
  obtain rfl : len = 1 := len1 hl rfl
  unfold stp at h
  dsimp only at h
  obtain ⟨rfl, rfl, rfl, rfl⟩ := nx_inj h
  exact lv_lconst C.1 C.2.1 hd rfl (kk H locs ls S)
theorem st_ldc2_w {i : Nat} (C : Cx G q p R s m args meth c) (S : Sd G q M H locs ls lv) (hq : q < 177) (hS0 : S0 ≤ mS M) (hU0 : U0 ≤ mU M) (hc : mS M' ≤ R.cells + S0) (hu : mU M' ≤ R.slots + U0) (hd : decode (mB q) pc = .ok ((.ldc2_w i), len)) (hl : lenOK (.ldc2_w i) len = true) (h : stp (.ldc2_w i) q pc lv st M = some (pc', lv', st', M')) (kk : Kk G q p l e R s m args below meth c Q S0 U0 pc' lv' st' M') : W p l e R s m args below meth c H locs (mS M - S0) (mU M - U0) Q (F0 m pc ls st) := by
  obtain rfl : len = 3 := len1 hl rfl
  unfold stp at h
  dsimp only at h
  split at h
  · rename_i x hx
    obtain ⟨rfl, rfl, rfl, rfl⟩ := nx_inj h
    exact lv_ldc2 C.1 C.2.1 C.2.2.2.1 (C.2.2.2.2.1 _ (cst_spec hx)) hd (kk H locs ls S)
  · cases h
theorem st_iadd  (C : Cx G q p R s m args meth c) (S : Sd G q M H locs ls lv) (hq : q < 177) (hS0 : S0 ≤ mS M) (hU0 : U0 ≤ mU M) (hc : mS M' ≤ R.cells + S0) (hu : mU M' ≤ R.slots + U0) (hd : decode (mB q) pc = .ok ((.iadd), len)) (hl : lenOK (.iadd) len = true) (h : stp (.iadd) q pc lv st M = some (pc', lv', st', M')) (kk : Kk G q p l e R s m args below meth c Q S0 U0 pc' lv' st' M') : W p l e R s m args below meth c H locs (mS M - S0) (mU M - U0) Q (F0 m pc ls st) := by
  obtain rfl : len = 1 := len1 hl rfl
  unfold stp at h
  dsimp only at h
  split at h
  · obtain ⟨rfl, rfl, rfl, rfl⟩ := nx_inj h
    exact lv_iadd C.1 C.2.1 hd (kk H locs ls S)
  · cases h
theorem st_isub  (C : Cx G q p R s m args meth c) (S : Sd G q M H locs ls lv) (hq : q < 177) (hS0 : S0 ≤ mS M) (hU0 : U0 ≤ mU M) (hc : mS M' ≤ R.cells + S0) (hu : mU M' ≤ R.slots + U0) (hd : decode (mB q) pc = .ok ((.isub), len)) (hl : lenOK (.isub) len = true) (h : stp (.isub) q pc lv st M = some (pc', lv', st', M')) (kk : Kk G q p l e R s m args below meth c Q S0 U0 pc' lv' st' M') : W p l e R s m args below meth c H locs (mS M - S0) (mU M - U0) Q (F0 m pc ls st) := by
  obtain rfl : len = 1 := len1 hl rfl
  unfold stp at h
  dsimp only at h
  split at h
  · obtain ⟨rfl, rfl, rfl, rfl⟩ := nx_inj h
    exact lv_isub C.1 C.2.1 hd (kk H locs ls S)
  · cases h
theorem st_imul  (C : Cx G q p R s m args meth c) (S : Sd G q M H locs ls lv) (hq : q < 177) (hS0 : S0 ≤ mS M) (hU0 : U0 ≤ mU M) (hc : mS M' ≤ R.cells + S0) (hu : mU M' ≤ R.slots + U0) (hd : decode (mB q) pc = .ok ((.imul), len)) (hl : lenOK (.imul) len = true) (h : stp (.imul) q pc lv st M = some (pc', lv', st', M')) (kk : Kk G q p l e R s m args below meth c Q S0 U0 pc' lv' st' M') : W p l e R s m args below meth c H locs (mS M - S0) (mU M - U0) Q (F0 m pc ls st) := by
  obtain rfl : len = 1 := len1 hl rfl
  unfold stp at h
  dsimp only at h
  split at h
  · obtain ⟨rfl, rfl, rfl, rfl⟩ := nx_inj h
    exact lv_imul C.1 C.2.1 hd (kk H locs ls S)
  · cases h
theorem st_iand  (C : Cx G q p R s m args meth c) (S : Sd G q M H locs ls lv) (hq : q < 177) (hS0 : S0 ≤ mS M) (hU0 : U0 ≤ mU M) (hc : mS M' ≤ R.cells + S0) (hu : mU M' ≤ R.slots + U0) (hd : decode (mB q) pc = .ok ((.iand), len)) (hl : lenOK (.iand) len = true) (h : stp (.iand) q pc lv st M = some (pc', lv', st', M')) (kk : Kk G q p l e R s m args below meth c Q S0 U0 pc' lv' st' M') : W p l e R s m args below meth c H locs (mS M - S0) (mU M - U0) Q (F0 m pc ls st) := by
  obtain rfl : len = 1 := len1 hl rfl
  unfold stp at h
  dsimp only at h
  split at h
  · obtain ⟨rfl, rfl, rfl, rfl⟩ := nx_inj h
    exact lv_iand C.1 C.2.1 hd (kk H locs ls S)
  · cases h
theorem st_ior  (C : Cx G q p R s m args meth c) (S : Sd G q M H locs ls lv) (hq : q < 177) (hS0 : S0 ≤ mS M) (hU0 : U0 ≤ mU M) (hc : mS M' ≤ R.cells + S0) (hu : mU M' ≤ R.slots + U0) (hd : decode (mB q) pc = .ok ((.ior), len)) (hl : lenOK (.ior) len = true) (h : stp (.ior) q pc lv st M = some (pc', lv', st', M')) (kk : Kk G q p l e R s m args below meth c Q S0 U0 pc' lv' st' M') : W p l e R s m args below meth c H locs (mS M - S0) (mU M - U0) Q (F0 m pc ls st) := by
  obtain rfl : len = 1 := len1 hl rfl
  unfold stp at h
  dsimp only at h
  split at h
  · obtain ⟨rfl, rfl, rfl, rfl⟩ := nx_inj h
    exact lv_ior C.1 C.2.1 hd (kk H locs ls S)
  · cases h
theorem st_ishl  (C : Cx G q p R s m args meth c) (S : Sd G q M H locs ls lv) (hq : q < 177) (hS0 : S0 ≤ mS M) (hU0 : U0 ≤ mU M) (hc : mS M' ≤ R.cells + S0) (hu : mU M' ≤ R.slots + U0) (hd : decode (mB q) pc = .ok ((.ishl), len)) (hl : lenOK (.ishl) len = true) (h : stp (.ishl) q pc lv st M = some (pc', lv', st', M')) (kk : Kk G q p l e R s m args below meth c Q S0 U0 pc' lv' st' M') : W p l e R s m args below meth c H locs (mS M - S0) (mU M - U0) Q (F0 m pc ls st) := by
  obtain rfl : len = 1 := len1 hl rfl
  unfold stp at h
  dsimp only at h
  split at h
  · obtain ⟨rfl, rfl, rfl, rfl⟩ := nx_inj h
    exact lv_ishl C.1 C.2.1 hd (kk H locs ls S)
  · cases h
theorem st_ladd  (C : Cx G q p R s m args meth c) (S : Sd G q M H locs ls lv) (hq : q < 177) (hS0 : S0 ≤ mS M) (hU0 : U0 ≤ mU M) (hc : mS M' ≤ R.cells + S0) (hu : mU M' ≤ R.slots + U0) (hd : decode (mB q) pc = .ok ((.ladd), len)) (hl : lenOK (.ladd) len = true) (h : stp (.ladd) q pc lv st M = some (pc', lv', st', M')) (kk : Kk G q p l e R s m args below meth c Q S0 U0 pc' lv' st' M') : W p l e R s m args below meth c H locs (mS M - S0) (mU M - U0) Q (F0 m pc ls st) := by
  obtain rfl : len = 1 := len1 hl rfl
  unfold stp at h
  dsimp only at h
  split at h
  · obtain ⟨rfl, rfl, rfl, rfl⟩ := nx_inj h
    exact lv_ladd C.1 C.2.1 hd (kk H locs ls S)
  · cases h
theorem st_lsub  (C : Cx G q p R s m args meth c) (S : Sd G q M H locs ls lv) (hq : q < 177) (hS0 : S0 ≤ mS M) (hU0 : U0 ≤ mU M) (hc : mS M' ≤ R.cells + S0) (hu : mU M' ≤ R.slots + U0) (hd : decode (mB q) pc = .ok ((.lsub), len)) (hl : lenOK (.lsub) len = true) (h : stp (.lsub) q pc lv st M = some (pc', lv', st', M')) (kk : Kk G q p l e R s m args below meth c Q S0 U0 pc' lv' st' M') : W p l e R s m args below meth c H locs (mS M - S0) (mU M - U0) Q (F0 m pc ls st) := by
  obtain rfl : len = 1 := len1 hl rfl
  unfold stp at h
  dsimp only at h
  split at h
  · obtain ⟨rfl, rfl, rfl, rfl⟩ := nx_inj h
    exact lv_lsub C.1 C.2.1 hd (kk H locs ls S)
  · cases h
theorem st_land  (C : Cx G q p R s m args meth c) (S : Sd G q M H locs ls lv) (hq : q < 177) (hS0 : S0 ≤ mS M) (hU0 : U0 ≤ mU M) (hc : mS M' ≤ R.cells + S0) (hu : mU M' ≤ R.slots + U0) (hd : decode (mB q) pc = .ok ((.land), len)) (hl : lenOK (.land) len = true) (h : stp (.land) q pc lv st M = some (pc', lv', st', M')) (kk : Kk G q p l e R s m args below meth c Q S0 U0 pc' lv' st' M') : W p l e R s m args below meth c H locs (mS M - S0) (mU M - U0) Q (F0 m pc ls st) := by
  obtain rfl : len = 1 := len1 hl rfl
  unfold stp at h
  dsimp only at h
  split at h
  · obtain ⟨rfl, rfl, rfl, rfl⟩ := nx_inj h
    exact lv_land C.1 C.2.1 hd (kk H locs ls S)
  · cases h
theorem st_lor  (C : Cx G q p R s m args meth c) (S : Sd G q M H locs ls lv) (hq : q < 177) (hS0 : S0 ≤ mS M) (hU0 : U0 ≤ mU M) (hc : mS M' ≤ R.cells + S0) (hu : mU M' ≤ R.slots + U0) (hd : decode (mB q) pc = .ok ((.lor), len)) (hl : lenOK (.lor) len = true) (h : stp (.lor) q pc lv st M = some (pc', lv', st', M')) (kk : Kk G q p l e R s m args below meth c Q S0 U0 pc' lv' st' M') : W p l e R s m args below meth c H locs (mS M - S0) (mU M - U0) Q (F0 m pc ls st) := by
  obtain rfl : len = 1 := len1 hl rfl
  unfold stp at h
  dsimp only at h
  split at h
  · obtain ⟨rfl, rfl, rfl, rfl⟩ := nx_inj h
    exact lv_lor C.1 C.2.1 hd (kk H locs ls S)
  · cases h
theorem st_lxor  (C : Cx G q p R s m args meth c) (S : Sd G q M H locs ls lv) (hq : q < 177) (hS0 : S0 ≤ mS M) (hU0 : U0 ≤ mU M) (hc : mS M' ≤ R.cells + S0) (hu : mU M' ≤ R.slots + U0) (hd : decode (mB q) pc = .ok ((.lxor), len)) (hl : lenOK (.lxor) len = true) (h : stp (.lxor) q pc lv st M = some (pc', lv', st', M')) (kk : Kk G q p l e R s m args below meth c Q S0 U0 pc' lv' st' M') : W p l e R s m args below meth c H locs (mS M - S0) (mU M - U0) Q (F0 m pc ls st) := by
  obtain rfl : len = 1 := len1 hl rfl
  unfold stp at h
  dsimp only at h
  split at h
  · obtain ⟨rfl, rfl, rfl, rfl⟩ := nx_inj h
    exact lv_lxor C.1 C.2.1 hd (kk H locs ls S)
  · cases h
theorem st_lshl  (C : Cx G q p R s m args meth c) (S : Sd G q M H locs ls lv) (hq : q < 177) (hS0 : S0 ≤ mS M) (hU0 : U0 ≤ mU M) (hc : mS M' ≤ R.cells + S0) (hu : mU M' ≤ R.slots + U0) (hd : decode (mB q) pc = .ok ((.lshl), len)) (hl : lenOK (.lshl) len = true) (h : stp (.lshl) q pc lv st M = some (pc', lv', st', M')) (kk : Kk G q p l e R s m args below meth c Q S0 U0 pc' lv' st' M') : W p l e R s m args below meth c H locs (mS M - S0) (mU M - U0) Q (F0 m pc ls st) := by
  obtain rfl : len = 1 := len1 hl rfl
  unfold stp at h
  dsimp only at h
  split at h
  · obtain ⟨rfl, rfl, rfl, rfl⟩ := nx_inj h
    exact lv_lshl C.1 C.2.1 hd rfl (kk H locs ls S)
  · cases h
theorem st_lshr  (C : Cx G q p R s m args meth c) (S : Sd G q M H locs ls lv) (hq : q < 177) (hS0 : S0 ≤ mS M) (hU0 : U0 ≤ mU M) (hc : mS M' ≤ R.cells + S0) (hu : mU M' ≤ R.slots + U0) (hd : decode (mB q) pc = .ok ((.lshr), len)) (hl : lenOK (.lshr) len = true) (h : stp (.lshr) q pc lv st M = some (pc', lv', st', M')) (kk : Kk G q p l e R s m args below meth c Q S0 U0 pc' lv' st' M') : W p l e R s m args below meth c H locs (mS M - S0) (mU M - U0) Q (F0 m pc ls st) := by
  obtain rfl : len = 1 := len1 hl rfl
  unfold stp at h
  dsimp only at h
  split at h
  · obtain ⟨rfl, rfl, rfl, rfl⟩ := nx_inj h
    exact lv_lshr C.1 C.2.1 hd rfl (kk H locs ls S)
  · cases h
theorem st_lushr  (C : Cx G q p R s m args meth c) (S : Sd G q M H locs ls lv) (hq : q < 177) (hS0 : S0 ≤ mS M) (hU0 : U0 ≤ mU M) (hc : mS M' ≤ R.cells + S0) (hu : mU M' ≤ R.slots + U0) (hd : decode (mB q) pc = .ok ((.lushr), len)) (hl : lenOK (.lushr) len = true) (h : stp (.lushr) q pc lv st M = some (pc', lv', st', M')) (kk : Kk G q p l e R s m args below meth c Q S0 U0 pc' lv' st' M') : W p l e R s m args below meth c H locs (mS M - S0) (mU M - U0) Q (F0 m pc ls st) := by
  obtain rfl : len = 1 := len1 hl rfl
  unfold stp at h
  dsimp only at h
  split at h
  · obtain ⟨rfl, rfl, rfl, rfl⟩ := nx_inj h
    exact lv_lushr C.1 C.2.1 hd rfl (kk H locs ls S)
  · cases h
theorem st_i2l  (C : Cx G q p R s m args meth c) (S : Sd G q M H locs ls lv) (hq : q < 177) (hS0 : S0 ≤ mS M) (hU0 : U0 ≤ mU M) (hc : mS M' ≤ R.cells + S0) (hu : mU M' ≤ R.slots + U0) (hd : decode (mB q) pc = .ok ((.i2l), len)) (hl : lenOK (.i2l) len = true) (h : stp (.i2l) q pc lv st M = some (pc', lv', st', M')) (kk : Kk G q p l e R s m args below meth c Q S0 U0 pc' lv' st' M') : W p l e R s m args below meth c H locs (mS M - S0) (mU M - U0) Q (F0 m pc ls st) := by
  obtain rfl : len = 1 := len1 hl rfl
  unfold stp at h
  dsimp only at h
  split at h
  · obtain ⟨rfl, rfl, rfl, rfl⟩ := nx_inj h
    exact lv_i2l C.1 C.2.1 hd rfl (kk H locs ls S)
  · cases h
theorem st_l2i  (C : Cx G q p R s m args meth c) (S : Sd G q M H locs ls lv) (hq : q < 177) (hS0 : S0 ≤ mS M) (hU0 : U0 ≤ mU M) (hc : mS M' ≤ R.cells + S0) (hu : mU M' ≤ R.slots + U0) (hd : decode (mB q) pc = .ok ((.l2i), len)) (hl : lenOK (.l2i) len = true) (h : stp (.l2i) q pc lv st M = some (pc', lv', st', M')) (kk : Kk G q p l e R s m args below meth c Q S0 U0 pc' lv' st' M') : W p l e R s m args below meth c H locs (mS M - S0) (mU M - U0) Q (F0 m pc ls st) := by
  obtain rfl : len = 1 := len1 hl rfl
  unfold stp at h
  dsimp only at h
  split at h
  · obtain ⟨rfl, rfl, rfl, rfl⟩ := nx_inj h
    exact lv_l2i C.1 C.2.1 hd rfl (kk H locs ls S)
  · cases h
theorem st_lcmp  (C : Cx G q p R s m args meth c) (S : Sd G q M H locs ls lv) (hq : q < 177) (hS0 : S0 ≤ mS M) (hU0 : U0 ≤ mU M) (hc : mS M' ≤ R.cells + S0) (hu : mU M' ≤ R.slots + U0) (hd : decode (mB q) pc = .ok ((.lcmp), len)) (hl : lenOK (.lcmp) len = true) (h : stp (.lcmp) q pc lv st M = some (pc', lv', st', M')) (kk : Kk G q p l e R s m args below meth c Q S0 U0 pc' lv' st' M') : W p l e R s m args below meth c H locs (mS M - S0) (mU M - U0) Q (F0 m pc ls st) := by
  obtain rfl : len = 1 := len1 hl rfl
  unfold stp at h
  dsimp only at h
  split at h
  · obtain ⟨rfl, rfl, rfl, rfl⟩ := nx_inj h
    exact W.lcmp C.1 C.2.1 hd (kk H locs ls S)
  · cases h
theorem st_idiv  (C : Cx G q p R s m args meth c) (S : Sd G q M H locs ls lv) (hq : q < 177) (hS0 : S0 ≤ mS M) (hU0 : U0 ≤ mU M) (hc : mS M' ≤ R.cells + S0) (hu : mU M' ≤ R.slots + U0) (hd : decode (mB q) pc = .ok ((.idiv), len)) (hl : lenOK (.idiv) len = true) (h : stp (.idiv) q pc lv st M = some (pc', lv', st', M')) (kk : Kk G q p l e R s m args below meth c Q S0 U0 pc' lv' st' M') : W p l e R s m args below meth c H locs (mS M - S0) (mU M - U0) Q (F0 m pc ls st) := by
  obtain rfl : len = 1 := len1 hl rfl
  unfold stp at h
  dsimp only at h
  split at h
  · split at h
    · cases h
    · rename_i hn
      obtain ⟨rfl, rfl, rfl, rfl⟩ := nx_inj h
      exact lv_idiv C.1 C.2.1 hd hn (kk H locs ls S)
  · cases h
theorem st_dup  (C : Cx G q p R s m args meth c) (S : Sd G q M H locs ls lv) (hq : q < 177) (hS0 : S0 ≤ mS M) (hU0 : U0 ≤ mU M) (hc : mS M' ≤ R.cells + S0) (hu : mU M' ≤ R.slots + U0) (hd : decode (mB q) pc = .ok ((.dup), len)) (hl : lenOK (.dup) len = true) (h : stp (.dup) q pc lv st M = some (pc', lv', st', M')) (kk : Kk G q p l e R s m args below meth c Q S0 U0 pc' lv' st' M') : W p l e R s m args below meth c H locs (mS M - S0) (mU M - U0) Q (F0 m pc ls st) := by
  obtain rfl : len = 1 := len1 hl rfl
  unfold stp at h
  dsimp only at h
  split at h
  · split at h
    · rename_i hn
      obtain ⟨rfl, rfl, rfl, rfl⟩ := nx_inj h
      exact lv_dup C.1 C.2.1 hd hn (kk H locs ls S)
    · cases h
  · cases h
theorem st_pop  (C : Cx G q p R s m args meth c) (S : Sd G q M H locs ls lv) (hq : q < 177) (hS0 : S0 ≤ mS M) (hU0 : U0 ≤ mU M) (hc : mS M' ≤ R.cells + S0) (hu : mU M' ≤ R.slots + U0) (hd : decode (mB q) pc = .ok ((.pop), len)) (hl : lenOK (.pop) len = true) (h : stp (.pop) q pc lv st M = some (pc', lv', st', M')) (kk : Kk G q p l e R s m args below meth c Q S0 U0 pc' lv' st' M') : W p l e R s m args below meth c H locs (mS M - S0) (mU M - U0) Q (F0 m pc ls st) := by
  obtain rfl : len = 1 := len1 hl rfl
  unfold stp at h
  dsimp only at h
  split at h
  · split at h
    · rename_i hn
      obtain ⟨rfl, rfl, rfl, rfl⟩ := nx_inj h
      exact lv_pop C.1 C.2.1 hd hn (kk H locs ls S)
    · cases h
  · cases h
theorem st_dup2  (C : Cx G q p R s m args meth c) (S : Sd G q M H locs ls lv) (hq : q < 177) (hS0 : S0 ≤ mS M) (hU0 : U0 ≤ mU M) (hc : mS M' ≤ R.cells + S0) (hu : mU M' ≤ R.slots + U0) (hd : decode (mB q) pc = .ok ((.dup2), len)) (hl : lenOK (.dup2) len = true) (h : stp (.dup2) q pc lv st M = some (pc', lv', st', M')) (kk : Kk G q p l e R s m args below meth c Q S0 U0 pc' lv' st' M') : W p l e R s m args below meth c H locs (mS M - S0) (mU M - U0) Q (F0 m pc ls st) := by
  obtain rfl : len = 1 := len1 hl rfl
  unfold stp at h
  dsimp only at h
  split at h
  · split at h
    · rename_i hn
      obtain ⟨rfl, rfl, rfl, rfl⟩ := nx_inj h
      exact lv_dup2_11 C.1 C.2.1 hd hn.1 hn.2 (kk H locs ls S)
    · cases h
  · cases h
theorem st_goto {j : Int} (C : Cx G q p R s m args meth c) (S : Sd G q M H locs ls lv) (hq : q < 177) (hS0 : S0 ≤ mS M) (hU0 : U0 ≤ mU M) (hc : mS M' ≤ R.cells + S0) (hu : mU M' ≤ R.slots + U0) (hd : decode (mB q) pc = .ok ((.goto j), len)) (hl : lenOK (.goto j) len = true) (h : stp (.goto j) q pc lv st M = some (pc', lv', st', M')) (kk : Kk G q p l e R s m args below meth c Q S0 U0 pc' lv' st' M') : W p l e R s m args below meth c H locs (mS M - S0) (mU M - U0) Q (F0 m pc ls st) := by
  obtain rfl : len = 3 := len1 hl rfl
  unfold stp at h
  dsimp only at h
  obtain ⟨h1, rfl, rfl, rfl⟩ := nxj_inj h
  exact lv_goto C.1 C.2.1 hd h1 (kk H locs ls S)
theorem st_ifCond_eq {j : Int} (C : Cx G q p R s m args meth c) (S : Sd G q M H locs ls lv) (hq : q < 177) (hS0 : S0 ≤ mS M) (hU0 : U0 ≤ mU M) (hc : mS M' ≤ R.cells + S0) (hu : mU M' ≤ R.slots + U0) (hd : decode (mB q) pc = .ok ((.ifCond .eq j), len)) (hl : lenOK (.ifCond .eq j) len = true) (h : stp (.ifCond .eq j) q pc lv st M = some (pc', lv', st', M')) (kk : Kk G q p l e R s m args below meth c Q S0 U0 pc' lv' st' M') : W p l e R s m args below meth c H locs (mS M - S0) (mU M - U0) Q (F0 m pc ls st) := by
  obtain rfl : len = 3 := len1 hl rfl
  unfold stp at h
  dsimp only at h
  split at h
  · split at h
    · rename_i h0
      have h0' := (Int.toNat_of_nonneg h0).symm
      split at h
      · rename_i hx
        obtain ⟨rfl, rfl, rfl, rfl⟩ := nx_inj h
        exact lv_if_eq C.1 C.2.1 hd h0' (fun _ => kk H locs ls S) (fun z => absurd hx z)
      · rename_i hx
        obtain ⟨rfl, rfl, rfl, rfl⟩ := nx_inj h
        exact lv_if_eq C.1 C.2.1 hd h0' (fun z => absurd z hx) (fun _ => kk H locs ls S)
    · cases h
  · cases h
theorem st_ifCond_ne {j : Int} (C : Cx G q p R s m args meth c) (S : Sd G q M H locs ls lv) (hq : q < 177) (hS0 : S0 ≤ mS M) (hU0 : U0 ≤ mU M) (hc : mS M' ≤ R.cells + S0) (hu : mU M' ≤ R.slots + U0) (hd : decode (mB q) pc = .ok ((.ifCond .ne j), len)) (hl : lenOK (.ifCond .ne j) len = true) (h : stp (.ifCond .ne j) q pc lv st M = some (pc', lv', st', M')) (kk : Kk G q p l e R s m args below meth c Q S0 U0 pc' lv' st' M') : W p l e R s m args below meth c H locs (mS M - S0) (mU M - U0) Q (F0 m pc ls st) := by
  obtain rfl : len = 3 := len1 hl rfl
  unfold stp at h
  dsimp only at h
  split at h
  · split at h
    · rename_i h0
      have h0' := (Int.toNat_of_nonneg h0).symm
      split at h
      · rename_i hx
        obtain ⟨rfl, rfl, rfl, rfl⟩ := nx_inj h
        exact lv_if_ne C.1 C.2.1 hd h0' (fun _ => kk H locs ls S) (fun z => absurd z hx)
      · rename_i hx
        obtain ⟨rfl, rfl, rfl, rfl⟩ := nx_inj h
        exact lv_if_ne C.1 C.2.1 hd h0' (fun z => absurd z hx) (fun _ => kk H locs ls S)
    · cases h
  · cases h
theorem st_ifCond_lt {j : Int} (C : Cx G q p R s m args meth c) (S : Sd G q M H locs ls lv) (hq : q < 177) (hS0 : S0 ≤ mS M) (hU0 : U0 ≤ mU M) (hc : mS M' ≤ R.cells + S0) (hu : mU M' ≤ R.slots + U0) (hd : decode (mB q) pc = .ok ((.ifCond .lt j), len)) (hl : lenOK (.ifCond .lt j) len = true) (h : stp (.ifCond .lt j) q pc lv st M = some (pc', lv', st', M')) (kk : Kk G q p l e R s m args below meth c Q S0 U0 pc' lv' st' M') : W p l e R s m args below meth c H locs (mS M - S0) (mU M - U0) Q (F0 m pc ls st) := by
  obtain rfl : len = 3 := len1 hl rfl
  unfold stp at h
  dsimp only at h
  split at h
  · split at h
    · rename_i h0
      have h0' := (Int.toNat_of_nonneg h0).symm
      split at h
      · rename_i hx
        obtain ⟨rfl, rfl, rfl, rfl⟩ := nx_inj h
        exact lv_if_lt C.1 C.2.1 hd h0' (fun _ => kk H locs ls S) (fun z => absurd hx z)
      · rename_i hx
        obtain ⟨rfl, rfl, rfl, rfl⟩ := nx_inj h
        exact lv_if_lt C.1 C.2.1 hd h0' (fun z => absurd z hx) (fun _ => kk H locs ls S)
    · cases h
  · cases h
theorem st_ifCond_ge {j : Int} (C : Cx G q p R s m args meth c) (S : Sd G q M H locs ls lv) (hq : q < 177) (hS0 : S0 ≤ mS M) (hU0 : U0 ≤ mU M) (hc : mS M' ≤ R.cells + S0) (hu : mU M' ≤ R.slots + U0) (hd : decode (mB q) pc = .ok ((.ifCond .ge j), len)) (hl : lenOK (.ifCond .ge j) len = true) (h : stp (.ifCond .ge j) q pc lv st M = some (pc', lv', st', M')) (kk : Kk G q p l e R s m args below meth c Q S0 U0 pc' lv' st' M') : W p l e R s m args below meth c H locs (mS M - S0) (mU M - U0) Q (F0 m pc ls st) := by
  obtain rfl : len = 3 := len1 hl rfl
  unfold stp at h
  dsimp only at h
  split at h
  · split at h
    · rename_i h0
      have h0' := (Int.toNat_of_nonneg h0).symm
      split at h
      · rename_i hx
        obtain ⟨rfl, rfl, rfl, rfl⟩ := nx_inj h
        exact lv_if_ge C.1 C.2.1 hd h0' (fun _ => kk H locs ls S) (fun z => absurd hx z)
      · rename_i hx
        obtain ⟨rfl, rfl, rfl, rfl⟩ := nx_inj h
        exact lv_if_ge C.1 C.2.1 hd h0' (fun z => absurd z hx) (fun _ => kk H locs ls S)
    · cases h
  · cases h
theorem st_ifCond_gt {j : Int} (C : Cx G q p R s m args meth c) (S : Sd G q M H locs ls lv) (hq : q < 177) (hS0 : S0 ≤ mS M) (hU0 : U0 ≤ mU M) (hc : mS M' ≤ R.cells + S0) (hu : mU M' ≤ R.slots + U0) (hd : decode (mB q) pc = .ok ((.ifCond .gt j), len)) (hl : lenOK (.ifCond .gt j) len = true) (h : stp (.ifCond .gt j) q pc lv st M = some (pc', lv', st', M')) (kk : Kk G q p l e R s m args below meth c Q S0 U0 pc' lv' st' M') : W p l e R s m args below meth c H locs (mS M - S0) (mU M - U0) Q (F0 m pc ls st) := by
  obtain rfl : len = 3 := len1 hl rfl
  unfold stp at h
  dsimp only at h
  split at h
  · split at h
    · rename_i h0
      have h0' := (Int.toNat_of_nonneg h0).symm
      split at h
      · rename_i hx
        obtain ⟨rfl, rfl, rfl, rfl⟩ := nx_inj h
        exact lv_if_gt C.1 C.2.1 hd h0' (fun _ => kk H locs ls S) (fun z => absurd hx z)
      · rename_i hx
        obtain ⟨rfl, rfl, rfl, rfl⟩ := nx_inj h
        exact lv_if_gt C.1 C.2.1 hd h0' (fun z => absurd z hx) (fun _ => kk H locs ls S)
    · cases h
  · cases h
theorem st_ifCond_le {j : Int} (C : Cx G q p R s m args meth c) (S : Sd G q M H locs ls lv) (hq : q < 177) (hS0 : S0 ≤ mS M) (hU0 : U0 ≤ mU M) (hc : mS M' ≤ R.cells + S0) (hu : mU M' ≤ R.slots + U0) (hd : decode (mB q) pc = .ok ((.ifCond .le j), len)) (hl : lenOK (.ifCond .le j) len = true) (h : stp (.ifCond .le j) q pc lv st M = some (pc', lv', st', M')) (kk : Kk G q p l e R s m args below meth c Q S0 U0 pc' lv' st' M') : W p l e R s m args below meth c H locs (mS M - S0) (mU M - U0) Q (F0 m pc ls st) := by
  obtain rfl : len = 3 := len1 hl rfl
  unfold stp at h
  dsimp only at h
  split at h
  · split at h
    · rename_i h0
      have h0' := (Int.toNat_of_nonneg h0).symm
      split at h
      · rename_i hx
        obtain ⟨rfl, rfl, rfl, rfl⟩ := nx_inj h
        exact lv_if_le C.1 C.2.1 hd h0' (fun _ => kk H locs ls S) (fun z => absurd hx z)
      · rename_i hx
        obtain ⟨rfl, rfl, rfl, rfl⟩ := nx_inj h
        exact lv_if_le C.1 C.2.1 hd h0' (fun z => absurd z hx) (fun _ => kk H locs ls S)
    · cases h
  · cases h
theorem st_if_icmp_eq {j : Int} (C : Cx G q p R s m args meth c) (S : Sd G q M H locs ls lv) (hq : q < 177) (hS0 : S0 ≤ mS M) (hU0 : U0 ≤ mU M) (hc : mS M' ≤ R.cells + S0) (hu : mU M' ≤ R.slots + U0) (hd : decode (mB q) pc = .ok ((.if_icmp .eq j), len)) (hl : lenOK (.if_icmp .eq j) len = true) (h : stp (.if_icmp .eq j) q pc lv st M = some (pc', lv', st', M')) (kk : Kk G q p l e R s m args below meth c Q S0 U0 pc' lv' st' M') : W p l e R s m args below meth c H locs (mS M - S0) (mU M - U0) Q (F0 m pc ls st) := by
  obtain rfl : len = 3 := len1 hl rfl
  unfold stp at h
  dsimp only at h
  split at h
  · split at h
    · rename_i h0
      have h0' := (Int.toNat_of_nonneg h0).symm
      split at h
      · rename_i hx
        obtain ⟨rfl, rfl, rfl, rfl⟩ := nx_inj h
        exact lv_icmp_eq C.1 C.2.1 hd h0' (fun _ => kk H locs ls S) (fun z => absurd hx z)
      · rename_i hx
        obtain ⟨rfl, rfl, rfl, rfl⟩ := nx_inj h
        exact lv_icmp_eq C.1 C.2.1 hd h0' (fun z => absurd z hx) (fun _ => kk H locs ls S)
    · cases h
  · cases h
theorem st_if_icmp_ne {j : Int} (C : Cx G q p R s m args meth c) (S : Sd G q M H locs ls lv) (hq : q < 177) (hS0 : S0 ≤ mS M) (hU0 : U0 ≤ mU M) (hc : mS M' ≤ R.cells + S0) (hu : mU M' ≤ R.slots + U0) (hd : decode (mB q) pc = .ok ((.if_icmp .ne j), len)) (hl : lenOK (.if_icmp .ne j) len = true) (h : stp (.if_icmp .ne j) q pc lv st M = some (pc', lv', st', M')) (kk : Kk G q p l e R s m args below meth c Q S0 U0 pc' lv' st' M') : W p l e R s m args below meth c H locs (mS M - S0) (mU M - U0) Q (F0 m pc ls st) := by
  obtain rfl : len = 3 := len1 hl rfl
  unfold stp at h
  dsimp only at h
  split at h
  · split at h
    · rename_i h0
      have h0' := (Int.toNat_of_nonneg h0).symm
      split at h
      · rename_i hx
        obtain ⟨rfl, rfl, rfl, rfl⟩ := nx_inj h
        exact lv_icmp_ne C.1 C.2.1 hd h0' (fun _ => kk H locs ls S) (fun z => absurd z hx)
      · rename_i hx
        obtain ⟨rfl, rfl, rfl, rfl⟩ := nx_inj h
        exact lv_icmp_ne C.1 C.2.1 hd h0' (fun z => absurd z hx) (fun _ => kk H locs ls S)
    · cases h
  · cases h
theorem st_if_icmp_lt {j : Int} (C : Cx G q p R s m args meth c) (S : Sd G q M H locs ls lv) (hq : q < 177) (hS0 : S0 ≤ mS M) (hU0 : U0 ≤ mU M) (hc : mS M' ≤ R.cells + S0) (hu : mU M' ≤ R.slots + U0) (hd : decode (mB q) pc = .ok ((.if_icmp .lt j), len)) (hl : lenOK (.if_icmp .lt j) len = true) (h : stp (.if_icmp .lt j) q pc lv st M = some (pc', lv', st', M')) (kk : Kk G q p l e R s m args below meth c Q S0 U0 pc' lv' st' M') : W p l e R s m args below meth c H locs (mS M - S0) (mU M - U0) Q (F0 m pc ls st) := by
  obtain rfl : len = 3 := len1 hl rfl
  unfold stp at h
  dsimp only at h
  split at h
  · split at h
    · rename_i h0
      have h0' := (Int.toNat_of_nonneg h0).symm
      split at h
      · rename_i hx
        obtain ⟨rfl, rfl, rfl, rfl⟩ := nx_inj h
        exact lv_icmp_lt C.1 C.2.1 hd h0' (fun _ => kk H locs ls S) (fun z => absurd hx z)
      · rename_i hx
        obtain ⟨rfl, rfl, rfl, rfl⟩ := nx_inj h
        exact lv_icmp_lt C.1 C.2.1 hd h0' (fun z => absurd z hx) (fun _ => kk H locs ls S)
    · cases h
  · cases h
theorem st_if_icmp_ge {j : Int} (C : Cx G q p R s m args meth c) (S : Sd G q M H locs ls lv) (hq : q < 177) (hS0 : S0 ≤ mS M) (hU0 : U0 ≤ mU M) (hc : mS M' ≤ R.cells + S0) (hu : mU M' ≤ R.slots + U0) (hd : decode (mB q) pc = .ok ((.if_icmp .ge j), len)) (hl : lenOK (.if_icmp .ge j) len = true) (h : stp (.if_icmp .ge j) q pc lv st M = some (pc', lv', st', M')) (kk : Kk G q p l e R s m args below meth c Q S0 U0 pc' lv' st' M') : W p l e R s m args below meth c H locs (mS M - S0) (mU M - U0) Q (F0 m pc ls st) := by
  obtain rfl : len = 3 := len1 hl rfl
  unfold stp at h
  dsimp only at h
  split at h
  · split at h
    · rename_i h0
      have h0' := (Int.toNat_of_nonneg h0).symm
      split at h
      · rename_i hx
        obtain ⟨rfl, rfl, rfl, rfl⟩ := nx_inj h
        exact lv_icmp_ge C.1 C.2.1 hd h0' (fun _ => kk H locs ls S) (fun z => absurd hx z)
      · rename_i hx
        obtain ⟨rfl, rfl, rfl, rfl⟩ := nx_inj h
        exact lv_icmp_ge C.1 C.2.1 hd h0' (fun z => absurd z hx) (fun _ => kk H locs ls S)
    · cases h
  · cases h
theorem st_if_icmp_gt {j : Int} (C : Cx G q p R s m args meth c) (S : Sd G q M H locs ls lv) (hq : q < 177) (hS0 : S0 ≤ mS M) (hU0 : U0 ≤ mU M) (hc : mS M' ≤ R.cells + S0) (hu : mU M' ≤ R.slots + U0) (hd : decode (mB q) pc = .ok ((.if_icmp .gt j), len)) (hl : lenOK (.if_icmp .gt j) len = true) (h : stp (.if_icmp .gt j) q pc lv st M = some (pc', lv', st', M')) (kk : Kk G q p l e R s m args below meth c Q S0 U0 pc' lv' st' M') : W p l e R s m args below meth c H locs (mS M - S0) (mU M - U0) Q (F0 m pc ls st) := by
  obtain rfl : len = 3 := len1 hl rfl
  unfold stp at h
  dsimp only at h
  split at h
  · split at h
    · rename_i h0
      have h0' := (Int.toNat_of_nonneg h0).symm
      split at h
      · rename_i hx
        obtain ⟨rfl, rfl, rfl, rfl⟩ := nx_inj h
        exact lv_icmp_gt C.1 C.2.1 hd h0' (fun _ => kk H locs ls S) (fun z => absurd hx z)
      · rename_i hx
        obtain ⟨rfl, rfl, rfl, rfl⟩ := nx_inj h
        exact lv_icmp_gt C.1 C.2.1 hd h0' (fun z => absurd z hx) (fun _ => kk H locs ls S)
    · cases h
  · cases h
theorem st_if_icmp_le {j : Int} (C : Cx G q p R s m args meth c) (S : Sd G q M H locs ls lv) (hq : q < 177) (hS0 : S0 ≤ mS M) (hU0 : U0 ≤ mU M) (hc : mS M' ≤ R.cells + S0) (hu : mU M' ≤ R.slots + U0) (hd : decode (mB q) pc = .ok ((.if_icmp .le j), len)) (hl : lenOK (.if_icmp .le j) len = true) (h : stp (.if_icmp .le j) q pc lv st M = some (pc', lv', st', M')) (kk : Kk G q p l e R s m args below meth c Q S0 U0 pc' lv' st' M') : W p l e R s m args below meth c H locs (mS M - S0) (mU M - U0) Q (F0 m pc ls st) := by
  obtain rfl : len = 3 := len1 hl rfl
  unfold stp at h
  dsimp only at h
  split at h
  · split at h
    · rename_i h0
      have h0' := (Int.toNat_of_nonneg h0).symm
      split at h
      · rename_i hx
        obtain ⟨rfl, rfl, rfl, rfl⟩ := nx_inj h
        exact lv_icmp_le C.1 C.2.1 hd h0' (fun _ => kk H locs ls S) (fun z => absurd hx z)
      · rename_i hx
        obtain ⟨rfl, rfl, rfl, rfl⟩ := nx_inj h
        exact lv_icmp_le C.1 C.2.1 hd h0' (fun z => absurd z hx) (fun _ => kk H locs ls S)
    · cases h
  · cases h
theorem st_tableswitch {d lo hi : Int} {offs : Array Int} (C : Cx G q p R s m args meth c) (S : Sd G q M H locs ls lv) (hq : q < 177) (hS0 : S0 ≤ mS M) (hU0 : U0 ≤ mU M) (hc : mS M' ≤ R.cells + S0) (hu : mU M' ≤ R.slots + U0) (hd : decode (mB q) pc = .ok ((.tableswitch d lo hi offs), len)) (hl : lenOK (.tableswitch d lo hi offs) len = true) (h : stp (.tableswitch d lo hi offs) q pc lv st M = some (pc', lv', st', M')) (kk : Kk G q p l e R s m args below meth c Q S0 U0 pc' lv' st' M') : W p l e R s m args below meth c H locs (mS M - S0) (mU M - U0) Q (F0 m pc ls st) := by
  unfold stp at h
  dsimp only at h
  split at h
  · split at h
    · rename_i hx
      obtain ⟨h1, rfl, rfl, rfl⟩ := nxj_inj h
      exact lv_tableOut C.1 C.2.1 hd hx h1 (kk H locs ls S)
    · rename_i hx
      split at h
      · rename_i hoff
        obtain ⟨h1, rfl, rfl, rfl⟩ := nxj_inj h
        exact lv_tableIn C.1 C.2.1 hd (fun z => hx (Or.inl z)) (fun z => hx (Or.inr z)) hoff h1 (kk H locs ls S)
      · cases h
  · cases h
theorem st_getfield {i : Nat} (C : Cx G q p R s m args meth c) (S : Sd G q M H locs ls lv) (hq : q < 177) (hS0 : S0 ≤ mS M) (hU0 : U0 ≤ mU M) (hc : mS M' ≤ R.cells + S0) (hu : mU M' ≤ R.slots + U0) (hd : decode (mB q) pc = .ok ((.getfield i), len)) (hl : lenOK (.getfield i) len = true) (h : stp (.getfield i) q pc lv st M = some (pc', lv', st', M')) (kk : Kk G q p l e R s m args below meth c Q S0 U0 pc' lv' st' M') : W p l e R s m args below meth c H locs (mS M - S0) (mU M - U0) Q (F0 m pc ls st) := by
  obtain rfl : len = 3 := len1 hl rfl
  unfold stp at h
  dsimp only at h
  split at h
  · rename_i hf
    split at h
    · rename_i hk
      obtain ⟨rfl, rfl, rfl, rfl⟩ := nx_inj h
      exact s_get C S hf hk hd (kk H locs ls S)
    · cases h
  · cases h
theorem st_putfield {i : Nat} (C : Cx G q p R s m args meth c) (S : Sd G q M H locs ls lv) (hq : q < 177) (hS0 : S0 ≤ mS M) (hU0 : U0 ≤ mU M) (hc : mS M' ≤ R.cells + S0) (hu : mU M' ≤ R.slots + U0) (hd : decode (mB q) pc = .ok ((.putfield i), len)) (hl : lenOK (.putfield i) len = true) (h : stp (.putfield i) q pc lv st M = some (pc', lv', st', M')) (kk : Kk G q p l e R s m args below meth c Q S0 U0 pc' lv' st' M') : W p l e R s m args below meth c H locs (mS M - S0) (mU M - U0) Q (F0 m pc ls st) := by
  obtain rfl : len = 3 := len1 hl rfl
  unfold stp at h
  dsimp only at h
  split at h
  · rename_i hf
    split at h
    · rename_i hk
      split at h
      · rename_i ht
        obtain ⟨rfl, rfl, rfl, rfl⟩ := nx_inj h
        obtain ⟨-, h2, h3⟩ := fld_spec hf
        exact s_put C S hq hf hk.1 hk.2 (put_i h3 h2 ht) hd (fun H1 j hB z o ob => kk H1 _ ls (S.heap (S.1.sI z o (wAt_obj h3 hk.1 hB (by rw [← fv_sI (ht.imp id And.left)]; exact ob))) hB))
      · cases h
    · cases h
  · rename_i hf
    split at h
    · rename_i hk
      split at h
      · rename_i ht
        obtain ⟨rfl, rfl, rfl, rfl⟩ := nx_inj h
        obtain ⟨-, h2, h3⟩ := fld_spec hf
        exact s_put C S hq hf hk.1 hk.2 (put_l h3 h2 ht) hd (fun H1 j hB z o ob => kk H1 _ ls (S.heap (S.1.sJ z o (wAt_obj h3 hk.1 hB (by rw [← fv_sJ ht]; exact ob))) hB))
      · cases h
    · cases h
  · rename_i hf
    split at h
    · rename_i hk
      split at h
      · rename_i ht
        obtain ⟨rfl, rfl, rfl, rfl⟩ := nx_inj h
        obtain ⟨-, h2, h3⟩ := fld_spec hf
        exact s_put C S hq hf hk.1 hk.2 (put_r h3 h2 ht) hd (fun H1 j hB z o ob => kk H1 _ ls (S.heap (S.1.sP z o (wAt_obj h3 hk.1 hB (by rw [← fv_sP ht]; exact ob))) hB))
      · cases h
    · cases h
  · cases h
theorem st_iaload  (C : Cx G q p R s m args meth c) (S : Sd G q M H locs ls lv) (hq : q < 177) (hS0 : S0 ≤ mS M) (hU0 : U0 ≤ mU M) (hc : mS M' ≤ R.cells + S0) (hu : mU M' ≤ R.slots + U0) (hd : decode (mB q) pc = .ok ((.iaload), len)) (hl : lenOK (.iaload) len = true) (h : stp (.iaload) q pc lv st M = some (pc', lv', st', M')) (kk : Kk G q p l e R s m args below meth c Q S0 U0 pc' lv' st' M') : W p l e R s m args below meth c H locs (mS M - S0) (mU M - U0) Q (F0 m pc ls st) := by
  obtain rfl : len = 1 := len1 hl rfl
  unfold stp at h
  dsimp only at h
  split at h
  · split at h
    · rename_i hk
      obtain ⟨rfl, rfl, rfl, rfl⟩ := nx_inj h
      exact s_iald C S hk.1 hk.2 hd (kk H locs ls S)
    · cases h
  · cases h
theorem st_laload  (C : Cx G q p R s m args meth c) (S : Sd G q M H locs ls lv) (hq : q < 177) (hS0 : S0 ≤ mS M) (hU0 : U0 ≤ mU M) (hc : mS M' ≤ R.cells + S0) (hu : mU M' ≤ R.slots + U0) (hd : decode (mB q) pc = .ok ((.laload), len)) (hl : lenOK (.laload) len = true) (h : stp (.laload) q pc lv st M = some (pc', lv', st', M')) (kk : Kk G q p l e R s m args below meth c Q S0 U0 pc' lv' st' M') : W p l e R s m args below meth c H locs (mS M - S0) (mU M - U0) Q (F0 m pc ls st) := by
  obtain rfl : len = 1 := len1 hl rfl
  unfold stp at h
  dsimp only at h
  split at h
  · split at h
    · rename_i hk
      obtain ⟨rfl, rfl, rfl, rfl⟩ := nx_inj h
      exact s_lald C S hk.1 hk.2 hd (kk H locs ls S)
    · cases h
  · cases h
theorem st_aaload  (C : Cx G q p R s m args meth c) (S : Sd G q M H locs ls lv) (hq : q < 177) (hS0 : S0 ≤ mS M) (hU0 : U0 ≤ mU M) (hc : mS M' ≤ R.cells + S0) (hu : mU M' ≤ R.slots + U0) (hd : decode (mB q) pc = .ok ((.aaload), len)) (hl : lenOK (.aaload) len = true) (h : stp (.aaload) q pc lv st M = some (pc', lv', st', M')) (kk : Kk G q p l e R s m args below meth c Q S0 U0 pc' lv' st' M') : W p l e R s m args below meth c H locs (mS M - S0) (mU M - U0) Q (F0 m pc ls st) := by
  obtain rfl : len = 1 := len1 hl rfl
  unfold stp at h
  dsimp only at h
  split at h
  · split at h
    · rename_i hk
      obtain ⟨rfl, rfl, rfl, rfl⟩ := nx_inj h
      exact s_aald C S hk.1 hk.2 hd (kk H locs ls S)
    · cases h
  · cases h
theorem st_iastore  (C : Cx G q p R s m args meth c) (S : Sd G q M H locs ls lv) (hq : q < 177) (hS0 : S0 ≤ mS M) (hU0 : U0 ≤ mU M) (hc : mS M' ≤ R.cells + S0) (hu : mU M' ≤ R.slots + U0) (hd : decode (mB q) pc = .ok ((.iastore), len)) (hl : lenOK (.iastore) len = true) (h : stp (.iastore) q pc lv st M = some (pc', lv', st', M')) (kk : Kk G q p l e R s m args below meth c Q S0 U0 pc' lv' st' M') : W p l e R s m args below meth c H locs (mS M - S0) (mU M - U0) Q (F0 m pc ls st) := by
  obtain rfl : len = 1 := len1 hl rfl
  unfold stp at h
  dsimp only at h
  split at h
  · split at h
    · rename_i hk
      obtain ⟨rfl, rfl, rfl, rfl⟩ := nx_inj h
      exact s_iast C S hk.1 hk.2 hd (fun H1 locs1 S1 => kk H1 locs1 ls S1)
    · cases h
  · cases h
theorem st_lastore  (C : Cx G q p R s m args meth c) (S : Sd G q M H locs ls lv) (hq : q < 177) (hS0 : S0 ≤ mS M) (hU0 : U0 ≤ mU M) (hc : mS M' ≤ R.cells + S0) (hu : mU M' ≤ R.slots + U0) (hd : decode (mB q) pc = .ok ((.lastore), len)) (hl : lenOK (.lastore) len = true) (h : stp (.lastore) q pc lv st M = some (pc', lv', st', M')) (kk : Kk G q p l e R s m args below meth c Q S0 U0 pc' lv' st' M') : W p l e R s m args below meth c H locs (mS M - S0) (mU M - U0) Q (F0 m pc ls st) := by
  obtain rfl : len = 1 := len1 hl rfl
  unfold stp at h
  dsimp only at h
  split at h
  · split at h
    · rename_i hk
      obtain ⟨rfl, rfl, rfl, rfl⟩ := nx_inj h
      exact s_last C S hk.1 hk.2 hd (fun H1 locs1 S1 => kk H1 locs1 ls S1)
    · cases h
  · cases h
theorem st_aastore  (C : Cx G q p R s m args meth c) (S : Sd G q M H locs ls lv) (hq : q < 177) (hS0 : S0 ≤ mS M) (hU0 : U0 ≤ mU M) (hc : mS M' ≤ R.cells + S0) (hu : mU M' ≤ R.slots + U0) (hd : decode (mB q) pc = .ok ((.aastore), len)) (hl : lenOK (.aastore) len = true) (h : stp (.aastore) q pc lv st M = some (pc', lv', st', M')) (kk : Kk G q p l e R s m args below meth c Q S0 U0 pc' lv' st' M') : W p l e R s m args below meth c H locs (mS M - S0) (mU M - U0) Q (F0 m pc ls st) := by
  obtain rfl : len = 1 := len1 hl rfl
  unfold stp at h
  dsimp only at h
  split at h
  · split at h
    · rename_i hk
      obtain ⟨rfl, rfl, rfl, rfl⟩ := nx_inj h
      obtain ⟨hk, hi⟩ := hk
      rcases hk with ⟨ha, hb⟩ | ⟨ha, hb⟩
      · exact s_aast C S (k := 3) (Or.inl rfl) ha hb hi hd (fun H1 locs1 S1 => kk H1 locs1 ls S1)
      · exact s_aast C S (k := 4) (Or.inr rfl) ha hb hi hd (fun H1 locs1 S1 => kk H1 locs1 ls S1)
    · cases h
  · cases h
theorem st_arraylength  (C : Cx G q p R s m args meth c) (S : Sd G q M H locs ls lv) (hq : q < 177) (hS0 : S0 ≤ mS M) (hU0 : U0 ≤ mU M) (hc : mS M' ≤ R.cells + S0) (hu : mU M' ≤ R.slots + U0) (hd : decode (mB q) pc = .ok ((.arraylength), len)) (hl : lenOK (.arraylength) len = true) (h : stp (.arraylength) q pc lv st M = some (pc', lv', st', M')) (kk : Kk G q p l e R s m args below meth c Q S0 U0 pc' lv' st' M') : W p l e R s m args below meth c H locs (mS M - S0) (mU M - U0) Q (F0 m pc ls st) := by
  obtain rfl : len = 1 := len1 hl rfl
  unfold stp at h
  dsimp only at h
  split at h
  · split at h
    · rename_i hk
      obtain ⟨rfl, rfl, rfl, rfl⟩ := nx_inj h
      exact s_alen C S hk hd (kk H locs ls S)
    · cases h
  · cases h
theorem st_new {i : Nat} (C : Cx G q p R s m args meth c) (S : Sd G q M H locs ls lv) (hq : q < 177) (hS0 : S0 ≤ mS M) (hU0 : U0 ≤ mU M) (hc : mS M' ≤ R.cells + S0) (hu : mU M' ≤ R.slots + U0) (hd : decode (mB q) pc = .ok ((.new i), len)) (hl : lenOK (.new i) len = true) (h : stp (.new i) q pc lv st M = some (pc', lv', st', M')) (kk : Kk G q p l e R s m args below meth c Q S0 U0 pc' lv' st' M') : W p l e R s m args below meth c H locs (mS M - S0) (mU M - U0) Q (F0 m pc ls st) := by
  obtain rfl : len = 3 := len1 hl rfl
  unfold stp at h
  dsimp only at h
  split at h
  · rename_i ci hf
    split at h
    · rename_i hci
      obtain ⟨rfl, rfl, rfl, rfl⟩ := nx_inj h
      have e1 : mS M - S0 + 1 = mS (nw M (10 + ci, 0) (NN ci)) - S0 := by show _ = mS M + 1 - S0; omega
      have e2 : mU M - U0 + (NN ci) = mU (nw M (10 + ci, 0) (NN ci)) - U0 := by show _ = mU M + (NN ci) - U0; omega
      have e3 : mS (nw M (10 + ci, 0) (NN ci)) = mS M + 1 := rfl
      have e4 : mU (nw M (10 + ci, 0) (NN ci)) = mU M + (NN ci) := rfl
      exact s_new C S hf hci (by omega) (by omega) hd (fun H1 S1 => by rw [e1, e2]; exact kk H1 locs ls S1)
    · cases h
  · cases h
theorem st_newarray {t : ArrayType} (C : Cx G q p R s m args meth c) (S : Sd G q M H locs ls lv) (hq : q < 177) (hS0 : S0 ≤ mS M) (hU0 : U0 ≤ mU M) (hc : mS M' ≤ R.cells + S0) (hu : mU M' ≤ R.slots + U0) (hd : decode (mB q) pc = .ok ((.newarray t), len)) (hl : lenOK (.newarray t) len = true) (h : stp (.newarray t) q pc lv st M = some (pc', lv', st', M')) (kk : Kk G q p l e R s m args below meth c Q S0 U0 pc' lv' st' M') : W p l e R s m args below meth c H locs (mS M - S0) (mU M - U0) Q (F0 m pc ls st) := by
  obtain rfl : len = 2 := len1 hl rfl
  unfold stp at h
  dsimp only at h
  split at h
  · split at h
    · rename_i n r hn
      obtain ⟨rfl, rfl, rfl, rfl⟩ := nx_inj h
      have e1 : mS M - S0 + 1 = mS (nw M (1, n.toNatClampNeg) n.toNatClampNeg) - S0 := by show _ = mS M + 1 - S0; omega
      have e2 : mU M - U0 + n.toNatClampNeg = mU (nw M (1, n.toNatClampNeg) n.toNatClampNeg) - U0 := by show _ = mU M + n.toNatClampNeg - U0; omega
      have e3 : mS (nw M (1, n.toNatClampNeg) n.toNatClampNeg) = mS M + 1 := rfl
      have e4 : mU (nw M (1, n.toNatClampNeg) n.toNatClampNeg) = mU M + n.toNatClampNeg := rfl
      exact s_newI C S hn.1 hn.2 (by omega) (by omega) hd (fun H1 S1 => by rw [e1, e2]; exact kk H1 locs ls S1)
    · cases h
  · split at h
    · rename_i n r hn
      obtain ⟨rfl, rfl, rfl, rfl⟩ := nx_inj h
      have e1 : mS M - S0 + 1 = mS (nw M (2, n.toNatClampNeg) n.toNatClampNeg) - S0 := by show _ = mS M + 1 - S0; omega
      have e2 : mU M - U0 + n.toNatClampNeg = mU (nw M (2, n.toNatClampNeg) n.toNatClampNeg) - U0 := by show _ = mU M + n.toNatClampNeg - U0; omega
      have e3 : mS (nw M (2, n.toNatClampNeg) n.toNatClampNeg) = mS M + 1 := rfl
      have e4 : mU (nw M (2, n.toNatClampNeg) n.toNatClampNeg) = mU M + n.toNatClampNeg := rfl
      exact s_newJ C S hn.1 hn.2 (by omega) (by omega) hd (fun H1 S1 => by rw [e1, e2]; exact kk H1 locs ls S1)
    · cases h
  · cases h
theorem st_anewarray {i : Nat} (C : Cx G q p R s m args meth c) (S : Sd G q M H locs ls lv) (hq : q < 177) (hS0 : S0 ≤ mS M) (hU0 : U0 ≤ mU M) (hc : mS M' ≤ R.cells + S0) (hu : mU M' ≤ R.slots + U0) (hd : decode (mB q) pc = .ok ((.anewarray i), len)) (hl : lenOK (.anewarray i) len = true) (h : stp (.anewarray i) q pc lv st M = some (pc', lv', st', M')) (kk : Kk G q p l e R s m args below meth c Q S0 U0 pc' lv' st' M') : W p l e R s m args below meth c H locs (mS M - S0) (mU M - U0) Q (F0 m pc ls st) := by
  obtain rfl : len = 3 := len1 hl rfl
  unfold stp at h
  dsimp only at h
  split at h
  · rename_i ci n r hf
    split at h
    · rename_i hn
      obtain ⟨rfl, rfl, rfl, rfl⟩ := nx_inj h
      obtain ⟨hn, hci⟩ := hn
      generalize hk : (if ci = aoC 3 then 3 else 4) = k at *
      have e1 : mS M - S0 + 1 = mS (nw M (k, n.toNatClampNeg) n.toNatClampNeg) - S0 := by show _ = mS M + 1 - S0; omega
      have e2 : mU M - U0 + n.toNatClampNeg = mU (nw M (k, n.toNatClampNeg) n.toNatClampNeg) - U0 := by show _ = mU M + n.toNatClampNeg - U0; omega
      have e3 : mS (nw M (k, n.toNatClampNeg) n.toNatClampNeg) = mS M + 1 := rfl
      have e4 : mU (nw M (k, n.toNatClampNeg) n.toNatClampNeg) = mU M + n.toNatClampNeg := rfl
      have hk2 : (k = 3 ∨ k = 4) ∧ ci = aoC k := by
        rcases hci with rfl | rfl
        · rw [if_pos rfl] at hk; subst hk; exact ⟨Or.inl rfl, rfl⟩
        · rw [if_neg (by decide)] at hk; subst hk; exact ⟨Or.inr rfl, rfl⟩
      exact s_newP C S hk2.1 (by rw [hf, hk2.2]) hn.1 hn.2 (by omega) (by omega) hd (fun H1 S1 => by rw [e1, e2]; exact kk H1 locs ls S1)
    · cases h
  · cases h
theorem st_invokespecial {i : Nat} (C : Cx G q p R s m args meth c) (S : Sd G q M H locs ls lv) (hq : q < 177) (hS0 : S0 ≤ mS M) (hU0 : U0 ≤ mU M) (hc : mS M' ≤ R.cells + S0) (hu : mU M' ≤ R.slots + U0) (hd : decode (mB q) pc = .ok ((.invokespecial i), len)) (hl : lenOK (.invokespecial i) len = true) (h : stp (.invokespecial i) q pc lv st M = some (pc', lv', st', M')) (kk : Kk G q p l e R s m args below meth c Q S0 U0 pc' lv' st' M') : W p l e R s m args below meth c H locs (mS M - S0) (mU M - U0) Q (F0 m pc ls st) := by
  obtain rfl : len = 3 := len1 hl rfl
  unfold stp at h
  dsimp only at h
  split at h
  · rename_i ho
    split at h
    · split at h
      · rename_i hk
        obtain ⟨rfl, rfl, rfl, rfl⟩ := nx_inj h
        have hw := objB
        rw [Bool.and_eq_true] at hw
        obtain ⟨hx, hb, hml, hown, hts, hK, hin, hfr, hlo⟩ := C
        refine W.objInit hx hb hown (hts _ (obj_spec ho)) (hts _ (hasW_in hw.1)) (hts _ (hasW_in hw.2)) rfl (by rw [hml]; exact S.2.2.1.1) rfl hd (by omega) (by
          show 2 * 0 + catS st' + 12 ≤ _
          omega) (kk H locs ls S)
      · cases h
    · cases h
  · cases h
theorem st_invokestatic {i : Nat} (C : Cx G q p R s m args meth c) (S : Sd G q M H locs ls lv) (hq : q < 177) (hS0 : S0 ≤ mS M) (hU0 : U0 ≤ mU M) (hc : mS M' ≤ R.cells + S0) (hu : mU M' ≤ R.slots + U0) (hd : decode (mB q) pc = .ok ((.invokestatic i), len)) (hl : lenOK (.invokestatic i) len = true) (h : stp (.invokestatic i) q pc lv st M = some (pc', lv', st', M')) (kk : Kk G q p l e R s m args below meth c Q S0 U0 pc' lv' st' M') : W p l e R s m args below meth c H locs (mS M - S0) (mU M - U0) Q (F0 m pc ls st) := by
  obtain rfl : len = 3 := len1 hl rfl
  unfold stp at h
  dsimp only at h
  split at h
  · rename_i ho
    unfold doC at h
    split at h
    · split at h
      · rename_i hk
        rw [Bool.and_eq_true] at hk
        have hr := Nat.le_of_ble_eq_true hk.1
        have hdp := Nat.le_of_ble_eq_true hk.2
        split at h
        · rename_i hb
          obtain ⟨⟨h1, h2, h3⟩, h4, h5⟩ := hb
          split at h
          · rename_i hkk
            obtain ⟨rfl, rfl, rfl, rfl⟩ := nx_inj h
            exact s_cpy C S S.2.2.1.1 (k := 1) (Or.inl rfl) hkk.1 hkk.2 ho h1 h2 h3 h4 h5 hr hdp hd (fun H1 locs1 hB hL z o hA => kk H1 locs1 ls ⟨S.1.sI z o (wAt_arr (k := 1) (n := _) (by omega) (by omega) (by rw [← hkk.1]; rfl) hB (by rw [hA, elI, elI, elI, mI_sI, if_pos rfl]; congr 2; funext j; unfold va_cpy; split <;> rfl)), hL, S.2.2⟩)
          · split at h
            · rename_i hkk
              obtain ⟨rfl, rfl, rfl, rfl⟩ := nx_inj h
              exact s_cpy C S S.2.2.1.1 (k := 2) (Or.inr rfl) hkk.1 hkk.2 ho h1 h2 h3 h4 h5 hr hdp hd (fun H1 locs1 hB hL z o hA => kk H1 locs1 ls ⟨S.1.sJ z o (wAt_arr (k := 2) (n := _) (by omega) (by omega) (by rw [← hkk.1]; rfl) hB (by rw [hA, elJ, elJ, elJ, mJ_sJ, if_pos rfl]; congr 2; funext j; unfold va_cpy; split <;> rfl)), hL, S.2.2⟩)
            · cases h
        · cases h
      · cases h
    · cases h
  · cases h
end ST
end
section
/-! all instructions that are no call; memory grows alone; calls; the whole run -/
theorem mo_leaf {M M' : SM} (h : M' = M) : mS M ≤ mS M' ∧ mU M ≤ mU M' := by rw [h]; exact ⟨Nat.le_refl _, Nat.le_refl _⟩
section MO
variable {q pc pc' : Nat} {lv lv' : List (Option Value)} {st st' : List Value} {M M' : SM}
theorem mo_iload_n {k : Fin 4} (h : stp (.iload_n k) q pc lv st M = some (pc', lv', st', M')) : mS M ≤ mS M' ∧ mU M ≤ mU M' := by
  unfold stp at h
  dsimp only at h
  repeat' split at h
  all_goals first
    | (cases h; done)
    | exact mo_leaf (nx_inj h).2.2.2
    | exact mo_leaf (nxj_inj h).2.2.2
    | (obtain ⟨-, -, -, rfl⟩ := nx_inj h; exact ⟨Nat.le_refl _, Nat.le_refl _⟩)
    | (obtain ⟨-, -, -, rfl⟩ := nx_inj h; exact ⟨Nat.le_succ _, Nat.le_add_right _ _⟩)
theorem mo_iload {k : Nat} (h : stp (.iload k) q pc lv st M = some (pc', lv', st', M')) : mS M ≤ mS M' ∧ mU M ≤ mU M' := by
  unfold stp at h
  dsimp only at h
  repeat' split at h
  all_goals first
    | (cases h; done)
    | exact mo_leaf (nx_inj h).2.2.2
    | exact mo_leaf (nxj_inj h).2.2.2
    | (obtain ⟨-, -, -, rfl⟩ := nx_inj h; exact ⟨Nat.le_refl _, Nat.le_refl _⟩)
    | (obtain ⟨-, -, -, rfl⟩ := nx_inj h; exact ⟨Nat.le_succ _, Nat.le_add_right _ _⟩)
theorem mo_aload_n {k : Fin 4} (h : stp (.aload_n k) q pc lv st M = some (pc', lv', st', M')) : mS M ≤ mS M' ∧ mU M ≤ mU M' := by
  unfold stp at h
  dsimp only at h
  repeat' split at h
  all_goals first
    | (cases h; done)
    | exact mo_leaf (nx_inj h).2.2.2
    | exact mo_leaf (nxj_inj h).2.2.2
    | (obtain ⟨-, -, -, rfl⟩ := nx_inj h; exact ⟨Nat.le_refl _, Nat.le_refl _⟩)
    | (obtain ⟨-, -, -, rfl⟩ := nx_inj h; exact ⟨Nat.le_succ _, Nat.le_add_right _ _⟩)
theorem mo_aload {k : Nat} (h : stp (.aload k) q pc lv st M = some (pc', lv', st', M')) : mS M ≤ mS M' ∧ mU M ≤ mU M' := by
  unfold stp at h
  dsimp only at h
  repeat' split at h
  all_goals first
    | (cases h; done)
    | exact mo_leaf (nx_inj h).2.2.2
    | exact mo_leaf (nxj_inj h).2.2.2
    | (obtain ⟨-, -, -, rfl⟩ := nx_inj h; exact ⟨Nat.le_refl _, Nat.le_refl _⟩)
    | (obtain ⟨-, -, -, rfl⟩ := nx_inj h; exact ⟨Nat.le_succ _, Nat.le_add_right _ _⟩)
theorem mo_lload_n {k : Fin 4} (h : stp (.lload_n k) q pc lv st M = some (pc', lv', st', M')) : mS M ≤ mS M' ∧ mU M ≤ mU M' := by
  unfold stp at h
  dsimp only at h
  repeat' split at h
  all_goals first
    | (cases h; done)
    | exact mo_leaf (nx_inj h).2.2.2
    | exact mo_leaf (nxj_inj h).2.2.2
    | (obtain ⟨-, -, -, rfl⟩ := nx_inj h; exact ⟨Nat.le_refl _, Nat.le_refl _⟩)
    | (obtain ⟨-, -, -, rfl⟩ := nx_inj h; exact ⟨Nat.le_succ _, Nat.le_add_right _ _⟩)
theorem mo_lload {k : Nat} (h : stp (.lload k) q pc lv st M = some (pc', lv', st', M')) : mS M ≤ mS M' ∧ mU M ≤ mU M' := by
  unfold stp at h
  dsimp only at h
  repeat' split at h
  all_goals first
    | (cases h; done)
    | exact mo_leaf (nx_inj h).2.2.2
    | exact mo_leaf (nxj_inj h).2.2.2
    | (obtain ⟨-, -, -, rfl⟩ := nx_inj h; exact ⟨Nat.le_refl _, Nat.le_refl _⟩)
    | (obtain ⟨-, -, -, rfl⟩ := nx_inj h; exact ⟨Nat.le_succ _, Nat.le_add_right _ _⟩)
theorem mo_istore_n {k : Fin 4} (h : stp (.istore_n k) q pc lv st M = some (pc', lv', st', M')) : mS M ≤ mS M' ∧ mU M ≤ mU M' := by
  unfold stp at h
  dsimp only at h
  repeat' split at h
  all_goals first
    | (cases h; done)
    | exact mo_leaf (nx_inj h).2.2.2
    | exact mo_leaf (nxj_inj h).2.2.2
    | (obtain ⟨-, -, -, rfl⟩ := nx_inj h; exact ⟨Nat.le_refl _, Nat.le_refl _⟩)
    | (obtain ⟨-, -, -, rfl⟩ := nx_inj h; exact ⟨Nat.le_succ _, Nat.le_add_right _ _⟩)
theorem mo_istore {k : Nat} (h : stp (.istore k) q pc lv st M = some (pc', lv', st', M')) : mS M ≤ mS M' ∧ mU M ≤ mU M' := by
  unfold stp at h
  dsimp only at h
  repeat' split at h
  all_goals first
    | (cases h; done)
    | exact mo_leaf (nx_inj h).2.2.2
    | exact mo_leaf (nxj_inj h).2.2.2
    | (obtain ⟨-, -, -, rfl⟩ := nx_inj h; exact ⟨Nat.le_refl _, Nat.le_refl _⟩)
    | (obtain ⟨-, -, -, rfl⟩ := nx_inj h; exact ⟨Nat.le_succ _, Nat.le_add_right _ _⟩)
theorem mo_astore_n {k : Fin 4} (h : stp (.astore_n k) q pc lv st M = some (pc', lv', st', M')) : mS M ≤ mS M' ∧ mU M ≤ mU M' := by
  unfold stp at h
  dsimp only at h
  repeat' split at h
  all_goals first
    | (cases h; done)
    | exact mo_leaf (nx_inj h).2.2.2
    | exact mo_leaf (nxj_inj h).2.2.2
    | (obtain ⟨-, -, -, rfl⟩ := nx_inj h; exact ⟨Nat.le_refl _, Nat.le_refl _⟩)
    | (obtain ⟨-, -, -, rfl⟩ := nx_inj h; exact ⟨Nat.le_succ _, Nat.le_add_right _ _⟩)
theorem mo_astore {k : Nat} (h : stp (.astore k) q pc lv st M = some (pc', lv', st', M')) : mS M ≤ mS M' ∧ mU M ≤ mU M' := by
  unfold stp at h
  dsimp only at h
  repeat' split at h
  all_goals first
    | (cases h; done)
    | exact mo_leaf (nx_inj h).2.2.2
    | exact mo_leaf (nxj_inj h).2.2.2
    | (obtain ⟨-, -, -, rfl⟩ := nx_inj h; exact ⟨Nat.le_refl _, Nat.le_refl _⟩)
    | (obtain ⟨-, -, -, rfl⟩ := nx_inj h; exact ⟨Nat.le_succ _, Nat.le_add_right _ _⟩)
theorem mo_lstore_n {k : Fin 4} (h : stp (.lstore_n k) q pc lv st M = some (pc', lv', st', M')) : mS M ≤ mS M' ∧ mU M ≤ mU M' := by
  unfold stp at h
  dsimp only at h
  repeat' split at h
  all_goals first
    | (cases h; done)
    | exact mo_leaf (nx_inj h).2.2.2
    | exact mo_leaf (nxj_inj h).2.2.2
    | (obtain ⟨-, -, -, rfl⟩ := nx_inj h; exact ⟨Nat.le_refl _, Nat.le_refl _⟩)
    | (obtain ⟨-, -, -, rfl⟩ := nx_inj h; exact ⟨Nat.le_succ _, Nat.le_add_right _ _⟩)
theorem mo_lstore {k : Nat} (h : stp (.lstore k) q pc lv st M = some (pc', lv', st', M')) : mS M ≤ mS M' ∧ mU M ≤ mU M' := by
  unfold stp at h
  dsimp only at h
  repeat' split at h
  all_goals first
    | (cases h; done)
    | exact mo_leaf (nx_inj h).2.2.2
    | exact mo_leaf (nxj_inj h).2.2.2
    | (obtain ⟨-, -, -, rfl⟩ := nx_inj h; exact ⟨Nat.le_refl _, Nat.le_refl _⟩)
    | (obtain ⟨-, -, -, rfl⟩ := nx_inj h; exact ⟨Nat.le_succ _, Nat.le_add_right _ _⟩)
theorem mo_iinc {k : Nat} {n : Int} (h : stp (.iinc k n) q pc lv st M = some (pc', lv', st', M')) : mS M ≤ mS M' ∧ mU M ≤ mU M' := by
  unfold stp at h
  dsimp only at h
  repeat' split at h
  all_goals first
    | (cases h; done)
    | exact mo_leaf (nx_inj h).2.2.2
    | exact mo_leaf (nxj_inj h).2.2.2
    | (obtain ⟨-, -, -, rfl⟩ := nx_inj h; exact ⟨Nat.le_refl _, Nat.le_refl _⟩)
    | (obtain ⟨-, -, -, rfl⟩ := nx_inj h; exact ⟨Nat.le_succ _, Nat.le_add_right _ _⟩)
theorem mo_iconst {n : Int} (h : stp (.iconst n) q pc lv st M = some (pc', lv', st', M')) : mS M ≤ mS M' ∧ mU M ≤ mU M' := by
  unfold stp at h
  dsimp only at h
  repeat' split at h
  all_goals first
    | (cases h; done)
    | exact mo_leaf (nx_inj h).2.2.2
    | exact mo_leaf (nxj_inj h).2.2.2
    | (obtain ⟨-, -, -, rfl⟩ := nx_inj h; exact ⟨Nat.le_refl _, Nat.le_refl _⟩)
    | (obtain ⟨-, -, -, rfl⟩ := nx_inj h; exact ⟨Nat.le_succ _, Nat.le_add_right _ _⟩)
theorem mo_bipush {n : Int} (h : stp (.bipush n) q pc lv st M = some (pc', lv', st', M')) : mS M ≤ mS M' ∧ mU M ≤ mU M' := by
  unfold stp at h
  dsimp only at h
  repeat' split at h
  all_goals first
    | (cases h; done)
    | exact mo_leaf (nx_inj h).2.2.2
    | exact mo_leaf (nxj_inj h).2.2.2
    | (obtain ⟨-, -, -, rfl⟩ := nx_inj h; exact ⟨Nat.le_refl _, Nat.le_refl _⟩)
    | (obtain ⟨-, -, -, rfl⟩ := nx_inj h; exact ⟨Nat.le_succ _, Nat.le_add_right _ _⟩)
theorem mo_sipush {n : Int} (h : stp (.sipush n) q pc lv st M = some (pc', lv', st', M')) : mS M ≤ mS M' ∧ mU M ≤ mU M' := by
  unfold stp at h
  dsimp only at h
  repeat' split at h
  all_goals first
    | (cases h; done)
    | exact mo_leaf (nx_inj h).2.2.2
    | exact mo_leaf (nxj_inj h).2.2.2
    | (obtain ⟨-, -, -, rfl⟩ := nx_inj h; exact ⟨Nat.le_refl _, Nat.le_refl _⟩)
    | (obtain ⟨-, -, -, rfl⟩ := nx_inj h; exact ⟨Nat.le_succ _, Nat.le_add_right _ _⟩)
theorem mo_lconst {n : Fin 2} (h : stp (.lconst n) q pc lv st M = some (pc', lv', st', M')) : mS M ≤ mS M' ∧ mU M ≤ mU M' := by
  unfold stp at h
  dsimp only at h
  repeat' split at h
  all_goals first
    | (cases h; done)
    | exact mo_leaf (nx_inj h).2.2.2
    | exact mo_leaf (nxj_inj h).2.2.2
    | (obtain ⟨-, -, -, rfl⟩ := nx_inj h; exact ⟨Nat.le_refl _, Nat.le_refl _⟩)
    | (obtain ⟨-, -, -, rfl⟩ := nx_inj h; exact ⟨Nat.le_succ _, Nat.le_add_right _ _⟩)
theorem mo_ldc2_w {i : Nat} (h : stp (.ldc2_w i) q pc lv st M = some (pc', lv', st', M')) : mS M ≤ mS M' ∧ mU M ≤ mU M' := by
  unfold stp at h
  dsimp only at h
  repeat' split at h
  all_goals first
    | (cases h; done)
    | exact mo_leaf (nx_inj h).2.2.2
    | exact mo_leaf (nxj_inj h).2.2.2
    | (obtain ⟨-, -, -, rfl⟩ := nx_inj h; exact ⟨Nat.le_refl _, Nat.le_refl _⟩)
    | (obtain ⟨-, -, -, rfl⟩ := nx_inj h; exact ⟨Nat.le_succ _, Nat.le_add_right _ _⟩)
theorem mo_iadd  (h : stp (.iadd) q pc lv st M = some (pc', lv', st', M')) : mS M ≤ mS M' ∧ mU M ≤ mU M' := by
  unfold stp at h
  dsimp only at h
  repeat' split at h
  all_goals first
    | (cases h; done)
    | exact mo_leaf (nx_inj h).2.2.2
    | exact mo_leaf (nxj_inj h).2.2.2
    | (obtain ⟨-, -, -, rfl⟩ := nx_inj h; exact ⟨Nat.le_refl _, Nat.le_refl _⟩)
    | (obtain ⟨-, -, -, rfl⟩ := nx_inj h; exact ⟨Nat.le_succ _, Nat.le_add_right _ _⟩)
theorem mo_isub  (h : stp (.isub) q pc lv st M = some (pc', lv', st', M')) : mS M ≤ mS M' ∧ mU M ≤ mU M' := by
  unfold stp at h
  dsimp only at h
  repeat' split at h
  all_goals first
    | (cases h; done)
    | exact mo_leaf (nx_inj h).2.2.2
    | exact mo_leaf (nxj_inj h).2.2.2
    | (obtain ⟨-, -, -, rfl⟩ := nx_inj h; exact ⟨Nat.le_refl _, Nat.le_refl _⟩)
    | (obtain ⟨-, -, -, rfl⟩ := nx_inj h; exact ⟨Nat.le_succ _, Nat.le_add_right _ _⟩)
theorem mo_imul  (h : stp (.imul) q pc lv st M = some (pc', lv', st', M')) : mS M ≤ mS M' ∧ mU M ≤ mU M' := by
  unfold stp at h
  dsimp only at h
  repeat' split at h
  all_goals first
    | (cases h; done)
    | exact mo_leaf (nx_inj h).2.2.2
    | exact mo_leaf (nxj_inj h).2.2.2
    | (obtain ⟨-, -, -, rfl⟩ := nx_inj h; exact ⟨Nat.le_refl _, Nat.le_refl _⟩)
    | (obtain ⟨-, -, -, rfl⟩ := nx_inj h; exact ⟨Nat.le_succ _, Nat.le_add_right _ _⟩)
theorem mo_iand  (h : stp (.iand) q pc lv st M = some (pc', lv', st', M')) : mS M ≤ mS M' ∧ mU M ≤ mU M' := by
  unfold stp at h
  dsimp only at h
  repeat' split at h
  all_goals first
    | (cases h; done)
    | exact mo_leaf (nx_inj h).2.2.2
    | exact mo_leaf (nxj_inj h).2.2.2
    | (obtain ⟨-, -, -, rfl⟩ := nx_inj h; exact ⟨Nat.le_refl _, Nat.le_refl _⟩)
    | (obtain ⟨-, -, -, rfl⟩ := nx_inj h; exact ⟨Nat.le_succ _, Nat.le_add_right _ _⟩)
theorem mo_ior  (h : stp (.ior) q pc lv st M = some (pc', lv', st', M')) : mS M ≤ mS M' ∧ mU M ≤ mU M' := by
  unfold stp at h
  dsimp only at h
  repeat' split at h
  all_goals first
    | (cases h; done)
    | exact mo_leaf (nx_inj h).2.2.2
    | exact mo_leaf (nxj_inj h).2.2.2
    | (obtain ⟨-, -, -, rfl⟩ := nx_inj h; exact ⟨Nat.le_refl _, Nat.le_refl _⟩)
    | (obtain ⟨-, -, -, rfl⟩ := nx_inj h; exact ⟨Nat.le_succ _, Nat.le_add_right _ _⟩)
theorem mo_ishl  (h : stp (.ishl) q pc lv st M = some (pc', lv', st', M')) : mS M ≤ mS M' ∧ mU M ≤ mU M' := by
  unfold stp at h
  dsimp only at h
  repeat' split at h
  all_goals first
    | (cases h; done)
    | exact mo_leaf (nx_inj h).2.2.2
    | exact mo_leaf (nxj_inj h).2.2.2
    | (obtain ⟨-, -, -, rfl⟩ := nx_inj h; exact ⟨Nat.le_refl _, Nat.le_refl _⟩)
    | (obtain ⟨-, -, -, rfl⟩ := nx_inj h; exact ⟨Nat.le_succ _, Nat.le_add_right _ _⟩)
theorem mo_ladd  (h : stp (.ladd) q pc lv st M = some (pc', lv', st', M')) : mS M ≤ mS M' ∧ mU M ≤ mU M' := by
  unfold stp at h
  dsimp only at h
  repeat' split at h
  all_goals first
    | (cases h; done)
    | exact mo_leaf (nx_inj h).2.2.2
    | exact mo_leaf (nxj_inj h).2.2.2
    | (obtain ⟨-, -, -, rfl⟩ := nx_inj h; exact ⟨Nat.le_refl _, Nat.le_refl _⟩)
    | (obtain ⟨-, -, -, rfl⟩ := nx_inj h; exact ⟨Nat.le_succ _, Nat.le_add_right _ _⟩)
theorem mo_lsub  (h : stp (.lsub) q pc lv st M = some (pc', lv', st', M')) : mS M ≤ mS M' ∧ mU M ≤ mU M' := by
  unfold stp at h
  dsimp only at h
  repeat' split at h
  all_goals first
    | (cases h; done)
    | exact mo_leaf (nx_inj h).2.2.2
    | exact mo_leaf (nxj_inj h).2.2.2
    | (obtain ⟨-, -, -, rfl⟩ := nx_inj h; exact ⟨Nat.le_refl _, Nat.le_refl _⟩)
    | (obtain ⟨-, -, -, rfl⟩ := nx_inj h; exact ⟨Nat.le_succ _, Nat.le_add_right _ _⟩)
theorem mo_land  (h : stp (.land) q pc lv st M = some (pc', lv', st', M')) : mS M ≤ mS M' ∧ mU M ≤ mU M' := by
  unfold stp at h
  dsimp only at h
  repeat' split at h
  all_goals first
    | (cases h; done)
    | exact mo_leaf (nx_inj h).2.2.2
    | exact mo_leaf (nxj_inj h).2.2.2
    | (obtain ⟨-, -, -, rfl⟩ := nx_inj h; exact ⟨Nat.le_refl _, Nat.le_refl _⟩)
    | (obtain ⟨-, -, -, rfl⟩ := nx_inj h; exact ⟨Nat.le_succ _, Nat.le_add_right _ _⟩)
theorem mo_lor  (h : stp (.lor) q pc lv st M = some (pc', lv', st', M')) : mS M ≤ mS M' ∧ mU M ≤ mU M' := by
  unfold stp at h
  dsimp only at h
  repeat' split at h
  all_goals first
    | (cases h; done)
    | exact mo_leaf (nx_inj h).2.2.2
    | exact mo_leaf (nxj_inj h).2.2.2
    | (obtain ⟨-, -, -, rfl⟩ := nx_inj h; exact ⟨Nat.le_refl _, Nat.le_refl _⟩)
    | (obtain ⟨-, -, -, rfl⟩ := nx_inj h; exact ⟨Nat.le_succ _, Nat.le_add_right _ _⟩)
theorem mo_lxor  (h : stp (.lxor) q pc lv st M = some (pc', lv', st', M')) : mS M ≤ mS M' ∧ mU M ≤ mU M' := by
  unfold stp at h
  dsimp only at h
  repeat' split at h
  all_goals first
    | (cases h; done)
    | exact mo_leaf (nx_inj h).2.2.2
    | exact mo_leaf (nxj_inj h).2.2.2
    | (obtain ⟨-, -, -, rfl⟩ := nx_inj h; exact ⟨Nat.le_refl _, Nat.le_refl _⟩)
    | (obtain ⟨-, -, -, rfl⟩ := nx_inj h; exact ⟨Nat.le_succ _, Nat.le_add_right _ _⟩)
theorem mo_lshl  (h : stp (.lshl) q pc lv st M = some (pc', lv', st', M')) : mS M ≤ mS M' ∧ mU M ≤ mU M' := by
  unfold stp at h
  dsimp only at h
  repeat' split at h
  all_goals first
    | (cases h; done)
    | exact mo_leaf (nx_inj h).2.2.2
    | exact mo_leaf (nxj_inj h).2.2.2
    | (obtain ⟨-, -, -, rfl⟩ := nx_inj h; exact ⟨Nat.le_refl _, Nat.le_refl _⟩)
    | (obtain ⟨-, -, -, rfl⟩ := nx_inj h; exact ⟨Nat.le_succ _, Nat.le_add_right _ _⟩)
theorem mo_lshr  (h : stp (.lshr) q pc lv st M = some (pc', lv', st', M')) : mS M ≤ mS M' ∧ mU M ≤ mU M' := by
  unfold stp at h
  dsimp only at h
  repeat' split at h
  all_goals first
    | (cases h; done)
    | exact mo_leaf (nx_inj h).2.2.2
    | exact mo_leaf (nxj_inj h).2.2.2
    | (obtain ⟨-, -, -, rfl⟩ := nx_inj h; exact ⟨Nat.le_refl _, Nat.le_refl _⟩)
    | (obtain ⟨-, -, -, rfl⟩ := nx_inj h; exact ⟨Nat.le_succ _, Nat.le_add_right _ _⟩)
theorem mo_lushr  (h : stp (.lushr) q pc lv st M = some (pc', lv', st', M')) : mS M ≤ mS M' ∧ mU M ≤ mU M' := by
  unfold stp at h
  dsimp only at h
  repeat' split at h
  all_goals first
    | (cases h; done)
    | exact mo_leaf (nx_inj h).2.2.2
    | exact mo_leaf (nxj_inj h).2.2.2
    | (obtain ⟨-, -, -, rfl⟩ := nx_inj h; exact ⟨Nat.le_refl _, Nat.le_refl _⟩)
    | (obtain ⟨-, -, -, rfl⟩ := nx_inj h; exact ⟨Nat.le_succ _, Nat.le_add_right _ _⟩)
theorem mo_i2l  (h : stp (.i2l) q pc lv st M = some (pc', lv', st', M')) : mS M ≤ mS M' ∧ mU M ≤ mU M' := by
  unfold stp at h
  dsimp only at h
  repeat' split at h
  all_goals first
    | (cases h; done)
    | exact mo_leaf (nx_inj h).2.2.2
    | exact mo_leaf (nxj_inj h).2.2.2
    | (obtain ⟨-, -, -, rfl⟩ := nx_inj h; exact ⟨Nat.le_refl _, Nat.le_refl _⟩)
    | (obtain ⟨-, -, -, rfl⟩ := nx_inj h; exact ⟨Nat.le_succ _, Nat.le_add_right _ _⟩)
theorem mo_l2i  (h : stp (.l2i) q pc lv st M = some (pc', lv', st', M')) : mS M ≤ mS M' ∧ mU M ≤ mU M' := by
  unfold stp at h
  dsimp only at h
  repeat' split at h
  all_goals first
    | (cases h; done)
    | exact mo_leaf (nx_inj h).2.2.2
    | exact mo_leaf (nxj_inj h).2.2.2
    | (obtain ⟨-, -, -, rfl⟩ := nx_inj h; exact ⟨Nat.le_refl _, Nat.le_refl _⟩)
    | (obtain ⟨-, -, -, rfl⟩ := nx_inj h; exact ⟨Nat.le_succ _, Nat.le_add_right _ _⟩)
theorem mo_lcmp  (h : stp (.lcmp) q pc lv st M = some (pc', lv', st', M')) : mS M ≤ mS M' ∧ mU M ≤ mU M' := by
  unfold stp at h
  dsimp only at h
  repeat' split at h
  all_goals first
    | (cases h; done)
    | exact mo_leaf (nx_inj h).2.2.2
    | exact mo_leaf (nxj_inj h).2.2.2
    | (obtain ⟨-, -, -, rfl⟩ := nx_inj h; exact ⟨Nat.le_refl _, Nat.le_refl _⟩)
    | (obtain ⟨-, -, -, rfl⟩ := nx_inj h; exact ⟨Nat.le_succ _, Nat.le_add_right _ _⟩)
theorem mo_idiv  (h : stp (.idiv) q pc lv st M = some (pc', lv', st', M')) : mS M ≤ mS M' ∧ mU M ≤ mU M' := by
  unfold stp at h
  dsimp only at h
  repeat' split at h
  all_goals first
    | (cases h; done)
    | exact mo_leaf (nx_inj h).2.2.2
    | exact mo_leaf (nxj_inj h).2.2.2
    | (obtain ⟨-, -, -, rfl⟩ := nx_inj h; exact ⟨Nat.le_refl _, Nat.le_refl _⟩)
    | (obtain ⟨-, -, -, rfl⟩ := nx_inj h; exact ⟨Nat.le_succ _, Nat.le_add_right _ _⟩)
theorem mo_dup  (h : stp (.dup) q pc lv st M = some (pc', lv', st', M')) : mS M ≤ mS M' ∧ mU M ≤ mU M' := by
  unfold stp at h
  dsimp only at h
  repeat' split at h
  all_goals first
    | (cases h; done)
    | exact mo_leaf (nx_inj h).2.2.2
    | exact mo_leaf (nxj_inj h).2.2.2
    | (obtain ⟨-, -, -, rfl⟩ := nx_inj h; exact ⟨Nat.le_refl _, Nat.le_refl _⟩)
    | (obtain ⟨-, -, -, rfl⟩ := nx_inj h; exact ⟨Nat.le_succ _, Nat.le_add_right _ _⟩)
theorem mo_pop  (h : stp (.pop) q pc lv st M = some (pc', lv', st', M')) : mS M ≤ mS M' ∧ mU M ≤ mU M' := by
  unfold stp at h
  dsimp only at h
  repeat' split at h
  all_goals first
    | (cases h; done)
    | exact mo_leaf (nx_inj h).2.2.2
    | exact mo_leaf (nxj_inj h).2.2.2
    | (obtain ⟨-, -, -, rfl⟩ := nx_inj h; exact ⟨Nat.le_refl _, Nat.le_refl _⟩)
    | (obtain ⟨-, -, -, rfl⟩ := nx_inj h; exact ⟨Nat.le_succ _, Nat.le_add_right _ _⟩)
theorem mo_dup2  (h : stp (.dup2) q pc lv st M = some (pc', lv', st', M')) : mS M ≤ mS M' ∧ mU M ≤ mU M' := by
  unfold stp at h
  dsimp only at h
  repeat' split at h
  all_goals first
    | (cases h; done)
    | exact mo_leaf (nx_inj h).2.2.2
    | exact mo_leaf (nxj_inj h).2.2.2
    | (obtain ⟨-, -, -, rfl⟩ := nx_inj h; exact ⟨Nat.le_refl _, Nat.le_refl _⟩)
    | (obtain ⟨-, -, -, rfl⟩ := nx_inj h; exact ⟨Nat.le_succ _, Nat.le_add_right _ _⟩)
theorem mo_goto {j : Int} (h : stp (.goto j) q pc lv st M = some (pc', lv', st', M')) : mS M ≤ mS M' ∧ mU M ≤ mU M' := by
  unfold stp at h
  dsimp only at h
  repeat' split at h
  all_goals first
    | (cases h; done)
    | exact mo_leaf (nx_inj h).2.2.2
    | exact mo_leaf (nxj_inj h).2.2.2
    | (obtain ⟨-, -, -, rfl⟩ := nx_inj h; exact ⟨Nat.le_refl _, Nat.le_refl _⟩)
    | (obtain ⟨-, -, -, rfl⟩ := nx_inj h; exact ⟨Nat.le_succ _, Nat.le_add_right _ _⟩)
theorem mo_ifCond_eq {j : Int} (h : stp (.ifCond .eq j) q pc lv st M = some (pc', lv', st', M')) : mS M ≤ mS M' ∧ mU M ≤ mU M' := by
  unfold stp at h
  dsimp only at h
  repeat' split at h
  all_goals first
    | (cases h; done)
    | exact mo_leaf (nx_inj h).2.2.2
    | exact mo_leaf (nxj_inj h).2.2.2
    | (obtain ⟨-, -, -, rfl⟩ := nx_inj h; exact ⟨Nat.le_refl _, Nat.le_refl _⟩)
    | (obtain ⟨-, -, -, rfl⟩ := nx_inj h; exact ⟨Nat.le_succ _, Nat.le_add_right _ _⟩)
theorem mo_ifCond_ne {j : Int} (h : stp (.ifCond .ne j) q pc lv st M = some (pc', lv', st', M')) : mS M ≤ mS M' ∧ mU M ≤ mU M' := by
  unfold stp at h
  dsimp only at h
  repeat' split at h
  all_goals first
    | (cases h; done)
    | exact mo_leaf (nx_inj h).2.2.2
    | exact mo_leaf (nxj_inj h).2.2.2
    | (obtain ⟨-, -, -, rfl⟩ := nx_inj h; exact ⟨Nat.le_refl _, Nat.le_refl _⟩)
    | (obtain ⟨-, -, -, rfl⟩ := nx_inj h; exact ⟨Nat.le_succ _, Nat.le_add_right _ _⟩)
theorem mo_ifCond_lt {j : Int} (h : stp (.ifCond .lt j) q pc lv st M = some (pc', lv', st', M')) : mS M ≤ mS M' ∧ mU M ≤ mU M' := by
  unfold stp at h
  dsimp only at h
  repeat' split at h
  all_goals first
    | (cases h; done)
    | exact mo_leaf (nx_inj h).2.2.2
    | exact mo_leaf (nxj_inj h).2.2.2
    | (obtain ⟨-, -, -, rfl⟩ := nx_inj h; exact ⟨Nat.le_refl _, Nat.le_refl _⟩)
    | (obtain ⟨-, -, -, rfl⟩ := nx_inj h; exact ⟨Nat.le_succ _, Nat.le_add_right _ _⟩)
theorem mo_ifCond_ge {j : Int} (h : stp (.ifCond .ge j) q pc lv st M = some (pc', lv', st', M')) : mS M ≤ mS M' ∧ mU M ≤ mU M' := by
  unfold stp at h
  dsimp only at h
  repeat' split at h
  all_goals first
    | (cases h; done)
    | exact mo_leaf (nx_inj h).2.2.2
    | exact mo_leaf (nxj_inj h).2.2.2
    | (obtain ⟨-, -, -, rfl⟩ := nx_inj h; exact ⟨Nat.le_refl _, Nat.le_refl _⟩)
    | (obtain ⟨-, -, -, rfl⟩ := nx_inj h; exact ⟨Nat.le_succ _, Nat.le_add_right _ _⟩)
theorem mo_ifCond_gt {j : Int} (h : stp (.ifCond .gt j) q pc lv st M = some (pc', lv', st', M')) : mS M ≤ mS M' ∧ mU M ≤ mU M' := by
  unfold stp at h
  dsimp only at h
  repeat' split at h
  all_goals first
    | (cases h; done)
    | exact mo_leaf (nx_inj h).2.2.2
    | exact mo_leaf (nxj_inj h).2.2.2
    | (obtain ⟨-, -, -, rfl⟩ := nx_inj h; exact ⟨Nat.le_refl _, Nat.le_refl _⟩)
    | (obtain ⟨-, -, -, rfl⟩ := nx_inj h; exact ⟨Nat.le_succ _, Nat.le_add_right _ _⟩)
theorem mo_ifCond_le {j : Int} (h : stp (.ifCond .le j) q pc lv st M = some (pc', lv', st', M')) : mS M ≤ mS M' ∧ mU M ≤ mU M' := by
  unfold stp at h
  dsimp only at h
  repeat' split at h
  all_goals first
    | (cases h; done)
    | exact mo_leaf (nx_inj h).2.2.2
    | exact mo_leaf (nxj_inj h).2.2.2
    | (obtain ⟨-, -, -, rfl⟩ := nx_inj h; exact ⟨Nat.le_refl _, Nat.le_refl _⟩)
    | (obtain ⟨-, -, -, rfl⟩ := nx_inj h; exact ⟨Nat.le_succ _, Nat.le_add_right _ _⟩)
theorem mo_if_icmp_eq {j : Int} (h : stp (.if_icmp .eq j) q pc lv st M = some (pc', lv', st', M')) : mS M ≤ mS M' ∧ mU M ≤ mU M' := by
  unfold stp at h
  dsimp only at h
  repeat' split at h
  all_goals first
    | (cases h; done)
    | exact mo_leaf (nx_inj h).2.2.2
    | exact mo_leaf (nxj_inj h).2.2.2
    | (obtain ⟨-, -, -, rfl⟩ := nx_inj h; exact ⟨Nat.le_refl _, Nat.le_refl _⟩)
    | (obtain ⟨-, -, -, rfl⟩ := nx_inj h; exact ⟨Nat.le_succ _, Nat.le_add_right _ _⟩)
theorem mo_if_icmp_ne {j : Int} (h : stp (.if_icmp .ne j) q pc lv st M = some (pc', lv', st', M')) : mS M ≤ mS M' ∧ mU M ≤ mU M' := by
  unfold stp at h
  dsimp only at h
  repeat' split at h
  all_goals first
    | (cases h; done)
    | exact mo_leaf (nx_inj h).2.2.2
    | exact mo_leaf (nxj_inj h).2.2.2
    | (obtain ⟨-, -, -, rfl⟩ := nx_inj h; exact ⟨Nat.le_refl _, Nat.le_refl _⟩)
    | (obtain ⟨-, -, -, rfl⟩ := nx_inj h; exact ⟨Nat.le_succ _, Nat.le_add_right _ _⟩)
theorem mo_if_icmp_lt {j : Int} (h : stp (.if_icmp .lt j) q pc lv st M = some (pc', lv', st', M')) : mS M ≤ mS M' ∧ mU M ≤ mU M' := by
  unfold stp at h
  dsimp only at h
  repeat' split at h
  all_goals first
    | (cases h; done)
    | exact mo_leaf (nx_inj h).2.2.2
    | exact mo_leaf (nxj_inj h).2.2.2
    | (obtain ⟨-, -, -, rfl⟩ := nx_inj h; exact ⟨Nat.le_refl _, Nat.le_refl _⟩)
    | (obtain ⟨-, -, -, rfl⟩ := nx_inj h; exact ⟨Nat.le_succ _, Nat.le_add_right _ _⟩)
theorem mo_if_icmp_ge {j : Int} (h : stp (.if_icmp .ge j) q pc lv st M = some (pc', lv', st', M')) : mS M ≤ mS M' ∧ mU M ≤ mU M' := by
  unfold stp at h
  dsimp only at h
  repeat' split at h
  all_goals first
    | (cases h; done)
    | exact mo_leaf (nx_inj h).2.2.2
    | exact mo_leaf (nxj_inj h).2.2.2
    | (obtain ⟨-, -, -, rfl⟩ := nx_inj h; exact ⟨Nat.le_refl _, Nat.le_refl _⟩)
    | (obtain ⟨-, -, -, rfl⟩ := nx_inj h; exact ⟨Nat.le_succ _, Nat.le_add_right _ _⟩)
theorem mo_if_icmp_gt {j : Int} (h : stp (.if_icmp .gt j) q pc lv st M = some (pc', lv', st', M')) : mS M ≤ mS M' ∧ mU M ≤ mU M' := by
  unfold stp at h
  dsimp only at h
  repeat' split at h
  all_goals first
    | (cases h; done)
    | exact mo_leaf (nx_inj h).2.2.2
    | exact mo_leaf (nxj_inj h).2.2.2
    | (obtain ⟨-, -, -, rfl⟩ := nx_inj h; exact ⟨Nat.le_refl _, Nat.le_refl _⟩)
    | (obtain ⟨-, -, -, rfl⟩ := nx_inj h; exact ⟨Nat.le_succ _, Nat.le_add_right _ _⟩)
theorem mo_if_icmp_le {j : Int} (h : stp (.if_icmp .le j) q pc lv st M = some (pc', lv', st', M')) : mS M ≤ mS M' ∧ mU M ≤ mU M' := by
  unfold stp at h
  dsimp only at h
  repeat' split at h
  all_goals first
    | (cases h; done)
    | exact mo_leaf (nx_inj h).2.2.2
    | exact mo_leaf (nxj_inj h).2.2.2
    | (obtain ⟨-, -, -, rfl⟩ := nx_inj h; exact ⟨Nat.le_refl _, Nat.le_refl _⟩)
    | (obtain ⟨-, -, -, rfl⟩ := nx_inj h; exact ⟨Nat.le_succ _, Nat.le_add_right _ _⟩)
theorem mo_tableswitch {d lo hi : Int} {offs : Array Int} (h : stp (.tableswitch d lo hi offs) q pc lv st M = some (pc', lv', st', M')) : mS M ≤ mS M' ∧ mU M ≤ mU M' := by
  unfold stp at h
  dsimp only at h
  repeat' split at h
  all_goals first
    | (cases h; done)
    | exact mo_leaf (nx_inj h).2.2.2
    | exact mo_leaf (nxj_inj h).2.2.2
    | (obtain ⟨-, -, -, rfl⟩ := nx_inj h; exact ⟨Nat.le_refl _, Nat.le_refl _⟩)
    | (obtain ⟨-, -, -, rfl⟩ := nx_inj h; exact ⟨Nat.le_succ _, Nat.le_add_right _ _⟩)
theorem mo_getfield {i : Nat} (h : stp (.getfield i) q pc lv st M = some (pc', lv', st', M')) : mS M ≤ mS M' ∧ mU M ≤ mU M' := by
  unfold stp at h
  dsimp only at h
  repeat' split at h
  all_goals first
    | (cases h; done)
    | exact mo_leaf (nx_inj h).2.2.2
    | exact mo_leaf (nxj_inj h).2.2.2
    | (obtain ⟨-, -, -, rfl⟩ := nx_inj h; exact ⟨Nat.le_refl _, Nat.le_refl _⟩)
    | (obtain ⟨-, -, -, rfl⟩ := nx_inj h; exact ⟨Nat.le_succ _, Nat.le_add_right _ _⟩)
theorem mo_putfield {i : Nat} (h : stp (.putfield i) q pc lv st M = some (pc', lv', st', M')) : mS M ≤ mS M' ∧ mU M ≤ mU M' := by
  unfold stp at h
  dsimp only at h
  repeat' split at h
  all_goals first
    | (cases h; done)
    | exact mo_leaf (nx_inj h).2.2.2
    | exact mo_leaf (nxj_inj h).2.2.2
    | (obtain ⟨-, -, -, rfl⟩ := nx_inj h; exact ⟨Nat.le_refl _, Nat.le_refl _⟩)
    | (obtain ⟨-, -, -, rfl⟩ := nx_inj h; exact ⟨Nat.le_succ _, Nat.le_add_right _ _⟩)
theorem mo_iaload  (h : stp (.iaload) q pc lv st M = some (pc', lv', st', M')) : mS M ≤ mS M' ∧ mU M ≤ mU M' := by
  unfold stp at h
  dsimp only at h
  repeat' split at h
  all_goals first
    | (cases h; done)
    | exact mo_leaf (nx_inj h).2.2.2
    | exact mo_leaf (nxj_inj h).2.2.2
    | (obtain ⟨-, -, -, rfl⟩ := nx_inj h; exact ⟨Nat.le_refl _, Nat.le_refl _⟩)
    | (obtain ⟨-, -, -, rfl⟩ := nx_inj h; exact ⟨Nat.le_succ _, Nat.le_add_right _ _⟩)
theorem mo_laload  (h : stp (.laload) q pc lv st M = some (pc', lv', st', M')) : mS M ≤ mS M' ∧ mU M ≤ mU M' := by
  unfold stp at h
  dsimp only at h
  repeat' split at h
  all_goals first
    | (cases h; done)
    | exact mo_leaf (nx_inj h).2.2.2
    | exact mo_leaf (nxj_inj h).2.2.2
    | (obtain ⟨-, -, -, rfl⟩ := nx_inj h; exact ⟨Nat.le_refl _, Nat.le_refl _⟩)
    | (obtain ⟨-, -, -, rfl⟩ := nx_inj h; exact ⟨Nat.le_succ _, Nat.le_add_right _ _⟩)
theorem mo_aaload  (h : stp (.aaload) q pc lv st M = some (pc', lv', st', M')) : mS M ≤ mS M' ∧ mU M ≤ mU M' := by
  unfold stp at h
  dsimp only at h
  repeat' split at h
  all_goals first
    | (cases h; done)
    | exact mo_leaf (nx_inj h).2.2.2
    | exact mo_leaf (nxj_inj h).2.2.2
    | (obtain ⟨-, -, -, rfl⟩ := nx_inj h; exact ⟨Nat.le_refl _, Nat.le_refl _⟩)
    | (obtain ⟨-, -, -, rfl⟩ := nx_inj h; exact ⟨Nat.le_succ _, Nat.le_add_right _ _⟩)
theorem mo_iastore  (h : stp (.iastore) q pc lv st M = some (pc', lv', st', M')) : mS M ≤ mS M' ∧ mU M ≤ mU M' := by
  unfold stp at h
  dsimp only at h
  repeat' split at h
  all_goals first
    | (cases h; done)
    | exact mo_leaf (nx_inj h).2.2.2
    | exact mo_leaf (nxj_inj h).2.2.2
    | (obtain ⟨-, -, -, rfl⟩ := nx_inj h; exact ⟨Nat.le_refl _, Nat.le_refl _⟩)
    | (obtain ⟨-, -, -, rfl⟩ := nx_inj h; exact ⟨Nat.le_succ _, Nat.le_add_right _ _⟩)
theorem mo_lastore  (h : stp (.lastore) q pc lv st M = some (pc', lv', st', M')) : mS M ≤ mS M' ∧ mU M ≤ mU M' := by
  unfold stp at h
  dsimp only at h
  repeat' split at h
  all_goals first
    | (cases h; done)
    | exact mo_leaf (nx_inj h).2.2.2
    | exact mo_leaf (nxj_inj h).2.2.2
    | (obtain ⟨-, -, -, rfl⟩ := nx_inj h; exact ⟨Nat.le_refl _, Nat.le_refl _⟩)
    | (obtain ⟨-, -, -, rfl⟩ := nx_inj h; exact ⟨Nat.le_succ _, Nat.le_add_right _ _⟩)
theorem mo_aastore  (h : stp (.aastore) q pc lv st M = some (pc', lv', st', M')) : mS M ≤ mS M' ∧ mU M ≤ mU M' := by
  unfold stp at h
  dsimp only at h
  repeat' split at h
  all_goals first
    | (cases h; done)
    | exact mo_leaf (nx_inj h).2.2.2
    | exact mo_leaf (nxj_inj h).2.2.2
    | (obtain ⟨-, -, -, rfl⟩ := nx_inj h; exact ⟨Nat.le_refl _, Nat.le_refl _⟩)
    | (obtain ⟨-, -, -, rfl⟩ := nx_inj h; exact ⟨Nat.le_succ _, Nat.le_add_right _ _⟩)
theorem mo_arraylength  (h : stp (.arraylength) q pc lv st M = some (pc', lv', st', M')) : mS M ≤ mS M' ∧ mU M ≤ mU M' := by
  unfold stp at h
  dsimp only at h
  repeat' split at h
  all_goals first
    | (cases h; done)
    | exact mo_leaf (nx_inj h).2.2.2
    | exact mo_leaf (nxj_inj h).2.2.2
    | (obtain ⟨-, -, -, rfl⟩ := nx_inj h; exact ⟨Nat.le_refl _, Nat.le_refl _⟩)
    | (obtain ⟨-, -, -, rfl⟩ := nx_inj h; exact ⟨Nat.le_succ _, Nat.le_add_right _ _⟩)
theorem mo_new {i : Nat} (h : stp (.new i) q pc lv st M = some (pc', lv', st', M')) : mS M ≤ mS M' ∧ mU M ≤ mU M' := by
  unfold stp at h
  dsimp only at h
  repeat' split at h
  all_goals first
    | (cases h; done)
    | exact mo_leaf (nx_inj h).2.2.2
    | exact mo_leaf (nxj_inj h).2.2.2
    | (obtain ⟨-, -, -, rfl⟩ := nx_inj h; exact ⟨Nat.le_refl _, Nat.le_refl _⟩)
    | (obtain ⟨-, -, -, rfl⟩ := nx_inj h; exact ⟨Nat.le_succ _, Nat.le_add_right _ _⟩)
theorem mo_newarray {t : ArrayType} (h : stp (.newarray t) q pc lv st M = some (pc', lv', st', M')) : mS M ≤ mS M' ∧ mU M ≤ mU M' := by
  unfold stp at h
  dsimp only at h
  repeat' split at h
  all_goals first
    | (cases h; done)
    | exact mo_leaf (nx_inj h).2.2.2
    | exact mo_leaf (nxj_inj h).2.2.2
    | (obtain ⟨-, -, -, rfl⟩ := nx_inj h; exact ⟨Nat.le_refl _, Nat.le_refl _⟩)
    | (obtain ⟨-, -, -, rfl⟩ := nx_inj h; exact ⟨Nat.le_succ _, Nat.le_add_right _ _⟩)
theorem mo_anewarray {i : Nat} (h : stp (.anewarray i) q pc lv st M = some (pc', lv', st', M')) : mS M ≤ mS M' ∧ mU M ≤ mU M' := by
  unfold stp at h
  dsimp only at h
  repeat' split at h
  all_goals first
    | (cases h; done)
    | exact mo_leaf (nx_inj h).2.2.2
    | exact mo_leaf (nxj_inj h).2.2.2
    | (obtain ⟨-, -, -, rfl⟩ := nx_inj h; exact ⟨Nat.le_refl _, Nat.le_refl _⟩)
    | (obtain ⟨-, -, -, rfl⟩ := nx_inj h; exact ⟨Nat.le_succ _, Nat.le_add_right _ _⟩)
theorem mo_invokespecial {i : Nat} (h : stp (.invokespecial i) q pc lv st M = some (pc', lv', st', M')) : mS M ≤ mS M' ∧ mU M ≤ mU M' := by
  unfold stp at h
  dsimp only at h
  repeat' split at h
  all_goals first
    | (cases h; done)
    | exact mo_leaf (nx_inj h).2.2.2
    | exact mo_leaf (nxj_inj h).2.2.2
    | (obtain ⟨-, -, -, rfl⟩ := nx_inj h; exact ⟨Nat.le_refl _, Nat.le_refl _⟩)
    | (obtain ⟨-, -, -, rfl⟩ := nx_inj h; exact ⟨Nat.le_succ _, Nat.le_add_right _ _⟩)
theorem mo_invokestatic {i : Nat} (h : stp (.invokestatic i) q pc lv st M = some (pc', lv', st', M')) : mS M ≤ mS M' ∧ mU M ≤ mU M' := by
  unfold stp at h
  dsimp only at h
  unfold doC at h
  repeat' split at h
  all_goals first
    | (cases h; done)
    | exact mo_leaf (nx_inj h).2.2.2
    | exact mo_leaf (nxj_inj h).2.2.2
    | (obtain ⟨-, -, -, rfl⟩ := nx_inj h; exact ⟨Nat.le_refl _, Nat.le_refl _⟩)
    | (obtain ⟨-, -, -, rfl⟩ := nx_inj h; exact ⟨Nat.le_succ _, Nat.le_add_right _ _⟩)
end MO
theorem mo_all {i : Instr} {q pc pc' : Nat} {lv lv' : List (Option Value)} {st st' : List Value} {M M' : SM} (h : stp i q pc lv st M = some (pc', lv', st', M')) : mS M ≤ mS M' ∧ mU M ≤ mU M' := by
  cases i
  case iload_n => exact mo_iload_n h
  case iload => exact mo_iload h
  case aload_n => exact mo_aload_n h
  case aload => exact mo_aload h
  case lload_n => exact mo_lload_n h
  case lload => exact mo_lload h
  case istore_n => exact mo_istore_n h
  case istore => exact mo_istore h
  case astore_n => exact mo_astore_n h
  case astore => exact mo_astore h
  case lstore_n => exact mo_lstore_n h
  case lstore => exact mo_lstore h
  case iinc => exact mo_iinc h
  case iconst => exact mo_iconst h
  case bipush => exact mo_bipush h
  case sipush => exact mo_sipush h
  case lconst => exact mo_lconst h
  case ldc2_w => exact mo_ldc2_w h
  case iadd => exact mo_iadd h
  case isub => exact mo_isub h
  case imul => exact mo_imul h
  case iand => exact mo_iand h
  case ior => exact mo_ior h
  case ishl => exact mo_ishl h
  case ladd => exact mo_ladd h
  case lsub => exact mo_lsub h
  case land => exact mo_land h
  case lor => exact mo_lor h
  case lxor => exact mo_lxor h
  case lshl => exact mo_lshl h
  case lshr => exact mo_lshr h
  case lushr => exact mo_lushr h
  case i2l => exact mo_i2l h
  case l2i => exact mo_l2i h
  case lcmp => exact mo_lcmp h
  case idiv => exact mo_idiv h
  case dup => exact mo_dup h
  case pop => exact mo_pop h
  case dup2 => exact mo_dup2 h
  case goto => exact mo_goto h
  case ifCond cc j =>
    cases cc
    · exact mo_ifCond_eq h
    · exact mo_ifCond_ne h
    · exact mo_ifCond_lt h
    · exact mo_ifCond_ge h
    · exact mo_ifCond_gt h
    · exact mo_ifCond_le h
  case if_icmp cc j =>
    cases cc
    · exact mo_if_icmp_eq h
    · exact mo_if_icmp_ne h
    · exact mo_if_icmp_lt h
    · exact mo_if_icmp_ge h
    · exact mo_if_icmp_gt h
    · exact mo_if_icmp_le h
  case tableswitch => exact mo_tableswitch h
  case getfield => exact mo_getfield h
  case putfield => exact mo_putfield h
  case iaload => exact mo_iaload h
  case laload => exact mo_laload h
  case aaload => exact mo_aaload h
  case iastore => exact mo_iastore h
  case lastore => exact mo_lastore h
  case aastore => exact mo_aastore h
  case arraylength => exact mo_arraylength h
  case new => exact mo_new h
  case newarray => exact mo_newarray h
  case anewarray => exact mo_anewarray h
  case invokespecial => exact mo_invokespecial h
  case invokestatic => exact mo_invokestatic h
  all_goals exact nomatch (show (none : Option Nx) = some _ from h)
theorem st_all {p : Program} {l : Launch} {e : Env} {R : Room} {s : State} {m : MethodId} {args : Array Value} {below : List Frame} {meth : Method} {c : Code} {H : Heap} {locs : List Loc} {Q : State → Prop}
    {G : GT} {q : Nat} {M M' : SM} {pc pc' len S0 U0 : Nat} {ls : Array Slot} {lv lv' : List (Option Value)} {st st' : List Value} {i : Instr}
    (C : Cx G q p R s m args meth c) (S : Sd G q M H locs ls lv) (hq : q < 177) (hS0 : S0 ≤ mS M) (hU0 : U0 ≤ mU M) (hc : mS M' ≤ R.cells + S0) (hu : mU M' ≤ R.slots + U0) (hd : decode (mB q) pc = .ok (i, len)) (hl : lenOK i len = true) (h : stp i q pc lv st M = some (pc', lv', st', M')) (kk : Kk G q p l e R s m args below meth c Q S0 U0 pc' lv' st' M') : W p l e R s m args below meth c H locs (mS M - S0) (mU M - U0) Q (F0 m pc ls st) := by
  cases i
  case iload_n => exact st_iload_n C S hq hS0 hU0 hc hu hd hl h kk
  case iload => exact st_iload C S hq hS0 hU0 hc hu hd hl h kk
  case aload_n => exact st_aload_n C S hq hS0 hU0 hc hu hd hl h kk
  case aload => exact st_aload C S hq hS0 hU0 hc hu hd hl h kk
  case lload_n => exact st_lload_n C S hq hS0 hU0 hc hu hd hl h kk
  case lload => exact st_lload C S hq hS0 hU0 hc hu hd hl h kk
  case istore_n => exact st_istore_n C S hq hS0 hU0 hc hu hd hl h kk
  case istore => exact st_istore C S hq hS0 hU0 hc hu hd hl h kk
  case astore_n => exact st_astore_n C S hq hS0 hU0 hc hu hd hl h kk
  case astore => exact st_astore C S hq hS0 hU0 hc hu hd hl h kk
  case lstore_n => exact st_lstore_n C S hq hS0 hU0 hc hu hd hl h kk
  case lstore => exact st_lstore C S hq hS0 hU0 hc hu hd hl h kk
  case iinc => exact st_iinc C S hq hS0 hU0 hc hu hd hl h kk
  case iconst => exact st_iconst C S hq hS0 hU0 hc hu hd hl h kk
  case bipush => exact st_bipush C S hq hS0 hU0 hc hu hd hl h kk
  case sipush => exact st_sipush C S hq hS0 hU0 hc hu hd hl h kk
  case lconst => exact st_lconst C S hq hS0 hU0 hc hu hd hl h kk
  case ldc2_w => exact st_ldc2_w C S hq hS0 hU0 hc hu hd hl h kk
  case iadd => exact st_iadd C S hq hS0 hU0 hc hu hd hl h kk
  case isub => exact st_isub C S hq hS0 hU0 hc hu hd hl h kk
  case imul => exact st_imul C S hq hS0 hU0 hc hu hd hl h kk
  case iand => exact st_iand C S hq hS0 hU0 hc hu hd hl h kk
  case ior => exact st_ior C S hq hS0 hU0 hc hu hd hl h kk
  case ishl => exact st_ishl C S hq hS0 hU0 hc hu hd hl h kk
  case ladd => exact st_ladd C S hq hS0 hU0 hc hu hd hl h kk
  case lsub => exact st_lsub C S hq hS0 hU0 hc hu hd hl h kk
  case land => exact st_land C S hq hS0 hU0 hc hu hd hl h kk
  case lor => exact st_lor C S hq hS0 hU0 hc hu hd hl h kk
  case lxor => exact st_lxor C S hq hS0 hU0 hc hu hd hl h kk
  case lshl => exact st_lshl C S hq hS0 hU0 hc hu hd hl h kk
  case lshr => exact st_lshr C S hq hS0 hU0 hc hu hd hl h kk
  case lushr => exact st_lushr C S hq hS0 hU0 hc hu hd hl h kk
  case i2l => exact st_i2l C S hq hS0 hU0 hc hu hd hl h kk
  case l2i => exact st_l2i C S hq hS0 hU0 hc hu hd hl h kk
  case lcmp => exact st_lcmp C S hq hS0 hU0 hc hu hd hl h kk
  case idiv => exact st_idiv C S hq hS0 hU0 hc hu hd hl h kk
  case dup => exact st_dup C S hq hS0 hU0 hc hu hd hl h kk
  case pop => exact st_pop C S hq hS0 hU0 hc hu hd hl h kk
  case dup2 => exact st_dup2 C S hq hS0 hU0 hc hu hd hl h kk
  case goto => exact st_goto C S hq hS0 hU0 hc hu hd hl h kk
  case ifCond cc j =>
    cases cc
    · exact st_ifCond_eq C S hq hS0 hU0 hc hu hd hl h kk
    · exact st_ifCond_ne C S hq hS0 hU0 hc hu hd hl h kk
    · exact st_ifCond_lt C S hq hS0 hU0 hc hu hd hl h kk
    · exact st_ifCond_ge C S hq hS0 hU0 hc hu hd hl h kk
    · exact st_ifCond_gt C S hq hS0 hU0 hc hu hd hl h kk
    · exact st_ifCond_le C S hq hS0 hU0 hc hu hd hl h kk
  case if_icmp cc j =>
    cases cc
    · exact st_if_icmp_eq C S hq hS0 hU0 hc hu hd hl h kk
    · exact st_if_icmp_ne C S hq hS0 hU0 hc hu hd hl h kk
    · exact st_if_icmp_lt C S hq hS0 hU0 hc hu hd hl h kk
    · exact st_if_icmp_ge C S hq hS0 hU0 hc hu hd hl h kk
    · exact st_if_icmp_gt C S hq hS0 hU0 hc hu hd hl h kk
    · exact st_if_icmp_le C S hq hS0 hU0 hc hu hd hl h kk
  case tableswitch => exact st_tableswitch C S hq hS0 hU0 hc hu hd hl h kk
  case getfield => exact st_getfield C S hq hS0 hU0 hc hu hd hl h kk
  case putfield => exact st_putfield C S hq hS0 hU0 hc hu hd hl h kk
  case iaload => exact st_iaload C S hq hS0 hU0 hc hu hd hl h kk
  case laload => exact st_laload C S hq hS0 hU0 hc hu hd hl h kk
  case aaload => exact st_aaload C S hq hS0 hU0 hc hu hd hl h kk
  case iastore => exact st_iastore C S hq hS0 hU0 hc hu hd hl h kk
  case lastore => exact st_lastore C S hq hS0 hU0 hc hu hd hl h kk
  case aastore => exact st_aastore C S hq hS0 hU0 hc hu hd hl h kk
  case arraylength => exact st_arraylength C S hq hS0 hU0 hc hu hd hl h kk
  case new => exact st_new C S hq hS0 hU0 hc hu hd hl h kk
  case newarray => exact st_newarray C S hq hS0 hU0 hc hu hd hl h kk
  case anewarray => exact st_anewarray C S hq hS0 hU0 hc hu hd hl h kk
  case invokespecial => exact st_invokespecial C S hq hS0 hU0 hc hu hd hl h kk
  case invokestatic => exact st_invokestatic C S hq hS0 hU0 hc hu hd hl h kk
  all_goals exact nomatch (show (none : Option Nx) = some _ from h)
end
section
/-! calls, and the whole run: what the small machine answers, the machine answers -/
theorem parA : (List.range 176).all (fun q => decide ((parseMethodDescriptor (yN q).desc).map (fun d => d.parameters.length) = some (nPar q))) = true := by decide +kernel
theorem cal_spec {own i q2 kd : Nat} (h : cal own i = some (q2, kd)) : ∃ e ∈ calT, e.1 = own ∧ e.2.1 = i ∧ e.2.2.1 = q2 ∧ e.2.2.2.1 = kd := by
  unfold cal at h
  cases hf : calT.find? (fun e => e.1 == own && e.2.1 == i) with
  | none => rw [hf] at h; cases h
  | some e =>
    rw [hf] at h
    cases h
    have h1 := List.find?_some hf
    simp only [Bool.and_eq_true, beq_iff_eq] at h1
    exact ⟨e, List.mem_of_find?_eq_some hf, h1.1, h1.2, rfl, rfl⟩
theorem cal_lt {own i q2 kd : Nat} (h : cal own i = some (q2, kd)) : q2 < 176 := by
  obtain ⟨e, he, -, -, rfl, -⟩ := cal_spec h
  have := List.all_eq_true.mp calA e he
  unfold calOK at this
  rw [Bool.and_eq_true] at this
  exact Nat.le_of_ble_eq_true this.1
theorem cls_ok {q : Nat} (h : q < 176) : (yN q).cls = CN (ow q) ∧ Cond.initialized (CN (ow q)) ∈ lw_gd := by
  have := List.all_eq_true.mp clsA q (List.mem_range.mpr h)
  unfold clsOK at this
  rw [Bool.and_eq_true, beq_iff_eq] at this
  exact ⟨this.1, hasW_in this.2⟩
theorem mh_ok {q : Nat} (h : q < 176) : (yN q).cls ≠ "java/lang/invoke/MethodHandle" ∧ (yN q).cls ≠ "java/lang/invoke/VarHandle" ∧ (parseMethodDescriptor (yN q).desc).map (fun d => d.parameters.length) = some (nPar q) := by
  have h0 := List.all_eq_true.mp owA q (List.mem_range.mpr (by omega))
  rw [Bool.and_eq_true] at h0
  have h1 := List.all_eq_true.mp mhA (ow q) (List.mem_range.mpr (Nat.le_of_ble_eq_true h0.1))
  simp only [Bool.and_eq_true, bne_iff_ne] at h1
  rw [(cls_ok h).1]
  exact ⟨h1.1, h1.2, of_decide_eq_true (List.all_eq_true.mp parA q (List.mem_range.mpr h))⟩
theorem mL_le {q : Nat} (h : q < 177) : mL q ≤ 8 := by
  have h0 := List.all_eq_true.mp owA q (List.mem_range.mpr h)
  rw [Bool.and_eq_true] at h0
  exact Nat.le_of_ble_eq_true h0.2
theorem ip_s {q : Nat} (h : q < 176) (hs : stM q = true) : Cond.static (yN q) ∈ lw_gd := by
  have := List.all_eq_true.mp ipA q (List.mem_range.mpr h)
  unfold ipOK at this
  rw [if_pos hs] at this
  exact hasW_in this
theorem ip_i {q : Nat} (h : q < 176) (hs : stM q = false) : Cond.instanceMethod (yN q) ∈ lw_gd := by
  have := List.all_eq_true.mp ipA q (List.mem_range.mpr h)
  unfold ipOK at this
  rw [if_neg (by rw [hs]; decide)] at this
  exact hasW_in this
theorem sp_i {q : Nat} (h : q < 176) (hs : stM q = false) (hi : isI q = false) : Cond.selects (yN q).cls (yN q) (yN q) ∈ lw_gd := by
  have := List.all_eq_true.mp spA q (List.mem_range.mpr h)
  unfold spOK at this
  rw [hs, hi] at this
  exact hasW_in this
theorem good_ws {q : Nat} (h : q < 176) : GoodIn lw_gd (mWs q) := fun w hw => by
  rcases List.mem_cons.mp hw with rfl | hw
  · exact gd_good _ (cod_in h)
  · exact gd_good _ hw
/-- the room of a method that makes so many cells -/
def mRm (q a b : Nat) : Room := { frames := dp q, cells := a, slots := b, locals := 36 * dp q }
def mPc (G : GT) (M : SM) (as : List Value) : Array Value → State → Prop := fun a U => a = as.toArray ∧ Wld G M U.heap ∧ Kn G U
def mQc (G : GT) (M : SM) (v : Option Value) : Array Value → State → Outcome → State → Prop := fun _ _ o t => o = .returned v ∧ Wld G M t.heap
theorem mPc_blind (G : GT) (M : SM) (as : List Value) : FrameBlind (mPc G M as) := fun _ _ _ _ h => ⟨h.1, h.2.1, h.2.2.blind⟩
abbrev mMet (l : Launch) (G : GT) (q : Nat) (M : SM) (as : List Value) (v : Option Value) (M2 : SM) : Prop := Met l (yN q) (mWs q) (mRm q (mS M2 - mS M) (mU M2 - mU M)) (mPc G M as) (mQc G M2 v) (mS M2 - mS M) (mU M2 - mU M) (fun a => gB G ≤ a)
section CR
variable {p : Program} {l : Launch} {e : Env} {R : Room} {s : State} {m : MethodId} {args : Array Value} {below : List Frame} {meth : Method} {c : Code} {H : Heap} {locs : List Loc} {cells slots mc ms : Nat} {Q : State → Prop}
variable {G : GT} {q q2 : Nat} {M M2 : SM} {pc i : Nat} {ls : Array Slot} {lv : List (Option Value)} {rest st0 as : List Value} {v : Option Value}
theorem run_on {a : Array Value} (hr : va_Run p l e R s m args below meth c H locs cells slots mc ms (F0 m pc ls st0) rest (mQc G M2 v a) (fun a => gB G ≤ a)) (hL : ∀ x ∈ locs, gB G ≤ x.base)
    (kk : ∀ (H1 : Heap) (locs1 : List Loc), Wld G M2 H1 → (∀ x ∈ locs1, gB G ≤ x.base) → W p l e R s m args below meth c H1 locs1 (cells + mc) (slots + ms) Q (F0 m (pc + 3) ls (v.toList ++ rest))) : W p l e R s m args below meth c H locs cells slots Q (F0 m pc ls st0) := by
  intro T hT X
  obtain ⟨v', st₀, t, T', L, h0, X', hL', e1, e2, ⟨hv, hw⟩, st⟩ := hr T hT X
  cases hv
  obtain ⟨t2, a1, b1⟩ := kk T'.heap (locs ++ L) (by rw [e1]; exact hw) (fun x hx => (List.mem_append.mp hx).elim (hL x) (hL' x)) T' rfl X'
  exact ⟨t2, st t2 a1, b1⟩
theorem fixed (C : Cx G q p R s m args meth c) : CallFix p m c (mB q) (mL q) s args lw_gd (CN (ow q)) := ⟨C.1, C.2.1, C.2.2.1, C.2.2.2.1, C.2.2.2.2.1⟩
theorem room_ok (C : Cx G q p R s m args meth c) (h2 : q2 < 176) (hd : dp q2 < dp q) (a b : Nat) : (mRm q2 a b).frames + 1 ≤ R.frames ∧ 8 + (mL q2 + 11) + (mRm q2 a b).locals ≤ R.locals := by
  have h1 := C.2.2.2.2.2.2.2.1
  have h3 := C.2.2.2.2.2.2.2.2
  have h4 := mL_le (q := q2) (by omega)
  refine ⟨?_, ?_⟩
  · show dp q2 + 1 ≤ R.frames; omega
  · show 8 + (mL q2 + 11) + 36 * dp q2 ≤ R.locals; omega
theorem call_V (C : Cx G q p R s m args meth c) (S : Sd G q M H locs ls lv) {kd b : Nat} (hM : mMet l G q2 M (.ref b :: as) v M2) (hf : cal (ow q) i = some (q2, kd)) (hkd : kd = 0 ∨ kd = 1) (hn : as.length = nPar q2) (hr : catS rest ≤ 8) (hdp : dp q2 < dp q) (hk : mK M b = (10 + ow q2, 0))
    (hcells : cells + (mS M2 - mS M) ≤ R.cells) (hslots : slots + (mU M2 - mU M) ≤ R.slots) (hd : decode (mB q) pc = .ok (.invokevirtual i, 3)) :
    va_Run p l e R s m args below meth c H locs cells slots (mS M2 - mS M) (mU M2 - mU M) (F0 m pc ls (as.reverse ++ .ref b :: rest)) rest (mQc G M2 v (Value.ref b :: as).toArray) (fun a => gB G ≤ a) := by
  have h2 := cal_lt hf
  obtain ⟨e0, he, e1, e2, e3, e4⟩ := cal_spec hf
  have hc := List.all_eq_true.mp calA e0 he
  unfold calOK at hc
  rw [Bool.and_eq_true, e4, e3] at hc
  have hts := C.2.2.2.2.1
  have hK := C.2.2.2.2.2.1
  have hfl : stM q2 = false ∧ isI q2 = false ∧ ow q2 < nCl := by
    rcases hkd with rfl | rfl
    · simp only [Bool.and_eq_true, Bool.not_eq_true'] at hc
      exact ⟨hc.2.1.1.2, hc.2.1.2, Nat.le_of_ble_eq_true hc.2.2⟩
    · simp only [Bool.and_eq_true, Bool.not_eq_true'] at hc
      exact ⟨hc.2.1.1, hc.2.1.2, Nat.le_of_ble_eq_true hc.2.2⟩
  have hin := hts _ (ip_i h2 hfl.1)
  have hse := hts _ (sp_i h2 hfl.1 hfl.2.1)
  have hini : (Cond.initialized (yN q2).cls).before args s = true := by rw [(cls_ok h2).1]; exact hts _ (cls_ok h2).2
  have hPre : PreV s H (yN q2).cls b (mPc G M (.ref b :: as)) as := by
    refine ⟨mPc_blind _ _ _, ?_, fun U hU hW => ⟨rfl, by rw [hU]; exact S.1, hK.moved hW⟩⟩
    obtain ⟨-, cell, g1, g2, g3, -⟩ := (S.1.2.2.2 b).2.2 (ow q2) hfl.2.2 (by rw [hk])
    exact ⟨cell, g1, by rw [g3]; rfl, by rw [g2, (cls_ok h2).1]; exact (hK.1.1 (ow q2) _ (cls_at _ hfl.2.2)).2.1⟩
  have hls : ls.size = mL q := S.2.2.1.1
  rcases hkd with rfl | rfl
  · have hl : (Cond.methodLink (CN (ow q)) i (yN q2)).before args s = true := by
      simp only [Bool.and_eq_true] at hc
      have := hts _ (hasW_in hc.2.1.1.1)
      rwa [e1, e2] at this
    exact va_runV (C := (yN q2).cls) (As := as) (rest := rest) (bytes := mB q2) (maxL := mL q2) (ret := mRt q2) (n := nPar q2) (index := i) (fixed C) hM ⟨callB_of (nPar q2) hts (good_ws h2) rfl rfl rfl hini hl (mh_ok h2) (room_ok C h2 hdp _ _), hin, hse⟩ hPre rfl hn hls rfl (lv_room hr) hd ⟨hcells, hslots⟩
  · have hl : va_Nw (.methodLinkNest (CN (ow q)) i (yN q2) NH) s := by
      have := hK.2.2.2.1 e0 he (by rw [e4])
      unfold nstN at this
      rwa [e1, e2, e3] at this
    exact va_runVN (C := (yN q2).cls) (As := as) (rest := rest) (bytes := mB q2) (maxL := mL q2) (ret := mRt q2) (n := nPar q2) (index := i) (fixed C) hM ⟨va_cnB (nPar q2) hts (good_ws h2) rfl rfl rfl hl hini (mh_ok h2) (room_ok C h2 hdp _ _), hin, hse⟩ hPre rfl hn hls rfl (lv_room hr) hd ⟨hcells, hslots⟩
theorem call_S (C : Cx G q p R s m args meth c) (S : Sd G q M H locs ls lv) (hM : mMet l G q2 M as v M2) {kd : Nat} (hf : cal (ow q) i = some (q2, kd)) (hkd : kd = 2 ∨ kd = 3) (hn : as.length = nPar q2) (hr : catS rest ≤ 8) (hdp : dp q2 < dp q)
    (hcells : cells + (mS M2 - mS M) ≤ R.cells) (hslots : slots + (mU M2 - mU M) ≤ R.slots) (hd : decode (mB q) pc = .ok (.invokestatic i, 3)) :
    va_Run p l e R s m args below meth c H locs cells slots (mS M2 - mS M) (mU M2 - mU M) (F0 m pc ls (as.reverse ++ rest)) rest (mQc G M2 v as.toArray) (fun a => gB G ≤ a) := by
  have h2 := cal_lt hf
  obtain ⟨e0, he, e1, e2, e3, e4⟩ := cal_spec hf
  have hc := List.all_eq_true.mp calA e0 he
  unfold calOK at hc
  rw [Bool.and_eq_true, e4, e3] at hc
  have hts := C.2.2.2.2.1
  have hK := C.2.2.2.2.2.1
  have hfl : stM q2 = true := by
    rcases hkd with rfl | rfl
    · simp only [Bool.and_eq_true] at hc
      exact hc.2.2
    · exact hc.2
  have hst := hts _ (ip_s h2 hfl)
  have hini : (Cond.initialized (yN q2).cls).before args s = true := by rw [(cls_ok h2).1]; exact hts _ (cls_ok h2).2
  have hPre : PreS s H (mPc G M as) as := ⟨mPc_blind _ _ _, fun U hU hW => ⟨rfl, by rw [hU]; exact S.1, hK.moved hW⟩⟩
  have hls : ls.size = mL q := S.2.2.1.1
  rcases hkd with rfl | rfl
  · have hl : (Cond.methodLink (CN (ow q)) i (yN q2)).before args s = true := by
      simp only [Bool.and_eq_true] at hc
      have := hts _ (hasW_in hc.2.1)
      rwa [e1, e2] at this
    exact va_runS (As := as) (rest := rest) (bytes := mB q2) (maxL := mL q2) (ret := mRt q2) (n := nPar q2) (index := i) (fixed C) hM ⟨callB_of (nPar q2) hts (good_ws h2) rfl rfl rfl hini hl (mh_ok h2) (room_ok C h2 hdp _ _), hst⟩ hPre rfl hn hls rfl (lv_room hr) hd ⟨hcells, hslots⟩
  · have hl : va_Nw (.methodLinkNest (CN (ow q)) i (yN q2) NH) s := by
      have := hK.2.2.2.1 e0 he (by rw [e4])
      unfold nstN at this
      rwa [e1, e2, e3] at this
    exact va_runSN (As := as) (rest := rest) (bytes := mB q2) (maxL := mL q2) (ret := mRt q2) (n := nPar q2) (index := i) (fixed C) hM ⟨va_cnB (nPar q2) hts (good_ws h2) rfl rfl rfl hl hini (mh_ok h2) (room_ok C h2 hdp _ _), hst, trivial⟩ hPre rfl hn hls rfl (lv_room hr) hd ⟨hcells, hslots⟩
theorem call_I (C : Cx G q p R s m args meth c) (S : Sd G q M H locs ls lv) {kd b : Nat} (hM : mMet l G q2 M (.ref b :: as) v M2) (hf : cal (ow q) i = some (q2, kd)) (hkd : kd = 4 ∨ kd = 5) (hn : as.length = nPar q2) (hr : catS rest ≤ 8) (hdp : dp q2 < dp q)
    (hcells : cells + (mS M2 - mS M) ≤ R.cells) (hslots : slots + (mU M2 - mU M) ≤ R.slots) (hd : decode (mB q) pc = .ok (.invokespecial i, 3)) :
    va_Run p l e R s m args below meth c H locs cells slots (mS M2 - mS M) (mU M2 - mU M) (F0 m pc ls (as.reverse ++ .ref b :: rest)) rest (mQc G M2 v (Value.ref b :: as).toArray) (fun a => gB G ≤ a) := by
  have h2 := cal_lt hf
  obtain ⟨e0, he, e1, e2, e3, e4⟩ := cal_spec hf
  have hc := List.all_eq_true.mp calA e0 he
  unfold calOK at hc
  rw [Bool.and_eq_true, e4, e3] at hc
  have hts := C.2.2.2.2.1
  have hK := C.2.2.2.2.2.1
  have hfl : stM q2 = false ∧ isI q2 = true := by
    rcases hkd with rfl | rfl
    · simp only [Bool.and_eq_true, Bool.not_eq_true'] at hc
      exact ⟨hc.2.1.2, hc.2.2⟩
    · simp only [Bool.and_eq_true, Bool.not_eq_true'] at hc
      exact ⟨hc.2.1, hc.2.2⟩
  have hin := hts _ (ip_i h2 hfl.1)
  obtain ⟨hy1, hret⟩ := ini_nm hfl.2 (by omega)
  have hini : (Cond.initialized (yN q2).cls).before args s = true := by rw [(cls_ok h2).1]; exact hts _ (cls_ok h2).2
  have hPre : PreS s H (mPc G M (.ref b :: as)) (.ref b :: as) := ⟨mPc_blind _ _ _, fun U hU hW => ⟨rfl, by rw [hU]; exact S.1, hK.moved hW⟩⟩
  have hls : ls.size = mL q := S.2.2.1.1
  have hws : mWs q2 = Cond.code (yN q2) (mB q2) (mL q2) none :: lw_gd := by unfold mWs codW; rw [hret]
  rcases hkd with rfl | rfl
  · have hl : (Cond.methodLink (CN (ow q)) i (yN q2)).before args s = true := by
      simp only [Bool.and_eq_true] at hc
      have := hts _ (hasW_in hc.2.1.1)
      rwa [e1, e2] at this
    exact va_runI (As := as) (rest := rest) (bytes := mB q2) (maxL := mL q2) (n := nPar q2) (index := i) (fixed C) hM ⟨callB_of (nPar q2) hts (good_ws h2) hws rfl rfl hini hl (mh_ok h2) (room_ok C h2 hdp _ _), hy1, hin⟩ hPre rfl hn hls rfl (lv_room hr) hd ⟨hcells, hslots⟩
  · have hl : va_Nw (.methodLinkNest (CN (ow q)) i (yN q2) NH) s := by
      have := hK.2.2.2.1 e0 he (by rw [e4])
      unfold nstN at this
      rwa [e1, e2, e3] at this
    exact va_runIN (As := as) (rest := rest) (bytes := mB q2) (maxL := mL q2) (n := nPar q2) (index := i) (fixed C) hM ⟨va_cnB (nPar q2) hts (good_ws h2) hws rfl rfl hl hini (mh_ok h2) (room_ok C h2 hdp _ _), hy1, hin⟩ hPre rfl hn hls rfl (lv_room hr) hd ⟨hcells, hslots⟩
end CR
end
section
/-! the whole run: what the small machine answers, the machine answers -/
theorem doV_spec {q pc q2 kd : Nat} {lv : List (Option Value)} {st : List Value} {M : SM} {r : Res} (h : doV q pc lv st M q2 kd = some r) : ∃ (a : Nat) (as rest : List Value), st = as.reverse ++ .ref a :: rest ∧ (kd = 0 ∨ kd = 1) ∧ as.length = nPar q2 ∧ callOK q q2 (.ref a :: as) rest = true ∧ mK M a = (10 + ow q2, 0) ∧ r = .inr (.inr (q2, .ref a :: as, M, pc + 3, lv, rest)) := by
  unfold doV at h
  split at h
  · rename_i hdrop
    split at h
    · rename_i hc
      split at h
      · rename_i hk
        simp only [Bool.and_eq_true, Bool.or_eq_true, beq_iff_eq] at hc
        refine ⟨_, (st.take (nPar q2)).reverse, _, ?_, hc.1.2, hc.2, hc.1.1, hk, (Option.some.inj h).symm⟩
        rw [List.reverse_reverse]
        have := List.take_append_drop (nPar q2) st
        rw [hdrop] at this
        exact this.symm
      · cases h
    · cases h
  · cases h
theorem doI_spec {q pc q2 kd : Nat} {lv : List (Option Value)} {st : List Value} {M : SM} {r : Res} (h : doI q pc lv st M q2 kd = some r) : ∃ (a : Nat) (as rest : List Value), st = as.reverse ++ .ref a :: rest ∧ (kd = 4 ∨ kd = 5) ∧ as.length = nPar q2 ∧ callOK q q2 (.ref a :: as) rest = true ∧ r = .inr (.inr (q2, .ref a :: as, M, pc + 3, lv, rest)) := by
  unfold doI at h
  split at h
  · rename_i hdrop
    split at h
    · rename_i hc
      simp only [Bool.and_eq_true, Bool.or_eq_true, beq_iff_eq] at hc
      refine ⟨_, (st.take (nPar q2)).reverse, _, ?_, hc.1.2, hc.2, hc.1.1, (Option.some.inj h).symm⟩
      rw [List.reverse_reverse]
      have := List.take_append_drop (nPar q2) st
      rw [hdrop] at this
      exact this.symm
    · cases h
  · cases h
theorem doS_spec {q pc q2 kd : Nat} {lv : List (Option Value)} {st : List Value} {M : SM} {r : Res} (h : doS q pc lv st M q2 kd = some r) : ∃ (as rest : List Value), st = as.reverse ++ rest ∧ (kd = 2 ∨ kd = 3) ∧ as.length = nPar q2 ∧ callOK q q2 as rest = true ∧ r = .inr (.inr (q2, as, M, pc + 3, lv, rest)) := by
  unfold doS at h
  split at h
  split at h
  · rename_i hc
    simp only [Bool.and_eq_true, Bool.or_eq_true, beq_iff_eq] at hc
    refine ⟨(st.take (nPar q2)).reverse, st.drop (nPar q2), ?_, hc.1.2, hc.2, hc.1.1, (Option.some.inj h).symm⟩
    rw [List.reverse_reverse]
    exact (List.take_append_drop (nPar q2) st).symm
  · cases h
theorem callOK_spec {q q2 : Nat} {as rest : List Value} (h : callOK q q2 as rest = true) : (entA as).length ≤ mL q2 ∧ catS rest ≤ 8 ∧ dp q2 < dp q := by
  unfold callOK at h
  simp only [Bool.and_eq_true] at h
  exact ⟨Nat.le_of_ble_eq_true h.1.1, Nat.le_of_ble_eq_true h.1.2, Nat.le_of_ble_eq_true h.2⟩
/-- the instruction with which a method ends -/
def retI (q : Nat) (i : Instr) (v : Option Value) : Prop := match v with
  | none => i = .return_ ∧ mRt q = none
  | some (.int x) => i = .ireturn ∧ retOK (mRt q) x = true
  | some (.long _) => i = .lreturn ∧ mRt q = some .long
  | _ => False
/-- one step of the small machine: a next instruction, an end, a call -/
theorem sto_spec {i : Instr} {q pc : Nat} {lv : List (Option Value)} {st : List Value} {M : SM} {r : Res} (h : sto i q pc lv st M = some r) :
    (∃ x : Nx, stp i q pc lv st M = some x ∧ r = .inl x) ∨
    (∃ v : Option Value, retI q i v ∧ st = v.toList ∧ r = .inr (.inl (v, M))) ∨
    (∃ (k q2 kd : Nat), cal (ow q) k = some (q2, kd) ∧ ((i = .invokevirtual k ∧ doV q pc lv st M q2 kd = some r) ∨ (i = .invokestatic k ∧ doS q pc lv st M q2 kd = some r) ∨ (i = .invokespecial k ∧ doI q pc lv st M q2 kd = some r))) := by
  have hm : ∀ {i : Instr}, (stp i q pc lv st M).map Sum.inl = some r → ∃ x : Nx, stp i q pc lv st M = some x ∧ r = .inl x := fun h => by
    obtain ⟨x, hx, rfl⟩ := Option.map_eq_some_iff.mp h
    exact ⟨x, hx, rfl⟩
  unfold sto at h
  split at h
  · split at h
    · split at h
      · rename_i hr
        exact Or.inr (Or.inl ⟨none, ⟨rfl, hr⟩, rfl, (Option.some.inj h).symm⟩)
      · cases h
    · cases h
  · split at h
    · split at h
      · rename_i x hr
        exact Or.inr (Or.inl ⟨some (.int x), ⟨rfl, hr⟩, rfl, (Option.some.inj h).symm⟩)
      · cases h
    · cases h
  · split at h
    · split at h
      · rename_i x hr
        exact Or.inr (Or.inl ⟨some (.long x), ⟨rfl, hr⟩, rfl, (Option.some.inj h).symm⟩)
      · cases h
    · cases h
  · split at h
    · rename_i hf
      exact Or.inr (Or.inr ⟨_, _, _, hf, Or.inl ⟨rfl, h⟩⟩)
    · cases h
  · split at h
    · exact Or.inl (hm h)
    · split at h
      · rename_i hf
        exact Or.inr (Or.inr ⟨_, _, _, hf, Or.inr (Or.inl ⟨rfl, h⟩)⟩)
      · cases h
  · split at h
    · exact Or.inl (hm h)
    · split at h
      · rename_i hf
        exact Or.inr (Or.inr ⟨_, _, _, hf, Or.inr (Or.inr ⟨rfl, h⟩)⟩)
      · cases h
  · exact Or.inl (hm h)
/-- what a run of the small machine says of the machine: from there the machine comes to an end of the method with that answer, that memory -/
def Runs (l : Launch) (G : GT) (q pc : Nat) (lv : List (Option Value)) (st : List Value) (M : SM) (v : Option Value) (M2 : SM) : Prop :=
  ∀ (p : Program) (e : Env) (R : Room) (s : State) (m : MethodId) (args : Array Value) (below : List Frame) (meth : Method) (c : Code) (H : Heap) (locs : List Loc) (Q : State → Prop) (ls : Array Slot) (S0 U0 : Nat),
    q < 177 → Cx G q p R s m args meth c → Sd G q M H locs ls lv → S0 ≤ mS M → U0 ≤ mU M → mS M2 ≤ R.cells + S0 → mU M2 ≤ R.slots + U0 →
    (∀ (H' : Heap) (locs' : List Loc) (pc' : Nat) (ls' : Array Slot) (i : Instr), Wld G M2 H' → (∀ x ∈ locs', gB G ≤ x.base) → retI q i v → decode (mB q) pc' = .ok (i, 1) → W p l e R s m args below meth c H' locs' (mS M2 - S0) (mU M2 - U0) Q (F0 m pc' ls' v.toList)) →
    W p l e R s m args below meth c H locs (mS M - S0) (mU M - U0) Q (F0 m pc ls st)
theorem runs_call {l : Launch} {G : GT} {q pc : Nat} {lv : List (Option Value)} {st : List Value} {M M1 M2 : SM} {v v1 : Option Value} {rest : List Value}
    (hrun : ∀ (p : Program) (e : Env) (R : Room) (s : State) (m : MethodId) (args : Array Value) (below : List Frame) (meth : Method) (c : Code) (H : Heap) (locs : List Loc) (ls : Array Slot) (cells slots : Nat), q < 177 → Cx G q p R s m args meth c → Sd G q M H locs ls lv → cells + (mS M1 - mS M) ≤ R.cells → slots + (mU M1 - mU M) ≤ R.slots →
      ∃ a : Array Value, va_Run p l e R s m args below meth c H locs cells slots (mS M1 - mS M) (mU M1 - mU M) (F0 m pc ls st) rest (mQc G M1 v1 a) (fun a => gB G ≤ a))
    (h1 : mS M ≤ mS M1 ∧ mU M ≤ mU M1) (h2 : mS M1 ≤ mS M2 ∧ mU M1 ≤ mU M2) (hR : Runs l G q (pc + 3) lv (v1.toList ++ rest) M1 v M2) : Runs l G q pc lv st M v M2 := by
  intro p e R s m args below meth c H locs Q ls S0 U0 hq C S hS0 hU0 hc hu hend
  obtain ⟨a, hr⟩ := hrun p e R s m args below meth c H locs ls (mS M - S0) (mU M - U0) hq C S (by omega) (by omega)
  refine run_on hr S.2.1 fun H1 locs1 hW hL => ?_
  rw [show mS M - S0 + (mS M1 - mS M) = mS M1 - S0 by omega, show mU M - U0 + (mU M1 - mU M) = mU M1 - U0 by omega]
  exact hR p e R s m args below meth c H1 locs1 Q ls S0 U0 hq C ⟨hW, hL, S.2.2⟩ (by omega) (by omega) hc hu hend
/-- a method's contract out of its run -/
theorem met_of {l : Launch} {G : GT} {q : Nat} {as : List Value} {M M2 : SM} {v : Option Value} (hq : q < 176) (ha : (entA as).length ≤ mL q) (h : Runs l G q 0 (ent q as) [] M v M2) : mMet l G q M as v M2 := by
  refine va_MetF (cc := mB q) (maxL := mL q) (ret := mRt q) (List.all_eq_true.mp plA q (List.mem_range.mpr (by omega))) rfl ?_
  intro p e s m args below meth c s₁ B hml hv
  obtain ⟨rfl, hW, hK⟩ := hv
  have hts := atoms_spec (ws := mWs q) B.pre
  have hown : s.vm.findClass (CN (ow q)) = some m.cls := by rw [← (cls_ok hq).1]; exact findClass_of_methodNamed B.named
  have hlocks := B.notSynchronized
  have hr := B.returns
  have hx := B.exec
  have hb := B.bytes
  have C : Cx G q p (headSpec (mWs q) (mRm q (mS M2 - mS M) (mU M2 - mU M))).room s m as.toArray meth c := ⟨hx, hb, hml, hown, fun w hw => hts w (List.mem_cons_of_mem _ hw), hK, fun hi => (name_of_methodNamed B.named B.method).1.trans (ini_nm hi (by omega)).1, Nat.le_refl _, Nat.le_refl _⟩
  have hl := ent_has q as ha
  rw [lg_entry_eq]
  have key := h p e _ s m as.toArray below meth c s.heap [] (MQ below (mQc G M2 v) as.toArray s (mS M2 - mS M) (mU M2 - mU M) (fun a => gB G ≤ a)) _ (mS M) (mU M) (by omega) C ⟨hW, fun x hx => (by cases hx), hl, ent_len q as ha⟩ (Nat.le_refl _) (Nat.le_refl _) (by show mS M2 ≤ mS M2 - mS M + mS M; omega) (by show mU M2 ≤ mU M2 - mU M + mU M; omega) ?_
  · rw [Nat.sub_self, Nat.sub_self] at key
    exact key
  · intro H' locs' pc' ls' i hW' hL' hri hd
    have hq' : ∀ t : State, t.heap = H' → s.WarmedH t.vm → mQc G M2 v as.toArray s (.returned v) t := fun t ht _ => ⟨rfl, by rw [ht]; exact hW'⟩
    match v, hri with
    | none, hri =>
      obtain ⟨rfl, hrt⟩ := hri
      exact W.vret hx hb (by rw [hr, hrt]) hq' hL' hd
    | some (.long x), hri =>
      obtain ⟨rfl, hrt⟩ := hri
      exact W.lret hx hb (by rw [hr, hrt]) hq' hL' hd
    | some (.int x), hri =>
      obtain ⟨rfl, hrt⟩ := hri
      unfold retOK at hrt
      split at hrt
      · rename_i hrr
        exact W.iret hx hb (by rw [hr, hrr]) hq' hL' hd
      · rename_i hrr
        refine W.zret hx hb (hr.trans hrr) ?_ hq' hL' hd
        rw [Bool.or_eq_true, beq_iff_eq, beq_iff_eq] at hrt
        rcases hrt with rfl | rfl <;> decide
      · cases hrt
theorem core (l : Launch) (G : GT) : ∀ (n q pc : Nat) (lv : List (Option Value)) (st : List Value) (M : SM) (v : Option Value) (M2 : SM), ex n q pc lv st M = some (v, M2) → mS M ≤ mS M2 ∧ mU M ≤ mU M2 ∧ Runs l G q pc lv st M v M2
  | 0, _, _, _, _, _, _, _, h => by cases h
  | n + 1, q, pc, lv, st, M, v, M2, h => by
    rw [ex] at h
    cases hd : decode (mB q) pc with
    | error _ => rw [hd] at h; cases h
    | ok x =>
      obtain ⟨i, len⟩ := x
      rw [hd] at h
      dsimp only at h
      cases hs : stq i len q pc lv st M with
      | none => rw [hs] at h; cases h
      | some r =>
        rw [hs] at h
        unfold stq at hs
        split at hs
        case isFalse => cases hs
        case isTrue hl =>
          rcases sto_spec hs with ⟨x, hx, rfl⟩ | ⟨v', hv, hst, rfl⟩ | ⟨k, q2, kd, hf, hcase⟩
          · obtain ⟨pc', lv', st', M'⟩ := x
            obtain ⟨m1, m2⟩ := mo_all hx
            obtain ⟨k1, k2, k3⟩ := core l G n q pc' lv' st' M' v M2 h
            refine ⟨Nat.le_trans m1 k1, Nat.le_trans m2 k2, fun p e R s m args below meth c H locs Q ls S0 U0 hq C S hS0 hU0 hc hu hend => ?_⟩
            exact st_all C S hq hS0 hU0 (by omega) (by omega) hd hl hx (fun H' locs' ls' S' => k3 p e R s m args below meth c H' locs' Q ls' S0 U0 hq C S' (by omega) (by omega) hc hu hend)
          · have e : v' = v ∧ M = M2 := by have := Option.some.inj (show some (v', M) = some (v, M2) from h); exact ⟨congrArg Prod.fst this, congrArg Prod.snd this⟩
            obtain ⟨rfl, rfl⟩ := e
            refine ⟨Nat.le_refl _, Nat.le_refl _, fun p e R s m args below meth c H locs Q ls S0 U0 hq C S hS0 hU0 hc hu hend => ?_⟩
            have hlen : len = 1 := by
              match v', hv with
              | none, hv => rw [hv.1] at hl; exact len1 hl rfl
              | some (.int _), hv => rw [hv.1] at hl; exact len1 hl rfl
              | some (.long _), hv => rw [hv.1] at hl; exact len1 hl rfl
            subst hlen
            rw [hst]
            exact hend H locs pc ls i S.1 S.2.1 hv hd
          · have h2 := cal_lt hf
            rcases hcase with ⟨rfl, hcall⟩ | ⟨rfl, hcall⟩ | ⟨rfl, hcall⟩
            · obtain rfl : len = 3 := len1 hl rfl
              obtain ⟨a, as, rest, rfl, hkd, hn, hco, hk, rfl⟩ := doV_spec hcall
              obtain ⟨c1, c2, c3⟩ := callOK_spec hco
              simp only [hdl] at h
              cases hx : ex n q2 0 (ent q2 (.ref a :: as)) [] M with
              | none => rw [hx] at h; cases h
              | some y =>
                obtain ⟨v1, M1⟩ := y
                rw [hx] at h
                obtain ⟨a1, a2, a3⟩ := core l G n q2 0 _ [] M v1 M1 hx
                obtain ⟨b1, b2, b3⟩ := core l G n q (pc + 3) lv _ M1 v M2 h
                refine ⟨Nat.le_trans a1 b1, Nat.le_trans a2 b2, runs_call (rest := rest) ?_ ⟨a1, a2⟩ ⟨b1, b2⟩ b3⟩
                intro p e R s m args below meth c H locs ls cells slots hq C S hcells hslots
                exact ⟨_, call_V C S (met_of h2 c1 a3) hf hkd hn c2 c3 hk hcells hslots hd⟩
            · obtain rfl : len = 3 := len1 hl rfl
              obtain ⟨as, rest, rfl, hkd, hn, hco, rfl⟩ := doS_spec hcall
              obtain ⟨c1, c2, c3⟩ := callOK_spec hco
              simp only [hdl] at h
              cases hx : ex n q2 0 (ent q2 as) [] M with
              | none => rw [hx] at h; cases h
              | some y =>
                obtain ⟨v1, M1⟩ := y
                rw [hx] at h
                obtain ⟨a1, a2, a3⟩ := core l G n q2 0 _ [] M v1 M1 hx
                obtain ⟨b1, b2, b3⟩ := core l G n q (pc + 3) lv _ M1 v M2 h
                refine ⟨Nat.le_trans a1 b1, Nat.le_trans a2 b2, runs_call (rest := rest) ?_ ⟨a1, a2⟩ ⟨b1, b2⟩ b3⟩
                intro p e R s m args below meth c H locs ls cells slots hq C S hcells hslots
                exact ⟨_, call_S C S (met_of h2 c1 a3) hf hkd hn c2 c3 hcells hslots hd⟩
            · obtain rfl : len = 3 := len1 hl rfl
              obtain ⟨a, as, rest, rfl, hkd, hn, hco, rfl⟩ := doI_spec hcall
              obtain ⟨c1, c2, c3⟩ := callOK_spec hco
              simp only [hdl] at h
              cases hx : ex n q2 0 (ent q2 (.ref a :: as)) [] M with
              | none => rw [hx] at h; cases h
              | some y =>
                obtain ⟨v1, M1⟩ := y
                rw [hx] at h
                obtain ⟨a1, a2, a3⟩ := core l G n q2 0 _ [] M v1 M1 hx
                obtain ⟨b1, b2, b3⟩ := core l G n q (pc + 3) lv _ M1 v M2 h
                refine ⟨Nat.le_trans a1 b1, Nat.le_trans a2 b2, runs_call (rest := rest) ?_ ⟨a1, a2⟩ ⟨b1, b2⟩ b3⟩
                intro p e R s m args below meth c H locs ls cells slots hq C S hcells hslots
                exact ⟨_, call_I C S (met_of h2 c1 a3) hf hkd hn c2 c3 hcells hslots hd⟩
end
section
/-! THE CLAIM OUT OF ONE WALK OF THE LAW'S BODY. Your part is whole_start (and what it stands on); all else here is the same for every law, but numbers. -/
def R_law : String := "DependentReplayLaw"
def lw_P (b : Addr) (xs : List Int32) (args : Array Value) (s : State) : Prop := args = #[.ref b] ∧ s.IntsAt b xs ∧ xs.length ≤ 1536 ∧ (Jvm.Cond.and given_1 narrow_1).before args s = true
def lw_Q (_ : Array Value) (s : State) (o : Outcome) (t : State) : Prop := o = .returned (some (.int 1)) ∧ Framed s o t [] 600000 7302250
def lw_Z (below : List Frame) (a : Array Value) (s : State) : State → Prop := fun t => ∃ o, t.status = .running ∧ Ended t below o ∧ lw_Q a s o t
/-- the law's own end, with 1 on the stack, nothing written that was there before, its room as the claim has it -/
theorem lw_ret {p : Program} {l : Launch} {e : Env} {s : State} {m : MethodId} {below : List Frame} {meth : Method} {c : Code} {b : Nat} (hx : p.tables.exec = Jvm.exec) (hb : c.code = code) (hr : meth.sig.returnType = ret) (hlocks : meth.locks = false) {pc : Nat} {H : Heap} {ls : Array Slot} (hdg : decode code pc = .ok (.ireturn, 1)) : W p l e room_1 s m #[Value.ref b] below meth c H [] 600000 7302250 (lw_Z below #[Value.ref b] s) (F0 m pc ls [.int 1]) := by
  intro T hT X
  obtain ⟨fs, hret, hrun, hended, hW, hframe⟩ := X.leave (v := some (.int 1)) (hlocks := hlocks) (fun h => by rw [hr] at h; cases h)
  have hmeth' : T.vm.method? m = some meth := X.method'
  refine ⟨T.setFrames fs, ?_, .returned (some (.int 1)), hrun, hended, rfl, ⟨_, rfl⟩, hW, hframe⟩
  jvm_step X.here [X.here.top, hx, hb, hdg, hmeth', hr, ret, narrow_b1]
  (try refine ⟨rfl, ?_⟩); (try refine ⟨rfl, ?_⟩)
  first | (intro acts; rw [hret _ acts rfl rfl rfl]) | rw [hret _ _ rfl rfl rfl]
  exact Steps.refl _
/-- what holds at the law's entry: the machine, the code, the tables' words (any of lw_tbl by 'hts w (by decide +kernel)'), the script of L ints xs at the cell b, what the Statement gives of the start (any of its parts by flat_of_before) -/
def lw_At (p : Program) (s : State) (m : MethodId) (meth : Method) (c : Code) (b L : Nat) (xs : Nat → Int32) : Prop :=
  p.tables.exec = Jvm.exec ∧ c.code = code ∧ meth.sig.returnType = ret ∧ c.maxLocals = 4 ∧ s.vm.findClass R_law = some m.cls ∧ (∀ w ∈ lw_tbl, w.before #[Value.ref b] s = true) ∧ va_X b L xs s s.heap ∧ b < s.heap.size ∧ meth.locks = false ∧ (Jvm.Cond.and given_1 narrow_1).before #[Value.ref b] s = true
/-! the law's start: its memory holds the script alone -/
def M0 (b S L : Nat) (xs : Nat → Int32) : SM := (fun a => if a = b then xs else fun _ => 0, fun _ _ => 0, fun _ _ => none, fun a => if a = b then (5, L) else (0, 0), S, 0)
theorem tbl_gd {args : Array Value} {s : State} (hts : ∀ w ∈ lw_tbl, w.before args s = true) : ∀ w ∈ lw_gd, w.before args s = true := fun w hw => hts w (List.mem_filter.mp hw).1
theorem kn_start {args : Array Value} {s : State} {b L : Nat} {xs : Nat → Int32} (hts : ∀ w ∈ lw_tbl, w.before args s = true) (hX : va_X b L xs s s.heap) : ∃ (D : va_G) (ar : Nat → ClassId), Kn (D, (s.heap.size, ar), (b, L, xs, s.heap)) s := by
  have hg := tbl_gd hts
  have hk : ∀ ci, ∃ x : ClassId × (Nat → Nat), ci < nCl → u_Kn s (CN ci) (TT ci) (NN ci) x.1 x.2 := by
    intro ci
    by_cases h : ci < nCl
    · have hi := List.all_eq_true.mp insA ci (List.mem_range.mpr h)
      rw [Bool.and_eq_true] at hi
      obtain ⟨cC, iS, hkn⟩ := u_known hg (lay_in h) (hg _ (hasW_in hi.1))
      exact ⟨(cC, iS), fun _ => hkn⟩
    · exact ⟨(0, fun _ => 0), fun z => absurd z h⟩
  have ha := arcA
  rw [Bool.and_eq_true] at ha
  obtain ⟨cI, kI, compI, i1, i2, i3⟩ := Cond.arrayClass_spec (hg _ (hasW_in ha.1))
  obtain ⟨cJ, kJ, compJ, j1, j2, j3⟩ := Cond.arrayClass_spec (hg _ (hasW_in ha.2))
  have hv := aovA
  simp only [Bool.and_eq_true, decide_eq_true_eq] at hv
  have ho3 := hts _ (List.mem_of_getElem? hv.1.1.1)
  have ho4 := hts _ (List.mem_of_getElem? hv.1.1.2)
  obtain ⟨comp3, c3, k3, r1, r2, r3, r4, r5⟩ := Cond.arrayOver_spec ho3
  obtain ⟨comp4, c4, k4, q1, q2, q3, q4, q5⟩ := Cond.arrayOver_spec ho4
  refine ⟨(fun ci => (Classical.choose (hk ci)).1, fun ci => (Classical.choose (hk ci)).2), fun k => if k = 1 then cI else if k = 2 then cJ else if k = 3 then c3 else c4, ⟨fun c q hq => ?_, fun k q h => by simp at h⟩, fun k h1 h2 => ?_, hX, fun e he ho => ?_, va_AO.of ho3, va_AO.of ho4⟩
  · have hc : c < nCl := by
      have := (List.getElem?_eq_some_iff.mp hq).1
      exact this
    have := cls_at c hc
    rw [this] at hq
    cases hq
    exact Classical.choose_spec (hk c) hc
  · match k, h1, h2 with
    | 1, _, _ => exact ⟨fun n z => ⟨fun k h => (by cases h), kI, i2, compI, i3⟩, i1⟩
    | 2, _, _ => exact ⟨fun n z => ⟨fun k h => (by cases h), kJ, j2, compJ, j3⟩, j1⟩
    | 3, _, _ => exact ⟨fun n z => ⟨fun k h => (by cases h), k3, r3, comp3, r4⟩, k3, comp3, r3, r4, r1, r5⟩
    | 4, _, _ => exact ⟨fun n z => ⟨fun k h => (by cases h), k4, q3, comp4, q4⟩, k4, comp4, q3, q4, q1, q5⟩
  · have h := List.all_eq_true.mp nstA e he
    rw [Bool.or_eq_true, beq_iff_eq, decide_eq_true_eq] at h
    exact va_Nw.of rfl (hts _ (List.mem_of_getElem? (h.resolve_left (by omega))))
set_option maxRecDepth 100000 in
theorem start_of {p : Program} {e : Env} {s : State} {m : MethodId} {below : List Frame} {meth : Method} {c : Code} (l : Launch) {b L : Nat} {xs : Nat → Int32} (C0 : lw_At p s m meth c b L xs)
    (hp : ∃ M2 : SM, cl 176 [.ref b] (M0 b s.heap.size L xs) = some (some (.int 1), M2) ∧ mS M2 ≤ 600000 + s.heap.size ∧ mU M2 ≤ 7302250) :
    W p l e room_1 s m #[Value.ref b] below meth c s.heap [] 0 0 (lw_Z below #[Value.ref b] s) (entryFrame m ([Value.ref b] : List Value).toArray 4) := by
  obtain ⟨hx, hb, hr, hml, hown, hts, hX, hbl, hlocks, hgv⟩ := id C0
  obtain ⟨D, ar, hK⟩ := kn_start hts hX
  obtain ⟨M2, hcl, hS, hU⟩ := hp
  obtain ⟨n, hn⟩ := rn_iff.mp hcl
  obtain ⟨m1, m2, hR⟩ := core l (D, (s.heap.size, ar), (b, L, xs, s.heap)) n _ _ _ _ _ _ _ hn
  have hl := ent_has 176 [.ref b] (Nat.le_of_ble_eq_true rfl)
  rw [lg_entry_eq]
  have hW : Wld (D, (s.heap.size, ar), (b, L, xs, s.heap)) (M0 b s.heap.size L xs) s.heap := by
    refine ⟨rfl, Nat.le_refl _, hbl, fun a => ?_⟩
    by_cases hab : a = b
    · subst hab
      have hk : mK (M0 a s.heap.size L xs) a = (5, L) := if_pos rfl
      refine ⟨fun _ => ⟨rfl, by rw [hk]; rfl, if_pos rfl, rfl⟩, fun k h1 h2 h3 => ?_, fun ci h1 h2 => ?_⟩
      · rw [hk] at h1; simp at h1; omega
      · rw [hk] at h2; simp at h2; omega
    · have hk : mK (M0 b s.heap.size L xs) a = (0, 0) := if_neg hab
      refine ⟨fun h => ?_, fun k h1 h2 h3 => ?_, fun ci h1 h2 => ?_⟩
      · rw [hk] at h; simp at h
      · rw [hk] at h1; simp at h1; omega
      · rw [hk] at h2; simp at h2; omega
  have C : Cx (D, (s.heap.size, ar), (b, L, xs, s.heap)) 176 p room_1 s m #[Value.ref b] meth c := ⟨hx, hb, hml, hown, tbl_gd hts, hK, fun h => (by cases h), Nat.le_of_ble_eq_true rfl, Nat.le_of_ble_eq_true rfl⟩
  have key := hR p e room_1 s m #[Value.ref b] below meth c s.heap [] (lw_Z below #[Value.ref b] s) _ s.heap.size 0 (Nat.le_of_ble_eq_true rfl) C ⟨hW, fun x hx => (by cases hx), hl, ent_len 176 [.ref b] (Nat.le_of_ble_eq_true rfl)⟩ (Nat.le_refl _) (Nat.le_refl _) hS hU ?_
  · rw [show mS (M0 b s.heap.size L xs) = s.heap.size from rfl, Nat.sub_self] at key
    exact key
  · intro H' locs' pc' ls' i hW' hL' hri hd
    obtain ⟨rfl, -⟩ := hri
    refine W.widen (k := 600000) (n := 7302250) (by omega) (by omega) ?_
    refine va_forget hL' ?_
    exact lw_ret hx hb hr hlocks hd
end
section
theorem pure_law {b S L : Nat} {xs : Nat → Int32} (hL : L ≤ 1536) (hb : b < S) : ∃ M2 : SM, cl 176 [.ref b] (M0 b S L xs) = some (some (.int 1), M2) ∧ mS M2 ≤ 600000 + S ∧ mU M2 ≤ 7302250 := sorry

/-- YOUR PART: from the entry, for every script of at most 1536 ints, the law comes to its end with true ('hflags': the launch's flags, for a law that throws: no stack traces) -/
theorem whole_start {p : Program} {e : Env} {s : State} {m : MethodId} {below : List Frame} {meth : Method} {c : Code} (l : Launch) (hflags : l.flags = flags0) {b L : Nat} {xs : Nat → Int32} (hL : L ≤ 1536) (C0 : lw_At p s m meth c b L xs) : W p l e room_1 s m #[Value.ref b] below meth c s.heap [] 0 0 (lw_Z below #[Value.ref b] s) (entryFrame m ([Value.ref b] : List Value).toArray 4) := by
  exact start_of l C0 (pure_law hL (by obtain ⟨-, -, -, -, -, -, -, h, -⟩ := C0; exact h))

set_option maxHeartbeats 4000000 in
theorem lw_walk (l : Launch) (hflags : l.flags = flags0) (b : Addr) (xs : List Int32) : MetFree l x (headSpec (Jvm.Cond.code x code maxLocals ret :: tables_1) room_1) (lw_P b xs) (fun _ _ _ _ _ => True) lw_Q := by
  refine MetFree.of_bodyS (code := code) (maxLocals := maxLocals) (ret := ret) (by decide) ?_ ?_
  · intro args s m h hn
    obtain ⟨meth, c, h1, h2, h3, h4, h5, h6, -, -⟩ := Cond.code_spec hn (atoms_spec (ws := Jvm.Cond.code x code maxLocals ret :: tables_1) h _ List.mem_cons_self)
    exact ⟨meth, c, h1, h2, h3, h4, h5, h6⟩
  · intro p e s m args below meth c s₁ B hml0 hP _
    obtain ⟨rfl, hx, hbd, hgv⟩ := hP
    obtain ⟨scr, harrAt, hlist, hof, hsmall⟩ := hx
    obtain ⟨hcb, hkn, -, -⟩ := State.arrayAt?_spec harrAt
    have hown : s.vm.findClass R_law = some m.cls := findClass_of_methodNamed B.named
    have hts0 : ∀ c ∈ (Jvm.Cond.code x code maxLocals ret :: tables_1), c.before #[Value.ref b] s = true := atoms_spec (ws := Jvm.Cond.code x code maxLocals ret :: tables_1) B.pre
    have hts : ∀ w ∈ lw_tbl, w.before #[Value.ref b] s = true := k2_hts_sels lw_privs (fun w hw => hts0 w (List.mem_cons_of_mem _ hw)) lw_privs_ok
    have hml : c.maxLocals = 4 := B.maxLocals_eq (hts0 _ List.mem_cons_self)
    have X₀ : Stand p l e room_1 s m #[Value.ref b] below meth c s₁ [] 0 0 := Stand.of_body B
    have hh0 : s₁.heap = s.heap := by rw [B.state]; rfl
    have hsz : scr.slots.size = xs.length := by rw [← Array.length_toList, hlist, List.length_map]
    have hval : ∀ j : Nat, j < xs.length → scr.slots[j]? = some (.int (xs.getD j 0)) := fun j hj => by
      rw [← Array.getElem?_toList, hlist]
      simp [hj]
    have hbl : b < s.heap.size := (Array.getElem?_eq_some_iff.mp hcb).1
    have hX : va_X b xs.length (fun j => xs.getD j 0) s s.heap := ⟨scr, hcb, hof, hkn, hsz, hval⟩
    have K : W p l e room_1 s m #[Value.ref b] below meth c s₁.heap [] 0 0 (lw_Z below #[Value.ref b] s) (entryFrame m ([Value.ref b] : List Value).toArray 4) := by
      rw [hh0]
      exact whole_start l hflags hbd ⟨B.exec, B.bytes, B.returns, hml, hown, hts, hX, hbl, B.notSynchronized, hgv⟩
    obtain ⟨t, a1, o, b1, b2, b3⟩ := K s₁ rfl X₀
    exact ⟨t, o, a1, b1, b2, b3⟩
theorem lw_pre_spec {args : Array Value} {s : State} (h : (Jvm.Cond.and given_1 narrow_1).before args s = true) (hr : rest_1_c.before args s = true) : ∃ (b : Addr) (xs : List Int32), lw_P b xs args s := by
  have hs := flat_of_before _ h
  have hq := flat_of_before _ hr
  have hc : (Cond.count 1).before args s = true := hs _ (by decide +kernel)
  have harr : (Cond.arrayOf (.arg 0) .int).before args s = true := hs _ (by decide +kernel)
  have hle : (Cond.le (.length (.arg 0)) (.int 1536)).before args s = true := hs _ (by decide +kernel)
  have hlen : (Cond.isInt (.length (.arg 0))).before args s = true := hq _ (by decide +kernel)
  have hall : (Cond.all (.arg 0) (.isInt (.elem (.arg 0) (.index 0)))).before args s = true := hq _ (by decide +kernel)
  obtain ⟨b, xs, hb, hx⟩ := State.ints_of_pre rfl harr hlen hall
  have hsm : xs.length < 2 ^ 31 := hx.choose_spec.2.2.2
  have hev : (Term.length (.arg 0)).eval args s none [] s = some (.int xs.length.toInt32) := hx.length_eval hb
  have hv := Cond.le_ints hev (show (Term.int 1536).eval args s none [] s = some (.int 1536) from rfl)
  have hd : xs.length.toInt32 ≤ 1536 := by
    simpa [Cond.before, Cond.holds, hv] using hle
  have hN : xs.length ≤ 1536 := (Int32.ofNat_le_ofNat hsm (by decide)).mp (show Int32.ofNat xs.length ≤ Int32.ofNat 1536 from hd)
  exact ⟨b, xs, Cond.one_arg hc (show args[0]? = some (.ref b) from hb), hx, hN, h⟩
theorem lw_comes (l : Launch) (hflags : l.flags = flags0) : Comes l x (Jvm.Cond.code x code maxLocals ret :: tables_1) room_1 (fun tb e args s => Calls_1 tb e args s ∧ rest_1 tb e args s ∧ Pre_1 tb e args s)
    (fun _ _ args s o t => lw_Q args s o t) := by
  intro p e ha hc hk s m args below hf hfit hheap happ hpre
  obtain ⟨b, xs, hP⟩ := lw_pre_spec hpre.2.2 hpre.2.1
  obtain ⟨k, o, h1, h2, h3, hQ⟩ := lw_walk l hflags b xs p e ha hc hk s m args below hf ((Spec.applies_iff_loose hf).mp happ).1 hP trivial
  exact ⟨k, o, h1, h2, h3, hQ⟩
theorem lw_frame {s t : State} {o : Outcome} {args : Array Value} (h : Framed s o t [] 600000 7302250) :
    Framed s o t (fieldLocs frame_1_writes args s ++ arrayLocs frame_1_arrays args s ++ staticLocs frame_1_statics s) 600000 7302250 := h
theorem lw_limb (L : Cond) (hL : ∀ (args : Array Value) (s t : State), L.after args s (.returned (some (.int 1))) t = true) :
    ArmFor flags0 classFile x code maxLocals ret World_1 tables_1 room_1 Calls_1 rest_1 Pre_1
      (fun tb e a s o t => postC L tb e a s o t ∧ Framed s o t (fieldLocs frame_1_writes a s ++ arrayLocs frame_1_arrays a s ++ staticLocs frame_1_statics s) 600000 7302250) := by
  intro l hflags _ _ p e ha hc hk s m args below hf hfit hheap happ hpre
  obtain ⟨k, o, h1, h2, h3, rfl, hF⟩ := lw_comes l hflags p e ha hc hk s m args below hf hfit hheap happ hpre
  exact ⟨k, _, h1, h2, h3, hL args s _, lw_frame hF⟩
theorem i_vc : Claimed_1_1 ∧ Claimed_1_2 := ⟨lw_limb limb_1_1 (fun args s t => by simp [limb_1_1, Cond.after, Cond.holds, Cond.value]), lw_limb limb_1_2 (fun args s t => Cond.after_iff.mpr (by
  first | (rw [show limb_1_2 = Cond.eq .result (.int 1) from rfl, Cond.eq_ints (x := 1) (y := 1) rfl rfl]; simp; done) | (simp [limb_1_2, Cond.value, Term.eval]; done)))⟩
end
