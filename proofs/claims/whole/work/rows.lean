section
-- ===== PART A: goes FIRST, ahead of the names: the tables' words, and 'selects' of the private methods out of them =====
/-- a private method of a class that the tables say can be made, by its rows of tables_1 -/
def lw_okq (q : MethodName × Nat) : Prop := (q.1.cls ≠ "java/lang/invoke/MethodHandle" ∧ q.1.cls ≠ "java/lang/invoke/VarHandle") ∧ Cond.instantiable q.1.cls q.2 ∈ tables_1 ∧ Cond.privateMethod q.1 ∈ tables_1 ∧ Cond.instanceMethod q.1 ∈ tables_1
theorem lw_p0 : lw_okq (⟨"DependentReplay$Log", "firstNeeds", "(III)J"⟩, 7) := ⟨⟨by decide +kernel, by decide +kernel⟩, List.mem_of_getElem? (i := 30) (by decide +kernel), List.mem_of_getElem? (i := 293) (by decide +kernel), List.mem_of_getElem? (i := 294) (by decide +kernel)⟩
theorem lw_p1 : lw_okq (⟨"DependentReplay$Log", "latestOfFile", "(I)J"⟩, 7) := ⟨⟨by decide +kernel, by decide +kernel⟩, List.mem_of_getElem? (i := 30) (by decide +kernel), List.mem_of_getElem? (i := 297) (by decide +kernel), List.mem_of_getElem? (i := 298) (by decide +kernel)⟩
theorem lw_p2 : lw_okq (⟨"DependentReplay$Log", "latestInDirectory", "(I)J"⟩, 7) := ⟨⟨by decide +kernel, by decide +kernel⟩, List.mem_of_getElem? (i := 30) (by decide +kernel), List.mem_of_getElem? (i := 305) (by decide +kernel), List.mem_of_getElem? (i := 306) (by decide +kernel)⟩
theorem lw_p3 : lw_okq (⟨"DependentReplay", "recorded", "(I)I"⟩, 7) := ⟨⟨by decide +kernel, by decide +kernel⟩, List.mem_of_getElem? (i := 16) (by decide +kernel), List.mem_of_getElem? (i := 317) (by decide +kernel), List.mem_of_getElem? (i := 318) (by decide +kernel)⟩
theorem lw_p4 : lw_okq (⟨"DependentReplay$State", "turnLost", "(IZ)I"⟩, 2) := ⟨⟨by decide +kernel, by decide +kernel⟩, List.mem_of_getElem? (i := 24) (by decide +kernel), List.mem_of_getElem? (i := 369) (by decide +kernel), List.mem_of_getElem? (i := 370) (by decide +kernel)⟩
theorem lw_p5 : lw_okq (⟨"DependentReplay$Replay", "replayReady", "(LDependentReplay$Log;J)I"⟩, 7) := ⟨⟨by decide +kernel, by decide +kernel⟩, List.mem_of_getElem? (i := 75) (by decide +kernel), List.mem_of_getElem? (i := 412) (by decide +kernel), List.mem_of_getElem? (i := 413) (by decide +kernel)⟩
theorem lw_p6 : lw_okq (⟨"DependentReplay$Tree", "refusal", "(III)I"⟩, 2) := ⟨⟨by decide +kernel, by decide +kernel⟩, List.mem_of_getElem? (i := 81) (by decide +kernel), List.mem_of_getElem? (i := 420) (by decide +kernel), List.mem_of_getElem? (i := 421) (by decide +kernel)⟩
theorem lw_p7 : lw_okq (⟨"DependentReplay$Tree", "isOrLiesIn", "(II)Z"⟩, 2) := ⟨⟨by decide +kernel, by decide +kernel⟩, List.mem_of_getElem? (i := 81) (by decide +kernel), List.mem_of_getElem? (i := 429) (by decide +kernel), List.mem_of_getElem? (i := 430) (by decide +kernel)⟩
theorem lw_p8 : lw_okq (⟨"DependentReplay$Tree", "carry", "(III)V"⟩, 2) := ⟨⟨by decide +kernel, by decide +kernel⟩, List.mem_of_getElem? (i := 81) (by decide +kernel), List.mem_of_getElem? (i := 438) (by decide +kernel), List.mem_of_getElem? (i := 439) (by decide +kernel)⟩
theorem lw_p9 : lw_okq (⟨"DependentReplay", "tryReplay", "()V"⟩, 7) := ⟨⟨by decide +kernel, by decide +kernel⟩, List.mem_of_getElem? (i := 16) (by decide +kernel), List.mem_of_getElem? (i := 503) (by decide +kernel), List.mem_of_getElem? (i := 504) (by decide +kernel)⟩
theorem lw_p10 : lw_okq (⟨"DependentReplay$Reader", "readFirstFile", "()Z"⟩, 5) := ⟨⟨by decide +kernel, by decide +kernel⟩, List.mem_of_getElem? (i := 184) (by decide +kernel), List.mem_of_getElem? (i := 570) (by decide +kernel), List.mem_of_getElem? (i := 571) (by decide +kernel)⟩
theorem lw_p11 : lw_okq (⟨"DependentReplay$Reader", "readFile", "()I"⟩, 5) := ⟨⟨by decide +kernel, by decide +kernel⟩, List.mem_of_getElem? (i := 184) (by decide +kernel), List.mem_of_getElem? (i := 574) (by decide +kernel), List.mem_of_getElem? (i := 575) (by decide +kernel)⟩
theorem lw_p12 : lw_okq (⟨"DependentReplay$Reader", "readSecondFile", "()Z"⟩, 5) := ⟨⟨by decide +kernel, by decide +kernel⟩, List.mem_of_getElem? (i := 184) (by decide +kernel), List.mem_of_getElem? (i := 579) (by decide +kernel), List.mem_of_getElem? (i := 580) (by decide +kernel)⟩
theorem lw_p13 : lw_okq (⟨"DependentReplay$Reader", "readSecondNumber", "()Z"⟩, 5) := ⟨⟨by decide +kernel, by decide +kernel⟩, List.mem_of_getElem? (i := 184) (by decide +kernel), List.mem_of_getElem? (i := 583) (by decide +kernel), List.mem_of_getElem? (i := 584) (by decide +kernel)⟩
theorem lw_p14 : lw_okq (⟨"DependentReplay$Reader", "readNumber", "()I"⟩, 5) := ⟨⟨by decide +kernel, by decide +kernel⟩, List.mem_of_getElem? (i := 184) (by decide +kernel), List.mem_of_getElem? (i := 587) (by decide +kernel), List.mem_of_getElem? (i := 588) (by decide +kernel)⟩
theorem lw_p15 : lw_okq (⟨"DependentReplay$Reader", "readFirstNumber", "()Z"⟩, 5) := ⟨⟨by decide +kernel, by decide +kernel⟩, List.mem_of_getElem? (i := 184) (by decide +kernel), List.mem_of_getElem? (i := 595) (by decide +kernel), List.mem_of_getElem? (i := 596) (by decide +kernel)⟩
def lw_privs_1 : List (MethodName × Nat) := [(⟨"DependentReplay$Log", "firstNeeds", "(III)J"⟩, 7), (⟨"DependentReplay$Log", "latestOfFile", "(I)J"⟩, 7), (⟨"DependentReplay$Log", "latestInDirectory", "(I)J"⟩, 7), (⟨"DependentReplay", "recorded", "(I)I"⟩, 7), (⟨"DependentReplay$State", "turnLost", "(IZ)I"⟩, 2), (⟨"DependentReplay$Replay", "replayReady", "(LDependentReplay$Log;J)I"⟩, 7), (⟨"DependentReplay$Tree", "refusal", "(III)I"⟩, 2), (⟨"DependentReplay$Tree", "isOrLiesIn", "(II)Z"⟩, 2), (⟨"DependentReplay$Tree", "carry", "(III)V"⟩, 2), (⟨"DependentReplay", "tryReplay", "()V"⟩, 7), (⟨"DependentReplay$Reader", "readFirstFile", "()Z"⟩, 5), (⟨"DependentReplay$Reader", "readFile", "()I"⟩, 5), (⟨"DependentReplay$Reader", "readSecondFile", "()Z"⟩, 5), (⟨"DependentReplay$Reader", "readSecondNumber", "()Z"⟩, 5), (⟨"DependentReplay$Reader", "readNumber", "()I"⟩, 5), (⟨"DependentReplay$Reader", "readFirstNumber", "()Z"⟩, 5)]
theorem lw_r1 : ∀ q ∈ lw_privs_1, lw_okq q := List.forall_mem_cons.mpr ⟨lw_p0, List.forall_mem_cons.mpr ⟨lw_p1, List.forall_mem_cons.mpr ⟨lw_p2, List.forall_mem_cons.mpr ⟨lw_p3, List.forall_mem_cons.mpr ⟨lw_p4, List.forall_mem_cons.mpr ⟨lw_p5, List.forall_mem_cons.mpr ⟨lw_p6, List.forall_mem_cons.mpr ⟨lw_p7, List.forall_mem_cons.mpr ⟨lw_p8, List.forall_mem_cons.mpr ⟨lw_p9, List.forall_mem_cons.mpr ⟨lw_p10, List.forall_mem_cons.mpr ⟨lw_p11, List.forall_mem_cons.mpr ⟨lw_p12, List.forall_mem_cons.mpr ⟨lw_p13, List.forall_mem_cons.mpr ⟨lw_p14, List.forall_mem_cons.mpr ⟨lw_p15, fun _ h => absurd h List.not_mem_nil⟩⟩⟩⟩⟩⟩⟩⟩⟩⟩⟩⟩⟩⟩⟩⟩
theorem lw_p16 : lw_okq (⟨"DependentReplay", "carryOrderOut", "()I"⟩, 7) := ⟨⟨by decide +kernel, by decide +kernel⟩, List.mem_of_getElem? (i := 16) (by decide +kernel), List.mem_of_getElem? (i := 605) (by decide +kernel), List.mem_of_getElem? (i := 606) (by decide +kernel)⟩
theorem lw_p17 : lw_okq (⟨"DependentReplayModel", "emptyTree", "()V"⟩, 15) := ⟨⟨by decide +kernel, by decide +kernel⟩, List.mem_of_getElem? (i := 630) (by decide +kernel), List.mem_of_getElem? (i := 636) (by decide +kernel), List.mem_of_getElem? (i := 637) (by decide +kernel)⟩
theorem lw_p18 : lw_okq (⟨"DependentReplayModel", "setFile", "(IIII)V"⟩, 15) := ⟨⟨by decide +kernel, by decide +kernel⟩, List.mem_of_getElem? (i := 630) (by decide +kernel), List.mem_of_getElem? (i := 640) (by decide +kernel), List.mem_of_getElem? (i := 641) (by decide +kernel)⟩
theorem lw_p19 : lw_okq (⟨"DependentReplayModel", "whyNotWritten", "(III)I"⟩, 15) := ⟨⟨by decide +kernel, by decide +kernel⟩, List.mem_of_getElem? (i := 630) (by decide +kernel), List.mem_of_getElem? (i := 694) (by decide +kernel), List.mem_of_getElem? (i := 695) (by decide +kernel)⟩
theorem lw_p20 : lw_okq (⟨"DependentReplayModel", "record", "()V"⟩, 15) := ⟨⟨by decide +kernel, by decide +kernel⟩, List.mem_of_getElem? (i := 630) (by decide +kernel), List.mem_of_getElem? (i := 704) (by decide +kernel), List.mem_of_getElem? (i := 705) (by decide +kernel)⟩
theorem lw_p21 : lw_okq (⟨"DependentReplayModel", "written", "(III)I"⟩, 15) := ⟨⟨by decide +kernel, by decide +kernel⟩, List.mem_of_getElem? (i := 630) (by decide +kernel), List.mem_of_getElem? (i := 711) (by decide +kernel), List.mem_of_getElem? (i := 712) (by decide +kernel)⟩
theorem lw_p22 : lw_okq (⟨"DependentReplayModel", "setPart", "(III)V"⟩, 15) := ⟨⟨by decide +kernel, by decide +kernel⟩, List.mem_of_getElem? (i := 630) (by decide +kernel), List.mem_of_getElem? (i := 715) (by decide +kernel), List.mem_of_getElem? (i := 716) (by decide +kernel)⟩
theorem lw_p23 : lw_okq (⟨"DependentReplayModel", "latestOf", "(II)I"⟩, 15) := ⟨⟨by decide +kernel, by decide +kernel⟩, List.mem_of_getElem? (i := 630) (by decide +kernel), List.mem_of_getElem? (i := 719) (by decide +kernel), List.mem_of_getElem? (i := 720) (by decide +kernel)⟩
theorem lw_p24 : lw_okq (⟨"DependentReplayModel", "part", "(II)I"⟩, 15) := ⟨⟨by decide +kernel, by decide +kernel⟩, List.mem_of_getElem? (i := 630) (by decide +kernel), List.mem_of_getElem? (i := 723) (by decide +kernel), List.mem_of_getElem? (i := 724) (by decide +kernel)⟩
theorem lw_p25 : lw_okq (⟨"DependentReplayModel", "dependsIfAny", "(II)V"⟩, 15) := ⟨⟨by decide +kernel, by decide +kernel⟩, List.mem_of_getElem? (i := 630) (by decide +kernel), List.mem_of_getElem? (i := 727) (by decide +kernel), List.mem_of_getElem? (i := 728) (by decide +kernel)⟩
theorem lw_p26 : lw_okq (⟨"DependentReplayModel", "depends", "(II)V"⟩, 15) := ⟨⟨by decide +kernel, by decide +kernel⟩, List.mem_of_getElem? (i := 630) (by decide +kernel), List.mem_of_getElem? (i := 731) (by decide +kernel), List.mem_of_getElem? (i := 732) (by decide +kernel)⟩
theorem lw_p27 : lw_okq (⟨"DependentReplayModel", "hasDirectory", "(I)Z"⟩, 15) := ⟨⟨by decide +kernel, by decide +kernel⟩, List.mem_of_getElem? (i := 630) (by decide +kernel), List.mem_of_getElem? (i := 735) (by decide +kernel), List.mem_of_getElem? (i := 736) (by decide +kernel)⟩
theorem lw_p28 : lw_okq (⟨"DependentReplayModel", "latestIn", "(II)I"⟩, 15) := ⟨⟨by decide +kernel, by decide +kernel⟩, List.mem_of_getElem? (i := 630) (by decide +kernel), List.mem_of_getElem? (i := 739) (by decide +kernel), List.mem_of_getElem? (i := 740) (by decide +kernel)⟩
theorem lw_p29 : lw_okq (⟨"DependentReplayModel", "whyNotNeeded", "(II)I"⟩, 15) := ⟨⟨by decide +kernel, by decide +kernel⟩, List.mem_of_getElem? (i := 630) (by decide +kernel), List.mem_of_getElem? (i := 759) (by decide +kernel), List.mem_of_getElem? (i := 760) (by decide +kernel)⟩
theorem lw_p30 : lw_okq (⟨"DependentReplayModel", "isEntry", "(I)Z"⟩, 15) := ⟨⟨by decide +kernel, by decide +kernel⟩, List.mem_of_getElem? (i := 630) (by decide +kernel), List.mem_of_getElem? (i := 763) (by decide +kernel), List.mem_of_getElem? (i := 764) (by decide +kernel)⟩
theorem lw_p31 : lw_okq (⟨"DependentReplayModel", "needed", "(II)I"⟩, 15) := ⟨⟨by decide +kernel, by decide +kernel⟩, List.mem_of_getElem? (i := 630) (by decide +kernel), List.mem_of_getElem? (i := 767) (by decide +kernel), List.mem_of_getElem? (i := 768) (by decide +kernel)⟩
def lw_privs_2 : List (MethodName × Nat) := [(⟨"DependentReplay", "carryOrderOut", "()I"⟩, 7), (⟨"DependentReplayModel", "emptyTree", "()V"⟩, 15), (⟨"DependentReplayModel", "setFile", "(IIII)V"⟩, 15), (⟨"DependentReplayModel", "whyNotWritten", "(III)I"⟩, 15), (⟨"DependentReplayModel", "record", "()V"⟩, 15), (⟨"DependentReplayModel", "written", "(III)I"⟩, 15), (⟨"DependentReplayModel", "setPart", "(III)V"⟩, 15), (⟨"DependentReplayModel", "latestOf", "(II)I"⟩, 15), (⟨"DependentReplayModel", "part", "(II)I"⟩, 15), (⟨"DependentReplayModel", "dependsIfAny", "(II)V"⟩, 15), (⟨"DependentReplayModel", "depends", "(II)V"⟩, 15), (⟨"DependentReplayModel", "hasDirectory", "(I)Z"⟩, 15), (⟨"DependentReplayModel", "latestIn", "(II)I"⟩, 15), (⟨"DependentReplayModel", "whyNotNeeded", "(II)I"⟩, 15), (⟨"DependentReplayModel", "isEntry", "(I)Z"⟩, 15), (⟨"DependentReplayModel", "needed", "(II)I"⟩, 15)]
theorem lw_r2 : ∀ q ∈ lw_privs_2, lw_okq q := List.forall_mem_cons.mpr ⟨lw_p16, List.forall_mem_cons.mpr ⟨lw_p17, List.forall_mem_cons.mpr ⟨lw_p18, List.forall_mem_cons.mpr ⟨lw_p19, List.forall_mem_cons.mpr ⟨lw_p20, List.forall_mem_cons.mpr ⟨lw_p21, List.forall_mem_cons.mpr ⟨lw_p22, List.forall_mem_cons.mpr ⟨lw_p23, List.forall_mem_cons.mpr ⟨lw_p24, List.forall_mem_cons.mpr ⟨lw_p25, List.forall_mem_cons.mpr ⟨lw_p26, List.forall_mem_cons.mpr ⟨lw_p27, List.forall_mem_cons.mpr ⟨lw_p28, List.forall_mem_cons.mpr ⟨lw_p29, List.forall_mem_cons.mpr ⟨lw_p30, List.forall_mem_cons.mpr ⟨lw_p31, fun _ h => absurd h List.not_mem_nil⟩⟩⟩⟩⟩⟩⟩⟩⟩⟩⟩⟩⟩⟩⟩⟩
theorem lw_p32 : lw_okq (⟨"DependentReplayModel", "beginsAnew", "()V"⟩, 15) := ⟨⟨by decide +kernel, by decide +kernel⟩, List.mem_of_getElem? (i := 630) (by decide +kernel), List.mem_of_getElem? (i := 771) (by decide +kernel), List.mem_of_getElem? (i := 772) (by decide +kernel)⟩
theorem lw_p33 : lw_okq (⟨"DependentReplayModel", "dependencies", "(I)J"⟩, 15) := ⟨⟨by decide +kernel, by decide +kernel⟩, List.mem_of_getElem? (i := 630) (by decide +kernel), List.mem_of_getElem? (i := 775) (by decide +kernel), List.mem_of_getElem? (i := 776) (by decide +kernel)⟩
theorem lw_p34 : lw_okq (⟨"DependentReplayModel", "whyNotBecome", "(II)I"⟩, 15) := ⟨⟨by decide +kernel, by decide +kernel⟩, List.mem_of_getElem? (i := 630) (by decide +kernel), List.mem_of_getElem? (i := 786) (by decide +kernel), List.mem_of_getElem? (i := 787) (by decide +kernel)⟩
theorem lw_p35 : lw_okq (⟨"DependentReplayModel", "becomes", "(II)I"⟩, 15) := ⟨⟨by decide +kernel, by decide +kernel⟩, List.mem_of_getElem? (i := 630) (by decide +kernel), List.mem_of_getElem? (i := 790) (by decide +kernel), List.mem_of_getElem? (i := 791) (by decide +kernel)⟩
theorem lw_p36 : lw_okq (⟨"DependentReplayModel", "lostOnes", "()J"⟩, 15) := ⟨⟨by decide +kernel, by decide +kernel⟩, List.mem_of_getElem? (i := 630) (by decide +kernel), List.mem_of_getElem? (i := 794) (by decide +kernel), List.mem_of_getElem? (i := 795) (by decide +kernel)⟩
theorem lw_p37 : lw_okq (⟨"DependentReplayModel", "orphansBy", "(J)J"⟩, 15) := ⟨⟨by decide +kernel, by decide +kernel⟩, List.mem_of_getElem? (i := 630) (by decide +kernel), List.mem_of_getElem? (i := 798) (by decide +kernel), List.mem_of_getElem? (i := 799) (by decide +kernel)⟩
theorem lw_p38 : lw_okq (⟨"DependentReplayModel", "findLeans", "()V"⟩, 15) := ⟨⟨by decide +kernel, by decide +kernel⟩, List.mem_of_getElem? (i := 630) (by decide +kernel), List.mem_of_getElem? (i := 802) (by decide +kernel), List.mem_of_getElem? (i := 803) (by decide +kernel)⟩
theorem lw_p39 : lw_okq (⟨"DependentReplayModel", "replayedOnes", "()J"⟩, 15) := ⟨⟨by decide +kernel, by decide +kernel⟩, List.mem_of_getElem? (i := 630) (by decide +kernel), List.mem_of_getElem? (i := 814) (by decide +kernel), List.mem_of_getElem? (i := 815) (by decide +kernel)⟩
theorem lw_p40 : lw_okq (⟨"DependentReplayModel", "makesRound", "()I"⟩, 15) := ⟨⟨by decide +kernel, by decide +kernel⟩, List.mem_of_getElem? (i := 630) (by decide +kernel), List.mem_of_getElem? (i := 822) (by decide +kernel), List.mem_of_getElem? (i := 823) (by decide +kernel)⟩
theorem lw_p41 : lw_okq (⟨"DependentReplayModel", "readyOnes", "()J"⟩, 15) := ⟨⟨by decide +kernel, by decide +kernel⟩, List.mem_of_getElem? (i := 630) (by decide +kernel), List.mem_of_getElem? (i := 826) (by decide +kernel), List.mem_of_getElem? (i := 827) (by decide +kernel)⟩
theorem lw_p42 : lw_okq (⟨"DependentReplayModel", "plays", "(I)I"⟩, 15) := ⟨⟨by decide +kernel, by decide +kernel⟩, List.mem_of_getElem? (i := 630) (by decide +kernel), List.mem_of_getElem? (i := 831) (by decide +kernel), List.mem_of_getElem? (i := 832) (by decide +kernel)⟩
theorem lw_p43 : lw_okq (⟨"DependentReplayModel", "reasonOf", "(I)I"⟩, 15) := ⟨⟨by decide +kernel, by decide +kernel⟩, List.mem_of_getElem? (i := 630) (by decide +kernel), List.mem_of_getElem? (i := 835) (by decide +kernel), List.mem_of_getElem? (i := 836) (by decide +kernel)⟩
theorem lw_p44 : lw_okq (⟨"DependentReplayModel", "isThere", "(I)Z"⟩, 15) := ⟨⟨by decide +kernel, by decide +kernel⟩, List.mem_of_getElem? (i := 630) (by decide +kernel), List.mem_of_getElem? (i := 839) (by decide +kernel), List.mem_of_getElem? (i := 840) (by decide +kernel)⟩
theorem lw_p45 : lw_okq (⟨"DependentReplayModel", "filePart", "(II)I"⟩, 15) := ⟨⟨by decide +kernel, by decide +kernel⟩, List.mem_of_getElem? (i := 630) (by decide +kernel), List.mem_of_getElem? (i := 843) (by decide +kernel), List.mem_of_getElem? (i := 844) (by decide +kernel)⟩
theorem lw_p46 : lw_okq (⟨"DependentReplayModel", "isUnder", "(II)Z"⟩, 15) := ⟨⟨by decide +kernel, by decide +kernel⟩, List.mem_of_getElem? (i := 630) (by decide +kernel), List.mem_of_getElem? (i := 847) (by decide +kernel), List.mem_of_getElem? (i := 848) (by decide +kernel)⟩
theorem lw_p47 : lw_okq (⟨"DependentReplayModel", "filesIn", "(I)I"⟩, 15) := ⟨⟨by decide +kernel, by decide +kernel⟩, List.mem_of_getElem? (i := 630) (by decide +kernel), List.mem_of_getElem? (i := 851) (by decide +kernel), List.mem_of_getElem? (i := 852) (by decide +kernel)⟩
def lw_privs_3 : List (MethodName × Nat) := [(⟨"DependentReplayModel", "beginsAnew", "()V"⟩, 15), (⟨"DependentReplayModel", "dependencies", "(I)J"⟩, 15), (⟨"DependentReplayModel", "whyNotBecome", "(II)I"⟩, 15), (⟨"DependentReplayModel", "becomes", "(II)I"⟩, 15), (⟨"DependentReplayModel", "lostOnes", "()J"⟩, 15), (⟨"DependentReplayModel", "orphansBy", "(J)J"⟩, 15), (⟨"DependentReplayModel", "findLeans", "()V"⟩, 15), (⟨"DependentReplayModel", "replayedOnes", "()J"⟩, 15), (⟨"DependentReplayModel", "makesRound", "()I"⟩, 15), (⟨"DependentReplayModel", "readyOnes", "()J"⟩, 15), (⟨"DependentReplayModel", "plays", "(I)I"⟩, 15), (⟨"DependentReplayModel", "reasonOf", "(I)I"⟩, 15), (⟨"DependentReplayModel", "isThere", "(I)Z"⟩, 15), (⟨"DependentReplayModel", "filePart", "(II)I"⟩, 15), (⟨"DependentReplayModel", "isUnder", "(II)Z"⟩, 15), (⟨"DependentReplayModel", "filesIn", "(I)I"⟩, 15)]
theorem lw_r3 : ∀ q ∈ lw_privs_3, lw_okq q := List.forall_mem_cons.mpr ⟨lw_p32, List.forall_mem_cons.mpr ⟨lw_p33, List.forall_mem_cons.mpr ⟨lw_p34, List.forall_mem_cons.mpr ⟨lw_p35, List.forall_mem_cons.mpr ⟨lw_p36, List.forall_mem_cons.mpr ⟨lw_p37, List.forall_mem_cons.mpr ⟨lw_p38, List.forall_mem_cons.mpr ⟨lw_p39, List.forall_mem_cons.mpr ⟨lw_p40, List.forall_mem_cons.mpr ⟨lw_p41, List.forall_mem_cons.mpr ⟨lw_p42, List.forall_mem_cons.mpr ⟨lw_p43, List.forall_mem_cons.mpr ⟨lw_p44, List.forall_mem_cons.mpr ⟨lw_p45, List.forall_mem_cons.mpr ⟨lw_p46, List.forall_mem_cons.mpr ⟨lw_p47, fun _ h => absurd h List.not_mem_nil⟩⟩⟩⟩⟩⟩⟩⟩⟩⟩⟩⟩⟩⟩⟩⟩
theorem lw_p48 : lw_okq (⟨"DependentReplayModel", "replays", "()I"⟩, 15) := ⟨⟨by decide +kernel, by decide +kernel⟩, List.mem_of_getElem? (i := 630) (by decide +kernel), List.mem_of_getElem? (i := 859) (by decide +kernel), List.mem_of_getElem? (i := 860) (by decide +kernel)⟩
theorem lw_p49 : lw_okq (⟨"DependentReplayModel", "leanOn", "(I)I"⟩, 15) := ⟨⟨by decide +kernel, by decide +kernel⟩, List.mem_of_getElem? (i := 630) (by decide +kernel), List.mem_of_getElem? (i := 867) (by decide +kernel), List.mem_of_getElem? (i := 868) (by decide +kernel)⟩
theorem lw_p50 : lw_okq (⟨"DependentReplayModel", "above", "(I)I"⟩, 15) := ⟨⟨by decide +kernel, by decide +kernel⟩, List.mem_of_getElem? (i := 630) (by decide +kernel), List.mem_of_getElem? (i := 879) (by decide +kernel), List.mem_of_getElem? (i := 880) (by decide +kernel)⟩
theorem lw_p51 : lw_okq (⟨"DependentReplayModel", "allUnder", "(I)I"⟩, 15) := ⟨⟨by decide +kernel, by decide +kernel⟩, List.mem_of_getElem? (i := 630) (by decide +kernel), List.mem_of_getElem? (i := 883) (by decide +kernel), List.mem_of_getElem? (i := 884) (by decide +kernel)⟩
theorem lw_p52 : lw_okq (⟨"DependentReplayModel", "refusedOnes", "()J"⟩, 15) := ⟨⟨by decide +kernel, by decide +kernel⟩, List.mem_of_getElem? (i := 630) (by decide +kernel), List.mem_of_getElem? (i := 891) (by decide +kernel), List.mem_of_getElem? (i := 892) (by decide +kernel)⟩
theorem lw_p53 : lw_okq (⟨"DependentReplayModel", "filesThere", "()I"⟩, 15) := ⟨⟨by decide +kernel, by decide +kernel⟩, List.mem_of_getElem? (i := 630) (by decide +kernel), List.mem_of_getElem? (i := 895) (by decide +kernel), List.mem_of_getElem? (i := 896) (by decide +kernel)⟩
theorem lw_p54 : lw_okq (⟨"DependentReplayModel", "widest", "()I"⟩, 15) := ⟨⟨by decide +kernel, by decide +kernel⟩, List.mem_of_getElem? (i := 630) (by decide +kernel), List.mem_of_getElem? (i := 899) (by decide +kernel), List.mem_of_getElem? (i := 900) (by decide +kernel)⟩
theorem lw_p55 : lw_okq (⟨"DependentReplayModel", "findFault", "()I"⟩, 15) := ⟨⟨by decide +kernel, by decide +kernel⟩, List.mem_of_getElem? (i := 630) (by decide +kernel), List.mem_of_getElem? (i := 937) (by decide +kernel), List.mem_of_getElem? (i := 938) (by decide +kernel)⟩
theorem lw_p56 : lw_okq (⟨"DependentReplayModel", "readsOrder", "()Z"⟩, 15) := ⟨⟨by decide +kernel, by decide +kernel⟩, List.mem_of_getElem? (i := 630) (by decide +kernel), List.mem_of_getElem? (i := 941) (by decide +kernel), List.mem_of_getElem? (i := 942) (by decide +kernel)⟩
theorem lw_p57 : lw_okq (⟨"DependentReplayModel", "character", "(I)I"⟩, 15) := ⟨⟨by decide +kernel, by decide +kernel⟩, List.mem_of_getElem? (i := 630) (by decide +kernel), List.mem_of_getElem? (i := 945) (by decide +kernel), List.mem_of_getElem? (i := 946) (by decide +kernel)⟩
theorem lw_p58 : lw_okq (⟨"DependentReplayModel", "takeFile", "()I"⟩, 15) := ⟨⟨by decide +kernel, by decide +kernel⟩, List.mem_of_getElem? (i := 630) (by decide +kernel), List.mem_of_getElem? (i := 949) (by decide +kernel), List.mem_of_getElem? (i := 950) (by decide +kernel)⟩
theorem lw_p59 : lw_okq (⟨"DependentReplayModel", "takes", "(I)Z"⟩, 15) := ⟨⟨by decide +kernel, by decide +kernel⟩, List.mem_of_getElem? (i := 630) (by decide +kernel), List.mem_of_getElem? (i := 953) (by decide +kernel), List.mem_of_getElem? (i := 954) (by decide +kernel)⟩
theorem lw_p60 : lw_okq (⟨"DependentReplayModel", "takeNumber", "()I"⟩, 15) := ⟨⟨by decide +kernel, by decide +kernel⟩, List.mem_of_getElem? (i := 630) (by decide +kernel), List.mem_of_getElem? (i := 957) (by decide +kernel), List.mem_of_getElem? (i := 958) (by decide +kernel)⟩
theorem lw_p61 : lw_okq (⟨"DependentReplayModel", "whyNotDone", "()I"⟩, 15) := ⟨⟨by decide +kernel, by decide +kernel⟩, List.mem_of_getElem? (i := 630) (by decide +kernel), List.mem_of_getElem? (i := 965) (by decide +kernel), List.mem_of_getElem? (i := 966) (by decide +kernel)⟩
theorem lw_p62 : lw_okq (⟨"DependentReplayModel", "does", "()V"⟩, 15) := ⟨⟨by decide +kernel, by decide +kernel⟩, List.mem_of_getElem? (i := 630) (by decide +kernel), List.mem_of_getElem? (i := 969) (by decide +kernel), List.mem_of_getElem? (i := 970) (by decide +kernel)⟩
def lw_privs_4 : List (MethodName × Nat) := [(⟨"DependentReplayModel", "replays", "()I"⟩, 15), (⟨"DependentReplayModel", "leanOn", "(I)I"⟩, 15), (⟨"DependentReplayModel", "above", "(I)I"⟩, 15), (⟨"DependentReplayModel", "allUnder", "(I)I"⟩, 15), (⟨"DependentReplayModel", "refusedOnes", "()J"⟩, 15), (⟨"DependentReplayModel", "filesThere", "()I"⟩, 15), (⟨"DependentReplayModel", "widest", "()I"⟩, 15), (⟨"DependentReplayModel", "findFault", "()I"⟩, 15), (⟨"DependentReplayModel", "readsOrder", "()Z"⟩, 15), (⟨"DependentReplayModel", "character", "(I)I"⟩, 15), (⟨"DependentReplayModel", "takeFile", "()I"⟩, 15), (⟨"DependentReplayModel", "takes", "(I)Z"⟩, 15), (⟨"DependentReplayModel", "takeNumber", "()I"⟩, 15), (⟨"DependentReplayModel", "whyNotDone", "()I"⟩, 15), (⟨"DependentReplayModel", "does", "()V"⟩, 15)]
theorem lw_r4 : ∀ q ∈ lw_privs_4, lw_okq q := List.forall_mem_cons.mpr ⟨lw_p48, List.forall_mem_cons.mpr ⟨lw_p49, List.forall_mem_cons.mpr ⟨lw_p50, List.forall_mem_cons.mpr ⟨lw_p51, List.forall_mem_cons.mpr ⟨lw_p52, List.forall_mem_cons.mpr ⟨lw_p53, List.forall_mem_cons.mpr ⟨lw_p54, List.forall_mem_cons.mpr ⟨lw_p55, List.forall_mem_cons.mpr ⟨lw_p56, List.forall_mem_cons.mpr ⟨lw_p57, List.forall_mem_cons.mpr ⟨lw_p58, List.forall_mem_cons.mpr ⟨lw_p59, List.forall_mem_cons.mpr ⟨lw_p60, List.forall_mem_cons.mpr ⟨lw_p61, List.forall_mem_cons.mpr ⟨lw_p62, fun _ h => absurd h List.not_mem_nil⟩⟩⟩⟩⟩⟩⟩⟩⟩⟩⟩⟩⟩⟩⟩
def lw_privs : List (MethodName × Nat) := lw_privs_1 ++ (lw_privs_2 ++ (lw_privs_3 ++ (lw_privs_4)))
def lw_tbl : List Cond := k2_sels lw_privs ++ tables_1
theorem lw_privs_ok : ∀ q ∈ lw_privs, lw_okq q := by
  show ∀ q ∈ lw_privs_1 ++ (lw_privs_2 ++ (lw_privs_3 ++ (lw_privs_4))), lw_okq q
  exact List.forall_mem_append.mpr ⟨lw_r1, List.forall_mem_append.mpr ⟨lw_r2, List.forall_mem_append.mpr ⟨lw_r3, lw_r4⟩⟩⟩
end
section
/-! the tables of the small machine: classes, fields, methods, links (printed by wip/whole/gen01.py out of the claim) -/
abbrev CN : Nat → String := fun k => match k with
  | 0 => "DependentReplay"
  | 1 => "DependentReplay$State"
  | 2 => "DependentReplay$Log"
  | 3 => "DependentReplay$Replay"
  | 4 => "DependentReplay$Tree"
  | 5 => "DependentReplay$History"
  | 6 => "DependentReplay$Pad"
  | 7 => "DependentReplay$Reader"
  | 8 => "DependentReplay$Slot"
  | 9 => "DependentReplayModel"
  | 10 => "java/util/Arrays"
  | 11 => "java/lang/Math"
  | 12 => "java/lang/Long"
  | _ => "DependentReplayLaw"
def T_0 : u_T := fun k => match k with
  | 0 => ("DependentReplay", "now", "LDependentReplay$State;", true)
  | 1 => ("DependentReplay", "history", "LDependentReplay$History;", true)
  | 2 => ("DependentReplay", "slots", "[LDependentReplay$Slot;", true)
  | 3 => ("DependentReplay", "pad", "LDependentReplay$Pad;", true)
  | 4 => ("DependentReplay", "reader", "LDependentReplay$Reader;", true)
  | 5 => ("DependentReplay", "trial", "LDependentReplay$Replay;", true)
  | _ => ("DependentReplay", "treeOfWriting", "LDependentReplay$Tree;", true)
def t_0 : Nat → FieldType := fun k => match k with
  | 0 => .object "DependentReplay$State"
  | 1 => .object "DependentReplay$History"
  | 2 => .array (.object "DependentReplay$Slot")
  | 3 => .object "DependentReplay$Pad"
  | 4 => .object "DependentReplay$Reader"
  | 5 => .object "DependentReplay$Replay"
  | _ => .object "DependentReplay$Tree"
def T_1 : u_T := fun k => match k with
  | 0 => ("DependentReplay$State", "log", "LDependentReplay$Log;", true)
  | _ => ("DependentReplay$State", "replay", "LDependentReplay$Replay;", true)
def t_1 : Nat → FieldType := fun k => match k with
  | 0 => .object "DependentReplay$Log"
  | _ => .object "DependentReplay$Replay"
def T_2 : u_T := fun k => match k with
  | 0 => ("DependentReplay$Log", "size", "I", false)
  | 1 => ("DependentReplay$Log", "lost", "J", false)
  | 2 => ("DependentReplay$Log", "kinds", "[I", true)
  | 3 => ("DependentReplay$Log", "files", "[I", true)
  | 4 => ("DependentReplay$Log", "arguments", "[I", true)
  | 5 => ("DependentReplay$Log", "needs", "[J", true)
  | _ => ("DependentReplay$Log", "leansOn", "[J", true)
def t_2 : Nat → FieldType := fun k => match k with
  | 0 => .int
  | 1 => .long
  | 2 => .array (.int)
  | 3 => .array (.int)
  | 4 => .array (.int)
  | 5 => .array (.long)
  | _ => .array (.long)
def T_3 : u_T := fun k => match k with
  | 0 => ("DependentReplay$Replay", "replayed", "J", false)
  | 1 => ("DependentReplay$Replay", "refused", "J", false)
  | 2 => ("DependentReplay$Replay", "rounds", "I", false)
  | 3 => ("DependentReplay$Replay", "widest", "I", false)
  | 4 => ("DependentReplay$Replay", "roundOf", "[I", true)
  | 5 => ("DependentReplay$Replay", "reasonOf", "[I", true)
  | _ => ("DependentReplay$Replay", "tree", "LDependentReplay$Tree;", true)
def t_3 : Nat → FieldType := fun k => match k with
  | 0 => .long
  | 1 => .long
  | 2 => .int
  | 3 => .int
  | 4 => .array (.int)
  | 5 => .array (.int)
  | _ => .object "DependentReplay$Tree"
def T_4 : u_T := fun k => match k with
  | 0 => ("DependentReplay$Tree", "directories", "[I", true)
  | _ => ("DependentReplay$Tree", "values", "[I", true)
def t_4 : Nat → FieldType := fun k => match k with
  | 0 => .array (.int)
  | _ => .array (.int)
def T_5 : u_T := fun k => match k with
  | 0 => ("DependentReplay$History", "states", "[LDependentReplay$State;", true)
  | 1 => ("DependentReplay$History", "next", "I", false)
  | _ => ("DependentReplay$History", "kept", "I", false)
def t_5 : Nat → FieldType := fun k => match k with
  | 0 => .array (.object "DependentReplay$State")
  | 1 => .int
  | _ => .int
def T_6 : u_T := fun k => match k with
  | 0 => ("DependentReplay$Pad", "codes", "[I", true)
  | _ => ("DependentReplay$Pad", "length", "I", false)
def t_6 : Nat → FieldType := fun k => match k with
  | 0 => .array (.int)
  | _ => .int
def T_7 : u_T := fun k => match k with
  | 0 => ("DependentReplay$Reader", "pad", "LDependentReplay$Pad;", true)
  | 1 => ("DependentReplay$Reader", "at", "I", false)
  | 2 => ("DependentReplay$Reader", "letter", "I", false)
  | 3 => ("DependentReplay$Reader", "first", "I", false)
  | _ => ("DependentReplay$Reader", "second", "I", false)
def t_7 : Nat → FieldType := fun k => match k with
  | 0 => .object "DependentReplay$Pad"
  | 1 => .int
  | 2 => .int
  | 3 => .int
  | _ => .int
def T_8 : u_T := fun k => match k with
  | 0 => ("DependentReplay$Slot", "state", "LDependentReplay$State;", true)
  | _ => ("DependentReplay$Slot", "isUsed", "Z", false)
def t_8 : Nat → FieldType := fun k => match k with
  | 0 => .object "DependentReplay$State"
  | _ => .boolean
def T_9 : u_T := fun k => match k with
  | 0 => ("DependentReplayModel", "state", "[I", true)
  | 1 => ("DependentReplayModel", "kept", "[I", true)
  | 2 => ("DependentReplayModel", "history", "[I", true)
  | 3 => ("DependentReplayModel", "recorded", "I", false)
  | 4 => ("DependentReplayModel", "slots", "[I", true)
  | 5 => ("DependentReplayModel", "isSaved", "[I", true)
  | 6 => ("DependentReplayModel", "pad", "[I", true)
  | 7 => ("DependentReplayModel", "padLength", "I", false)
  | 8 => ("DependentReplayModel", "leans", "[J", true)
  | 9 => ("DependentReplayModel", "depths", "[I", true)
  | 10 => ("DependentReplayModel", "byOrder", "[I", true)
  | 11 => ("DependentReplayModel", "at", "I", false)
  | 12 => ("DependentReplayModel", "letter", "I", false)
  | 13 => ("DependentReplayModel", "first", "I", false)
  | _ => ("DependentReplayModel", "second", "I", false)
def t_9 : Nat → FieldType := fun k => match k with
  | 0 => .array (.int)
  | 1 => .array (.int)
  | 2 => .array (.int)
  | 3 => .int
  | 4 => .array (.int)
  | 5 => .array (.int)
  | 6 => .array (.int)
  | 7 => .int
  | 8 => .array (.long)
  | 9 => .array (.int)
  | 10 => .array (.int)
  | 11 => .int
  | 12 => .int
  | 13 => .int
  | _ => .int
def TT : Nat → u_T := fun c => match c with
  | 0 => T_0
  | 1 => T_1
  | 2 => T_2
  | 3 => T_3
  | 4 => T_4
  | 5 => T_5
  | 6 => T_6
  | 7 => T_7
  | 8 => T_8
  | _ => T_9
def tT : Nat → Nat → FieldType := fun c => match c with
  | 0 => t_0
  | 1 => t_1
  | 2 => t_2
  | 3 => t_3
  | 4 => t_4
  | 5 => t_5
  | 6 => t_6
  | 7 => t_7
  | 8 => t_8
  | _ => t_9
def NN : Nat → Nat := fun c => match c with
  | 0 => 7
  | 1 => 2
  | 2 => 7
  | 3 => 7
  | 4 => 2
  | 5 => 3
  | 6 => 2
  | 7 => 5
  | 8 => 2
  | _ => 15
def nCl : Nat := 10
/-- 0 an int, 1 a long, 2 a reference, 3 a boolean -/
def fT (ci k : Nat) : Nat := match tT ci k with | .int => 0 | .long => 1 | .boolean => 3 | _ => 2
abbrev classes : List vw_C := [("DependentReplay", T_0, 7), ("DependentReplay$State", T_1, 2), ("DependentReplay$Log", T_2, 7), ("DependentReplay$Replay", T_3, 7), ("DependentReplay$Tree", T_4, 2), ("DependentReplay$History", T_5, 3), ("DependentReplay$Pad", T_6, 2), ("DependentReplay$Reader", T_7, 5), ("DependentReplay$Slot", T_8, 2), ("DependentReplayModel", T_9, 15)]
abbrev MT : Type := MethodName × ByteArray × Nat × Option FieldType × Nat × Nat × Nat × Nat × Nat × Bool
def mt_0 : MT := (⟨"DependentReplay", "<init>", "()V"⟩, prog_1_method_1_code, 2, none, 0, 6, 82, 81, 0, false)
def mt_1 : MT := (⟨"DependentReplay$State", "<init>", "()V"⟩, prog_8_method_1_code, 1, none, 1, 4, 90, 89, 0, false)
def mt_2 : MT := (⟨"DependentReplay$Log", "<init>", "()V"⟩, prog_3_method_1_code, 1, none, 2, 1, 96, 95, 0, false)
def mt_3 : MT := (⟨"DependentReplay$Replay", "<init>", "()V"⟩, prog_6_method_1_code, 1, none, 3, 3, 141, 140, 0, false)
def mt_4 : MT := (⟨"DependentReplay$Tree", "<init>", "()V"⟩, prog_9_method_1_code, 1, none, 4, 2, 147, 146, 0, false)
def mt_5 : MT := (⟨"DependentReplay$Tree", "clear", "()V"⟩, prog_9_method_2_code, 1, none, 4, 1, 152, 150, 151, false)
def mt_6 : MT := (⟨"java/util/Arrays", "fill", "([II)V"⟩, prog_15_method_103_code, 4, none, 10, 0, 155, 154, 0, true)
def mt_7 : MT := (⟨"DependentReplay$Replay", "clear", "()V"⟩, prog_6_method_2_code, 1, none, 3, 2, 168, 166, 167, false)
def mt_8 : MT := (⟨"DependentReplay$History", "<init>", "()V"⟩, prog_2_method_1_code, 2, none, 5, 5, 213, 212, 0, false)
def mt_9 : MT := (⟨"DependentReplay$Pad", "<init>", "()V"⟩, prog_4_method_1_code, 1, none, 6, 1, 235, 234, 0, false)
def mt_10 : MT := (⟨"DependentReplay$Reader", "<init>", "(LDependentReplay$Pad;)V"⟩, prog_5_method_1_code, 2, none, 7, 1, 250, 249, 0, false)
def mt_11 : MT := (⟨"DependentReplay$Slot", "<init>", "()V"⟩, prog_7_method_1_code, 1, none, 8, 5, 278, 277, 0, false)
def mt_12 : MT := (⟨"DependentReplay", "make", "(II)I"⟩, prog_1_method_2_code, 3, (some .int), 0, 5, 315, 313, 314, false)
def mt_13 : MT := (⟨"DependentReplay$History", "prepare", "(LDependentReplay$State;)V"⟩, prog_2_method_2_code, 2, none, 5, 4, 319, 317, 318, false)
def mt_14 : MT := (⟨"DependentReplay$State", "copyFrom", "(LDependentReplay$State;)V"⟩, prog_8_method_2_code, 2, none, 1, 3, 323, 321, 322, false)
def mt_15 : MT := (⟨"DependentReplay$Log", "copyFrom", "(LDependentReplay$Log;)V"⟩, prog_3_method_2_code, 2, none, 2, 1, 327, 325, 326, false)
def mt_16 : MT := (⟨"DependentReplay$Replay", "copyFrom", "(LDependentReplay$Replay;)V"⟩, prog_6_method_3_code, 2, none, 3, 2, 334, 332, 333, false)
def mt_17 : MT := (⟨"DependentReplay$Tree", "copyFrom", "(LDependentReplay$Tree;)V"⟩, prog_9_method_3_code, 2, none, 4, 1, 339, 337, 338, false)
def mt_18 : MT := (⟨"DependentReplay$State", "writeEntry", "(III)I"⟩, prog_8_method_3_code, 4, (some .int), 1, 4, 344, 342, 343, false)
def mt_19 : MT := (⟨"DependentReplay", "isFile", "(I)Z"⟩, prog_1_method_31_code, 1, (some .boolean), 0, 0, 347, 346, 0, true)
def mt_20 : MT := (⟨"DependentReplay", "hasDirectory", "(I)Z"⟩, prog_1_method_33_code, 1, (some .boolean), 0, 0, 350, 349, 0, true)
def mt_21 : MT := (⟨"DependentReplay$Log", "append", "(III)I"⟩, prog_3_method_4_code, 5, (some .int), 2, 3, 354, 352, 353, false)
def mt_22 : MT := (⟨"DependentReplay$Log", "firstNeeds", "(III)J"⟩, prog_3_method_5_code, 6, (some .long), 2, 2, 358, 357, 0, false)
def mt_23 : MT := (⟨"DependentReplay$Log", "latestOfFile", "(I)J"⟩, prog_3_method_6_code, 3, (some .long), 2, 1, 362, 361, 1, false)
def mt_24 : MT := (⟨"DependentReplay", "bit", "(I)J"⟩, prog_1_method_34_code, 1, (some .long), 0, 0, 365, 364, 0, true)
def mt_25 : MT := (⟨"DependentReplay$Log", "latestInDirectory", "(I)J"⟩, prog_3_method_7_code, 3, (some .long), 2, 1, 370, 369, 2, false)
def mt_26 : MT := (⟨"DependentReplay$Log", "lean", "(I)V"⟩, prog_3_method_8_code, 6, none, 2, 2, 374, 372, 373, false)
def mt_27 : MT := (⟨"DependentReplay", "holds", "(JI)Z"⟩, prog_1_method_35_code, 3, (some .boolean), 0, 1, 377, 376, 0, true)
def mt_28 : MT := (⟨"DependentReplay", "recorded", "(I)I"⟩, prog_1_method_28_code, 2, (some .int), 0, 2, 382, 381, 3, false)
def mt_29 : MT := (⟨"DependentReplay$History", "keepPrepared", "()V"⟩, prog_2_method_3_code, 1, none, 5, 1, 386, 384, 385, false)
def mt_30 : MT := (⟨"java/lang/Math", "min", "(II)I"⟩, prog_13_method_69_code, 2, (some .int), 11, 0, 389, 388, 0, true)
def mt_31 : MT := (⟨"DependentReplay", "write", "(II)I"⟩, prog_1_method_3_code, 3, (some .int), 0, 5, 393, 391, 392, false)
def mt_32 : MT := (⟨"DependentReplay", "move", "(II)I"⟩, prog_1_method_4_code, 3, (some .int), 0, 5, 397, 395, 396, false)
def mt_33 : MT := (⟨"DependentReplay", "drop", "(I)I"⟩, prog_1_method_5_code, 2, (some .int), 0, 5, 401, 399, 400, false)
def mt_34 : MT := (⟨"DependentReplay", "need", "(II)I"⟩, prog_1_method_6_code, 3, (some .int), 0, 5, 405, 403, 404, false)
def mt_35 : MT := (⟨"DependentReplay$State", "tellNeed", "(II)I"⟩, prog_8_method_4_code, 3, (some .int), 1, 3, 409, 407, 408, false)
def mt_36 : MT := (⟨"DependentReplay$Log", "has", "(I)Z"⟩, prog_3_method_3_code, 2, (some .boolean), 2, 0, 413, 411, 412, false)
def mt_37 : MT := (⟨"java/lang/Long", "bitCount", "(J)I"⟩, prog_12_method_50_code, 2, (some .int), 12, 0, 419, 418, 0, true)
def mt_38 : MT := (⟨"DependentReplay", "lose", "(I)I"⟩, prog_1_method_7_code, 2, (some .int), 0, 5, 426, 424, 425, false)
def mt_39 : MT := (⟨"DependentReplay$State", "loseEntry", "(I)I"⟩, prog_8_method_5_code, 2, (some .int), 1, 4, 430, 428, 429, false)
def mt_40 : MT := (⟨"DependentReplay$State", "turnLost", "(IZ)I"⟩, prog_8_method_7_code, 3, (some .int), 1, 3, 434, 433, 4, false)
def mt_41 : MT := (⟨"DependentReplay$Log", "orphans", "()J"⟩, prog_3_method_10_code, 1, (some .long), 2, 2, 439, 437, 438, false)
def mt_42 : MT := (⟨"DependentReplay$Log", "orphansOf", "(J)J"⟩, prog_3_method_11_code, 6, (some .long), 2, 1, 443, 441, 442, false)
def mt_43 : MT := (⟨"DependentReplay", "find", "(I)I"⟩, prog_1_method_8_code, 2, (some .int), 0, 5, 448, 446, 447, false)
def mt_44 : MT := (⟨"DependentReplay$State", "findEntry", "(I)I"⟩, prog_8_method_6_code, 2, (some .int), 1, 4, 452, 450, 451, false)
def mt_45 : MT := (⟨"DependentReplay", "beginAnew", "()I"⟩, prog_1_method_9_code, 2, (some .int), 0, 5, 456, 454, 455, false)
def mt_46 : MT := (⟨"DependentReplay", "round", "()I"⟩, prog_1_method_10_code, 1, (some .int), 0, 6, 462, 460, 461, false)
def mt_47 : MT := (⟨"DependentReplay$Replay", "makeRound", "(LDependentReplay$Log;)I"⟩, prog_6_method_5_code, 2, (some .int), 3, 5, 466, 464, 465, false)
def mt_48 : MT := (⟨"DependentReplay$Replay", "ready", "(LDependentReplay$Log;)J"⟩, prog_6_method_4_code, 7, (some .long), 3, 2, 470, 468, 469, false)
def mt_49 : MT := (⟨"DependentReplay$Replay", "replayReady", "(LDependentReplay$Log;J)I"⟩, prog_6_method_7_code, 5, (some .int), 3, 4, 477, 476, 5, false)
def mt_50 : MT := (⟨"DependentReplay$Tree", "apply", "(III)I"⟩, prog_9_method_6_code, 5, (some .int), 4, 3, 481, 479, 480, false)
def mt_51 : MT := (⟨"DependentReplay$Tree", "refusal", "(III)I"⟩, prog_9_method_7_code, 4, (some .int), 4, 2, 485, 484, 6, false)
def mt_52 : MT := (⟨"DependentReplay$Tree", "has", "(I)Z"⟩, prog_9_method_4_code, 2, (some .boolean), 4, 0, 489, 487, 488, false)
def mt_53 : MT := (⟨"DependentReplay$Tree", "isOrLiesIn", "(II)Z"⟩, prog_9_method_9_code, 5, (some .boolean), 4, 1, 494, 493, 7, false)
def mt_54 : MT := (⟨"DependentReplay$Tree", "filesIn", "(I)I"⟩, prog_9_method_10_code, 4, (some .int), 4, 0, 499, 497, 498, false)
def mt_55 : MT := (⟨"DependentReplay$Tree", "carry", "(III)V"⟩, prog_9_method_8_code, 4, none, 4, 1, 503, 502, 8, false)
def mt_56 : MT := (⟨"java/lang/Math", "max", "(II)I"⟩, prog_13_method_65_code, 2, (some .int), 11, 0, 507, 506, 0, true)
def mt_57 : MT := (⟨"DependentReplay", "replay", "()I"⟩, prog_1_method_11_code, 1, (some .int), 0, 6, 511, 509, 510, false)
def mt_58 : MT := (⟨"DependentReplay$Replay", "makeRounds", "(LDependentReplay$Log;)I"⟩, prog_6_method_6_code, 5, (some .int), 3, 5, 515, 513, 514, false)
def mt_59 : MT := (⟨"DependentReplay", "ofEntry", "(II)I"⟩, prog_1_method_12_code, 4, (some .int), 0, 3, 519, 517, 518, false)
def mt_60 : MT := (⟨"DependentReplay$Log", "leaningOn", "(I)I"⟩, prog_3_method_9_code, 4, (some .int), 2, 2, 526, 524, 525, false)
def mt_61 : MT := (⟨"DependentReplay", "dependsOn", "(I)J"⟩, prog_1_method_13_code, 2, (some .long), 0, 1, 530, 528, 529, false)
def mt_62 : MT := (⟨"DependentReplay", "ofFile", "(II)I"⟩, prog_1_method_14_code, 4, (some .int), 0, 3, 535, 533, 534, false)
def mt_63 : MT := (⟨"DependentReplay$Tree", "directoriesAbove", "(I)I"⟩, prog_9_method_11_code, 4, (some .int), 4, 1, 542, 540, 541, false)
def mt_64 : MT := (⟨"DependentReplay$Tree", "filesBelow", "(I)I"⟩, prog_9_method_12_code, 4, (some .int), 4, 2, 546, 544, 545, false)
def mt_65 : MT := (⟨"DependentReplay", "count", "(I)I"⟩, prog_1_method_15_code, 2, (some .int), 0, 3, 550, 548, 549, false)
def mt_66 : MT := (⟨"DependentReplay$Tree", "size", "()I"⟩, prog_9_method_5_code, 3, (some .int), 4, 1, 554, 552, 553, false)
def mt_67 : MT := (⟨"DependentReplay", "set", "(I)J"⟩, prog_1_method_16_code, 2, (some .long), 0, 3, 558, 556, 557, false)
def mt_68 : MT := (⟨"DependentReplay", "depth", "(I)I"⟩, prog_1_method_17_code, 2, (some .int), 0, 7, 564, 562, 563, false)
def mt_69 : MT := (⟨"DependentReplay", "tryReplay", "()V"⟩, prog_1_method_29_code, 1, none, 0, 6, 568, 567, 9, false)
def mt_70 : MT := (⟨"DependentReplay", "wants", "(I)J"⟩, prog_1_method_18_code, 2, (some .long), 0, 1, 572, 570, 571, false)
def mt_71 : MT := (⟨"DependentReplay", "worst", "(I)I"⟩, prog_1_method_19_code, 6, (some .int), 0, 2, 576, 574, 575, false)
def mt_72 : MT := (⟨"DependentReplay", "unlike", "()I"⟩, prog_1_method_20_code, 3, (some .int), 0, 7, 581, 579, 580, false)
def mt_73 : MT := (⟨"DependentReplay$Tree", "otherwiseThan", "(LDependentReplay$Tree;)I"⟩, prog_9_method_13_code, 4, (some .int), 4, 0, 587, 585, 586, false)
def mt_74 : MT := (⟨"DependentReplay", "put", "(J)I"⟩, prog_1_method_21_code, 3, (some .int), 0, 2, 591, 589, 590, false)
def mt_75 : MT := (⟨"DependentReplay$Pad", "append", "(J)I"⟩, prog_4_method_4_code, 5, (some .int), 6, 1, 595, 593, 594, false)
def mt_76 : MT := (⟨"DependentReplay$Pad", "numberOf", "(J)I"⟩, prog_4_method_5_code, 6, (some .int), 6, 0, 598, 597, 0, true)
def mt_77 : MT := (⟨"DependentReplay", "wipe", "()I"⟩, prog_1_method_22_code, 1, (some .int), 0, 1, 603, 601, 602, false)
def mt_78 : MT := (⟨"DependentReplay$Pad", "clear", "()I"⟩, prog_4_method_3_code, 2, (some .int), 6, 0, 607, 605, 606, false)
def mt_79 : MT := (⟨"DependentReplay", "fault", "()I"⟩, prog_1_method_23_code, 1, (some .int), 0, 6, 611, 609, 610, false)
def mt_80 : MT := (⟨"DependentReplay$Reader", "firstFault", "()I"⟩, prog_5_method_3_code, 3, (some .int), 7, 5, 615, 613, 614, false)
def mt_81 : MT := (⟨"DependentReplay$Reader", "begin", "()V"⟩, prog_5_method_2_code, 1, none, 7, 0, 619, 617, 618, false)
def mt_82 : MT := (⟨"DependentReplay$Reader", "readOrder", "()Z"⟩, prog_5_method_4_code, 1, (some .boolean), 7, 4, 623, 621, 622, false)
def mt_83 : MT := (⟨"DependentReplay$Pad", "codeAt", "(I)I"⟩, prog_4_method_2_code, 2, (some .int), 6, 0, 627, 625, 626, false)
def mt_84 : MT := (⟨"DependentReplay$Reader", "readSign", "(I)Z"⟩, prog_5_method_5_code, 2, (some .boolean), 7, 1, 631, 629, 630, false)
def mt_85 : MT := (⟨"DependentReplay$Reader", "readFirstFile", "()Z"⟩, prog_5_method_6_code, 1, (some .boolean), 7, 2, 635, 634, 10, false)
def mt_86 : MT := (⟨"DependentReplay$Reader", "readFile", "()I"⟩, prog_5_method_10_code, 2, (some .int), 7, 1, 639, 638, 11, false)
def mt_87 : MT := (⟨"DependentReplay$Reader", "readSecondFile", "()Z"⟩, prog_5_method_7_code, 1, (some .boolean), 7, 2, 644, 643, 12, false)
def mt_88 : MT := (⟨"DependentReplay$Reader", "readSecondNumber", "()Z"⟩, prog_5_method_9_code, 1, (some .boolean), 7, 3, 648, 647, 13, false)
def mt_89 : MT := (⟨"DependentReplay$Reader", "readNumber", "()I"⟩, prog_5_method_11_code, 3, (some .int), 7, 2, 652, 651, 14, false)
def mt_90 : MT := (⟨"DependentReplay$Reader", "isDigit", "(I)Z"⟩, prog_5_method_12_code, 1, (some .boolean), 7, 0, 655, 654, 0, true)
def mt_91 : MT := (⟨"DependentReplay$Reader", "readFirstNumber", "()Z"⟩, prog_5_method_8_code, 1, (some .boolean), 7, 3, 660, 659, 15, false)
def mt_92 : MT := (⟨"DependentReplay", "carryOut", "()I"⟩, prog_1_method_24_code, 2, (some .int), 0, 7, 664, 662, 663, false)
def mt_93 : MT := (⟨"DependentReplay", "carryOrderOut", "()I"⟩, prog_1_method_30_code, 1, (some .int), 0, 6, 670, 669, 16, false)
def mt_94 : MT := (⟨"DependentReplay", "undo", "()I"⟩, prog_1_method_25_code, 1, (some .int), 0, 5, 675, 673, 674, false)
def mt_95 : MT := (⟨"DependentReplay$History", "takeBack", "(LDependentReplay$State;)I"⟩, prog_2_method_4_code, 2, (some .int), 5, 4, 679, 677, 678, false)
def mt_96 : MT := (⟨"DependentReplay", "save", "(I)I"⟩, prog_1_method_26_code, 2, (some .int), 0, 4, 683, 681, 682, false)
def mt_97 : MT := (⟨"DependentReplay", "isSlot", "(I)Z"⟩, prog_1_method_32_code, 1, (some .boolean), 0, 0, 686, 685, 0, true)
def mt_98 : MT := (⟨"DependentReplay", "restore", "(I)I"⟩, prog_1_method_27_code, 2, (some .int), 0, 5, 691, 689, 690, false)
def mt_99 : MT := (⟨"DependentReplayModel", "<init>", "()V"⟩, prog_11_method_1_code, 1, none, 9, 2, 696, 695, 0, false)
def mt_100 : MT := (⟨"DependentReplayModel", "emptyTree", "()V"⟩, prog_11_method_22_code, 2, none, 9, 1, 701, 700, 17, false)
def mt_101 : MT := (⟨"DependentReplayModel", "setFile", "(IIII)V"⟩, prog_11_method_21_code, 5, none, 9, 0, 705, 704, 18, false)
def mt_102 : MT := (⟨"DependentReplayModel", "make", "(II)I"⟩, prog_11_method_36_code, 4, (some .int), 9, 4, 755, 753, 754, false)
def mt_103 : MT := (⟨"DependentReplayModel", "whyNotWritten", "(III)I"⟩, prog_11_method_35_code, 4, (some .int), 9, 2, 759, 758, 19, false)
def mt_104 : MT := (⟨"DependentReplayModel", "within", "(III)Z"⟩, prog_11_method_4_code, 3, (some .boolean), 9, 0, 762, 761, 0, true)
def mt_105 : MT := (⟨"DependentReplayModel", "isFile", "(I)Z"⟩, prog_11_method_34_code, 1, (some .boolean), 9, 1, 765, 764, 0, true)
def mt_106 : MT := (⟨"DependentReplayModel", "record", "()V"⟩, prog_11_method_5_code, 2, none, 9, 1, 769, 768, 20, false)
def mt_107 : MT := (⟨"DependentReplayModel", "moves", "([II[II)V"⟩, prog_11_method_3_code, 5, none, 9, 0, 772, 771, 0, true)
def mt_108 : MT := (⟨"DependentReplayModel", "written", "(III)I"⟩, prog_11_method_16_code, 5, (some .int), 9, 3, 776, 775, 21, false)
def mt_109 : MT := (⟨"DependentReplayModel", "setPart", "(III)V"⟩, prog_11_method_8_code, 4, none, 9, 0, 780, 779, 22, false)
def mt_110 : MT := (⟨"DependentReplayModel", "latestOf", "(II)I"⟩, prog_11_method_13_code, 5, (some .int), 9, 1, 784, 783, 23, false)
def mt_111 : MT := (⟨"DependentReplayModel", "part", "(II)I"⟩, prog_11_method_7_code, 3, (some .int), 9, 0, 788, 787, 24, false)
def mt_112 : MT := (⟨"DependentReplayModel", "dependsIfAny", "(II)V"⟩, prog_11_method_15_code, 3, none, 9, 2, 792, 791, 25, false)
def mt_113 : MT := (⟨"DependentReplayModel", "depends", "(II)V"⟩, prog_11_method_11_code, 3, none, 9, 1, 796, 795, 26, false)
def mt_114 : MT := (⟨"DependentReplayModel", "hasDirectory", "(I)Z"⟩, prog_11_method_12_code, 2, (some .boolean), 9, 1, 800, 799, 27, false)
def mt_115 : MT := (⟨"DependentReplayModel", "latestIn", "(II)I"⟩, prog_11_method_14_code, 5, (some .int), 9, 2, 804, 803, 28, false)
def mt_116 : MT := (⟨"DependentReplayModel", "write", "(II)I"⟩, prog_11_method_37_code, 4, (some .int), 9, 4, 808, 806, 807, false)
def mt_117 : MT := (⟨"DependentReplayModel", "move", "(II)I"⟩, prog_11_method_38_code, 4, (some .int), 9, 4, 812, 810, 811, false)
def mt_118 : MT := (⟨"DependentReplayModel", "drop", "(I)I"⟩, prog_11_method_39_code, 3, (some .int), 9, 4, 816, 814, 815, false)
def mt_119 : MT := (⟨"DependentReplayModel", "need", "(II)I"⟩, prog_11_method_42_code, 4, (some .int), 9, 4, 820, 818, 819, false)
def mt_120 : MT := (⟨"DependentReplayModel", "whyNotNeeded", "(II)I"⟩, prog_11_method_40_code, 3, (some .int), 9, 2, 824, 823, 29, false)
def mt_121 : MT := (⟨"DependentReplayModel", "isEntry", "(I)Z"⟩, prog_11_method_9_code, 2, (some .boolean), 9, 1, 828, 827, 30, false)
def mt_122 : MT := (⟨"DependentReplayModel", "needed", "(II)I"⟩, prog_11_method_41_code, 3, (some .int), 9, 3, 832, 831, 31, false)
def mt_123 : MT := (⟨"DependentReplayModel", "beginsAnew", "()V"⟩, prog_11_method_33_code, 2, none, 9, 2, 836, 835, 32, false)
def mt_124 : MT := (⟨"DependentReplayModel", "dependencies", "(I)J"⟩, prog_11_method_10_code, 2, (some .long), 9, 1, 840, 839, 33, false)
def mt_125 : MT := (⟨"DependentReplayModel", "bits", "(J)I"⟩, prog_11_method_6_code, 4, (some .int), 9, 0, 843, 842, 0, true)
def mt_126 : MT := (⟨"DependentReplayModel", "lose", "(I)I"⟩, prog_11_method_45_code, 3, (some .int), 9, 5, 847, 845, 846, false)
def mt_127 : MT := (⟨"DependentReplayModel", "whyNotBecome", "(II)I"⟩, prog_11_method_43_code, 3, (some .int), 9, 2, 851, 850, 34, false)
def mt_128 : MT := (⟨"DependentReplayModel", "becomes", "(II)I"⟩, prog_11_method_44_code, 3, (some .int), 9, 4, 855, 854, 35, false)
def mt_129 : MT := (⟨"DependentReplayModel", "lostOnes", "()J"⟩, prog_11_method_17_code, 4, (some .long), 9, 1, 859, 858, 36, false)
def mt_130 : MT := (⟨"DependentReplayModel", "orphansBy", "(J)J"⟩, prog_11_method_19_code, 6, (some .long), 9, 3, 863, 862, 37, false)
def mt_131 : MT := (⟨"DependentReplayModel", "findLeans", "()V"⟩, prog_11_method_18_code, 5, none, 9, 2, 867, 866, 38, false)
def mt_132 : MT := (⟨"DependentReplayModel", "find", "(I)I"⟩, prog_11_method_46_code, 3, (some .int), 9, 5, 871, 869, 870, false)
def mt_133 : MT := (⟨"DependentReplayModel", "beginAnew", "()I"⟩, prog_11_method_47_code, 2, (some .int), 9, 3, 875, 873, 874, false)
def mt_134 : MT := (⟨"DependentReplayModel", "replayedOnes", "()J"⟩, prog_11_method_28_code, 4, (some .long), 9, 1, 879, 878, 39, false)
def mt_135 : MT := (⟨"DependentReplayModel", "round", "()I"⟩, prog_11_method_48_code, 1, (some .int), 9, 6, 883, 881, 882, false)
def mt_136 : MT := (⟨"DependentReplayModel", "makesRound", "()I"⟩, prog_11_method_31_code, 4, (some .int), 9, 5, 887, 886, 40, false)
def mt_137 : MT := (⟨"DependentReplayModel", "readyOnes", "()J"⟩, prog_11_method_30_code, 7, (some .long), 9, 2, 891, 890, 41, false)
def mt_138 : MT := (⟨"DependentReplayModel", "plays", "(I)I"⟩, prog_11_method_27_code, 5, (some .int), 9, 4, 896, 895, 42, false)
def mt_139 : MT := (⟨"DependentReplayModel", "reasonOf", "(I)I"⟩, prog_11_method_26_code, 5, (some .int), 9, 3, 900, 899, 43, false)
def mt_140 : MT := (⟨"DependentReplayModel", "isThere", "(I)Z"⟩, prog_11_method_23_code, 2, (some .boolean), 9, 1, 904, 903, 44, false)
def mt_141 : MT := (⟨"DependentReplayModel", "filePart", "(II)I"⟩, prog_11_method_20_code, 3, (some .int), 9, 0, 908, 907, 45, false)
def mt_142 : MT := (⟨"DependentReplayModel", "isUnder", "(II)Z"⟩, prog_11_method_25_code, 4, (some .boolean), 9, 1, 912, 911, 46, false)
def mt_143 : MT := (⟨"DependentReplayModel", "filesIn", "(I)I"⟩, prog_11_method_24_code, 4, (some .int), 9, 2, 916, 915, 47, false)
def mt_144 : MT := (⟨"DependentReplayModel", "replay", "()I"⟩, prog_11_method_49_code, 1, (some .int), 9, 7, 920, 918, 919, false)
def mt_145 : MT := (⟨"DependentReplayModel", "replays", "()I"⟩, prog_11_method_32_code, 2, (some .int), 9, 6, 924, 923, 48, false)
def mt_146 : MT := (⟨"DependentReplayModel", "ofEntry", "(II)I"⟩, prog_11_method_51_code, 3, (some .int), 9, 4, 928, 926, 927, false)
def mt_147 : MT := (⟨"DependentReplayModel", "leanOn", "(I)I"⟩, prog_11_method_50_code, 4, (some .int), 9, 3, 932, 931, 49, false)
def mt_148 : MT := (⟨"DependentReplayModel", "dependsOn", "(I)J"⟩, prog_11_method_52_code, 2, (some .long), 9, 2, 936, 934, 935, false)
def mt_149 : MT := (⟨"DependentReplayModel", "ofFile", "(II)I"⟩, prog_11_method_55_code, 3, (some .int), 9, 3, 940, 938, 939, false)
def mt_150 : MT := (⟨"DependentReplayModel", "above", "(I)I"⟩, prog_11_method_53_code, 4, (some .int), 9, 1, 944, 943, 50, false)
def mt_151 : MT := (⟨"DependentReplayModel", "allUnder", "(I)I"⟩, prog_11_method_54_code, 4, (some .int), 9, 2, 948, 947, 51, false)
def mt_152 : MT := (⟨"DependentReplayModel", "count", "(I)I"⟩, prog_11_method_58_code, 2, (some .int), 9, 4, 952, 950, 951, false)
def mt_153 : MT := (⟨"DependentReplayModel", "refusedOnes", "()J"⟩, prog_11_method_29_code, 4, (some .long), 9, 1, 956, 955, 52, false)
def mt_154 : MT := (⟨"DependentReplayModel", "filesThere", "()I"⟩, prog_11_method_56_code, 3, (some .int), 9, 1, 960, 959, 53, false)
def mt_155 : MT := (⟨"DependentReplayModel", "widest", "()I"⟩, prog_11_method_57_code, 5, (some .int), 9, 1, 964, 963, 54, false)
def mt_156 : MT := (⟨"DependentReplayModel", "set", "(I)J"⟩, prog_11_method_59_code, 2, (some .long), 9, 4, 968, 966, 967, false)
def mt_157 : MT := (⟨"DependentReplayModel", "depth", "(I)I"⟩, prog_11_method_60_code, 6, (some .int), 9, 4, 973, 971, 972, false)
def mt_158 : MT := (⟨"DependentReplayModel", "wants", "(I)J"⟩, prog_11_method_61_code, 2, (some .long), 9, 3, 977, 975, 976, false)
def mt_159 : MT := (⟨"DependentReplayModel", "worst", "(I)I"⟩, prog_11_method_62_code, 8, (some .int), 9, 4, 981, 979, 980, false)
def mt_160 : MT := (⟨"DependentReplayModel", "unlike", "()I"⟩, prog_11_method_63_code, 3, (some .int), 9, 7, 985, 983, 984, false)
def mt_161 : MT := (⟨"DependentReplayModel", "put", "(J)I"⟩, prog_11_method_64_code, 8, (some .int), 9, 1, 989, 987, 988, false)
def mt_162 : MT := (⟨"DependentReplayModel", "wipe", "()I"⟩, prog_11_method_65_code, 2, (some .int), 9, 0, 994, 992, 993, false)
def mt_163 : MT := (⟨"DependentReplayModel", "fault", "()I"⟩, prog_11_method_72_code, 1, (some .int), 9, 5, 998, 996, 997, false)
def mt_164 : MT := (⟨"DependentReplayModel", "findFault", "()I"⟩, prog_11_method_71_code, 1, (some .int), 9, 4, 1002, 1001, 55, false)
def mt_165 : MT := (⟨"DependentReplayModel", "readsOrder", "()Z"⟩, prog_11_method_70_code, 1, (some .boolean), 9, 3, 1006, 1005, 56, false)
def mt_166 : MT := (⟨"DependentReplayModel", "character", "(I)I"⟩, prog_11_method_66_code, 2, (some .int), 9, 0, 1010, 1009, 57, false)
def mt_167 : MT := (⟨"DependentReplayModel", "takeFile", "()I"⟩, prog_11_method_68_code, 2, (some .int), 9, 2, 1014, 1013, 58, false)
def mt_168 : MT := (⟨"DependentReplayModel", "takes", "(I)Z"⟩, prog_11_method_67_code, 3, (some .boolean), 9, 1, 1018, 1017, 59, false)
def mt_169 : MT := (⟨"DependentReplayModel", "takeNumber", "()I"⟩, prog_11_method_69_code, 3, (some .int), 9, 1, 1022, 1021, 60, false)
def mt_170 : MT := (⟨"DependentReplayModel", "carryOut", "()I"⟩, prog_11_method_75_code, 3, (some .int), 9, 7, 1026, 1024, 1025, false)
def mt_171 : MT := (⟨"DependentReplayModel", "whyNotDone", "()I"⟩, prog_11_method_73_code, 1, (some .int), 9, 3, 1030, 1029, 61, false)
def mt_172 : MT := (⟨"DependentReplayModel", "does", "()V"⟩, prog_11_method_74_code, 1, none, 9, 6, 1034, 1033, 62, false)
def mt_173 : MT := (⟨"DependentReplayModel", "undo", "()I"⟩, prog_11_method_76_code, 1, (some .int), 9, 1, 1038, 1036, 1037, false)
def mt_174 : MT := (⟨"DependentReplayModel", "save", "(I)I"⟩, prog_11_method_77_code, 2, (some .int), 9, 1, 1042, 1040, 1041, false)
def mt_175 : MT := (⟨"DependentReplayModel", "restore", "(I)I"⟩, prog_11_method_78_code, 2, (some .int), 9, 2, 1046, 1044, 1045, false)
def mt_176 : MT := (⟨"DependentReplayLaw", "law", "([I)Z"⟩, code, 4, (some .boolean), 13, 8, 0, 0, 0, true)
def mtab : List MT := [mt_0, mt_1, mt_2, mt_3, mt_4, mt_5, mt_6, mt_7, mt_8, mt_9, mt_10, mt_11, mt_12, mt_13, mt_14, mt_15, mt_16, mt_17, mt_18, mt_19, mt_20, mt_21, mt_22, mt_23, mt_24, mt_25, mt_26, mt_27, mt_28, mt_29, mt_30, mt_31, mt_32, mt_33, mt_34, mt_35, mt_36, mt_37, mt_38, mt_39, mt_40, mt_41, mt_42, mt_43, mt_44, mt_45, mt_46, mt_47, mt_48, mt_49, mt_50, mt_51, mt_52, mt_53, mt_54, mt_55, mt_56, mt_57, mt_58, mt_59, mt_60, mt_61, mt_62, mt_63, mt_64, mt_65, mt_66, mt_67, mt_68, mt_69, mt_70, mt_71, mt_72, mt_73, mt_74, mt_75, mt_76, mt_77, mt_78, mt_79, mt_80, mt_81, mt_82, mt_83, mt_84, mt_85, mt_86, mt_87, mt_88, mt_89, mt_90, mt_91, mt_92, mt_93, mt_94, mt_95, mt_96, mt_97, mt_98, mt_99, mt_100, mt_101, mt_102, mt_103, mt_104, mt_105, mt_106, mt_107, mt_108, mt_109, mt_110, mt_111, mt_112, mt_113, mt_114, mt_115, mt_116, mt_117, mt_118, mt_119, mt_120, mt_121, mt_122, mt_123, mt_124, mt_125, mt_126, mt_127, mt_128, mt_129, mt_130, mt_131, mt_132, mt_133, mt_134, mt_135, mt_136, mt_137, mt_138, mt_139, mt_140, mt_141, mt_142, mt_143, mt_144, mt_145, mt_146, mt_147, mt_148, mt_149, mt_150, mt_151, mt_152, mt_153, mt_154, mt_155, mt_156, mt_157, mt_158, mt_159, mt_160, mt_161, mt_162, mt_163, mt_164, mt_165, mt_166, mt_167, mt_168, mt_169, mt_170, mt_171, mt_172, mt_173, mt_174, mt_175, mt_176]
def mt (q : Nat) : MT := mtab.getD q mt_0
def yN (q : Nat) : MethodName := (mt q).1
def mB (q : Nat) : ByteArray := (mt q).2.1
def mL (q : Nat) : Nat := (mt q).2.2.1
def mRt (q : Nat) : Option FieldType := (mt q).2.2.2.1
def ow (q : Nat) : Nat := (mt q).2.2.2.2.1
def dp (q : Nat) : Nat := (mt q).2.2.2.2.2.1
def wpM (q : Nat) : Nat := (mt q).2.2.2.2.2.2.1
def ipM (q : Nat) : Nat := (mt q).2.2.2.2.2.2.2.1
def spM (q : Nat) : Nat := (mt q).2.2.2.2.2.2.2.2.1
def stM (q : Nat) : Bool := (mt q).2.2.2.2.2.2.2.2.2
def iniM : List Nat := [0, 1, 2, 3, 4, 8, 9, 10, 11, 99]
/-- a constructor -/
def isI (q : Nat) : Bool := iniM.contains q
def nM : Nat := 177
def calT : List (Nat × Nat × Nat × Nat × Nat) := [(0, 9, 1, 5, 88), (0, 18, 8, 4, 211), (0, 31, 9, 5, 233), (0, 38, 10, 4, 248), (0, 47, 3, 4, 272), (0, 54, 4, 4, 274), (0, 59, 11, 5, 276), (0, 60, 13, 0, 316), (0, 64, 18, 0, 341), (0, 68, 28, 0, 379), (0, 72, 35, 0, 406), (0, 76, 39, 0, 427), (0, 79, 44, 0, 449), (0, 89, 37, 2, 457), (0, 95, 7, 0, 458), (0, 102, 47, 0, 463), (0, 106, 58, 0, 512), (0, 109, 36, 0, 520), (0, 128, 27, 2, 521), (0, 132, 41, 0, 522), (0, 146, 60, 0, 523), (0, 154, 19, 2, 536), (0, 157, 52, 0, 537), (0, 164, 54, 0, 538), (0, 167, 63, 0, 539), (0, 170, 64, 0, 543), (0, 183, 66, 0, 551), (0, 195, 48, 0, 559), (0, 201, 69, 0, 565), (0, 207, 24, 2, 378), (0, 211, 42, 0, 577), (0, 215, 5, 0, 582), (0, 216, 50, 0, 583), (0, 219, 73, 0, 584), (0, 223, 75, 0, 592), (0, 226, 78, 0, 604), (0, 228, 80, 0, 612), (0, 231, 81, 0, 665), (0, 234, 82, 0, 666), (0, 238, 93, 0, 667), (0, 241, 84, 0, 671), (0, 244, 95, 0, 676), (0, 248, 97, 2, 684), (0, 254, 14, 0, 687), (0, 261, 29, 0, 383), (1, 11, 2, 5, 94), (1, 20, 3, 4, 139), (1, 25, 15, 0, 324), (1, 29, 16, 0, 331), (1, 32, 19, 3, 345), (1, 36, 20, 3, 348), (1, 39, 21, 0, 351), (1, 43, 36, 0, 410), (1, 50, 24, 3, 414), (1, 54, 26, 0, 415), (1, 58, 7, 0, 416), (1, 61, 37, 2, 417), (1, 67, 40, 0, 431), (1, 75, 27, 3, 435), (1, 79, 41, 0, 436), (2, 42, 22, 0, 355), (2, 46, 26, 0, 371), (2, 50, 23, 0, 359), (2, 54, 20, 3, 366), (2, 58, 25, 0, 367), (2, 61, 24, 3, 363), (2, 64, 27, 3, 375), (2, 68, 42, 0, 440), (3, 20, 4, 4, 145), (3, 25, 7, 0, 165), (3, 42, 6, 2, 169), (3, 48, 5, 0, 170), (3, 55, 17, 0, 336), (3, 67, 27, 3, 471), (3, 77, 24, 3, 473), (3, 81, 48, 0, 467), (3, 85, 49, 0, 474), (3, 98, 50, 0, 478), (3, 102, 37, 2, 504), (3, 108, 56, 2, 505), (4, 18, 5, 0, 149), (4, 21, 6, 2, 153), (4, 33, 52, 0, 486), (4, 37, 51, 0, 482), (4, 41, 19, 3, 495), (4, 44, 55, 0, 500), (4, 48, 20, 3, 490), (4, 51, 53, 0, 491), (4, 55, 54, 0, 496), (5, 17, 1, 5, 217), (5, 22, 14, 0, 320), (5, 29, 30, 2, 387), (6, 19, 76, 2, 596), (7, 19, 81, 0, 616), (7, 22, 82, 0, 620), (7, 26, 84, 0, 628), (7, 35, 83, 0, 624), (7, 42, 85, 0, 632), (7, 45, 87, 0, 641), (7, 48, 88, 0, 645), (7, 51, 91, 0, 657), (7, 54, 86, 0, 636), (7, 64, 89, 0, 649), (7, 67, 19, 3, 640), (7, 70, 90, 2, 653), (7, 73, 56, 2, 656), (8, 9, 1, 5, 281), (9, 38, 100, 0, 698), (9, 45, 107, 2, 770), (9, 49, 104, 2, 760), (9, 53, 111, 0, 785), (9, 57, 109, 0, 777), (9, 61, 114, 0, 797), (9, 65, 113, 0, 793), (9, 69, 110, 0, 781), (9, 72, 112, 0, 789), (9, 75, 115, 0, 801), (9, 78, 124, 0, 837), (9, 82, 131, 0, 864), (9, 85, 101, 0, 702), (9, 89, 141, 0, 905), (9, 92, 140, 0, 901), (9, 95, 142, 0, 909), (9, 99, 143, 0, 913), (9, 103, 139, 0, 897), (9, 106, 134, 0, 876), (9, 112, 137, 0, 888), (9, 115, 138, 0, 893), (9, 118, 125, 2, 841), (9, 122, 136, 0, 884), (9, 126, 105, 2, 763), (9, 129, 103, 0, 756), (9, 133, 106, 0, 766), (9, 136, 108, 0, 773), (9, 139, 121, 0, 825), (9, 142, 123, 0, 833), (9, 145, 120, 0, 821), (9, 148, 122, 0, 829), (9, 151, 129, 0, 856), (9, 154, 130, 0, 860), (9, 158, 127, 0, 848), (9, 161, 128, 0, 852), (9, 164, 145, 0, 921), (9, 167, 147, 0, 929), (9, 170, 150, 0, 941), (9, 173, 151, 0, 945), (9, 176, 153, 0, 953), (9, 179, 154, 0, 957), (9, 182, 155, 0, 961), (9, 195, 166, 0, 1007), (9, 201, 167, 0, 1011), (9, 207, 168, 0, 1015), (9, 213, 169, 0, 1019), (9, 216, 165, 0, 1003), (9, 220, 164, 0, 999), (9, 223, 171, 0, 1027), (9, 226, 172, 0, 1031), (13, 9, 0, 4, 80), (13, 12, 99, 4, 694), (13, 13, 12, 0, 312), (13, 17, 102, 0, 752), (13, 18, 31, 0, 390), (13, 21, 116, 0, 805), (13, 22, 32, 0, 394), (13, 25, 117, 0, 809), (13, 26, 33, 0, 398), (13, 30, 118, 0, 813), (13, 31, 34, 0, 402), (13, 34, 119, 0, 817), (13, 35, 38, 0, 423), (13, 38, 126, 0, 844), (13, 39, 43, 0, 445), (13, 42, 132, 0, 868), (13, 43, 45, 0, 453), (13, 47, 133, 0, 872), (13, 48, 46, 0, 459), (13, 51, 135, 0, 880), (13, 52, 57, 0, 508), (13, 55, 144, 0, 917), (13, 56, 59, 0, 516), (13, 59, 146, 0, 925), (13, 60, 61, 0, 527), (13, 64, 148, 0, 933), (13, 65, 62, 0, 532), (13, 68, 149, 0, 937), (13, 69, 65, 0, 547), (13, 72, 152, 0, 949), (13, 73, 67, 0, 555), (13, 76, 156, 0, 965), (13, 77, 68, 0, 561), (13, 80, 157, 0, 970), (13, 81, 70, 0, 569), (13, 84, 158, 0, 974), (13, 85, 71, 0, 573), (13, 88, 159, 0, 978), (13, 89, 72, 0, 578), (13, 92, 160, 0, 982), (13, 95, 74, 0, 588), (13, 99, 161, 0, 986), (13, 100, 77, 0, 600), (13, 103, 162, 0, 991), (13, 104, 79, 0, 608), (13, 107, 163, 0, 995), (13, 108, 92, 0, 661), (13, 111, 170, 0, 1023), (13, 112, 94, 0, 672), (13, 115, 173, 0, 1035), (13, 116, 96, 0, 680), (13, 119, 174, 0, 1039), (13, 120, 98, 0, 688), (13, 123, 175, 0, 1043)]
def objT : List (Nat × Nat × Nat) := [(0, 1, 83), (1, 3, 91), (2, 3, 97), (3, 3, 142), (4, 3, 148), (5, 3, 214), (6, 3, 236), (7, 3, 251), (8, 1, 279), (9, 1, 697)]
def cpyT : List (Nat × Nat × Nat) := [(2, 36, 328), (3, 49, 335), (4, 27, 340)]
def fldT : List (Nat × Nat × Nat × Nat × Nat) := [(0, 10, 0, 0, 290), (0, 19, 0, 1, 291), (0, 25, 0, 2, 292), (0, 32, 0, 3, 293), (0, 41, 0, 4, 294), (0, 48, 0, 5, 295), (0, 55, 0, 6, 296), (0, 82, 1, 1, 203), (0, 85, 3, 0, 172), (0, 98, 1, 0, 201), (0, 115, 2, 2, 107), (0, 119, 2, 3, 110), (0, 122, 2, 4, 113), (0, 125, 2, 1, 104), (0, 136, 3, 4, 180), (0, 139, 3, 5, 182), (0, 142, 2, 5, 117), (0, 151, 3, 6, 184), (0, 158, 4, 0, 157), (0, 161, 4, 1, 159), (0, 173, 2, 0, 100), (0, 177, 3, 1, 174), (0, 180, 3, 2, 176), (0, 186, 3, 3, 178), (0, 189, 6, 1, 240), (0, 192, 5, 2, 221), (0, 204, 2, 6, 119), (0, 251, 8, 0, 283), (0, 257, 8, 1, 284), (0, 264, 7, 2, 255), (0, 267, 7, 3, 257), (0, 270, 7, 4, 259), (1, 12, 1, 0, 200), (1, 21, 1, 1, 202), (1, 46, 2, 5, 116), (1, 71, 2, 1, 103), (2, 9, 2, 2, 105), (2, 15, 2, 3, 108), (2, 18, 2, 4, 111), (2, 21, 2, 5, 114), (2, 25, 2, 6, 118), (2, 28, 2, 0, 98), (2, 32, 2, 1, 101), (3, 9, 3, 4, 179), (3, 15, 3, 5, 181), (3, 21, 3, 6, 183), (3, 28, 3, 0, 171), (3, 32, 3, 1, 173), (3, 35, 3, 2, 175), (3, 39, 3, 3, 177), (3, 59, 2, 1, 102), (3, 64, 2, 0, 99), (3, 71, 2, 5, 115), (3, 89, 2, 2, 106), (3, 92, 2, 3, 109), (3, 95, 2, 4, 112), (4, 9, 4, 0, 156), (4, 15, 4, 1, 158), (5, 13, 5, 0, 218), (5, 18, 5, 1, 219), (5, 26, 5, 2, 220), (6, 9, 6, 0, 237), (6, 15, 6, 1, 238), (7, 9, 7, 0, 252), (7, 15, 7, 1, 253), (7, 30, 6, 1, 239), (7, 39, 7, 2, 254), (7, 58, 7, 3, 256), (7, 61, 7, 4, 258), (8, 10, 8, 0, 282), (9, 7, 9, 0, 706), (9, 13, 9, 1, 707), (9, 16, 9, 2, 708), (9, 19, 9, 4, 710), (9, 22, 9, 5, 711), (9, 25, 9, 6, 712), (9, 28, 9, 8, 714), (9, 32, 9, 9, 715), (9, 35, 9, 10, 716), (9, 41, 9, 3, 709), (9, 185, 9, 7, 713), (9, 192, 9, 11, 717), (9, 198, 9, 12, 718), (9, 204, 9, 13, 719), (9, 210, 9, 14, 720)]
def cstT : List (Nat × Nat × Int64 × Nat) := [(0, 149, -1, 531), (0, 199, -2, 560), (2, 72, -1, 444), (3, 75, -1, 472), (6, 23, 255, 599), (9, 110, -1, 892), (9, 188, -2, 969), (9, 190, 255, 990), (12, 314, 6148914691236517205, 420), (12, 316, 3689348814741910323, 421), (12, 318, 1085102592571150095, 422), (13, 93, 4294967295, 1047)]
def nclT : List (Nat × Nat × Nat × Nat) := [(0, 7, 1, 86), (0, 16, 5, 209), (0, 23, 8, 229), (0, 29, 6, 231), (0, 36, 7, 246), (0, 45, 3, 271), (0, 52, 4, 273), (1, 9, 2, 92), (1, 18, 3, 137), (3, 18, 4, 143), (5, 11, 1, 215), (8, 7, 1, 280), (13, 7, 0, 78), (13, 10, 9, 692)]
def iniT : List Nat := [64, 65, 66, 67, 68, 70, 71, 72, 73, 74, 69, 76, 77, 63]
def insT : List Nat := [79, 87, 93, 138, 144, 210, 232, 247, 275, 693]
def layT : List (List Nat) := [[297, 299, 301, 303, 305, 307, 309], [204, 206], [120, 122, 124, 126, 128, 130, 132], [185, 187, 189, 191, 193, 195, 197], [160, 162], [222, 224, 226], [241, 243], [260, 262, 264, 266, 268], [285, 287], [721, 723, 725, 727, 729, 731, 733, 735, 737, 739, 741, 743, 745, 747, 749]]
def arcI : Nat := 135
def arcJ : Nat := 136
def AON : Nat → String := fun k => match k with | 3 => "DependentReplay$State" | _ => "DependentReplay$Slot"
def aovT : List Nat := [216, 230]
def sysW : Nat × Nat × Nat := (75, 329, 330)
def objW : Nat × Nat := (84, 85)
end
section
/-! the small machine: the class and the reference over a memory of rows -/
/-- ints, longs, references by address and place; kind (tag, length); next address; slots used -/
abbrev SM : Type := (Nat → Nat → Int32) × (Nat → Nat → Int64) × (Nat → Nat → Option Nat) × (Nat → Nat × Nat) × Nat × Nat
def mI (M : SM) : Nat → Nat → Int32 := M.1
def mJ (M : SM) : Nat → Nat → Int64 := M.2.1
def mP (M : SM) : Nat → Nat → Option Nat := M.2.2.1
def mK (M : SM) : Nat → Nat × Nat := M.2.2.2.1
def mS (M : SM) : Nat := M.2.2.2.2.1
def mU (M : SM) : Nat := M.2.2.2.2.2
def sI (M : SM) (a : Nat) (f : Nat → Int32) : SM := (fun b => if b = a then f else mI M b, M.2)
def sJ (M : SM) (a : Nat) (f : Nat → Int64) : SM := (M.1, fun b => if b = a then f else mJ M b, M.2.2)
def sP (M : SM) (a : Nat) (f : Nat → Option Nat) : SM := (M.1, M.2.1, fun b => if b = a then f else mP M b, M.2.2.2)
/-- a new cell of that kind, of so many slots -/
def nw (M : SM) (kd : Nat × Nat) (u : Nat) : SM := (fun b => if b = mS M then fun _ => 0 else mI M b, fun b => if b = mS M then fun _ => 0 else mJ M b, fun b => if b = mS M then fun _ => none else mP M b, fun b => if b = mS M then kd else mK M b, mS M + 1, mU M + u)
/-- what a field holds -/
def fv (M : SM) (a ci k : Nat) : Value := match fT ci k with
  | 0 => .int (mI M a k)
  | 1 => .long (mJ M a k)
  | 2 => va_rf (mP M a k)
  | _ => .int (mI M a k)
def fld (own idx : Nat) : Option (Nat × Nat) := (fldT.find? fun e => e.1 == own && e.2.1 == idx).map fun e => (e.2.2.1, e.2.2.2.1)
def cal (own idx : Nat) : Option (Nat × Nat) := (calT.find? fun e => e.1 == own && e.2.1 == idx).map fun e => (e.2.2.1, e.2.2.2.1)
def cst (own idx : Nat) : Option Int64 := (cstT.find? fun e => e.1 == own && e.2.1 == idx).map fun e => e.2.2.1
def ncl (own idx : Nat) : Option Nat := (nclT.find? fun e => e.1 == own && e.2.1 == idx).map fun e => e.2.2.1
def isObj (own idx : Nat) : Bool := objT.any fun e => e.1 == own && e.2.1 == idx
def isCpy (own idx : Nat) : Bool := cpyT.any fun e => e.1 == own && e.2.1 == idx
def nPar (q : Nat) : Nat := match parseMethodDescriptor (yN q).desc with
  | some d => d.parameters.length
  | none => 0
def catS (st : List Value) : Nat := (st.map fun v => v.category).sum
/-- the locals with which a method begins -/
def entA : List Value → List (Option Value)
  | [] => []
  | v :: vs => if v.category = 2 then some v :: none :: entA vs else some v :: entA vs
def ent (q : Nat) (args : List Value) : List (Option Value) := entA args ++ List.replicate (mL q - (entA args).length) none
abbrev Nx : Type := Nat × List (Option Value) × List Value × SM
abbrev Res : Type := Nx ⊕ ((Option Value × SM) ⊕ (Nat × List Value × SM × Nat × List (Option Value) × List Value))
abbrev Out : Type := Option (Option Value × SM)
/-- a place of a row -/
abbrev inR (i : Int32) (n : Nat) : Prop := ¬ i < 0 ∧ i.toNatClampNeg < n
def nx (pc : Nat) (ls : List (Option Value)) (st : List Value) (M : SM) : Option Nx := some (pc, ls, st, M)
/-- an int may be returned as it is -/
def retOK (r : Option FieldType) (v : Int32) : Bool := match r with
  | some .int => true
  | some .boolean => v == 0 || v == 1
  | _ => false
/-- the classes of the arrays of references, by tag -/
def aoC (tag : Nat) : Nat := if tag = 3 then 1 else 8
/-- what can be said of a call ahead of the run: its arguments fit the callee's locals, the rest is small, the depth falls -/
def callOK (q q2 : Nat) (as rest : List Value) : Bool := Nat.ble (entA as).length (mL q2) && Nat.ble (catS rest) 8 && Nat.blt (dp q2) (dp q)
def doV (q pc : Nat) (ls : List (Option Value)) (st : List Value) (M : SM) (q2 kd : Nat) : Option Res :=
  match (st.take (nPar q2)).reverse, st.drop (nPar q2) with
  | as, .ref a :: r => if callOK q q2 (.ref a :: as) r && (kd == 0 || kd == 1) && as.length == nPar q2 then (if mK M a = (10 + ow q2, 0) then some (.inr (.inr (q2, .ref a :: as, M, pc + 3, ls, r))) else none) else none
  | _, _ => none
def doI (q pc : Nat) (ls : List (Option Value)) (st : List Value) (M : SM) (q2 kd : Nat) : Option Res :=
  match (st.take (nPar q2)).reverse, st.drop (nPar q2) with
  | as, .ref a :: r => if callOK q q2 (.ref a :: as) r && (kd == 4 || kd == 5) && as.length == nPar q2 then some (.inr (.inr (q2, .ref a :: as, M, pc + 3, ls, r))) else none
  | _, _ => none
def doS (q pc : Nat) (ls : List (Option Value)) (st : List Value) (M : SM) (q2 kd : Nat) : Option Res :=
  match (st.take (nPar q2)).reverse, st.drop (nPar q2) with
  | as, r => if callOK q q2 as r && (kd == 2 || kd == 3) && as.length == nPar q2 then some (.inr (.inr (q2, as, M, pc + 3, ls, r))) else none
/-- System.arraycopy, rows of ints and of longs -/
def doC (q pc : Nat) (ls : List (Option Value)) (st : List Value) (M : SM) : Option Nx :=
  match st with
  | .int n :: .int dp0 :: .ref a :: .int sp0 :: .ref b :: r =>
    if Nat.ble (catS r) 8 && Nat.ble 1 (dp q) then
      (if (¬ sp0 < 0 ∧ ¬ dp0 < 0 ∧ ¬ n < 0) ∧ sp0.toNatClampNeg + n.toNatClampNeg ≤ (mK M b).2 ∧ dp0.toNatClampNeg + n.toNatClampNeg ≤ (mK M a).2 then
        (if (mK M a).1 = 1 ∧ (mK M b).1 = 1 then nx (pc + 3) ls r (sI M a (va_cpy (mI M b) (mI M a) sp0.toNatClampNeg dp0.toNatClampNeg n.toNatClampNeg))
         else if (mK M a).1 = 2 ∧ (mK M b).1 = 2 then nx (pc + 3) ls r (sJ M a (va_cpy (mJ M b) (mJ M a) sp0.toNatClampNeg dp0.toNatClampNeg n.toNatClampNeg)) else none)
       else none)
    else none
  | _ => none
/-- a jump -/
def nxj (pc : Nat) (o : Int) (ls : List (Option Value)) (st : List Value) (M : SM) : Option Nx := if 0 ≤ (pc : Int) + o then nx ((pc : Int) + o).toNat ls st M else none
/-- an instruction's length -/
def lenOK (i : Instr) (len : Nat) : Bool := match i with
  | .iload _ | .lload _ | .aload _ | .istore _ | .lstore _ | .astore _ | .bipush _ | .newarray _ => len == 2
  | .iinc _ _ | .sipush _ | .ldc2_w _ | .goto _ | .ifCond _ _ | .if_icmp _ _ | .getfield _ | .putfield _ | .new _ | .anewarray _ | .invokevirtual _ | .invokestatic _ | .invokespecial _ => len == 3
  | .tableswitch _ _ _ _ => true
  | _ => len == 1
/-- a final field is written in its own class's constructor -/
def finOK (ci k q : Nat) : Bool := !(TT ci k).2.2.2 || (isI q && ci == ow q)
def stp (i : Instr) (q pc : Nat) (ls : List (Option Value)) (st : List Value) (M : SM) : Option Nx := match i with
  | .iload_n k => match ls[(k : Nat)]? with | some (some (.int x)) => nx (pc + 1) ls (.int x :: st) M | _ => none
  | .iload k => match ls[k]? with | some (some (.int x)) => nx (pc + 2) ls (.int x :: st) M | _ => none
  | .aload_n k => match ls[(k : Nat)]? with | some (some (.ref x)) => nx (pc + 1) ls (.ref x :: st) M | _ => none
  | .aload k => match ls[k]? with | some (some (.ref x)) => nx (pc + 2) ls (.ref x :: st) M | _ => none
  | .lload_n k => match ls[(k : Nat)]?, ls[(k : Nat) + 1]? with | some (some (.long x)), some none => nx (pc + 1) ls (.long x :: st) M | _, _ => none
  | .lload k => match ls[k]?, ls[k + 1]? with | some (some (.long x)), some none => nx (pc + 2) ls (.long x :: st) M | _, _ => none
  | .istore_n k => match st with | .int x :: r => if (k : Nat) < ls.length then nx (pc + 1) (ls.set (k : Nat) (some (.int x))) r M else none | _ => none
  | .istore k => match st with | .int x :: r => if k < ls.length then nx (pc + 2) (ls.set k (some (.int x))) r M else none | _ => none
  | .astore_n k => match st with | .ref x :: r => if (k : Nat) < ls.length then nx (pc + 1) (ls.set (k : Nat) (some (.ref x))) r M else none | _ => none
  | .astore k => match st with | .ref x :: r => if k < ls.length then nx (pc + 2) (ls.set k (some (.ref x))) r M else none | _ => none
  | .lstore_n k => match st with | .long x :: r => if (k : Nat) + 1 < ls.length then nx (pc + 1) ((ls.set (k : Nat) (some (.long x))).set ((k : Nat) + 1) none) r M else none | _ => none
  | .lstore k => match st with | .long x :: r => if k + 1 < ls.length then nx (pc + 2) ((ls.set k (some (.long x))).set (k + 1) none) r M else none | _ => none
  | .iinc k n => match ls[k]? with | some (some (.int x)) => nx (pc + 3) (ls.set k (some (.int (x + Int32.ofInt n)))) st M | _ => none
  | .iconst n => nx (pc + 1) ls (.int (Int32.ofInt n) :: st) M
  | .bipush n => nx (pc + 2) ls (.int (Int8.ofInt n).toInt32 :: st) M
  | .sipush n => nx (pc + 3) ls (.int (Int16.ofInt n).toInt32 :: st) M
  | .lconst n => nx (pc + 1) ls (.long (Int64.ofNat (n : Nat)) :: st) M
  | .ldc2_w i => match cst (ow q) i with | some x => nx (pc + 3) ls (.long x :: st) M | none => none
  | .iadd => match st with | .int y :: .int x :: r => nx (pc + 1) ls (.int (x + y) :: r) M | _ => none
  | .isub => match st with | .int y :: .int x :: r => nx (pc + 1) ls (.int (x - y) :: r) M | _ => none
  | .imul => match st with | .int y :: .int x :: r => nx (pc + 1) ls (.int (x * y) :: r) M | _ => none
  | .iand => match st with | .int y :: .int x :: r => nx (pc + 1) ls (.int (x &&& y) :: r) M | _ => none
  | .ior => match st with | .int y :: .int x :: r => nx (pc + 1) ls (.int (x ||| y) :: r) M | _ => none
  | .ishl => match st with | .int y :: .int x :: r => nx (pc + 1) ls (.int (x <<< (y &&& 31)) :: r) M | _ => none
  | .idiv => match st with | .int y :: .int x :: r => if y = 0 then none else nx (pc + 1) ls (.int (x / y) :: r) M | _ => none
  | .ladd => match st with | .long y :: .long x :: r => nx (pc + 1) ls (.long (x + y) :: r) M | _ => none
  | .lsub => match st with | .long y :: .long x :: r => nx (pc + 1) ls (.long (x - y) :: r) M | _ => none
  | .land => match st with | .long y :: .long x :: r => nx (pc + 1) ls (.long (x &&& y) :: r) M | _ => none
  | .lor => match st with | .long y :: .long x :: r => nx (pc + 1) ls (.long (x ||| y) :: r) M | _ => none
  | .lxor => match st with | .long y :: .long x :: r => nx (pc + 1) ls (.long (x ^^^ y) :: r) M | _ => none
  | .lshl => match st with | .int y :: .long x :: r => nx (pc + 1) ls (.long (x <<< (y.toInt64 &&& 63)) :: r) M | _ => none
  | .lshr => match st with | .int y :: .long x :: r => nx (pc + 1) ls (.long (x >>> (y.toInt64 &&& 63)) :: r) M | _ => none
  | .lushr => match st with | .int y :: .long x :: r => nx (pc + 1) ls (.long ((x.toUInt64 >>> (y.toInt64.toUInt64 &&& Int64.toUInt64 63)).toInt64) :: r) M | _ => none
  | .lcmp => match st with | .long y :: .long x :: r => nx (pc + 1) ls (.int (lg_cmp x y) :: r) M | _ => none
  | .i2l => match st with | .int x :: r => nx (pc + 1) ls (.long x.toInt64 :: r) M | _ => none
  | .l2i => match st with | .long x :: r => nx (pc + 1) ls (.int x.toInt32 :: r) M | _ => none
  | .dup => match st with | v :: r => if v.category = 1 then nx (pc + 1) ls (v :: v :: r) M else none | _ => none
  | .pop => match st with | v :: r => if v.category = 1 then nx (pc + 1) ls r M else none | _ => none
  | .dup2 => match st with | v :: w :: r => if v.category = 1 ∧ w.category = 1 then nx (pc + 1) ls (v :: w :: v :: w :: r) M else none | _ => none
  | .goto o => nxj pc o ls st M
  | .ifCond c o => match st with | .int x :: r => (match c with | .eq => if 0 ≤ (pc : Int) + o then (if x = 0 then nx ((pc : Int) + o).toNat ls r M else nx (pc + 3) ls r M) else none | .ne => if 0 ≤ (pc : Int) + o then (if ¬ x = 0 then nx ((pc : Int) + o).toNat ls r M else nx (pc + 3) ls r M) else none | .lt => if 0 ≤ (pc : Int) + o then (if x < 0 then nx ((pc : Int) + o).toNat ls r M else nx (pc + 3) ls r M) else none | .ge => if 0 ≤ (pc : Int) + o then (if 0 ≤ x then nx ((pc : Int) + o).toNat ls r M else nx (pc + 3) ls r M) else none | .gt => if 0 ≤ (pc : Int) + o then (if 0 < x then nx ((pc : Int) + o).toNat ls r M else nx (pc + 3) ls r M) else none | .le => if 0 ≤ (pc : Int) + o then (if x ≤ 0 then nx ((pc : Int) + o).toNat ls r M else nx (pc + 3) ls r M) else none) | _ => none
  | .if_icmp c o => match st with | .int y :: .int x :: r => (match c with | .eq => if 0 ≤ (pc : Int) + o then (if x = y then nx ((pc : Int) + o).toNat ls r M else nx (pc + 3) ls r M) else none | .ne => if 0 ≤ (pc : Int) + o then (if ¬ x = y then nx ((pc : Int) + o).toNat ls r M else nx (pc + 3) ls r M) else none | .lt => if 0 ≤ (pc : Int) + o then (if x < y then nx ((pc : Int) + o).toNat ls r M else nx (pc + 3) ls r M) else none | .ge => if 0 ≤ (pc : Int) + o then (if y ≤ x then nx ((pc : Int) + o).toNat ls r M else nx (pc + 3) ls r M) else none | .gt => if 0 ≤ (pc : Int) + o then (if y < x then nx ((pc : Int) + o).toNat ls r M else nx (pc + 3) ls r M) else none | .le => if 0 ≤ (pc : Int) + o then (if x ≤ y then nx ((pc : Int) + o).toNat ls r M else nx (pc + 3) ls r M) else none) | _ => none
  | .tableswitch d lo hi offs => match st with | .int x :: r => if x.toInt < lo ∨ hi < x.toInt then nxj pc d ls r M else (match offs[(x.toInt - lo).toNat]? with | some o => nxj pc o ls r M | none => none) | _ => none
  | .getfield i => match fld (ow q) i, st with | some (ci, k), .ref a :: r => if mK M a = (10 + ci, 0) then nx (pc + 3) ls (fv M a ci k :: r) M else none | _, _ => none
  | .putfield i => match fld (ow q) i, st with
    | some (ci, k), .int x :: .ref a :: r => if mK M a = (10 + ci, 0) ∧ finOK ci k q = true then (if fT ci k = 0 ∨ (fT ci k = 3 ∧ (x = 0 ∨ x = 1)) then nx (pc + 3) ls r (sI M a (va_up (mI M a) k x)) else none) else none
    | some (ci, k), .long x :: .ref a :: r => if mK M a = (10 + ci, 0) ∧ finOK ci k q = true then (if fT ci k = 1 then nx (pc + 3) ls r (sJ M a (va_up (mJ M a) k x)) else none) else none
    | some (ci, k), .ref b :: .ref a :: r => if mK M a = (10 + ci, 0) ∧ finOK ci k q = true then (if fT ci k = 2 then nx (pc + 3) ls r (sP M a (va_up (mP M a) k (some b))) else none) else none
    | _, _ => none
  | .iaload => match st with | .int i :: .ref a :: r => if ((mK M a).1 = 1 ∨ (mK M a).1 = 5) ∧ inR i (mK M a).2 then nx (pc + 1) ls (.int (mI M a i.toNatClampNeg) :: r) M else none | _ => none
  | .laload => match st with | .int i :: .ref a :: r => if (mK M a).1 = 2 ∧ inR i (mK M a).2 then nx (pc + 1) ls (.long (mJ M a i.toNatClampNeg) :: r) M else none | _ => none
  | .aaload => match st with | .int i :: .ref a :: r => if ((mK M a).1 = 3 ∨ (mK M a).1 = 4) ∧ inR i (mK M a).2 then nx (pc + 1) ls (va_rf (mP M a i.toNatClampNeg) :: r) M else none | _ => none
  | .iastore => match st with | .int x :: .int i :: .ref a :: r => if (mK M a).1 = 1 ∧ inR i (mK M a).2 then nx (pc + 1) ls r (sI M a (va_up (mI M a) i.toNatClampNeg x)) else none | _ => none
  | .lastore => match st with | .long x :: .int i :: .ref a :: r => if (mK M a).1 = 2 ∧ inR i (mK M a).2 then nx (pc + 1) ls r (sJ M a (va_up (mJ M a) i.toNatClampNeg x)) else none | _ => none
  | .aastore => match st with | .ref b :: .int i :: .ref a :: r => if ((mK M a = (3, (mK M a).2) ∧ mK M b = (10 + aoC 3, 0)) ∨ (mK M a = (4, (mK M a).2) ∧ mK M b = (10 + aoC 4, 0))) ∧ inR i (mK M a).2 then nx (pc + 1) ls r (sP M a (va_up (mP M a) i.toNatClampNeg (some b))) else none | _ => none
  | .arraylength => match st with | .ref a :: r => if (mK M a).1 = 1 ∨ (mK M a).1 = 5 then nx (pc + 1) ls (.int (Int32.ofNat (mK M a).2) :: r) M else none | _ => none
  | .new i => match ncl (ow q) i with | some ci => if ci < nCl then nx (pc + 3) ls (.ref (mS M) :: st) (nw M (10 + ci, 0) (NN ci)) else none | none => none
  | .newarray t => match t, st with | .int, .int n :: r => if 0 ≤ n ∧ n ≤ 100000 then nx (pc + 2) ls (.ref (mS M) :: r) (nw M (1, n.toNatClampNeg) n.toNatClampNeg) else none | .long, .int n :: r => if 0 ≤ n ∧ n ≤ 100000 then nx (pc + 2) ls (.ref (mS M) :: r) (nw M (2, n.toNatClampNeg) n.toNatClampNeg) else none | _, _ => none
  | .anewarray i => match ncl (ow q) i, st with | some ci, .int n :: r => if (0 ≤ n ∧ n ≤ 100000) ∧ (ci = aoC 3 ∨ ci = aoC 4) then nx (pc + 3) ls (.ref (mS M) :: r) (nw M ((if ci = aoC 3 then 3 else 4), n.toNatClampNeg) n.toNatClampNeg) else none | _, _ => none
  | .invokestatic i => if isCpy (ow q) i = true then doC q pc ls st M else none
  | .invokespecial i => if isObj (ow q) i = true then (match st with | .ref a :: r => if catS r ≤ 8 ∧ 1 ≤ dp q then nx (pc + 3) ls r M else none | _ => none) else none
  | _ => none
/-- the way out of a method, a call, or the next instruction -/
def sto (i : Instr) (q pc : Nat) (ls : List (Option Value)) (st : List Value) (M : SM) : Option Res := match i with
  | .return_ => match st with | [] => if mRt q = none then some (.inr (.inl (none, M))) else none | _ => none
  | .ireturn => match st with | [.int x] => if retOK (mRt q) x = true then some (.inr (.inl (some (.int x), M))) else none | _ => none
  | .lreturn => match st with | [.long x] => if mRt q = some .long then some (.inr (.inl (some (.long x), M))) else none | _ => none
  | .invokevirtual k => match cal (ow q) k with | some (q2, kd) => doV q pc ls st M q2 kd | none => none
  | .invokestatic k => if isCpy (ow q) k = true then (stp (.invokestatic k) q pc ls st M).map .inl else match cal (ow q) k with | some (q2, kd) => doS q pc ls st M q2 kd | none => none
  | .invokespecial k => if isObj (ow q) k = true then (stp (.invokespecial k) q pc ls st M).map .inl else match cal (ow q) k with | some (q2, kd) => doI q pc ls st M q2 kd | none => none
  | i => (stp i q pc ls st M).map .inl
def stq (i : Instr) (len q pc : Nat) (ls : List (Option Value)) (st : List Value) (M : SM) : Option Res := if lenOK i len = true then sto i q pc ls st M else none
def hdl (K : Nat → List (Option Value) → List Value → SM → Out) (C : Nat → List Value → SM → Out) : Option Res → Out
  | none => none
  | some (.inl (pc, ls, st, M)) => K pc ls st M
  | some (.inr (.inl r)) => some r
  | some (.inr (.inr (q, as, M, pc, ls, rest))) => match C q as M with
    | some (v, M1) => K pc ls (v.toList ++ rest) M1
    | none => none
/-- so many steps, calls counted with theirs -/
def ex : Nat → Nat → Nat → List (Option Value) → List Value → SM → Out
  | 0, _, _, _, _, _ => none
  | n + 1, q, pc, ls, st, M => match decode (mB q) pc with
    | .ok (i, len) => hdl (ex n q) (fun q2 as M2 => ex n q2 0 (ent q2 as) [] M2) (stq i len q pc ls st M)
    | _ => none
theorem hdl_mono {K K' : Nat → List (Option Value) → List Value → SM → Out} {C C' : Nat → List Value → SM → Out} (hK : ∀ pc ls st M r, K pc ls st M = some r → K' pc ls st M = some r) (hC : ∀ q as M r, C q as M = some r → C' q as M = some r) (x : Option Res) (r : Option Value × SM) (h : hdl K C x = some r) : hdl K' C' x = some r := by
  match x, h with
  | some (.inl (pc, ls, st, M)), h => exact hK _ _ _ _ _ h
  | some (.inr (.inl r')), h => exact h
  | some (.inr (.inr (q, as, M, pc, ls, rest))), h =>
    simp only [hdl] at h ⊢
    cases hc : C q as M with
    | none => rw [hc] at h; cases h
    | some y =>
      obtain ⟨v, M1⟩ := y
      rw [hc] at h
      rw [hC _ _ _ _ hc]
      exact hK _ _ _ _ _ h
theorem ex_mono1 : ∀ (n q pc : Nat) (ls : List (Option Value)) (st : List Value) (M : SM) (r : Option Value × SM), ex n q pc ls st M = some r → ex (n + 1) q pc ls st M = some r
  | 0, _, _, _, _, _, _, h => by cases h
  | n + 1, q, pc, ls, st, M, r, h => by
    rw [ex] at h ⊢
    cases hd : decode (mB q) pc with
    | error _ => rw [hd] at h; cases h
    | ok x =>
      obtain ⟨i, l⟩ := x
      rw [hd] at h
      exact hdl_mono (fun pc ls st M r h => ex_mono1 n q pc ls st M r h) (fun q as M r h => ex_mono1 n q 0 (ent q as) [] M r h) _ _ h
theorem ex_mono {n n' : Nat} (hn : n ≤ n') {q pc : Nat} {ls : List (Option Value)} {st : List Value} {M : SM} {r : Option Value × SM} (h : ex n q pc ls st M = some r) : ex n' q pc ls st M = some r := by
  induction hn with
  | refl => exact h
  | step _ ih => exact ex_mono1 _ _ _ _ _ _ _ ih
/-- the whole run, without a count -/
noncomputable def rn (q pc : Nat) (ls : List (Option Value)) (st : List Value) (M : SM) : Out := @dite Out (∃ (r : Option Value × SM) (n : Nat), ex n q pc ls st M = some r) (Classical.propDecidable _) (fun h => some (Classical.choose h)) (fun _ => none)
theorem rn_iff {q pc : Nat} {ls : List (Option Value)} {st : List Value} {M : SM} {r : Option Value × SM} : rn q pc ls st M = some r ↔ ∃ n, ex n q pc ls st M = some r := by
  unfold rn
  constructor
  · intro h
    split at h
    · rename_i h0
      cases h
      exact Classical.choose_spec h0
    · cases h
  · rintro ⟨n, hn⟩
    have h0 : ∃ (r : Option Value × SM) (n : Nat), ex n q pc ls st M = some r := ⟨r, n, hn⟩
    rw [dif_pos h0]
    obtain ⟨n2, hn2⟩ := Classical.choose_spec h0
    have a := ex_mono (Nat.le_max_left n n2) hn
    have b := ex_mono (Nat.le_max_right n n2) hn2
    rw [← b, a]
/-- a call -/
noncomputable def cl (q : Nat) (as : List Value) (M : SM) : Out := rn q 0 (ent q as) [] M
theorem out_ext {a b : Out} (h : ∀ r, a = some r ↔ b = some r) : a = b := by
  cases a with
  | none => cases b with
    | none => rfl
    | some y => exact ((h y).mpr rfl)
  | some x => exact ((h x).mp rfl).symm
theorem rn_eq {q pc len : Nat} {i : Instr} (hd : decode (mB q) pc = .ok (i, len)) (ls : List (Option Value)) (st : List Value) (M : SM) : rn q pc ls st M = hdl (rn q) cl (stq i len q pc ls st M) := by
  apply out_ext
  intro r
  rw [rn_iff]
  constructor
  · rintro ⟨n, h⟩
    cases n with
    | zero => cases h
    | succ n =>
      rw [ex, hd] at h
      exact hdl_mono (fun pc ls st M r h => rn_iff.mpr ⟨n, h⟩) (fun q as M r h => rn_iff.mpr ⟨n, h⟩) _ _ h
  · intro h
    have up : ∀ (n : Nat), hdl (ex n q) (fun q2 as M2 => ex n q2 0 (ent q2 as) [] M2) (stq i len q pc ls st M) = some r → ∃ n, ex n q pc ls st M = some r := fun n h => ⟨n + 1, by rw [ex, hd]; exact h⟩
    match hx : stq i len q pc ls st M, h with
    | some (.inl (pc', ls', st', M')), h =>
      obtain ⟨n, hn⟩ := rn_iff.mp (show rn q pc' ls' st' M' = some r from h)
      exact up n (by rw [hx]; exact hn)
    | some (.inr (.inl r')), h => exact up 0 (by rw [hx]; exact h)
    | some (.inr (.inr (q2, as, M', pc', ls', rest))), h =>
      simp only [hdl] at h
      cases hc : cl q2 as M' with
      | none => rw [hc] at h; cases h
      | some y =>
        obtain ⟨v, M1⟩ := y
        rw [hc] at h
        obtain ⟨n1, h1⟩ := rn_iff.mp hc
        obtain ⟨n2, h2⟩ := rn_iff.mp h
        refine up (max n1 n2) ?_
        rw [hx]
        show (match ex (max n1 n2) q2 0 (ent q2 as) [] M' with | some (v, M1) => ex (max n1 n2) q pc' ls' (v.toList ++ rest) M1 | none => none) = some r
        rw [ex_mono (Nat.le_max_left n1 n2) h1]
        exact ex_mono (Nat.le_max_right n1 n2) h2
end
section
/-! what the tables say, looked up once -/
def lw_gd : List Cond := lw_tbl.filter goodWord
def hasW (i : Nat) (w : Cond) : Bool := decide (lw_tbl[i]? = some w) && goodWord w
theorem hasW_in {i : Nat} {w : Cond} (h : hasW i w = true) : w ∈ lw_gd := by
  unfold hasW at h
  rw [Bool.and_eq_true, decide_eq_true_eq] at h
  exact List.mem_filter.mpr ⟨List.mem_of_getElem? h.1, h.2⟩
theorem gd_good : GoodIn lw_gd lw_gd := fun w hw => ⟨hw, good_of_word (List.mem_filter.mp hw).2⟩
def codW (q : Nat) : Cond := .code (yN q) (mB q) (mL q) (mRt q)
def mWs (q : Nat) : List Cond := codW q :: lw_gd
def NH : String := "DependentReplay"
set_option maxRecDepth 100000 in
theorem cd_0 : lw_tbl[wpM 0]? = some (codW 0) := rfl
set_option maxRecDepth 100000 in
theorem cd_1 : lw_tbl[wpM 1]? = some (codW 1) := rfl
set_option maxRecDepth 100000 in
theorem cd_2 : lw_tbl[wpM 2]? = some (codW 2) := rfl
set_option maxRecDepth 100000 in
theorem cd_3 : lw_tbl[wpM 3]? = some (codW 3) := rfl
set_option maxRecDepth 100000 in
theorem cd_4 : lw_tbl[wpM 4]? = some (codW 4) := rfl
set_option maxRecDepth 100000 in
theorem cd_5 : lw_tbl[wpM 5]? = some (codW 5) := rfl
set_option maxRecDepth 100000 in
theorem cd_6 : lw_tbl[wpM 6]? = some (codW 6) := rfl
set_option maxRecDepth 100000 in
theorem cd_7 : lw_tbl[wpM 7]? = some (codW 7) := rfl
set_option maxRecDepth 100000 in
theorem cd_8 : lw_tbl[wpM 8]? = some (codW 8) := rfl
set_option maxRecDepth 100000 in
theorem cd_9 : lw_tbl[wpM 9]? = some (codW 9) := rfl
set_option maxRecDepth 100000 in
theorem cd_10 : lw_tbl[wpM 10]? = some (codW 10) := rfl
set_option maxRecDepth 100000 in
theorem cd_11 : lw_tbl[wpM 11]? = some (codW 11) := rfl
set_option maxRecDepth 100000 in
theorem cd_12 : lw_tbl[wpM 12]? = some (codW 12) := rfl
set_option maxRecDepth 100000 in
theorem cd_13 : lw_tbl[wpM 13]? = some (codW 13) := rfl
set_option maxRecDepth 100000 in
theorem cd_14 : lw_tbl[wpM 14]? = some (codW 14) := rfl
set_option maxRecDepth 100000 in
theorem cd_15 : lw_tbl[wpM 15]? = some (codW 15) := rfl
set_option maxRecDepth 100000 in
theorem cd_16 : lw_tbl[wpM 16]? = some (codW 16) := rfl
set_option maxRecDepth 100000 in
theorem cd_17 : lw_tbl[wpM 17]? = some (codW 17) := rfl
set_option maxRecDepth 100000 in
theorem cd_18 : lw_tbl[wpM 18]? = some (codW 18) := rfl
set_option maxRecDepth 100000 in
theorem cd_19 : lw_tbl[wpM 19]? = some (codW 19) := rfl
set_option maxRecDepth 100000 in
theorem cd_20 : lw_tbl[wpM 20]? = some (codW 20) := rfl
set_option maxRecDepth 100000 in
theorem cd_21 : lw_tbl[wpM 21]? = some (codW 21) := rfl
set_option maxRecDepth 100000 in
theorem cd_22 : lw_tbl[wpM 22]? = some (codW 22) := rfl
set_option maxRecDepth 100000 in
theorem cd_23 : lw_tbl[wpM 23]? = some (codW 23) := rfl
set_option maxRecDepth 100000 in
theorem cd_24 : lw_tbl[wpM 24]? = some (codW 24) := rfl
set_option maxRecDepth 100000 in
theorem cd_25 : lw_tbl[wpM 25]? = some (codW 25) := rfl
set_option maxRecDepth 100000 in
theorem cd_26 : lw_tbl[wpM 26]? = some (codW 26) := rfl
set_option maxRecDepth 100000 in
theorem cd_27 : lw_tbl[wpM 27]? = some (codW 27) := rfl
set_option maxRecDepth 100000 in
theorem cd_28 : lw_tbl[wpM 28]? = some (codW 28) := rfl
set_option maxRecDepth 100000 in
theorem cd_29 : lw_tbl[wpM 29]? = some (codW 29) := rfl
set_option maxRecDepth 100000 in
theorem cd_30 : lw_tbl[wpM 30]? = some (codW 30) := rfl
set_option maxRecDepth 100000 in
theorem cd_31 : lw_tbl[wpM 31]? = some (codW 31) := rfl
set_option maxRecDepth 100000 in
theorem cd_32 : lw_tbl[wpM 32]? = some (codW 32) := rfl
set_option maxRecDepth 100000 in
theorem cd_33 : lw_tbl[wpM 33]? = some (codW 33) := rfl
set_option maxRecDepth 100000 in
theorem cd_34 : lw_tbl[wpM 34]? = some (codW 34) := rfl
set_option maxRecDepth 100000 in
theorem cd_35 : lw_tbl[wpM 35]? = some (codW 35) := rfl
set_option maxRecDepth 100000 in
theorem cd_36 : lw_tbl[wpM 36]? = some (codW 36) := rfl
set_option maxRecDepth 100000 in
theorem cd_37 : lw_tbl[wpM 37]? = some (codW 37) := rfl
set_option maxRecDepth 100000 in
theorem cd_38 : lw_tbl[wpM 38]? = some (codW 38) := rfl
set_option maxRecDepth 100000 in
theorem cd_39 : lw_tbl[wpM 39]? = some (codW 39) := rfl
set_option maxRecDepth 100000 in
theorem cd_40 : lw_tbl[wpM 40]? = some (codW 40) := rfl
set_option maxRecDepth 100000 in
theorem cd_41 : lw_tbl[wpM 41]? = some (codW 41) := rfl
set_option maxRecDepth 100000 in
theorem cd_42 : lw_tbl[wpM 42]? = some (codW 42) := rfl
set_option maxRecDepth 100000 in
theorem cd_43 : lw_tbl[wpM 43]? = some (codW 43) := rfl
set_option maxRecDepth 100000 in
theorem cd_44 : lw_tbl[wpM 44]? = some (codW 44) := rfl
set_option maxRecDepth 100000 in
theorem cd_45 : lw_tbl[wpM 45]? = some (codW 45) := rfl
set_option maxRecDepth 100000 in
theorem cd_46 : lw_tbl[wpM 46]? = some (codW 46) := rfl
set_option maxRecDepth 100000 in
theorem cd_47 : lw_tbl[wpM 47]? = some (codW 47) := rfl
set_option maxRecDepth 100000 in
theorem cd_48 : lw_tbl[wpM 48]? = some (codW 48) := rfl
set_option maxRecDepth 100000 in
theorem cd_49 : lw_tbl[wpM 49]? = some (codW 49) := rfl
set_option maxRecDepth 100000 in
theorem cd_50 : lw_tbl[wpM 50]? = some (codW 50) := rfl
set_option maxRecDepth 100000 in
theorem cd_51 : lw_tbl[wpM 51]? = some (codW 51) := rfl
set_option maxRecDepth 100000 in
theorem cd_52 : lw_tbl[wpM 52]? = some (codW 52) := rfl
set_option maxRecDepth 100000 in
theorem cd_53 : lw_tbl[wpM 53]? = some (codW 53) := rfl
set_option maxRecDepth 100000 in
theorem cd_54 : lw_tbl[wpM 54]? = some (codW 54) := rfl
set_option maxRecDepth 100000 in
theorem cd_55 : lw_tbl[wpM 55]? = some (codW 55) := rfl
set_option maxRecDepth 100000 in
theorem cd_56 : lw_tbl[wpM 56]? = some (codW 56) := rfl
set_option maxRecDepth 100000 in
theorem cd_57 : lw_tbl[wpM 57]? = some (codW 57) := rfl
set_option maxRecDepth 100000 in
theorem cd_58 : lw_tbl[wpM 58]? = some (codW 58) := rfl
set_option maxRecDepth 100000 in
theorem cd_59 : lw_tbl[wpM 59]? = some (codW 59) := rfl
set_option maxRecDepth 100000 in
theorem cd_60 : lw_tbl[wpM 60]? = some (codW 60) := rfl
set_option maxRecDepth 100000 in
theorem cd_61 : lw_tbl[wpM 61]? = some (codW 61) := rfl
set_option maxRecDepth 100000 in
theorem cd_62 : lw_tbl[wpM 62]? = some (codW 62) := rfl
set_option maxRecDepth 100000 in
theorem cd_63 : lw_tbl[wpM 63]? = some (codW 63) := rfl
set_option maxRecDepth 100000 in
theorem cd_64 : lw_tbl[wpM 64]? = some (codW 64) := rfl
set_option maxRecDepth 100000 in
theorem cd_65 : lw_tbl[wpM 65]? = some (codW 65) := rfl
set_option maxRecDepth 100000 in
theorem cd_66 : lw_tbl[wpM 66]? = some (codW 66) := rfl
set_option maxRecDepth 100000 in
theorem cd_67 : lw_tbl[wpM 67]? = some (codW 67) := rfl
set_option maxRecDepth 100000 in
theorem cd_68 : lw_tbl[wpM 68]? = some (codW 68) := rfl
set_option maxRecDepth 100000 in
theorem cd_69 : lw_tbl[wpM 69]? = some (codW 69) := rfl
set_option maxRecDepth 100000 in
theorem cd_70 : lw_tbl[wpM 70]? = some (codW 70) := rfl
set_option maxRecDepth 100000 in
theorem cd_71 : lw_tbl[wpM 71]? = some (codW 71) := rfl
set_option maxRecDepth 100000 in
theorem cd_72 : lw_tbl[wpM 72]? = some (codW 72) := rfl
set_option maxRecDepth 100000 in
theorem cd_73 : lw_tbl[wpM 73]? = some (codW 73) := rfl
set_option maxRecDepth 100000 in
theorem cd_74 : lw_tbl[wpM 74]? = some (codW 74) := rfl
set_option maxRecDepth 100000 in
theorem cd_75 : lw_tbl[wpM 75]? = some (codW 75) := rfl
set_option maxRecDepth 100000 in
theorem cd_76 : lw_tbl[wpM 76]? = some (codW 76) := rfl
set_option maxRecDepth 100000 in
theorem cd_77 : lw_tbl[wpM 77]? = some (codW 77) := rfl
set_option maxRecDepth 100000 in
theorem cd_78 : lw_tbl[wpM 78]? = some (codW 78) := rfl
set_option maxRecDepth 100000 in
theorem cd_79 : lw_tbl[wpM 79]? = some (codW 79) := rfl
set_option maxRecDepth 100000 in
theorem cd_80 : lw_tbl[wpM 80]? = some (codW 80) := rfl
set_option maxRecDepth 100000 in
theorem cd_81 : lw_tbl[wpM 81]? = some (codW 81) := rfl
set_option maxRecDepth 100000 in
theorem cd_82 : lw_tbl[wpM 82]? = some (codW 82) := rfl
set_option maxRecDepth 100000 in
theorem cd_83 : lw_tbl[wpM 83]? = some (codW 83) := rfl
set_option maxRecDepth 100000 in
theorem cd_84 : lw_tbl[wpM 84]? = some (codW 84) := rfl
set_option maxRecDepth 100000 in
theorem cd_85 : lw_tbl[wpM 85]? = some (codW 85) := rfl
set_option maxRecDepth 100000 in
theorem cd_86 : lw_tbl[wpM 86]? = some (codW 86) := rfl
set_option maxRecDepth 100000 in
theorem cd_87 : lw_tbl[wpM 87]? = some (codW 87) := rfl
set_option maxRecDepth 100000 in
theorem cd_88 : lw_tbl[wpM 88]? = some (codW 88) := rfl
set_option maxRecDepth 100000 in
theorem cd_89 : lw_tbl[wpM 89]? = some (codW 89) := rfl
set_option maxRecDepth 100000 in
theorem cd_90 : lw_tbl[wpM 90]? = some (codW 90) := rfl
set_option maxRecDepth 100000 in
theorem cd_91 : lw_tbl[wpM 91]? = some (codW 91) := rfl
set_option maxRecDepth 100000 in
theorem cd_92 : lw_tbl[wpM 92]? = some (codW 92) := rfl
set_option maxRecDepth 100000 in
theorem cd_93 : lw_tbl[wpM 93]? = some (codW 93) := rfl
set_option maxRecDepth 100000 in
theorem cd_94 : lw_tbl[wpM 94]? = some (codW 94) := rfl
set_option maxRecDepth 100000 in
theorem cd_95 : lw_tbl[wpM 95]? = some (codW 95) := rfl
set_option maxRecDepth 100000 in
theorem cd_96 : lw_tbl[wpM 96]? = some (codW 96) := rfl
set_option maxRecDepth 100000 in
theorem cd_97 : lw_tbl[wpM 97]? = some (codW 97) := rfl
set_option maxRecDepth 100000 in
theorem cd_98 : lw_tbl[wpM 98]? = some (codW 98) := rfl
set_option maxRecDepth 100000 in
theorem cd_99 : lw_tbl[wpM 99]? = some (codW 99) := rfl
set_option maxRecDepth 100000 in
theorem cd_100 : lw_tbl[wpM 100]? = some (codW 100) := rfl
set_option maxRecDepth 100000 in
theorem cd_101 : lw_tbl[wpM 101]? = some (codW 101) := rfl
set_option maxRecDepth 100000 in
theorem cd_102 : lw_tbl[wpM 102]? = some (codW 102) := rfl
set_option maxRecDepth 100000 in
theorem cd_103 : lw_tbl[wpM 103]? = some (codW 103) := rfl
set_option maxRecDepth 100000 in
theorem cd_104 : lw_tbl[wpM 104]? = some (codW 104) := rfl
set_option maxRecDepth 100000 in
theorem cd_105 : lw_tbl[wpM 105]? = some (codW 105) := rfl
set_option maxRecDepth 100000 in
theorem cd_106 : lw_tbl[wpM 106]? = some (codW 106) := rfl
set_option maxRecDepth 100000 in
theorem cd_107 : lw_tbl[wpM 107]? = some (codW 107) := rfl
set_option maxRecDepth 100000 in
theorem cd_108 : lw_tbl[wpM 108]? = some (codW 108) := rfl
set_option maxRecDepth 100000 in
theorem cd_109 : lw_tbl[wpM 109]? = some (codW 109) := rfl
set_option maxRecDepth 100000 in
theorem cd_110 : lw_tbl[wpM 110]? = some (codW 110) := rfl
set_option maxRecDepth 100000 in
theorem cd_111 : lw_tbl[wpM 111]? = some (codW 111) := rfl
set_option maxRecDepth 100000 in
theorem cd_112 : lw_tbl[wpM 112]? = some (codW 112) := rfl
set_option maxRecDepth 100000 in
theorem cd_113 : lw_tbl[wpM 113]? = some (codW 113) := rfl
set_option maxRecDepth 100000 in
theorem cd_114 : lw_tbl[wpM 114]? = some (codW 114) := rfl
set_option maxRecDepth 100000 in
theorem cd_115 : lw_tbl[wpM 115]? = some (codW 115) := rfl
set_option maxRecDepth 100000 in
theorem cd_116 : lw_tbl[wpM 116]? = some (codW 116) := rfl
set_option maxRecDepth 100000 in
theorem cd_117 : lw_tbl[wpM 117]? = some (codW 117) := rfl
set_option maxRecDepth 100000 in
theorem cd_118 : lw_tbl[wpM 118]? = some (codW 118) := rfl
set_option maxRecDepth 100000 in
theorem cd_119 : lw_tbl[wpM 119]? = some (codW 119) := rfl
set_option maxRecDepth 100000 in
theorem cd_120 : lw_tbl[wpM 120]? = some (codW 120) := rfl
set_option maxRecDepth 100000 in
theorem cd_121 : lw_tbl[wpM 121]? = some (codW 121) := rfl
set_option maxRecDepth 100000 in
theorem cd_122 : lw_tbl[wpM 122]? = some (codW 122) := rfl
set_option maxRecDepth 100000 in
theorem cd_123 : lw_tbl[wpM 123]? = some (codW 123) := rfl
set_option maxRecDepth 100000 in
theorem cd_124 : lw_tbl[wpM 124]? = some (codW 124) := rfl
set_option maxRecDepth 100000 in
theorem cd_125 : lw_tbl[wpM 125]? = some (codW 125) := rfl
set_option maxRecDepth 100000 in
theorem cd_126 : lw_tbl[wpM 126]? = some (codW 126) := rfl
set_option maxRecDepth 100000 in
theorem cd_127 : lw_tbl[wpM 127]? = some (codW 127) := rfl
set_option maxRecDepth 100000 in
theorem cd_128 : lw_tbl[wpM 128]? = some (codW 128) := rfl
set_option maxRecDepth 100000 in
theorem cd_129 : lw_tbl[wpM 129]? = some (codW 129) := rfl
set_option maxRecDepth 100000 in
theorem cd_130 : lw_tbl[wpM 130]? = some (codW 130) := rfl
set_option maxRecDepth 100000 in
theorem cd_131 : lw_tbl[wpM 131]? = some (codW 131) := rfl
set_option maxRecDepth 100000 in
theorem cd_132 : lw_tbl[wpM 132]? = some (codW 132) := rfl
set_option maxRecDepth 100000 in
theorem cd_133 : lw_tbl[wpM 133]? = some (codW 133) := rfl
set_option maxRecDepth 100000 in
theorem cd_134 : lw_tbl[wpM 134]? = some (codW 134) := rfl
set_option maxRecDepth 100000 in
theorem cd_135 : lw_tbl[wpM 135]? = some (codW 135) := rfl
set_option maxRecDepth 100000 in
theorem cd_136 : lw_tbl[wpM 136]? = some (codW 136) := rfl
set_option maxRecDepth 100000 in
theorem cd_137 : lw_tbl[wpM 137]? = some (codW 137) := rfl
set_option maxRecDepth 100000 in
theorem cd_138 : lw_tbl[wpM 138]? = some (codW 138) := rfl
set_option maxRecDepth 100000 in
theorem cd_139 : lw_tbl[wpM 139]? = some (codW 139) := rfl
set_option maxRecDepth 100000 in
theorem cd_140 : lw_tbl[wpM 140]? = some (codW 140) := rfl
set_option maxRecDepth 100000 in
theorem cd_141 : lw_tbl[wpM 141]? = some (codW 141) := rfl
set_option maxRecDepth 100000 in
theorem cd_142 : lw_tbl[wpM 142]? = some (codW 142) := rfl
set_option maxRecDepth 100000 in
theorem cd_143 : lw_tbl[wpM 143]? = some (codW 143) := rfl
set_option maxRecDepth 100000 in
theorem cd_144 : lw_tbl[wpM 144]? = some (codW 144) := rfl
set_option maxRecDepth 100000 in
theorem cd_145 : lw_tbl[wpM 145]? = some (codW 145) := rfl
set_option maxRecDepth 100000 in
theorem cd_146 : lw_tbl[wpM 146]? = some (codW 146) := rfl
set_option maxRecDepth 100000 in
theorem cd_147 : lw_tbl[wpM 147]? = some (codW 147) := rfl
set_option maxRecDepth 100000 in
theorem cd_148 : lw_tbl[wpM 148]? = some (codW 148) := rfl
set_option maxRecDepth 100000 in
theorem cd_149 : lw_tbl[wpM 149]? = some (codW 149) := rfl
set_option maxRecDepth 100000 in
theorem cd_150 : lw_tbl[wpM 150]? = some (codW 150) := rfl
set_option maxRecDepth 100000 in
theorem cd_151 : lw_tbl[wpM 151]? = some (codW 151) := rfl
set_option maxRecDepth 100000 in
theorem cd_152 : lw_tbl[wpM 152]? = some (codW 152) := rfl
set_option maxRecDepth 100000 in
theorem cd_153 : lw_tbl[wpM 153]? = some (codW 153) := rfl
set_option maxRecDepth 100000 in
theorem cd_154 : lw_tbl[wpM 154]? = some (codW 154) := rfl
set_option maxRecDepth 100000 in
theorem cd_155 : lw_tbl[wpM 155]? = some (codW 155) := rfl
set_option maxRecDepth 100000 in
theorem cd_156 : lw_tbl[wpM 156]? = some (codW 156) := rfl
set_option maxRecDepth 100000 in
theorem cd_157 : lw_tbl[wpM 157]? = some (codW 157) := rfl
set_option maxRecDepth 100000 in
theorem cd_158 : lw_tbl[wpM 158]? = some (codW 158) := rfl
set_option maxRecDepth 100000 in
theorem cd_159 : lw_tbl[wpM 159]? = some (codW 159) := rfl
set_option maxRecDepth 100000 in
theorem cd_160 : lw_tbl[wpM 160]? = some (codW 160) := rfl
set_option maxRecDepth 100000 in
theorem cd_161 : lw_tbl[wpM 161]? = some (codW 161) := rfl
set_option maxRecDepth 100000 in
theorem cd_162 : lw_tbl[wpM 162]? = some (codW 162) := rfl
set_option maxRecDepth 100000 in
theorem cd_163 : lw_tbl[wpM 163]? = some (codW 163) := rfl
set_option maxRecDepth 100000 in
theorem cd_164 : lw_tbl[wpM 164]? = some (codW 164) := rfl
set_option maxRecDepth 100000 in
theorem cd_165 : lw_tbl[wpM 165]? = some (codW 165) := rfl
set_option maxRecDepth 100000 in
theorem cd_166 : lw_tbl[wpM 166]? = some (codW 166) := rfl
set_option maxRecDepth 100000 in
theorem cd_167 : lw_tbl[wpM 167]? = some (codW 167) := rfl
set_option maxRecDepth 100000 in
theorem cd_168 : lw_tbl[wpM 168]? = some (codW 168) := rfl
set_option maxRecDepth 100000 in
theorem cd_169 : lw_tbl[wpM 169]? = some (codW 169) := rfl
set_option maxRecDepth 100000 in
theorem cd_170 : lw_tbl[wpM 170]? = some (codW 170) := rfl
set_option maxRecDepth 100000 in
theorem cd_171 : lw_tbl[wpM 171]? = some (codW 171) := rfl
set_option maxRecDepth 100000 in
theorem cd_172 : lw_tbl[wpM 172]? = some (codW 172) := rfl
set_option maxRecDepth 100000 in
theorem cd_173 : lw_tbl[wpM 173]? = some (codW 173) := rfl
set_option maxRecDepth 100000 in
theorem cd_174 : lw_tbl[wpM 174]? = some (codW 174) := rfl
set_option maxRecDepth 100000 in
theorem cd_175 : lw_tbl[wpM 175]? = some (codW 175) := rfl
theorem cd_all : ∀ q, q < 176 → lw_tbl[wpM q]? = some (codW q)
  | 0, _ => cd_0
  | 1, _ => cd_1
  | 2, _ => cd_2
  | 3, _ => cd_3
  | 4, _ => cd_4
  | 5, _ => cd_5
  | 6, _ => cd_6
  | 7, _ => cd_7
  | 8, _ => cd_8
  | 9, _ => cd_9
  | 10, _ => cd_10
  | 11, _ => cd_11
  | 12, _ => cd_12
  | 13, _ => cd_13
  | 14, _ => cd_14
  | 15, _ => cd_15
  | 16, _ => cd_16
  | 17, _ => cd_17
  | 18, _ => cd_18
  | 19, _ => cd_19
  | 20, _ => cd_20
  | 21, _ => cd_21
  | 22, _ => cd_22
  | 23, _ => cd_23
  | 24, _ => cd_24
  | 25, _ => cd_25
  | 26, _ => cd_26
  | 27, _ => cd_27
  | 28, _ => cd_28
  | 29, _ => cd_29
  | 30, _ => cd_30
  | 31, _ => cd_31
  | 32, _ => cd_32
  | 33, _ => cd_33
  | 34, _ => cd_34
  | 35, _ => cd_35
  | 36, _ => cd_36
  | 37, _ => cd_37
  | 38, _ => cd_38
  | 39, _ => cd_39
  | 40, _ => cd_40
  | 41, _ => cd_41
  | 42, _ => cd_42
  | 43, _ => cd_43
  | 44, _ => cd_44
  | 45, _ => cd_45
  | 46, _ => cd_46
  | 47, _ => cd_47
  | 48, _ => cd_48
  | 49, _ => cd_49
  | 50, _ => cd_50
  | 51, _ => cd_51
  | 52, _ => cd_52
  | 53, _ => cd_53
  | 54, _ => cd_54
  | 55, _ => cd_55
  | 56, _ => cd_56
  | 57, _ => cd_57
  | 58, _ => cd_58
  | 59, _ => cd_59
  | 60, _ => cd_60
  | 61, _ => cd_61
  | 62, _ => cd_62
  | 63, _ => cd_63
  | 64, _ => cd_64
  | 65, _ => cd_65
  | 66, _ => cd_66
  | 67, _ => cd_67
  | 68, _ => cd_68
  | 69, _ => cd_69
  | 70, _ => cd_70
  | 71, _ => cd_71
  | 72, _ => cd_72
  | 73, _ => cd_73
  | 74, _ => cd_74
  | 75, _ => cd_75
  | 76, _ => cd_76
  | 77, _ => cd_77
  | 78, _ => cd_78
  | 79, _ => cd_79
  | 80, _ => cd_80
  | 81, _ => cd_81
  | 82, _ => cd_82
  | 83, _ => cd_83
  | 84, _ => cd_84
  | 85, _ => cd_85
  | 86, _ => cd_86
  | 87, _ => cd_87
  | 88, _ => cd_88
  | 89, _ => cd_89
  | 90, _ => cd_90
  | 91, _ => cd_91
  | 92, _ => cd_92
  | 93, _ => cd_93
  | 94, _ => cd_94
  | 95, _ => cd_95
  | 96, _ => cd_96
  | 97, _ => cd_97
  | 98, _ => cd_98
  | 99, _ => cd_99
  | 100, _ => cd_100
  | 101, _ => cd_101
  | 102, _ => cd_102
  | 103, _ => cd_103
  | 104, _ => cd_104
  | 105, _ => cd_105
  | 106, _ => cd_106
  | 107, _ => cd_107
  | 108, _ => cd_108
  | 109, _ => cd_109
  | 110, _ => cd_110
  | 111, _ => cd_111
  | 112, _ => cd_112
  | 113, _ => cd_113
  | 114, _ => cd_114
  | 115, _ => cd_115
  | 116, _ => cd_116
  | 117, _ => cd_117
  | 118, _ => cd_118
  | 119, _ => cd_119
  | 120, _ => cd_120
  | 121, _ => cd_121
  | 122, _ => cd_122
  | 123, _ => cd_123
  | 124, _ => cd_124
  | 125, _ => cd_125
  | 126, _ => cd_126
  | 127, _ => cd_127
  | 128, _ => cd_128
  | 129, _ => cd_129
  | 130, _ => cd_130
  | 131, _ => cd_131
  | 132, _ => cd_132
  | 133, _ => cd_133
  | 134, _ => cd_134
  | 135, _ => cd_135
  | 136, _ => cd_136
  | 137, _ => cd_137
  | 138, _ => cd_138
  | 139, _ => cd_139
  | 140, _ => cd_140
  | 141, _ => cd_141
  | 142, _ => cd_142
  | 143, _ => cd_143
  | 144, _ => cd_144
  | 145, _ => cd_145
  | 146, _ => cd_146
  | 147, _ => cd_147
  | 148, _ => cd_148
  | 149, _ => cd_149
  | 150, _ => cd_150
  | 151, _ => cd_151
  | 152, _ => cd_152
  | 153, _ => cd_153
  | 154, _ => cd_154
  | 155, _ => cd_155
  | 156, _ => cd_156
  | 157, _ => cd_157
  | 158, _ => cd_158
  | 159, _ => cd_159
  | 160, _ => cd_160
  | 161, _ => cd_161
  | 162, _ => cd_162
  | 163, _ => cd_163
  | 164, _ => cd_164
  | 165, _ => cd_165
  | 166, _ => cd_166
  | 167, _ => cd_167
  | 168, _ => cd_168
  | 169, _ => cd_169
  | 170, _ => cd_170
  | 171, _ => cd_171
  | 172, _ => cd_172
  | 173, _ => cd_173
  | 174, _ => cd_174
  | 175, _ => cd_175
  | n + 176, h => absurd h (by omega)
theorem nM_eq : nM = 177 := rfl
theorem cod_in {q : Nat} (h : q < 176) : codW q ∈ lw_gd := List.mem_filter.mpr ⟨List.mem_of_getElem? (cd_all q h), rfl⟩
def ipOK (q : Nat) : Bool := if stM q = true then hasW (ipM q) (.static (yN q)) else hasW (ipM q) (.instanceMethod (yN q))
theorem ipA : (List.range 176).all ipOK = true := by decide +kernel
def spOK (q : Nat) : Bool := stM q || isI q || hasW (spM q) (.selects (yN q).cls (yN q) (yN q))
theorem spA : (List.range 176).all spOK = true := by decide +kernel
def clsOK (q : Nat) : Bool := (yN q).cls == CN (ow q) && hasW (iniT.getD (ow q) 0) (.initialized (CN (ow q)))
theorem clsA : (List.range 176).all clsOK = true := by decide +kernel
theorem mhA : (List.range 14).all (fun k => CN k != "java/lang/invoke/MethodHandle" && CN k != "java/lang/invoke/VarHandle") = true := by decide +kernel
theorem plA : (List.range 177).all (fun q => plainFor (yN q)) = true := by decide +kernel
theorem owA : (List.range 177).all (fun q => Nat.blt (ow q) 14 && Nat.ble (mL q) 8) = true := by decide +kernel
theorem iniA : (List.range 177).all (fun q => !(isI q) || ((yN q).name == "<init>" && mRt q == none)) = true := by decide +kernel
/-- of a link: its target, its kind, its word -/
def calOK (e : Nat × Nat × Nat × Nat × Nat) : Bool := Nat.blt e.2.2.1 176 && (match e.2.2.2.1 with
  | 0 => hasW e.2.2.2.2 (.methodLink (CN e.1) e.2.1 (yN e.2.2.1)) && !(stM e.2.2.1) && !(isI e.2.2.1) && Nat.blt (ow e.2.2.1) nCl
  | 1 => !(stM e.2.2.1) && !(isI e.2.2.1) && Nat.blt (ow e.2.2.1) nCl
  | 2 => hasW e.2.2.2.2 (.methodLink (CN e.1) e.2.1 (yN e.2.2.1)) && stM e.2.2.1
  | 3 => stM e.2.2.1
  | 4 => hasW e.2.2.2.2 (.methodLink (CN e.1) e.2.1 (yN e.2.2.1)) && !(stM e.2.2.1) && isI e.2.2.1
  | 5 => !(stM e.2.2.1) && isI e.2.2.1
  | _ => false)
theorem calA : calT.all calOK = true := by decide +kernel
def fldOK (e : Nat × Nat × Nat × Nat × Nat) : Bool := hasW e.2.2.2.2 (.fieldLink (CN e.1) e.2.1 (TT e.2.2.1 e.2.2.2.1).1 (TT e.2.2.1 e.2.2.2.1).2.1 (TT e.2.2.1 e.2.2.2.1).2.2.1) && Nat.blt e.2.2.2.1 (NN e.2.2.1) && Nat.blt e.2.2.1 nCl
theorem fldA : fldT.all fldOK = true := by decide +kernel
theorem layA : (List.range nCl).all (fun ci => (List.range (NN ci)).all fun k => hasW ((layT.getD ci []).getD k 0) (u_lay (CN ci) (TT ci) k)) = true := by decide +kernel
theorem cstA : cstT.all (fun e => hasW e.2.2.2 (.constantLong (CN e.1) e.2.1 e.2.2.1)) = true := by decide +kernel
theorem nclA : nclT.all (fun e => hasW e.2.2.2 (.classLink (CN e.1) e.2.1 (CN e.2.2.1))) = true := by decide +kernel
theorem insA : (List.range nCl).all (fun ci => hasW (insT.getD ci 0) (.instantiable (CN ci) (NN ci)) && hasW (iniT.getD ci 0) (.initialized (CN ci))) = true := by decide +kernel
theorem arcA : (hasW arcI (.arrayClass .int) && hasW arcJ (.arrayClass .long)) = true := by decide +kernel
theorem objA : objT.all (fun e => hasW e.2.2 (.methodLink (CN e.1) e.2.1 objectInit)) = true := by decide +kernel
theorem objB : (hasW objW.1 (.instanceMethod objectInit) && hasW objW.2 (.code objectInit ⟨#[0xb1]⟩ 1 none)) = true := by decide +kernel
theorem cpyA : cpyT.all (fun e => hasW e.2.2 (.methodLink (CN e.1) e.2.1 arraycopyName)) = true := by decide +kernel
theorem cpyB : (hasW sysW.1 (.initialized "java/lang/System") && hasW sysW.2.1 (.static arraycopyName) && hasW sysW.2.2 (.native arraycopyName)) = true := by decide +kernel
theorem aovA : (decide (lw_tbl[aovT.getD 0 0]? = some (.arrayOver (.object (AON 3)))) && decide (lw_tbl[aovT.getD 1 0]? = some (.arrayOver (.object (AON 4)))) && (AON 3 == CN (aoC 3)) && (AON 4 == CN (aoC 4))) = true := by decide +kernel
theorem nstA : calT.all (fun e => (e.2.2.2.1 % 2 == 0) || decide (lw_tbl[e.2.2.2.2]? = some (.methodLinkNest (CN e.1) e.2.1 (yN e.2.2.1) NH))) = true := by decide +kernel
theorem tyA : (List.range nCl).all (fun ci => (List.range (NN ci)).all fun k => decide (parseFieldDescriptor (TT ci k).2.2.1 = some (tT ci k)) && (TT ci k).1 == CN ci && decide (defaultValue (tT ci k) = match fT ci k with | 0 => .int 0 | 1 => .long 0 | 2 => .null | _ => .int 0)) = true := by decide +kernel
theorem nmA : (List.range nCl).all (fun ci => (List.range (NN ci)).all fun a => (List.range (NN ci)).all fun b => a == b || (TT ci a).2.1 != (TT ci b).2.1) = true := by decide +kernel
def fKOK (ty : FieldType) (f : Nat) : Bool := match ty, f with
  | .int, 0 | .long, 1 | .boolean, 3 | .object _, 2 | .array _, 2 => true
  | _, _ => false
theorem fkA : (List.range nCl).all (fun ci => (List.range (NN ci)).all fun k => fKOK (tT ci k) (fT ci k)) = true := by decide +kernel
theorem cls_at : ∀ ci, ci < nCl → classes[ci]? = some (CN ci, TT ci, NN ci)
  | 0, _ => rfl | 1, _ => rfl | 2, _ => rfl | 3, _ => rfl | 4, _ => rfl | 5, _ => rfl | 6, _ => rfl | 7, _ => rfl | 8, _ => rfl | 9, _ => rfl
  | n + 10, h => absurd h (by unfold nCl; omega)
end
section
/-! locals by places, the world of the machine -/
/-- the locals that are known: a long counts only while its second half is free -/
def lA (lv : List (Option Value)) : List (Nat × Value) := (List.range lv.length).filterMap fun i => match lv[i]? with
  | some (some v) => if v.category = 2 ∧ lv[i + 1]? ≠ some none then none else some (i, v)
  | _ => none
theorem lA_mem {lv : List (Option Value)} {i : Nat} {v : Value} : (i, v) ∈ lA lv ↔ lv[i]? = some (some v) ∧ (v.category = 2 → lv[i + 1]? = some none) := by
  unfold lA
  rw [List.mem_filterMap]
  constructor
  · rintro ⟨j, hj, h⟩
    split at h
    · rename_i w hw
      split at h
      · cases h
      · rename_i hn
        cases h
        refine ⟨hw, fun hc => ?_⟩
        by_cases h2 : lv[i + 1]? = some none
        · exact h2
        · exact absurd ⟨hc, h2⟩ hn
    · cases h
  · rintro ⟨h1, h2⟩
    have hl : i < lv.length := (List.getElem?_eq_some_iff.mp h1).1
    refine ⟨i, List.mem_range.mpr hl, ?_⟩
    rw [h1]
    show (if v.category = 2 ∧ lv[i + 1]? ≠ some none then none else some (i, v)) = some (i, v)
    rw [if_neg]
    rintro ⟨a, b⟩
    exact b (h2 a)
theorem lv_mono {ls : Array Slot} {n : Nat} {l l' : List (Nat × Value)} (h : lv_has ls n l) (hm : ∀ x ∈ l', x ∈ l) : lv_has ls n l' := ⟨h.1, h.2.1, fun x hx => h.2.2 x (hm x hx)⟩
theorem lA_get {ls : Array Slot} {n : Nat} {lv : List (Option Value)} (h : lv_has ls n (lA lv)) {i : Nat} {v : Value} (h1 : lv[i]? = some (some v)) (h2 : v.category = 2 → lv[i + 1]? = some none) : ls[i]? = some (.val v) := h.2.2 (i, v) (lA_mem.mpr ⟨h1, h2⟩)
theorem lA_set1 {ls : Array Slot} {n i : Nat} {v : Value} {lv : List (Option Value)} (h : lv_has ls n ((i, v) :: (lA lv).filter (fun q => !(q.1 == i) && !(q.1 + 1 == i && q.2.category == 2)))) (hi : i < lv.length) : lv_has ls n (lA (lv.set i (some v))) := by
  refine lv_mono h fun x hx => ?_
  obtain ⟨j, w⟩ := x
  obtain ⟨h1, h2⟩ := lA_mem.mp hx
  by_cases hj : j = i
  · subst hj
    rw [List.getElem?_set_self hi] at h1
    cases h1
    exact List.mem_cons_self
  · rw [List.getElem?_set_ne (Ne.symm hj)] at h1
    have h3 : w.category = 2 → ¬ j + 1 = i := fun hc e => by
      have := h2 hc
      rw [e, List.getElem?_set_self hi] at this
      cases this
    refine List.mem_cons_of_mem _ (List.mem_filter.mpr ⟨lA_mem.mpr ⟨h1, fun hc => ?_⟩, ?_⟩)
    · have := h2 hc
      rwa [List.getElem?_set_ne (Ne.symm (h3 hc))] at this
    · have e1 : (j == i) = false := beq_eq_false_iff_ne.mpr hj
      by_cases hc : w.category = 2
      · have e2 : (j + 1 == i) = false := beq_eq_false_iff_ne.mpr (h3 hc)
        simp [e1, e2]
      · have e2 : (w.category == 2) = false := beq_eq_false_iff_ne.mpr hc
        simp [e1, e2]
theorem lA_set2 {ls : Array Slot} {n i : Nat} {v : Value} {lv : List (Option Value)} (h : lv_has ls n ((i, v) :: (lA lv).filter (fun q => !(q.1 == i) && (!(q.1 == i + 1) && !(q.1 + 1 == i && q.2.category == 2))))) (hi : i + 1 < lv.length) : lv_has ls n (lA ((lv.set i (some v)).set (i + 1) none)) := by
  refine lv_mono h fun x hx => ?_
  obtain ⟨j, w⟩ := x
  obtain ⟨h1, h2⟩ := lA_mem.mp hx
  have hl2 : i + 1 < (lv.set i (some v)).length := by rw [List.length_set]; exact hi
  by_cases hj : j = i
  · subst hj
    rw [List.getElem?_set_ne (by omega), List.getElem?_set_self (by omega)] at h1
    cases h1
    exact List.mem_cons_self
  · by_cases hj2 : j = i + 1
    · subst hj2
      rw [List.getElem?_set_self hl2] at h1
      cases h1
    · rw [List.getElem?_set_ne (Ne.symm hj2), List.getElem?_set_ne (Ne.symm hj)] at h1
      have h3 : w.category = 2 → ¬ j + 1 = i := fun hc e => by
        have := h2 hc
        rw [e, List.getElem?_set_ne (by omega), List.getElem?_set_self (by omega)] at this
        cases this
      refine List.mem_cons_of_mem _ (List.mem_filter.mpr ⟨lA_mem.mpr ⟨h1, fun hc => ?_⟩, ?_⟩)
      · have := h2 hc
        rwa [List.getElem?_set_ne (by omega), List.getElem?_set_ne (Ne.symm (h3 hc))] at this
      · have e1 : (j == i) = false := beq_eq_false_iff_ne.mpr hj
        have e3 : (j == i + 1) = false := beq_eq_false_iff_ne.mpr hj2
        by_cases hc : w.category = 2
        · have e2 : (j + 1 == i) = false := beq_eq_false_iff_ne.mpr (h3 hc)
          simp [e1, e2, e3]
        · have e2 : (w.category == 2) = false := beq_eq_false_iff_ne.mpr hc
          simp [e1, e2, e3]
theorem entA_args : ∀ (vs : List Value) (off j : Nat) (w : Value), (entA vs)[j]? = some (some w) → (off + j, w) ∈ lv_args off vs
  | [], _, _, _, h => by simp [entA] at h
  | v :: vs, off, j, w, h => by
    unfold entA at h
    unfold lv_args
    split at h
    · rename_i hc
      rw [if_pos hc]
      match j, h with
      | 0, h => simp at h; rw [← h]; exact List.mem_cons_self
      | 1, h => simp at h
      | j + 2, h =>
        have := entA_args vs (off + 2) j w (by simpa using h)
        rw [show off + (j + 2) = off + 2 + j by omega]
        exact List.mem_cons_of_mem _ this
    · rename_i hc
      rw [if_neg hc]
      match j, h with
      | 0, h => simp at h; rw [← h]; exact List.mem_cons_self
      | j + 1, h =>
        have := entA_args vs (off + 1) j w (by simpa using h)
        rw [show off + (j + 1) = off + 1 + j by omega]
        exact List.mem_cons_of_mem _ this
theorem entA_len : ∀ vs : List Value, (entA vs).length = (lg_sl vs).length
  | [] => rfl
  | v :: vs => by
    unfold entA
    have e : lg_sl (v :: vs) = (if v.category = 2 then [.val v, .second] else [.val v]) ++ lg_sl vs := rfl
    rw [e]
    split <;> simp [entA_len vs] <;> omega
theorem ent_has (q : Nat) (vs : List Value) (h : (entA vs).length ≤ mL q) : lv_has ((lg_sl vs ++ List.replicate (mL q - (lg_sl vs).length) Slot.unset).toArray) (mL q) (lA (ent q vs)) := by
  refine lv_mono (lv_entry vs (n := mL q) (by rw [← entA_len]; exact h)) fun x hx => ?_
  obtain ⟨j, w⟩ := x
  obtain ⟨h1, -⟩ := lA_mem.mp hx
  unfold ent at h1
  have hj : j < (entA vs).length := by
    rcases Nat.lt_or_ge j (entA vs).length with q | q
    · exact q
    · rw [List.getElem?_append_right q] at h1
      have := List.mem_of_getElem? h1
      have := List.eq_of_mem_replicate this
      cases this
  rw [List.getElem?_append_left hj] at h1
  have := entA_args vs 0 j w h1
  rwa [Nat.zero_add] at this
theorem ent_len (q : Nat) (vs : List Value) (h : (entA vs).length ≤ mL q) : (ent q vs).length = mL q := by
  unfold ent
  rw [List.length_append, List.length_replicate]
  omega
/-! the world -/
/-- classes and slots; the first new address, the arrays' classes; the script: its cell, length, ints, the heap at the start -/
abbrev GT : Type := va_G × (Nat × (Nat → ClassId)) × (Nat × Nat × (Nat → Int32) × Heap)
def gB (G : GT) : Nat := G.2.1.1
def gR (G : GT) : Nat → ClassId := G.2.1.2
def gb (G : GT) : Nat := G.2.2.1
def gL (G : GT) : Nat := G.2.2.2.1
def gX (G : GT) : Nat → Int32 := G.2.2.2.2.1
def gH (G : GT) : Heap := G.2.2.2.2.2
def arTy : Nat → FieldType := fun k => if k = 1 then .int else if k = 2 then .long else .object (AON k)
def elV (M : SM) (a k j : Nat) : Value := if k = 1 then .int (mI M a j) else if k = 2 then .long (mJ M a j) else va_rf (mP M a j)
def wAt (G : GT) (M : SM) (a : Nat) (H : Heap) : Prop :=
  ((mK M a).1 = 5 → a = gb G ∧ (mK M a).2 = gL G ∧ mI M a = gX G ∧ H[a]? = (gH G)[a]?) ∧
  (∀ k, (mK M a).1 = k → 1 ≤ k → k ≤ 4 → gB G ≤ a ∧ H[a]? = some (arrV (gR G k) (mK M a).2 (elV M a k))) ∧
  (∀ ci, ci < nCl → (mK M a).1 = 10 + ci → gB G ≤ a ∧ t_OB a (G.1.1 ci) (NN ci) (G.1.2 ci) H (fv M a ci))
def Wld (G : GT) (M : SM) (H : Heap) : Prop := H.size = mS M ∧ gB G ≤ mS M ∧ gb G < gB G ∧ ∀ a, wAt G M a H
def nstN (e : Nat × Nat × Nat × Nat × Nat) : Cond := .methodLinkNest (CN e.1) e.2.1 (yN e.2.2.1) NH
def Kn (G : GT) (U : State) : Prop := va_K G.1 classes [] U ∧ (∀ k, 1 ≤ k → k ≤ 4 → ArrOfT U (gR G k) (arTy k) ∧ va_RA U (gR G k) (arTy k)) ∧ va_X (gb G) (gL G) (gX G) U (gH G) ∧ (∀ e ∈ calT, e.2.2.2.1 % 2 = 1 → va_Nw (nstN e) U) ∧ va_AO (AON 3) U ∧ va_AO (AON 4) U
theorem Kn.moved {G : GT} {s U : State} (hW : s.WarmedH U.vm) (h : Kn G s) : Kn G U :=
  ⟨h.1.moved hW.alike, fun k h1 h2 => ⟨arrOfT_moved hW.alike (h.2.1 k h1 h2).1, (h.2.1 k h1 h2).2.moved hW.alike⟩, h.2.2.1.moved hW.alike, fun e he ho => va_Nw.warmM hW (h.2.2.2.1 e he ho), h.2.2.2.2.1.moved hW.alike, h.2.2.2.2.2.moved hW.alike⟩
theorem Kn.blind {G : GT} {U : State} {g : JFrame} {mk : MethodId} {a : Array Value} (h : Kn G U) : Kn G (U.calling g mk a) :=
  ⟨h.1.moved (u := U) (U := U.calling g mk a) (Vm.Alike.refl U.vm), fun k h1 h2 => ⟨arrOfT_moved (u := U) (Vm.Alike.refl U.vm) (h.2.1 k h1 h2).1, (h.2.1 k h1 h2).2.moved (u := U) (U := U.calling g mk a) (Vm.Alike.refl U.vm)⟩, h.2.2.1.moved (u := U) (U := U.calling g mk a) (Vm.Alike.refl U.vm), fun e he ho => va_Nw.same rfl (u := U) (U := U.calling g mk a) rfl (h.2.2.2.1 e he ho), h.2.2.2.2.1.moved (u := U) (U := U.calling g mk a) (Vm.Alike.refl U.vm), h.2.2.2.2.2.moved (u := U) (U := U.calling g mk a) (Vm.Alike.refl U.vm)⟩
theorem wAt.kept {G : GT} {M M' : SM} {a : Nat} {H H' : Heap} (h : wAt G M a H) (hk : mK M' a = mK M a) (hi : mI M' a = mI M a) (hj : mJ M' a = mJ M a) (hp : mP M' a = mP M a) (hg : gb G < H.size) (hh : a < H.size → H'[a]? = H[a]?) : wAt G M' a H' := by
  have e1 : ∀ k, elV M' a k = elV M a k := fun k => by funext j; simp only [elV, hi, hj, hp]
  have e2 : ∀ ci, fv M' a ci = fv M a ci := fun ci => by funext j; simp only [fv, hi, hj, hp]
  refine ⟨fun h5 => ?_, fun k h1 h2 h3 => ?_, fun ci h1 h2 => ?_⟩
  · rw [hk] at h5 ⊢
    obtain ⟨a1, a2, a3, a4⟩ := h.1 h5
    exact ⟨a1, a2, hi.trans a3, (hh (by rw [a1]; exact hg)).trans a4⟩
  · rw [hk] at h1 ⊢
    obtain ⟨a1, a2⟩ := h.2.1 k h1 h2 h3
    exact ⟨a1, by rw [hh (Array.getElem?_eq_some_iff.mp a2).1, a2, e1]⟩
  · rw [hk] at h2
    obtain ⟨a1, a2⟩ := h.2.2 ci h1 h2
    exact ⟨a1, by rw [e2]; exact a2.kept (hh (by obtain ⟨cell, q, -⟩ := a2; exact (Array.getElem?_eq_some_iff.mp q).1))⟩
/-- one cell is written -/
theorem Wld.upd {G : GT} {M M' : SM} {H H' : Heap} {a : Nat} (h : Wld G M H) (hK : mK M' = mK M) (hS : mS M' = mS M) (hi : ∀ b, b ≠ a → mI M' b = mI M b) (hj : ∀ b, b ≠ a → mJ M' b = mJ M b) (hp : ∀ b, b ≠ a → mP M' b = mP M b) (hz : H'.size = H.size) (ho : ∀ b, b ≠ a → H'[b]? = H[b]?) (ha : wAt G M' a H') : Wld G M' H' := by
  refine ⟨by rw [hz, hS]; exact h.1, by rw [hS]; exact h.2.1, h.2.2.1, fun b => ?_⟩
  by_cases hb : b = a
  · subst hb; exact ha
  · exact (h.2.2.2 b).kept (by rw [hK]) (hi b hb) (hj b hb) (hp b hb) (by rw [h.1]; have := h.2.1; have := h.2.2.1; omega) (fun _ => ho b hb)
theorem mI_nw {M : SM} {kd : Nat × Nat} {u b : Nat} (h : b ≠ mS M) : mI (nw M kd u) b = mI M b := if_neg h
theorem mJ_nw {M : SM} {kd : Nat × Nat} {u b : Nat} (h : b ≠ mS M) : mJ (nw M kd u) b = mJ M b := if_neg h
theorem mP_nw {M : SM} {kd : Nat × Nat} {u b : Nat} (h : b ≠ mS M) : mP (nw M kd u) b = mP M b := if_neg h
theorem mK_nw {M : SM} {kd : Nat × Nat} {u b : Nat} (h : b ≠ mS M) : mK (nw M kd u) b = mK M b := if_neg h
theorem mI_nw0 (M : SM) (kd : Nat × Nat) (u : Nat) : mI (nw M kd u) (mS M) = fun _ => 0 := if_pos rfl
theorem mJ_nw0 (M : SM) (kd : Nat × Nat) (u : Nat) : mJ (nw M kd u) (mS M) = fun _ => 0 := if_pos rfl
theorem mP_nw0 (M : SM) (kd : Nat × Nat) (u : Nat) : mP (nw M kd u) (mS M) = fun _ => none := if_pos rfl
theorem mK_nw0 (M : SM) (kd : Nat × Nat) (u : Nat) : mK (nw M kd u) (mS M) = kd := if_pos rfl
/-- one cell is made -/
theorem Wld.push {G : GT} {M : SM} {H H' : Heap} {kd : Nat × Nat} {u : Nat} (h : Wld G M H) (hz : H'.size = mS M + 1) (ho : ∀ b, b < mS M → H'[b]? = H[b]?) (ha : wAt G (nw M kd u) (mS M) H') : Wld G (nw M kd u) H' := by
  refine ⟨hz, Nat.le_succ_of_le h.2.1, h.2.2.1, fun b => ?_⟩
  by_cases hb : b = mS M
  · subst hb; exact ha
  · exact (h.2.2.2 b).kept (mK_nw hb) (mI_nw hb) (mJ_nw hb) (mP_nw hb) (by rw [h.1]; have := h.2.1; have := h.2.2.1; omega) (fun hl => ho b (by rw [← h.1]; exact hl))
theorem mI_sI (M : SM) (a : Nat) (f : Nat → Int32) (b : Nat) : mI (sI M a f) b = if b = a then f else mI M b := rfl
theorem mJ_sJ (M : SM) (a : Nat) (f : Nat → Int64) (b : Nat) : mJ (sJ M a f) b = if b = a then f else mJ M b := rfl
theorem mP_sP (M : SM) (a : Nat) (f : Nat → Option Nat) (b : Nat) : mP (sP M a f) b = if b = a then f else mP M b := rfl
theorem Wld.sI {G : GT} {M : SM} {H H' : Heap} {a : Nat} {f : Nat → Int32} (h : Wld G M H) (hz : H'.size = H.size) (ho : ∀ b, b ≠ a → H'[b]? = H[b]?) (ha : wAt G (sI M a f) a H') : Wld G (sI M a f) H' :=
  h.upd rfl rfl (fun b hb => by rw [mI_sI, if_neg hb]) (fun _ _ => rfl) (fun _ _ => rfl) hz ho ha
theorem Wld.sJ {G : GT} {M : SM} {H H' : Heap} {a : Nat} {f : Nat → Int64} (h : Wld G M H) (hz : H'.size = H.size) (ho : ∀ b, b ≠ a → H'[b]? = H[b]?) (ha : wAt G (sJ M a f) a H') : Wld G (sJ M a f) H' :=
  h.upd rfl rfl (fun _ _ => rfl) (fun b hb => by rw [mJ_sJ, if_neg hb]) (fun _ _ => rfl) hz ho ha
theorem Wld.sP {G : GT} {M : SM} {H H' : Heap} {a : Nat} {f : Nat → Option Nat} (h : Wld G M H) (hz : H'.size = H.size) (ho : ∀ b, b ≠ a → H'[b]? = H[b]?) (ha : wAt G (sP M a f) a H') : Wld G (sP M a f) H' :=
  h.upd rfl rfl (fun _ _ => rfl) (fun _ _ => rfl) (fun b hb => by rw [mP_sP, if_neg hb]) hz ho ha
/-- what holds along a method -/
def Cx (G : GT) (q : Nat) (p : Program) (R : Room) (s : State) (m : MethodId) (args : Array Value) (meth : Method) (c : Code) : Prop :=
  p.tables.exec = Jvm.exec ∧ c.code = mB q ∧ c.maxLocals = mL q ∧ s.vm.findClass (CN (ow q)) = some m.cls ∧ (∀ w ∈ lw_gd, w.before args s = true) ∧ Kn G s ∧ (isI q = true → meth.name = "<init>") ∧ dp q ≤ R.frames ∧ 36 * dp q ≤ R.locals
def Sd (G : GT) (q : Nat) (M : SM) (H : Heap) (locs : List Loc) (ls : Array Slot) (lv : List (Option Value)) : Prop := Wld G M H ∧ (∀ x ∈ locs, gB G ≤ x.base) ∧ lv_has ls (mL q) (lA lv) ∧ lv.length = mL q
theorem Sd.heap {G : GT} {q : Nat} {M M' : SM} {H H' : Heap} {locs : List Loc} {ls : Array Slot} {lv : List (Option Value)} {a k : Nat} (h : Sd G q M H locs ls lv) (hw : Wld G M' H') (ha : gB G ≤ a) : Sd G q M' H' (locs ++ [⟨a, k⟩]) ls lv := by
  refine ⟨hw, fun x hx => ?_, h.2.2⟩
  rcases List.mem_append.mp hx with h1 | h1
  · exact h.2.1 x h1
  · rw [List.mem_singleton.mp h1]; exact ha
theorem inR_vp {i : Int32} {n : Nat} (h : inR i n) : ¬ (i < 0 ∨ n ≤ i.toNatClampNeg) := fun q => q.elim h.1 (fun z => absurd h.2 (Nat.not_lt.mpr z))
end
section
/-! fields, rows, new cells: the machine's instruction over the small machine's memory -/
theorem fld_spec {own i ci k : Nat} (h : fld own i = some (ci, k)) : Cond.fieldLink (CN own) i (TT ci k).1 (TT ci k).2.1 (TT ci k).2.2.1 ∈ lw_gd ∧ k < NN ci ∧ ci < nCl := by
  unfold fld at h
  cases hf : fldT.find? (fun e => e.1 == own && e.2.1 == i) with
  | none => rw [hf] at h; cases h
  | some e =>
    rw [hf] at h
    cases h
    have h1 := List.find?_some hf
    have h2 := List.all_eq_true.mp fldA e (List.mem_of_find?_eq_some hf)
    simp only [Bool.and_eq_true, beq_iff_eq] at h1
    simp only [fldOK, Bool.and_eq_true] at h2
    obtain ⟨⟨h3, h4⟩, h5⟩ := h2
    obtain ⟨rfl, rfl⟩ := h1
    exact ⟨hasW_in h3, Nat.le_of_ble_eq_true h4, Nat.le_of_ble_eq_true h5⟩
theorem lay_in {ci : Nat} (h : ci < nCl) : ∀ w ∈ u_ws (CN ci) (TT ci) (NN ci), w ∈ lw_gd := by
  intro w hw
  obtain ⟨k, hk, rfl⟩ := List.mem_map.mp hw
  exact hasW_in (List.all_eq_true.mp (List.all_eq_true.mp layA ci (List.mem_range.mpr h)) k hk)
theorem ty_ok {ci k : Nat} (h : ci < nCl) (hk : k < NN ci) : parseFieldDescriptor (TT ci k).2.2.1 = some (tT ci k) ∧ (TT ci k).1 = CN ci ∧ defaultValue (tT ci k) = (match fT ci k with | 0 => .int 0 | 1 => .long 0 | 2 => .null | _ => .int 0) := by
  have h2 := List.all_eq_true.mp (List.all_eq_true.mp tyA ci (List.mem_range.mpr h)) k (List.mem_range.mpr hk)
  simp only [Bool.and_eq_true, decide_eq_true_eq, beq_iff_eq] at h2
  exact ⟨h2.1.1, h2.1.2, h2.2⟩
theorem nm_ok {ci : Nat} (h : ci < nCl) : ∀ a, a < NN ci → ∀ b, b < NN ci → a ≠ b → (TT ci a).2.1 ≠ (TT ci b).2.1 := by
  intro a ha b hb hne
  have h2 := List.all_eq_true.mp (List.all_eq_true.mp (List.all_eq_true.mp nmA ci (List.mem_range.mpr h)) a (List.mem_range.mpr ha)) b (List.mem_range.mpr hb)
  simp only [Bool.or_eq_true, beq_iff_eq, bne_iff_ne] at h2
  exact h2.resolve_left hne
theorem fk_ok {ci k : Nat} (h : ci < nCl) (hk : k < NN ci) : fKOK (tT ci k) (fT ci k) = true := List.all_eq_true.mp (List.all_eq_true.mp fkA ci (List.mem_range.mpr h)) k (List.mem_range.mpr hk)
theorem put_i {ci k : Nat} {x : Int32} (h : ci < nCl) (hk : k < NN ci) (hf : fT ci k = 0 ∨ (fT ci k = 3 ∧ (x = 0 ∨ x = 1))) : narrow (tT ci k) (.int x) = .int x ∧ fits (tT ci k) (.int x) = true := by
  have h2 := fk_ok h hk
  rcases hf with hf | ⟨hf, hx⟩
  · rw [hf] at h2
    cases ht : tT ci k <;> rw [ht] at h2 <;> first | exact ⟨rfl, rfl⟩ | (simp [fKOK] at h2)
  · rw [hf] at h2
    cases ht : tT ci k <;> rw [ht] at h2 <;> first | (rcases hx with rfl | rfl <;> exact ⟨by decide, by decide⟩) | (simp [fKOK] at h2)
theorem put_l {ci k : Nat} {x : Int64} (h : ci < nCl) (hk : k < NN ci) (hf : fT ci k = 1) : narrow (tT ci k) (.long x) = .long x ∧ fits (tT ci k) (.long x) = true := by
  have h2 := fk_ok h hk
  rw [hf] at h2
  cases ht : tT ci k <;> rw [ht] at h2 <;> first | exact ⟨rfl, rfl⟩ | (simp [fKOK] at h2)
theorem put_r {ci k : Nat} {x : Nat} (h : ci < nCl) (hk : k < NN ci) (hf : fT ci k = 2) : narrow (tT ci k) (.ref x) = .ref x ∧ fits (tT ci k) (.ref x) = true := by
  have h2 := fk_ok h hk
  rw [hf] at h2
  cases ht : tT ci k <;> rw [ht] at h2 <;> first | exact ⟨rfl, rfl⟩ | (simp [fKOK] at h2)
theorem ini_nm {q : Nat} (h : isI q = true) (hq : q < 177) : (yN q).name = "<init>" ∧ mRt q = none := by
  have h2 := List.all_eq_true.mp iniA q (List.mem_range.mpr hq)
  rw [h] at h2
  simp only [Bool.not_true, Bool.false_or, Bool.and_eq_true, beq_iff_eq] at h2
  exact h2
theorem elI (M : SM) (a : Nat) : elV M a 1 = fun j => .int (mI M a j) := rfl
theorem elJ (M : SM) (a : Nat) : elV M a 2 = fun j => .long (mJ M a j) := rfl
theorem elP (M : SM) (a k : Nat) (hk : k = 3 ∨ k = 4) : elV M a k = fun j => va_rf (mP M a j) := by rcases hk with rfl | rfl <;> rfl
section HP
variable {p : Program} {l : Launch} {e : Env} {R : Room} {s : State} {m : MethodId} {args : Array Value} {below : List Frame} {meth : Method} {c : Code} {H : Heap} {locs : List Loc} {cells slots : Nat} {Q : State → Prop}
variable {G : GT} {q : Nat} {M : SM} {pc : Nat} {ls : Array Slot} {lv : List (Option Value)} {rest : List Value}
theorem s_get (C : Cx G q p R s m args meth c) (S : Sd G q M H locs ls lv) {i ci k a : Nat} (hf : fld (ow q) i = some (ci, k)) (hk : mK M a = (10 + ci, 0)) (hd : decode (mB q) pc = .ok (.getfield i, 3))
    (kk : W p l e R s m args below meth c H locs cells slots Q (F0 m (pc + 3) ls (fv M a ci k :: rest))) : W p l e R s m args below meth c H locs cells slots Q (F0 m pc ls (.ref a :: rest)) := by
  obtain ⟨hx, hb, -, hown, hts, hK, -⟩ := C
  obtain ⟨h1, h2, h3⟩ := fld_spec hf
  obtain ⟨-, cell, q1, q2, q3, q4⟩ := (S.1.2.2.2 a).2.2 ci h3 (by rw [hk])
  obtain ⟨hS, hfc, kC, hkC, hkind⟩ := hK.1.1 ci _ (cls_at ci h3)
  obtain ⟨cf, kf, fi, f, hi, hsl⟩ := hS k h2
  exact W.getf hx hb hown (hts _ h1) hi (u_facts hfc hkC (u_lays hts (lay_in h3) h2) hi).1 q1 (by rw [q3]; exact fun h => by cases h) (v := fv M a ci k) (by rw [hsl]; exact q4 k h2) rfl rfl hd kk
theorem s_put (C : Cx G q p R s m args meth c) (S : Sd G q M H locs ls lv) {i ci k a : Nat} {v : Value} (hq : q < 177) (hf : fld (ow q) i = some (ci, k)) (hk : mK M a = (10 + ci, 0)) (hfin : finOK ci k q = true) (hv : narrow (tT ci k) v = v ∧ fits (tT ci k) v = true) (hd : decode (mB q) pc = .ok (.putfield i, 3))
    (kk : ∀ (H1 : Heap) (j : Nat), gB G ≤ a → H1.size = H.size → (∀ b, b ≠ a → H1[b]? = H[b]?) → t_OB a (G.1.1 ci) (NN ci) (G.1.2 ci) H1 (updV (fv M a ci) k v) → W p l e R s m args below meth c H1 (locs ++ [⟨a, j⟩]) cells slots Q (F0 m (pc + 3) ls rest)) : W p l e R s m args below meth c H locs cells slots Q (F0 m pc ls (v :: .ref a :: rest)) := by
  obtain ⟨hx, hb, -, hown, hts, hK, hin, -⟩ := C
  obtain ⟨h1, h2, h3⟩ := fld_spec hf
  obtain ⟨hB, cell, q1, q2, q3, q4⟩ := (S.1.2.2.2 a).2.2 ci h3 (by rw [hk])
  have hKn := hK.1.1 ci _ (cls_at ci h3)
  have hap := va_apart (own := CN (ow q)) hts (lay_in h3) (tT ci) (fun k hk => (ty_ok h3 hk).1) (nm_ok h3) hK.1 (cls_at ci h3)
  obtain ⟨hS, hfc, kC, hkC, hkind⟩ := hKn
  obtain ⟨cf, kf, fi, f, hi, hsl⟩ := hS k h2
  have hl := u_lays hts (lay_in h3) h2
  have hst := (u_facts hfc hkC hl hi).1
  have hlay := hts _ (lay_in h3 _ (u_in_lay h2))
  unfold u_lay at hlay
  by_cases hfn : (TT ci k).2.2.2 = true
  · rw [if_pos hfn] at hlay
    unfold finOK at hfin
    rw [hfn] at hfin
    simp only [Bool.not_true, Bool.false_or, Bool.and_eq_true, beq_iff_eq] at hfin
    have hcf : m.cls = cf := by
      obtain ⟨_, _, c', _, _, _, -, -, hf', -, -, -, hown2, -⟩ := Cond.laysFinal_spec hlay
      have e1 : c' = cf := by have := hi.symm.trans hf'; simp at this; exact this.1.symm
      rw [(ty_ok h3 h2).2.1, hfin.2] at hown2
      rw [← e1]; exact Option.some.inj (hown.symm.trans hown2)
    have h6 := u_fits hfc hkC hkind (Or.inr hlay) hi (ty_ok h3 h2).1 hv.1 hv.2
    refine W.putFinK hx hb hown (hts _ h1) hi hst hcf (hin hfin.1) (by rw [q2]; exact h6) q1 q3 (by rw [hsl]; exact k2_hasslot (q4 k h2)) rfl rfl hd fun H' e1 e2 e3 => ?_
    rw [hsl] at e1 ⊢
    exact kk H' _ hB e2 e3 ⟨_, e1, q2, q3, t_set q4 hap h2 v⟩
  · rw [if_neg hfn] at hlay
    have h6 := u_store hfc hkC hkind hlay hi (ty_ok h3 h2).1 hv.1 hv.2
    refine W.putK hx hb (f := f) ⟨hown, hts _ h1, ⟨_, _, _, hi⟩, hst⟩ (by rw [q2]; exact h6) q1 q3 (by rw [hsl]; exact k2_hasslot (q4 k h2)) rfl rfl hd fun H' e1 e2 e3 => ?_
    rw [hsl] at e1 ⊢
    exact kk H' _ hB e2 e3 ⟨_, e1, q2, q3, t_set q4 hap h2 v⟩
theorem fv_sI {ci k a : Nat} {x : Int32} (hf : fT ci k = 0 ∨ fT ci k = 3) : updV (fv M a ci) k (.int x) = fv (sI M a (va_up (mI M a) k x)) a ci := by
  funext j
  unfold updV fv
  by_cases hj : j = k
  · subst hj
    rw [if_pos rfl, mI_sI, if_pos rfl, va_up_self]
    rcases hf with hf | hf <;> rw [hf] <;> rfl
  · rw [if_neg hj, mI_sI, if_pos rfl, va_up_ne _ _ hj]
    rfl
theorem fv_sJ {ci k a : Nat} {x : Int64} (hf : fT ci k = 1) : updV (fv M a ci) k (.long x) = fv (sJ M a (va_up (mJ M a) k x)) a ci := by
  funext j
  unfold updV fv
  by_cases hj : j = k
  · subst hj
    rw [if_pos rfl, mJ_sJ, if_pos rfl, va_up_self, hf]
    rfl
  · rw [if_neg hj, mJ_sJ, if_pos rfl, va_up_ne _ _ hj]
    rfl
theorem fv_sP {ci k a b : Nat} (hf : fT ci k = 2) : updV (fv M a ci) k (.ref b) = fv (sP M a (va_up (mP M a) k (some b))) a ci := by
  funext j
  unfold updV fv
  by_cases hj : j = k
  · subst hj
    rw [if_pos rfl, mP_sP, if_pos rfl, va_up_self, hf]
    rfl
  · rw [if_neg hj, mP_sP, if_pos rfl, va_up_ne _ _ hj]
    rfl
/-- an object's cell, written -/
theorem wAt_obj {M' : SM} {a ci : Nat} {H' : Heap} (h : ci < nCl) (hk : mK M' a = (10 + ci, 0)) (hB : gB G ≤ a) (ho : t_OB a (G.1.1 ci) (NN ci) (G.1.2 ci) H' (fv M' a ci)) : wAt G M' a H' := by
  refine ⟨fun h5 => ?_, fun k h1 h2 h3 => ?_, fun ci' h1 h2 => ?_⟩
  · rw [hk] at h5; simp at h5; omega
  · rw [hk] at h1; simp at h1; omega
  · rw [hk] at h2
    have : ci' = ci := by simp at h2; omega
    subst this
    exact ⟨hB, ho⟩
theorem wAt_arr {M' : SM} {a k n : Nat} {H' : Heap} (hk1 : 1 ≤ k) (hk4 : k ≤ 4) (hk : mK M' a = (k, n)) (hB : gB G ≤ a) (ho : H'[a]? = some (arrV (gR G k) n (elV M' a k))) : wAt G M' a H' := by
  refine ⟨fun h5 => ?_, fun k' h1 h2 h3 => ?_, fun ci' h1 h2 => ?_⟩
  · rw [hk] at h5; simp at h5; omega
  · rw [hk] at h1
    have : k' = k := by simp at h1; omega
    subst this
    exact ⟨hB, by rw [hk]; exact ho⟩
  · rw [hk] at h2; simp at h2; omega
theorem s_iald (C : Cx G q p R s m args meth c) (S : Sd G q M H locs ls lv) {a : Nat} {i : Int32} (hk : (mK M a).1 = 1 ∨ (mK M a).1 = 5) (hi : inR i (mK M a).2) (hd : decode (mB q) pc = .ok (.iaload, 1))
    (kk : W p l e R s m args below meth c H locs cells slots Q (F0 m (pc + 1) ls (.int (mI M a i.toNatClampNeg) :: rest))) : W p l e R s m args below meth c H locs cells slots Q (F0 m pc ls (.int i :: .ref a :: rest)) := by
  obtain ⟨hx, hb, -, hown, hts, hK, -⟩ := C
  rcases hk with hk | hk
  · obtain ⟨-, h1⟩ := (S.1.2.2.2 a).2.1 1 hk (by omega) (by omega)
    have hA := (hK.2.1 1 (by omega) (by omega)).1
    exact W.iald (v := .int (mI M a i.toNatClampNeg)) hx hb h1 (hA _ _) (fun q => by cases q) (by rw [arrV_size]; exact inR_vp hi) (by rw [arrV_read _ _ hi.2]; rfl) rfl rfl hd kk
  · obtain ⟨h1, h2, h3, h4⟩ := (S.1.2.2.2 a).1 hk
    obtain ⟨scr, g1, g2, g3, g4, g5⟩ := hK.2.2.1
    refine W.iald (v := .int (mI M a i.toNatClampNeg)) hx hb (by rw [h4, h1]; exact g1) g2 g3 (by rw [g4, ← h2]; exact inR_vp hi) (by rw [h3]; exact g5 _ (by rw [← h2]; exact hi.2)) rfl rfl hd kk
theorem s_lald (C : Cx G q p R s m args meth c) (S : Sd G q M H locs ls lv) {a : Nat} {i : Int32} (hk : (mK M a).1 = 2) (hi : inR i (mK M a).2) (hd : decode (mB q) pc = .ok (.laload, 1))
    (kk : W p l e R s m args below meth c H locs cells slots Q (F0 m (pc + 1) ls (.long (mJ M a i.toNatClampNeg) :: rest))) : W p l e R s m args below meth c H locs cells slots Q (F0 m pc ls (.int i :: .ref a :: rest)) := by
  obtain ⟨hx, hb, -, hown, hts, hK, -⟩ := C
  obtain ⟨-, h1⟩ := (S.1.2.2.2 a).2.1 2 hk (by omega) (by omega)
  have hA := (hK.2.1 2 (by omega) (by omega)).1
  exact W.lald (v := .long (mJ M a i.toNatClampNeg)) hx hb h1 (hA _ _) (fun q => by cases q) (by rw [arrV_size]; exact inR_vp hi) (by rw [arrV_read _ _ hi.2]; rfl) rfl rfl hd kk
theorem s_aald (C : Cx G q p R s m args meth c) (S : Sd G q M H locs ls lv) {a : Nat} {i : Int32} (hk : (mK M a).1 = 3 ∨ (mK M a).1 = 4) (hi : inR i (mK M a).2) (hd : decode (mB q) pc = .ok (.aaload, 1))
    (kk : W p l e R s m args below meth c H locs cells slots Q (F0 m (pc + 1) ls (va_rf (mP M a i.toNatClampNeg) :: rest))) : W p l e R s m args below meth c H locs cells slots Q (F0 m pc ls (.int i :: .ref a :: rest)) := by
  obtain ⟨hx, hb, -, hown, hts, hK, -⟩ := C
  rcases hk with hk | hk
  · obtain ⟨-, h1⟩ := (S.1.2.2.2 a).2.1 3 hk (by omega) (by omega)
    have hA := (hK.2.1 3 (by omega) (by omega)).1
    exact W.aald (v := va_rf (mP M a i.toNatClampNeg)) (ty := .object (AON 3)) hx hb h1 (hA _ _) rfl (fun q => by cases q) (by rw [arrV_size]; exact inR_vp hi) (by rw [arrV_read _ _ hi.2]; rfl) rfl rfl hd kk
  · obtain ⟨-, h1⟩ := (S.1.2.2.2 a).2.1 4 hk (by omega) (by omega)
    have hA := (hK.2.1 4 (by omega) (by omega)).1
    exact W.aald (v := va_rf (mP M a i.toNatClampNeg)) (ty := .object (AON 4)) hx hb h1 (hA _ _) rfl (fun q => by cases q) (by rw [arrV_size]; exact inR_vp hi) (by rw [arrV_read _ _ hi.2]; rfl) rfl rfl hd kk
theorem s_alen (C : Cx G q p R s m args meth c) (S : Sd G q M H locs ls lv) {a : Nat} (hk : (mK M a).1 = 1 ∨ (mK M a).1 = 5) (hd : decode (mB q) pc = .ok (.arraylength, 1))
    (kk : W p l e R s m args below meth c H locs cells slots Q (F0 m (pc + 1) ls (.int (Int32.ofNat (mK M a).2) :: rest))) : W p l e R s m args below meth c H locs cells slots Q (F0 m pc ls (.ref a :: rest)) := by
  obtain ⟨hx, hb, -, hown, hts, hK, -⟩ := C
  rcases hk with hk | hk
  · obtain ⟨-, h1⟩ := (S.1.2.2.2 a).2.1 1 hk (by omega) (by omega)
    have hA := (hK.2.1 1 (by omega) (by omega)).1
    exact W.alen (n := Int32.ofNat (mK M a).2) hx hb h1 (hA _ _) (by rw [arrV_size]) rfl rfl hd kk
  · obtain ⟨h1, h2, h3, h4⟩ := (S.1.2.2.2 a).1 hk
    obtain ⟨scr, g1, g2, g3, g4, g5⟩ := hK.2.2.1
    exact W.alen (n := Int32.ofNat (mK M a).2) hx hb (by rw [h4, h1]; exact g1) g2 (by rw [g4, h2]) rfl rfl hd kk
theorem s_iast (C : Cx G q p R s m args meth c) (S : Sd G q M H locs ls lv) {a : Nat} {i x : Int32} (hk : (mK M a).1 = 1) (hi : inR i (mK M a).2) (hd : decode (mB q) pc = .ok (.iastore, 1))
    (kk : ∀ (H1 : Heap) (locs1 : List Loc), Sd G q (sI M a (va_up (mI M a) i.toNatClampNeg x)) H1 locs1 ls lv → W p l e R s m args below meth c H1 locs1 cells slots Q (F0 m (pc + 1) ls rest)) : W p l e R s m args below meth c H locs cells slots Q (F0 m pc ls (.int x :: .int i :: .ref a :: rest)) := by
  obtain ⟨hx, hb, -, hown, hts, hK, -⟩ := C
  obtain ⟨hB, h1⟩ := (S.1.2.2.2 a).2.1 1 hk (by omega) (by omega)
  have hA := (hK.2.1 1 (by omega) (by omega)).1
  refine W.iast hx hb h1 (hA _ _) (fun q => by cases q) (by rw [arrV_size]; exact inR_vp hi) rfl rfl hd fun H1 e1 z o => ?_
  refine kk H1 _ (S.heap (S.1.sI z o ?_) hB)
  refine wAt_arr (k := 1) (n := (mK M a).2) (by omega) (by omega) (by rw [← hk]; rfl) hB ?_
  rw [e1, arrV_store, elI, elI, mI_sI, if_pos rfl]
  congr 2
  funext j
  unfold updV va_up
  split <;> rfl
theorem s_last (C : Cx G q p R s m args meth c) (S : Sd G q M H locs ls lv) {a : Nat} {i : Int32} {x : Int64} (hk : (mK M a).1 = 2) (hi : inR i (mK M a).2) (hd : decode (mB q) pc = .ok (.lastore, 1))
    (kk : ∀ (H1 : Heap) (locs1 : List Loc), Sd G q (sJ M a (va_up (mJ M a) i.toNatClampNeg x)) H1 locs1 ls lv → W p l e R s m args below meth c H1 locs1 cells slots Q (F0 m (pc + 1) ls rest)) : W p l e R s m args below meth c H locs cells slots Q (F0 m pc ls (.long x :: .int i :: .ref a :: rest)) := by
  obtain ⟨hx, hb, -, hown, hts, hK, -⟩ := C
  obtain ⟨hB, h1⟩ := (S.1.2.2.2 a).2.1 2 hk (by omega) (by omega)
  have hA := (hK.2.1 2 (by omega) (by omega)).1
  refine W.last hx hb h1 (hA _ _) (fun q => by cases q) (by rw [arrV_size]; exact inR_vp hi) rfl rfl hd fun H1 e1 z o => ?_
  refine kk H1 _ (S.heap (S.1.sJ z o ?_) hB)
  refine wAt_arr (k := 2) (n := (mK M a).2) (by omega) (by omega) (by rw [← hk]; rfl) hB ?_
  rw [e1, arrV_store, elJ, elJ, mJ_sJ, if_pos rfl]
  congr 2
  funext j
  unfold updV va_up
  split <;> rfl
theorem s_aast (C : Cx G q p R s m args meth c) (S : Sd G q M H locs ls lv) {a b k n : Nat} {i : Int32} (hk3 : k = 3 ∨ k = 4) (hk : mK M a = (k, n)) (hkb : mK M b = (10 + aoC k, 0)) (hi : inR i n) (hd : decode (mB q) pc = .ok (.aastore, 1))
    (kk : ∀ (H1 : Heap) (locs1 : List Loc), Sd G q (sP M a (va_up (mP M a) i.toNatClampNeg (some b))) H1 locs1 ls lv → W p l e R s m args below meth c H1 locs1 cells slots Q (F0 m (pc + 1) ls rest)) : W p l e R s m args below meth c H locs cells slots Q (F0 m pc ls (.ref b :: .int i :: .ref a :: rest)) := by
  obtain ⟨hx, hb, -, hown, hts, hK, -⟩ := C
  have hkr : 1 ≤ k ∧ k ≤ 4 := by omega
  obtain ⟨hB, h1⟩ := (S.1.2.2.2 a).2.1 k (by rw [hk]) hkr.1 hkr.2
  rw [hk] at h1
  have hA := hK.2.1 k hkr.1 hkr.2
  have hci : aoC k < nCl := by rcases hk3 with rfl | rfl <;> decide
  obtain ⟨-, cellV, g1, g2, g3, -⟩ := (S.1.2.2.2 b).2.2 (aoC k) hci (by rw [hkb])
  have hcls := (hK.1.1 (aoC k) _ (cls_at _ hci)).2
  have hnm : arTy k = .object (CN (aoC k)) := by rcases hk3 with rfl | rfl <;> rfl
  have hRA := hA.2
  rw [hnm] at hRA
  obtain ⟨kA, comp, k1, k2, k3, -⟩ := hRA
  have hcomp : comp = G.1.1 (aoC k) := Option.some.inj (k3.symm.trans hcls.1)
  subst hcomp
  have hasg := va_assign hcls
  obtain ⟨-, kC, hkC, -⟩ := hcls
  refine W.aast hx hb h1 (fun q h => by cases h) (fun h => by cases h) k1 k2 rfl hkC ⟨hi.1, by rw [arrV_size]; exact hi.2⟩ g1 (fun q h => by rw [g3] at h; cases h) (by rw [g2]; exact hkC) (by rw [g2]; exact hasg) rfl rfl hd fun H1 e1 z o => ?_
  refine kk H1 _ (S.heap (S.1.sP z o ?_) hB)
  refine wAt_arr (k := k) (n := n) hkr.1 hkr.2 (by rw [← hk]; rfl) hB ?_
  rw [e1, arrV_store, elP _ _ _ hk3, elP _ _ _ hk3, mP_sP, if_pos rfl]
  congr 2
  funext j
  unfold updV va_up
  split <;> rfl
end HP
end
section
/-! new cells, arraycopy, Object's constructor -/
theorem ncl_spec {own i ci : Nat} (h : ncl own i = some ci) : Cond.classLink (CN own) i (CN ci) ∈ lw_gd := by
  unfold ncl at h
  cases hf : nclT.find? (fun e => e.1 == own && e.2.1 == i) with
  | none => rw [hf] at h; cases h
  | some e =>
    rw [hf] at h
    cases h
    have h1 := List.find?_some hf
    simp only [Bool.and_eq_true, beq_iff_eq] at h1
    obtain ⟨rfl, rfl⟩ := h1
    exact hasW_in (List.all_eq_true.mp nclA e (List.mem_of_find?_eq_some hf))
theorem cst_spec {own i : Nat} {x : Int64} (h : cst own i = some x) : Cond.constantLong (CN own) i x ∈ lw_gd := by
  unfold cst at h
  cases hf : cstT.find? (fun e => e.1 == own && e.2.1 == i) with
  | none => rw [hf] at h; cases h
  | some e =>
    rw [hf] at h
    cases h
    have h1 := List.find?_some hf
    simp only [Bool.and_eq_true, beq_iff_eq] at h1
    obtain ⟨rfl, rfl⟩ := h1
    exact hasW_in (List.all_eq_true.mp cstA e (List.mem_of_find?_eq_some hf))
theorem obj_spec {own i : Nat} (h : isObj own i = true) : Cond.methodLink (CN own) i objectInit ∈ lw_gd := by
  obtain ⟨e, he, h1⟩ := List.any_eq_true.mp h
  simp only [Bool.and_eq_true, beq_iff_eq] at h1
  obtain ⟨rfl, rfl⟩ := h1
  exact hasW_in (List.all_eq_true.mp objA e he)
theorem cpy_spec {own i : Nat} (h : isCpy own i = true) : Cond.methodLink (CN own) i arraycopyName ∈ lw_gd := by
  obtain ⟨e, he, h1⟩ := List.any_eq_true.mp h
  simp only [Bool.and_eq_true, beq_iff_eq] at h1
  obtain ⟨rfl, rfl⟩ := h1
  exact hasW_in (List.all_eq_true.mp cpyA e he)
theorem nn_clamp {z : Int32} (hz : ¬ z < 0) : z.toInt = (z.toNatClampNeg : Int) := by
  have hz0 : (0 : Int) ≤ z.toInt := by
    have := Int32.not_lt.mp hz
    simpa using Int32.le_iff_toInt_le.mp this
  show z.toInt = ((z.toInt.toNat : Nat) : Int)
  omega
theorem le_clamp {z : Int32} (h : z ≤ 100000) : z.toNatClampNeg ≤ 100000 := by
  have := Int32.le_iff_toInt_le.mp h
  have e : (100000 : Int32).toInt = 100000 := by decide
  show z.toInt.toNat ≤ 100000
  omega
section CL
variable {p : Program} {l : Launch} {e : Env} {R : Room} {s : State} {m : MethodId} {args : Array Value} {below : List Frame} {meth : Method} {c : Code} {H : Heap} {locs : List Loc} {cells slots : Nat} {Q : State → Prop}
variable {G : GT} {q : Nat} {M : SM} {pc : Nat} {ls : Array Slot} {lv : List (Option Value)} {rest : List Value}
theorem s_new (C : Cx G q p R s m args meth c) (S : Sd G q M H locs ls lv) {i ci : Nat} (hf : ncl (ow q) i = some ci) (hci : ci < nCl) (hcells : cells + 1 ≤ R.cells) (hslots : slots + NN ci ≤ R.slots) (hd : decode (mB q) pc = .ok (.new i, 3))
    (kk : ∀ H1 : Heap, Sd G q (nw M (10 + ci, 0) (NN ci)) H1 locs ls lv → W p l e R s m args below meth c H1 locs (cells + 1) (slots + NN ci) Q (F0 m (pc + 3) ls (.ref (mS M) :: rest))) : W p l e R s m args below meth c H locs cells slots Q (F0 m pc ls rest) := by
  obtain ⟨hx, hb, -, hown, hts, hK, -⟩ := C
  have hKn := hK.1.1 ci _ (cls_at ci hci)
  have hi := List.all_eq_true.mp insA ci (List.mem_range.mpr hci)
  rw [Bool.and_eq_true] at hi
  refine W.newcK hx hb hown (hts _ (ncl_spec hf)) (hts _ (hasW_in hi.1)) (hts _ (hasW_in hi.2)) rfl hd hcells hslots hKn.2.1 S.1.1 fun H1 kC hkC e1 z1 o1 => ?_
  refine kk H1 ⟨S.1.push z1 (fun b hb => o1 b hb) ?_, S.2⟩
  refine wAt_obj hci (mK_nw0 _ _ _) S.1.2.1 ((u_born (tT ci) hts (lay_in hci) hKn hkC e1 (fun k hk => (ty_ok hci hk).1)).to fun k hk => ?_)
  rw [(ty_ok hci hk).2.2]
  unfold fv
  rw [mI_nw0, mJ_nw0, mP_nw0]
  generalize fT ci k = z
  match z with
  | 0 => rfl
  | 1 => rfl
  | 2 => rfl
  | n + 3 => rfl
theorem s_newI (C : Cx G q p R s m args meth c) (S : Sd G q M H locs ls lv) {n : Int32} (h0 : 0 ≤ n) (h1 : n ≤ 100000) (hcells : cells + 1 ≤ R.cells) (hslots : slots + n.toNatClampNeg ≤ R.slots) (hd : decode (mB q) pc = .ok (.newarray .int, 2))
    (kk : ∀ H1 : Heap, Sd G q (nw M (1, n.toNatClampNeg) n.toNatClampNeg) H1 locs ls lv → W p l e R s m args below meth c H1 locs (cells + 1) (slots + n.toNatClampNeg) Q (F0 m (pc + 2) ls (.ref (mS M) :: rest))) : W p l e R s m args below meth c H locs cells slots Q (F0 m pc ls (.int n :: rest)) := by
  obtain ⟨hx, hb, -, hown, hts, hK, -⟩ := C
  have hc := le_clamp h1
  have ha := arcA
  rw [Bool.and_eq_true] at ha
  refine va_newaK (atype := .int) hx hb (hts _ (hasW_in ha.1)) rfl hd rfl (Int32.not_lt.mpr h0) rfl (by show n.toNatClampNeg * 4 ≤ _; omega) hcells hslots S.1.1 fun H1 cA e1 z1 o1 hAr hNm => ?_
  have hcA : cA = gR G 1 := Option.some.inj (hNm.symm.trans (hK.2.1 1 (by omega) (by omega)).2)
  subst hcA
  refine kk H1 ⟨S.1.push z1 (fun b hb => o1 b hb) (wAt_arr (k := 1) (n := n.toNatClampNeg) (by omega) (by omega) (mK_nw0 _ _ _) S.1.2.1 ?_), S.2⟩
  rw [e1, elI, mI_nw0]
  rfl
theorem s_newJ (C : Cx G q p R s m args meth c) (S : Sd G q M H locs ls lv) {n : Int32} (h0 : 0 ≤ n) (h1 : n ≤ 100000) (hcells : cells + 1 ≤ R.cells) (hslots : slots + n.toNatClampNeg ≤ R.slots) (hd : decode (mB q) pc = .ok (.newarray .long, 2))
    (kk : ∀ H1 : Heap, Sd G q (nw M (2, n.toNatClampNeg) n.toNatClampNeg) H1 locs ls lv → W p l e R s m args below meth c H1 locs (cells + 1) (slots + n.toNatClampNeg) Q (F0 m (pc + 2) ls (.ref (mS M) :: rest))) : W p l e R s m args below meth c H locs cells slots Q (F0 m pc ls (.int n :: rest)) := by
  obtain ⟨hx, hb, -, hown, hts, hK, -⟩ := C
  have hc := le_clamp h1
  have ha := arcA
  rw [Bool.and_eq_true] at ha
  refine va_newaK (atype := .long) hx hb (hts _ (hasW_in ha.2)) rfl hd rfl (Int32.not_lt.mpr h0) rfl (by show n.toNatClampNeg * 8 ≤ _; omega) hcells hslots S.1.1 fun H1 cA e1 z1 o1 hAr hNm => ?_
  have hcA : cA = gR G 2 := Option.some.inj (hNm.symm.trans (hK.2.1 2 (by omega) (by omega)).2)
  subst hcA
  refine kk H1 ⟨S.1.push z1 (fun b hb => o1 b hb) (wAt_arr (k := 2) (n := n.toNatClampNeg) (by omega) (by omega) (mK_nw0 _ _ _) S.1.2.1 ?_), S.2⟩
  rw [e1, elJ, mJ_nw0]
  rfl
theorem s_newP (C : Cx G q p R s m args meth c) (S : Sd G q M H locs ls lv) {n : Int32} {i k : Nat} (hk : k = 3 ∨ k = 4) (hf : ncl (ow q) i = some (aoC k)) (h0 : 0 ≤ n) (h1 : n ≤ 100000) (hcells : cells + 1 ≤ R.cells) (hslots : slots + n.toNatClampNeg ≤ R.slots) (hd : decode (mB q) pc = .ok (.anewarray i, 3))
    (kk : ∀ H1 : Heap, Sd G q (nw M (k, n.toNatClampNeg) n.toNatClampNeg) H1 locs ls lv → W p l e R s m args below meth c H1 locs (cells + 1) (slots + n.toNatClampNeg) Q (F0 m (pc + 3) ls (.ref (mS M) :: rest))) : W p l e R s m args below meth c H locs cells slots Q (F0 m pc ls (.int n :: rest)) := by
  obtain ⟨hx, hb, -, hown, hts, hK, -⟩ := C
  have hc := le_clamp h1
  have hAO : va_AO (CN (aoC k)) s := hk.elim (fun z => by rw [z]; exact hK.2.2.2.2.1) (fun z => by rw [z]; exact hK.2.2.2.2.2)
  refine W.anew hx hb hown (hts _ (ncl_spec hf)) (va_AO.use hAO) rfl hd rfl (Int32.not_lt.mpr h0) (by omega) hcells hslots fun cA kA comp f1 f2 f3 f4 => ?_
  have hRA := (hK.2.1 k (by omega) (by omega)).2
  have hnm : arTy k = .object (CN (aoC k)) := by rcases hk with rfl | rfl <;> rfl
  rw [hnm] at hRA
  obtain ⟨kA', comp', k1, k2, k3, k4⟩ := hRA
  have hcA : cA = gR G k := Option.some.inj (f1.symm.trans k4)
  subst hcA
  rw [S.1.1]
  refine kk _ ⟨S.1.push (by rw [Array.size_push, S.1.1]) (fun b hb => by rw [Array.getElem?_push, if_neg (by rw [S.1.1]; omega)]) (wAt_arr (k := k) (n := n.toNatClampNeg) (by omega) (by omega) (mK_nw0 _ _ _) S.1.2.1 ?_), S.2⟩
  rw [← S.1.1, Array.getElem?_push_size, arrV_new, S.1.1, elP _ _ _ hk, mP_nw0]
  rfl
theorem s_cpy (C : Cx G q p R s m args meth c) (S : Sd G q M H locs ls lv) (hls : ls.size = mL q) {i a a0 k : Nat} {sp dp0 n : Int32} (hk : k = 1 ∨ k = 2) (hka : (mK M a).1 = k) (hkb : (mK M a0).1 = k) (hf : isCpy (ow q) i = true)
    (h1 : ¬ sp < 0) (h2 : ¬ dp0 < 0) (h3 : ¬ n < 0) (h4 : sp.toNatClampNeg + n.toNatClampNeg ≤ (mK M a0).2) (h5 : dp0.toNatClampNeg + n.toNatClampNeg ≤ (mK M a).2)
    (hr : catS rest ≤ 8) (hdp : 1 ≤ dp q) (hd : decode (mB q) pc = .ok (.invokestatic i, 3))
    (kk : ∀ (H1 : Heap) (locs1 : List Loc), gB G ≤ a → (∀ x ∈ locs1, gB G ≤ x.base) → H1.size = H.size → (∀ b, b ≠ a → H1[b]? = H[b]?) → H1[a]? = some (arrV (gR G k) (mK M a).2 (fun j => if dp0.toNatClampNeg ≤ j ∧ j < dp0.toNatClampNeg + n.toNatClampNeg then elV M a0 k (sp.toNatClampNeg + (j - dp0.toNatClampNeg)) else elV M a k j)) → W p l e R s m args below meth c H1 locs1 cells slots Q (F0 m (pc + 3) ls rest)) : W p l e R s m args below meth c H locs cells slots Q (F0 m pc ls (.int n :: .int dp0 :: .ref a :: .int sp :: .ref a0 :: rest)) := by
  obtain ⟨hx, hb, hml, hown, hts, hK, -, hfr, hlo⟩ := C
  have hkr : 1 ≤ k ∧ k ≤ 4 := by omega
  obtain ⟨hB, hc1⟩ := (S.1.2.2.2 a).2.1 k hka hkr.1 hkr.2
  obtain ⟨-, hc0⟩ := (S.1.2.2.2 a0).2.1 k hkb hkr.1 hkr.2
  obtain ⟨-, k0, hk0, cm0, hkk0⟩ := (hK.2.1 k hkr.1 hkr.2).1 0 (fun _ => .null)
  have hc := cpyB
  simp only [Bool.and_eq_true] at hc
  have hfit : ∀ j, fits (arTy k) (elV M a0 k j) = true := fun j => by rcases hk with rfl | rfl <;> rfl
  have hrk : refKind (arTy k) = false := by rcases hk with rfl | rfl <;> rfl
  intro T hT X
  obtain ⟨vm', X', step⟩ := X.arraycopy hx hown (hts _ (cpy_spec hf)) (hts _ (hasW_in hc.2)) (hts _ (hasW_in hc.1.2)) (hts _ (hasW_in hc.1.1)) (src := a0) (dst := a) (cs := arrV (gR G k) (mK M a0).2 (elV M a0 k)) (cd := arrV (gR G k) (mK M a).2 (elV M a k)) (srcPos := sp) (destPos := dp0) (n := n) (by rw [hT]; exact hc0) (by rw [hT]; exact hc1)
    (fun _ h => by cases h) (fun _ h => by cases h) (fun h => by cases h) (fun h => by cases h) hk0 hk0 hkk0 hkk0 (by simp [hrk]) h1 h2 h3
    (by rw [nn_clamp h1, nn_clamp h3, arrV_size]; omega) (by rw [nn_clamp h2, nn_clamp h3, arrV_size]; omega)
    (fun vm₁ _ i hi => by
      have e : (arrV (gR G k) (mK M a0).2 (elV M a0 k)).slots.getD (sp.toNatClampNeg + i) .null = elV M a0 k (sp.toNatClampNeg + i) := by
        rw [Array.getD_eq_getD_getElem?, arrV_read _ _ (by omega)]
        rfl
      refine ⟨by rw [e]; exact hfit _, ?_⟩
      rw [e]
      rcases hk with rfl | rfl <;> exact trivial)
    (g := F0 m pc ls (.int n :: .int dp0 :: .ref a :: .int sp :: .ref a0 :: rest)) rfl (by rw [hml]; exact hls) (rest := rest) rfl (by rw [hb]; exact hd) (by omega) (by
      have e0 : nativeFrameWords "java/lang/System" "arraycopy" 5 = 7 := by decide +kernel
      rw [e0]
      show 2 * 0 + catS rest + (7 + 11) ≤ _
      omega)
  have e1 : copied (arrV (gR G k) (mK M a0).2 (elV M a0 k)) (arrV (gR G k) (mK M a).2 (elV M a k)) sp dp0 n = arrV (gR G k) (mK M a).2 (va_cpy (elV M a0 k) (elV M a k) sp.toNatClampNeg dp0.toNatClampNeg n.toNatClampNeg) := va_copied (fun z : Value => z) (gR G k) (gR G k) (elV M a0 k) (elV M a k) h4
  rw [e1] at X' step
  have hl : a < H.size := (Array.getElem?_eq_some_iff.mp hc1).1
  obtain ⟨t, a1, b1⟩ := kk (H.setIfInBounds a (arrV (gR G k) (mK M a).2 (va_cpy (elV M a0 k) (elV M a k) sp.toNatClampNeg dp0.toNatClampNeg n.toNatClampNeg))) _ hB (fun x hx' => by
      rcases List.mem_append.mp hx' with h | h
      · exact S.2.1 x h
      · obtain ⟨z, -, hz⟩ := List.mem_map.mp h
        rw [← hz]; exact hB) (by simp) (fun b hb => by simp [Array.getElem?_setIfInBounds, Ne.symm hb]) (by simp [Array.getElem?_setIfInBounds, hl]; rfl) _ (by rw [← hT]; rfl) X'
  exact ⟨t, step t a1, b1⟩
end CL
end
section
/-! one instruction that is no call: the machine goes as the small machine goes -/
theorem nx_inj {a a' : Nat} {b b' : List (Option Value)} {c c' : List Value} {d d' : SM} (h : nx a b c d = some (a', b', c', d')) : a' = a ∧ b' = b ∧ c' = c ∧ d' = d := by
  unfold nx at h
  simp only [Option.some.injEq, Prod.mk.injEq] at h
  exact ⟨h.1.symm, h.2.1.symm, h.2.2.1.symm, h.2.2.2.symm⟩
theorem nxj_inj {a a' : Nat} {j : Int} {b b' : List (Option Value)} {c c' : List Value} {d d' : SM} (h : nxj a j b c d = some (a', b', c', d')) : (a : Int) + j = (a' : Int) ∧ b' = b ∧ c' = c ∧ d' = d := by
  unfold nxj at h
  split at h
  · rename_i h0
    obtain ⟨rfl, h2⟩ := nx_inj h
    exact ⟨(Int.toNat_of_nonneg h0).symm, h2⟩
  · cases h
theorem len1 {i : Instr} {len k : Nat} (h : lenOK i len = true) (hk : lenOK i len = (len == k)) : len = k := by
  rw [hk, beq_iff_eq] at h
  exact h
section ST
variable {p : Program} {l : Launch} {e : Env} {R : Room} {s : State} {m : MethodId} {args : Array Value} {below : List Frame} {meth : Method} {c : Code} {H : Heap} {locs : List Loc} {Q : State → Prop}
variable {G : GT} {q : Nat} {M M' : SM} {pc pc' len S0 U0 : Nat} {ls : Array Slot} {lv lv' : List (Option Value)} {st st' : List Value}
/-- the road on -/
def Kk (G : GT) (q : Nat) (p : Program) (l : Launch) (e : Env) (R : Room) (s : State) (m : MethodId) (args : Array Value) (below : List Frame) (meth : Method) (c : Code) (Q : State → Prop) (S0 U0 pc' : Nat) (lv' : List (Option Value)) (st' : List Value) (M' : SM) : Prop :=
  ∀ (H' : Heap) (locs' : List Loc) (ls' : Array Slot), Sd G q M' H' locs' ls' lv' → W p l e R s m args below meth c H' locs' (mS M' - S0) (mU M' - U0) Q (F0 m pc' ls' st')
theorem st_iload_n {k : Fin 4} (C : Cx G q p R s m args meth c) (S : Sd G q M H locs ls lv) (hq : q < 177) (hS0 : S0 ≤ mS M) (hU0 : U0 ≤ mU M) (hc : mS M' ≤ R.cells + S0) (hu : mU M' ≤ R.slots + U0) (hd : decode (mB q) pc = .ok ((.iload_n k), len)) (hl : lenOK (.iload_n k) len = true) (h : stp (.iload_n k) q pc lv st M = some (pc', lv', st', M')) (kk : Kk G q p l e R s m args below meth c Q S0 U0 pc' lv' st' M') : W p l e R s m args below meth c H locs (mS M - S0) (mU M - U0) Q (F0 m pc ls st) := by
  obtain rfl : len = 1 := len1 hl rfl
  unfold stp at h
  dsimp only at h
  split at h
  · rename_i x hx
    obtain ⟨rfl, rfl, rfl, rfl⟩ := nx_inj h
    exact lv_iload_n C.1 C.2.1 hd rfl (lA_get S.2.2.1 hx (fun z => absurd (show (1 : Nat) = 2 from z) (by decide))) (kk H locs ls S)
  · cases h
theorem st_iload {k : Nat} (C : Cx G q p R s m args meth c) (S : Sd G q M H locs ls lv) (hq : q < 177) (hS0 : S0 ≤ mS M) (hU0 : U0 ≤ mU M) (hc : mS M' ≤ R.cells + S0) (hu : mU M' ≤ R.slots + U0) (hd : decode (mB q) pc = .ok ((.iload k), len)) (hl : lenOK (.iload k) len = true) (h : stp (.iload k) q pc lv st M = some (pc', lv', st', M')) (kk : Kk G q p l e R s m args below meth c Q S0 U0 pc' lv' st' M') : W p l e R s m args below meth c H locs (mS M - S0) (mU M - U0) Q (F0 m pc ls st) := by
  obtain rfl : len = 2 := len1 hl rfl
  unfold stp at h
  dsimp only at h
  split at h
  · rename_i x hx
    obtain ⟨rfl, rfl, rfl, rfl⟩ := nx_inj h
    exact lv_iload C.1 C.2.1 hd (lA_get S.2.2.1 hx (fun z => absurd (show (1 : Nat) = 2 from z) (by decide))) (kk H locs ls S)
  · cases h
theorem st_aload_n {k : Fin 4} (C : Cx G q p R s m args meth c) (S : Sd G q M H locs ls lv) (hq : q < 177) (hS0 : S0 ≤ mS M) (hU0 : U0 ≤ mU M) (hc : mS M' ≤ R.cells + S0) (hu : mU M' ≤ R.slots + U0) (hd : decode (mB q) pc = .ok ((.aload_n k), len)) (hl : lenOK (.aload_n k) len = true) (h : stp (.aload_n k) q pc lv st M = some (pc', lv', st', M')) (kk : Kk G q p l e R s m args below meth c Q S0 U0 pc' lv' st' M') : W p l e R s m args below meth c H locs (mS M - S0) (mU M - U0) Q (F0 m pc ls st) := by
  obtain rfl : len = 1 := len1 hl rfl
  unfold stp at h
  dsimp only at h
  split at h
  · rename_i x hx
    obtain ⟨rfl, rfl, rfl, rfl⟩ := nx_inj h
    exact lv_aload_n C.1 C.2.1 hd rfl (lA_get S.2.2.1 hx (fun z => absurd (show (1 : Nat) = 2 from z) (by decide))) (kk H locs ls S)
  · cases h
theorem st_aload {k : Nat} (C : Cx G q p R s m args meth c) (S : Sd G q M H locs ls lv) (hq : q < 177) (hS0 : S0 ≤ mS M) (hU0 : U0 ≤ mU M) (hc : mS M' ≤ R.cells + S0) (hu : mU M' ≤ R.slots + U0) (hd : decode (mB q) pc = .ok ((.aload k), len)) (hl : lenOK (.aload k) len = true) (h : stp (.aload k) q pc lv st M = some (pc', lv', st', M')) (kk : Kk G q p l e R s m args below meth c Q S0 U0 pc' lv' st' M') : W p l e R s m args below meth c H locs (mS M - S0) (mU M - U0) Q (F0 m pc ls st) := by
  obtain rfl : len = 2 := len1 hl rfl
  unfold stp at h
  dsimp only at h
  split at h
  · rename_i x hx
    obtain ⟨rfl, rfl, rfl, rfl⟩ := nx_inj h
    exact lv_aload C.1 C.2.1 hd (lA_get S.2.2.1 hx (fun z => absurd (show (1 : Nat) = 2 from z) (by decide))) (kk H locs ls S)
  · cases h
theorem st_lload_n {k : Fin 4} (C : Cx G q p R s m args meth c) (S : Sd G q M H locs ls lv) (hq : q < 177) (hS0 : S0 ≤ mS M) (hU0 : U0 ≤ mU M) (hc : mS M' ≤ R.cells + S0) (hu : mU M' ≤ R.slots + U0) (hd : decode (mB q) pc = .ok ((.lload_n k), len)) (hl : lenOK (.lload_n k) len = true) (h : stp (.lload_n k) q pc lv st M = some (pc', lv', st', M')) (kk : Kk G q p l e R s m args below meth c Q S0 U0 pc' lv' st' M') : W p l e R s m args below meth c H locs (mS M - S0) (mU M - U0) Q (F0 m pc ls st) := by
  obtain rfl : len = 1 := len1 hl rfl
  unfold stp at h
  dsimp only at h
  split at h
  · rename_i x hx hx2
    obtain ⟨rfl, rfl, rfl, rfl⟩ := nx_inj h
    exact lv_lload_n C.1 C.2.1 hd rfl (lA_get S.2.2.1 hx (fun _ => hx2)) (kk H locs ls S)
  · cases h
theorem st_lload {k : Nat} (C : Cx G q p R s m args meth c) (S : Sd G q M H locs ls lv) (hq : q < 177) (hS0 : S0 ≤ mS M) (hU0 : U0 ≤ mU M) (hc : mS M' ≤ R.cells + S0) (hu : mU M' ≤ R.slots + U0) (hd : decode (mB q) pc = .ok ((.lload k), len)) (hl : lenOK (.lload k) len = true) (h : stp (.lload k) q pc lv st M = some (pc', lv', st', M')) (kk : Kk G q p l e R s m args below meth c Q S0 U0 pc' lv' st' M') : W p l e R s m args below meth c H locs (mS M - S0) (mU M - U0) Q (F0 m pc ls st) := by
  obtain rfl : len = 2 := len1 hl rfl
  unfold stp at h
  dsimp only at h
  split at h
  · rename_i x hx hx2
    obtain ⟨rfl, rfl, rfl, rfl⟩ := nx_inj h
    exact lv_lload C.1 C.2.1 hd (lA_get S.2.2.1 hx (fun _ => hx2)) (kk H locs ls S)
  · cases h
theorem st_istore_n {k : Fin 4} (C : Cx G q p R s m args meth c) (S : Sd G q M H locs ls lv) (hq : q < 177) (hS0 : S0 ≤ mS M) (hU0 : U0 ≤ mU M) (hc : mS M' ≤ R.cells + S0) (hu : mU M' ≤ R.slots + U0) (hd : decode (mB q) pc = .ok ((.istore_n k), len)) (hl : lenOK (.istore_n k) len = true) (h : stp (.istore_n k) q pc lv st M = some (pc', lv', st', M')) (kk : Kk G q p l e R s m args below meth c Q S0 U0 pc' lv' st' M') : W p l e R s m args below meth c H locs (mS M - S0) (mU M - U0) Q (F0 m pc ls st) := by
  obtain rfl : len = 1 := len1 hl rfl
  unfold stp at h
  dsimp only at h
  split at h
  · split at h
    · rename_i x r hlt
      obtain ⟨rfl, rfl, rfl, rfl⟩ := nx_inj h
      exact lv_istore_n C.1 C.2.1 hd rfl S.2.2.1 (by rw [← S.2.2.2]; exact hlt) rfl (fun ls' hl' => kk H locs ls' ⟨S.1, S.2.1, lA_set1 hl' hlt, by rw [List.length_set]; exact S.2.2.2⟩)
    · cases h
  · cases h
theorem st_istore {k : Nat} (C : Cx G q p R s m args meth c) (S : Sd G q M H locs ls lv) (hq : q < 177) (hS0 : S0 ≤ mS M) (hU0 : U0 ≤ mU M) (hc : mS M' ≤ R.cells + S0) (hu : mU M' ≤ R.slots + U0) (hd : decode (mB q) pc = .ok ((.istore k), len)) (hl : lenOK (.istore k) len = true) (h : stp (.istore k) q pc lv st M = some (pc', lv', st', M')) (kk : Kk G q p l e R s m args below meth c Q S0 U0 pc' lv' st' M') : W p l e R s m args below meth c H locs (mS M - S0) (mU M - U0) Q (F0 m pc ls st) := by
  obtain rfl : len = 2 := len1 hl rfl
  unfold stp at h
  dsimp only at h
  split at h
  · split at h
    · rename_i x r hlt
      obtain ⟨rfl, rfl, rfl, rfl⟩ := nx_inj h
      exact lv_istore C.1 C.2.1 hd S.2.2.1 (by rw [← S.2.2.2]; exact hlt) rfl (fun ls' hl' => kk H locs ls' ⟨S.1, S.2.1, lA_set1 hl' hlt, by rw [List.length_set]; exact S.2.2.2⟩)
    · cases h
  · cases h
theorem st_astore_n {k : Fin 4} (C : Cx G q p R s m args meth c) (S : Sd G q M H locs ls lv) (hq : q < 177) (hS0 : S0 ≤ mS M) (hU0 : U0 ≤ mU M) (hc : mS M' ≤ R.cells + S0) (hu : mU M' ≤ R.slots + U0) (hd : decode (mB q) pc = .ok ((.astore_n k), len)) (hl : lenOK (.astore_n k) len = true) (h : stp (.astore_n k) q pc lv st M = some (pc', lv', st', M')) (kk : Kk G q p l e R s m args below meth c Q S0 U0 pc' lv' st' M') : W p l e R s m args below meth c H locs (mS M - S0) (mU M - U0) Q (F0 m pc ls st) := by
  obtain rfl : len = 1 := len1 hl rfl
  unfold stp at h
  dsimp only at h
  split at h
  · split at h
    · rename_i x r hlt
      obtain ⟨rfl, rfl, rfl, rfl⟩ := nx_inj h
      exact lv_astore_n C.1 C.2.1 hd rfl S.2.2.1 (by rw [← S.2.2.2]; exact hlt) rfl (fun ls' hl' => kk H locs ls' ⟨S.1, S.2.1, lA_set1 hl' hlt, by rw [List.length_set]; exact S.2.2.2⟩)
    · cases h
  · cases h
theorem st_astore {k : Nat} (C : Cx G q p R s m args meth c) (S : Sd G q M H locs ls lv) (hq : q < 177) (hS0 : S0 ≤ mS M) (hU0 : U0 ≤ mU M) (hc : mS M' ≤ R.cells + S0) (hu : mU M' ≤ R.slots + U0) (hd : decode (mB q) pc = .ok ((.astore k), len)) (hl : lenOK (.astore k) len = true) (h : stp (.astore k) q pc lv st M = some (pc', lv', st', M')) (kk : Kk G q p l e R s m args below meth c Q S0 U0 pc' lv' st' M') : W p l e R s m args below meth c H locs (mS M - S0) (mU M - U0) Q (F0 m pc ls st) := by
  obtain rfl : len = 2 := len1 hl rfl
  unfold stp at h
  dsimp only at h
  split at h
  · split at h
    · rename_i x r hlt
      obtain ⟨rfl, rfl, rfl, rfl⟩ := nx_inj h
      exact lv_astore C.1 C.2.1 hd S.2.2.1 (by rw [← S.2.2.2]; exact hlt) rfl (fun ls' hl' => kk H locs ls' ⟨S.1, S.2.1, lA_set1 hl' hlt, by rw [List.length_set]; exact S.2.2.2⟩)
    · cases h
  · cases h
theorem st_lstore_n {k : Fin 4} (C : Cx G q p R s m args meth c) (S : Sd G q M H locs ls lv) (hq : q < 177) (hS0 : S0 ≤ mS M) (hU0 : U0 ≤ mU M) (hc : mS M' ≤ R.cells + S0) (hu : mU M' ≤ R.slots + U0) (hd : decode (mB q) pc = .ok ((.lstore_n k), len)) (hl : lenOK (.lstore_n k) len = true) (h : stp (.lstore_n k) q pc lv st M = some (pc', lv', st', M')) (kk : Kk G q p l e R s m args below meth c Q S0 U0 pc' lv' st' M') : W p l e R s m args below meth c H locs (mS M - S0) (mU M - U0) Q (F0 m pc ls st) := by
  obtain rfl : len = 1 := len1 hl rfl
  unfold stp at h
  dsimp only at h
  split at h
  · split at h
    · rename_i x r hlt
      obtain ⟨rfl, rfl, rfl, rfl⟩ := nx_inj h
      exact lv_lstore_n C.1 C.2.1 hd rfl S.2.2.1 (by rw [← S.2.2.2]; exact hlt) rfl (fun ls' hl' => kk H locs ls' ⟨S.1, S.2.1, lA_set2 hl' hlt, by rw [List.length_set, List.length_set]; exact S.2.2.2⟩)
    · cases h
  · cases h
theorem st_lstore {k : Nat} (C : Cx G q p R s m args meth c) (S : Sd G q M H locs ls lv) (hq : q < 177) (hS0 : S0 ≤ mS M) (hU0 : U0 ≤ mU M) (hc : mS M' ≤ R.cells + S0) (hu : mU M' ≤ R.slots + U0) (hd : decode (mB q) pc = .ok ((.lstore k), len)) (hl : lenOK (.lstore k) len = true) (h : stp (.lstore k) q pc lv st M = some (pc', lv', st', M')) (kk : Kk G q p l e R s m args below meth c Q S0 U0 pc' lv' st' M') : W p l e R s m args below meth c H locs (mS M - S0) (mU M - U0) Q (F0 m pc ls st) := by
  obtain rfl : len = 2 := len1 hl rfl
  unfold stp at h
  dsimp only at h
  split at h
  · split at h
    · rename_i x r hlt
      obtain ⟨rfl, rfl, rfl, rfl⟩ := nx_inj h
      exact lv_lstore C.1 C.2.1 hd S.2.2.1 (by rw [← S.2.2.2]; exact hlt) rfl (fun ls' hl' => kk H locs ls' ⟨S.1, S.2.1, lA_set2 hl' hlt, by rw [List.length_set, List.length_set]; exact S.2.2.2⟩)
    · cases h
  · cases h
theorem st_iinc {k : Nat} {n : Int} (C : Cx G q p R s m args meth c) (S : Sd G q M H locs ls lv) (hq : q < 177) (hS0 : S0 ≤ mS M) (hU0 : U0 ≤ mU M) (hc : mS M' ≤ R.cells + S0) (hu : mU M' ≤ R.slots + U0) (hd : decode (mB q) pc = .ok ((.iinc k n), len)) (hl : lenOK (.iinc k n) len = true) (h : stp (.iinc k n) q pc lv st M = some (pc', lv', st', M')) (kk : Kk G q p l e R s m args below meth c Q S0 U0 pc' lv' st' M') : W p l e R s m args below meth c H locs (mS M - S0) (mU M - U0) Q (F0 m pc ls st) := by
  obtain rfl : len = 3 := len1 hl rfl
  unfold stp at h
  dsimp only at h
  split at h
  · rename_i x hx
    obtain ⟨rfl, rfl, rfl, rfl⟩ := nx_inj h
    have hlt : k < lv.length := (List.getElem?_eq_some_iff.mp hx).1
    obtain ⟨j, hj⟩ := List.getElem?_of_mem (lA_mem.mpr ⟨hx, (fun z => absurd (show (1 : Nat) = 2 from z) (by decide))⟩)
    exact lv_iinc C.1 C.2.1 hd S.2.2.1 hj rfl (by rw [← S.2.2.2]; exact hlt) rfl (fun ls' hl' => kk H locs ls' ⟨S.1, S.2.1, lA_set1 hl' hlt, by rw [List.length_set]; exact S.2.2.2⟩)
  · cases h
theorem st_iconst {n : Int} (C : Cx G q p R s m args meth c) (S : Sd G q M H locs ls lv) (hq : q < 177) (hS0 : S0 ≤ mS M) (hU0 : U0 ≤ mU M) (hc : mS M' ≤ R.cells + S0) (hu : mU M' ≤ R.slots + U0) (hd : decode (mB q) pc = .ok ((.iconst n), len)) (hl : lenOK (.iconst n) len = true) (h : stp (.iconst n) q pc lv st M = some (pc', lv', st', M')) (kk : Kk G q p l e R s m args below meth c Q S0 U0 pc' lv' st' M') : W p l e R s m args below meth c H locs (mS M - S0) (mU M - U0) Q (F0 m pc ls st) := by
  obtain rfl : len = 1 := len1 hl rfl
  unfold stp at h
  dsimp only at h
  obtain ⟨rfl, rfl, rfl, rfl⟩ := nx_inj h
  exact lv_iconst C.1 C.2.1 hd rfl (kk H locs ls S)
theorem st_bipush {n : Int} (C : Cx G q p R s m args meth c) (S : Sd G q M H locs ls lv) (hq : q < 177) (hS0 : S0 ≤ mS M) (hU0 : U0 ≤ mU M) (hc : mS M' ≤ R.cells + S0) (hu : mU M' ≤ R.slots + U0) (hd : decode (mB q) pc = .ok ((.bipush n), len)) (hl : lenOK (.bipush n) len = true) (h : stp (.bipush n) q pc lv st M = some (pc', lv', st', M')) (kk : Kk G q p l e R s m args below meth c Q S0 U0 pc' lv' st' M') : W p l e R s m args below meth c H locs (mS M - S0) (mU M - U0) Q (F0 m pc ls st) := by
  obtain rfl : len = 2 := len1 hl rfl
  unfold stp at h
  dsimp only at h
  obtain ⟨rfl, rfl, rfl, rfl⟩ := nx_inj h
  exact lv_bipush C.1 C.2.1 hd rfl (kk H locs ls S)
theorem st_sipush {n : Int} (C : Cx G q p R s m args meth c) (S : Sd G q M H locs ls lv) (hq : q < 177) (hS0 : S0 ≤ mS M) (hU0 : U0 ≤ mU M) (hc : mS M' ≤ R.cells + S0) (hu : mU M' ≤ R.slots + U0) (hd : decode (mB q) pc = .ok ((.sipush n), len)) (hl : lenOK (.sipush n) len = true) (h : stp (.sipush n) q pc lv st M = some (pc', lv', st', M')) (kk : Kk G q p l e R s m args below meth c Q S0 U0 pc' lv' st' M') : W p l e R s m args below meth c H locs (mS M - S0) (mU M - U0) Q (F0 m pc ls st) := by
  obtain rfl : len = 3 := len1 hl rfl
  unfold stp at h
  dsimp only at h
  obtain ⟨rfl, rfl, rfl, rfl⟩ := nx_inj h
  exact lv_sipush C.1 C.2.1 hd rfl (kk H locs ls S)
theorem st_lconst {n : Fin 2} (C : Cx G q p R s m args meth c) (S : Sd G q M H locs ls lv) (hq : q < 177) (hS0 : S0 ≤ mS M) (hU0 : U0 ≤ mU M) (hc : mS M' ≤ R.cells + S0) (hu : mU M' ≤ R.slots + U0) (hd : decode (mB q) pc = .ok ((.lconst n), len)) (hl : lenOK (.lconst n) len = true) (h : stp (.lconst n) q pc lv st M = some (pc', lv', st', M')) (kk : Kk G q p l e R s m args below meth c Q S0 U0 pc' lv' st' M') : W p l e R s m args below meth c H locs (mS M - S0) (mU M - U0) Q (F0 m pc ls st) := by
  obtain rfl : len = 1 := len1 hl rfl
  unfold stp at h
  dsimp only at h
  obtain ⟨rfl, rfl, rfl, rfl⟩ := nx_inj h
  exact lv_lconst C.1 C.2.1 hd rfl (kk H locs ls S)
theorem st_ldc2_w {i : Nat} (C : Cx G q p R s m args meth c) (S : Sd G q M H locs ls lv) (hq : q < 177) (hS0 : S0 ≤ mS M) (hU0 : U0 ≤ mU M) (hc : mS M' ≤ R.cells + S0) (hu : mU M' ≤ R.slots + U0) (hd : decode (mB q) pc = .ok ((.ldc2_w i), len)) (hl : lenOK (.ldc2_w i) len = true) (h : stp (.ldc2_w i) q pc lv st M = some (pc', lv', st', M')) (kk : Kk G q p l e R s m args below meth c Q S0 U0 pc' lv' st' M') : W p l e R s m args below meth c H locs (mS M - S0) (mU M - U0) Q (F0 m pc ls st) := by
  obtain rfl : len = 3 := len1 hl rfl
  unfold stp at h
  dsimp only at h
  split at h
  · rename_i x hx
    obtain ⟨rfl, rfl, rfl, rfl⟩ := nx_inj h
    exact lv_ldc2 C.1 C.2.1 C.2.2.2.1 (C.2.2.2.2.1 _ (cst_spec hx)) hd (kk H locs ls S)
  · cases h
theorem st_iadd  (C : Cx G q p R s m args meth c) (S : Sd G q M H locs ls lv) (hq : q < 177) (hS0 : S0 ≤ mS M) (hU0 : U0 ≤ mU M) (hc : mS M' ≤ R.cells + S0) (hu : mU M' ≤ R.slots + U0) (hd : decode (mB q) pc = .ok ((.iadd), len)) (hl : lenOK (.iadd) len = true) (h : stp (.iadd) q pc lv st M = some (pc', lv', st', M')) (kk : Kk G q p l e R s m args below meth c Q S0 U0 pc' lv' st' M') : W p l e R s m args below meth c H locs (mS M - S0) (mU M - U0) Q (F0 m pc ls st) := by
  obtain rfl : len = 1 := len1 hl rfl
  unfold stp at h
  dsimp only at h
  split at h
  · obtain ⟨rfl, rfl, rfl, rfl⟩ := nx_inj h
    exact lv_iadd C.1 C.2.1 hd (kk H locs ls S)
  · cases h
theorem st_isub  (C : Cx G q p R s m args meth c) (S : Sd G q M H locs ls lv) (hq : q < 177) (hS0 : S0 ≤ mS M) (hU0 : U0 ≤ mU M) (hc : mS M' ≤ R.cells + S0) (hu : mU M' ≤ R.slots + U0) (hd : decode (mB q) pc = .ok ((.isub), len)) (hl : lenOK (.isub) len = true) (h : stp (.isub) q pc lv st M = some (pc', lv', st', M')) (kk : Kk G q p l e R s m args below meth c Q S0 U0 pc' lv' st' M') : W p l e R s m args below meth c H locs (mS M - S0) (mU M - U0) Q (F0 m pc ls st) := by
  obtain rfl : len = 1 := len1 hl rfl
  unfold stp at h
  dsimp only at h
  split at h
  · obtain ⟨rfl, rfl, rfl, rfl⟩ := nx_inj h
    exact lv_isub C.1 C.2.1 hd (kk H locs ls S)
  · cases h
theorem st_imul  (C : Cx G q p R s m args meth c) (S : Sd G q M H locs ls lv) (hq : q < 177) (hS0 : S0 ≤ mS M) (hU0 : U0 ≤ mU M) (hc : mS M' ≤ R.cells + S0) (hu : mU M' ≤ R.slots + U0) (hd : decode (mB q) pc = .ok ((.imul), len)) (hl : lenOK (.imul) len = true) (h : stp (.imul) q pc lv st M = some (pc', lv', st', M')) (kk : Kk G q p l e R s m args below meth c Q S0 U0 pc' lv' st' M') : W p l e R s m args below meth c H locs (mS M - S0) (mU M - U0) Q (F0 m pc ls st) := by
  obtain rfl : len = 1 := len1 hl rfl
  unfold stp at h
  dsimp only at h
  split at h
  · obtain ⟨rfl, rfl, rfl, rfl⟩ := nx_inj h
    exact lv_imul C.1 C.2.1 hd (kk H locs ls S)
  · cases h
theorem st_iand  (C : Cx G q p R s m args meth c) (S : Sd G q M H locs ls lv) (hq : q < 177) (hS0 : S0 ≤ mS M) (hU0 : U0 ≤ mU M) (hc : mS M' ≤ R.cells + S0) (hu : mU M' ≤ R.slots + U0) (hd : decode (mB q) pc = .ok ((.iand), len)) (hl : lenOK (.iand) len = true) (h : stp (.iand) q pc lv st M = some (pc', lv', st', M')) (kk : Kk G q p l e R s m args below meth c Q S0 U0 pc' lv' st' M') : W p l e R s m args below meth c H locs (mS M - S0) (mU M - U0) Q (F0 m pc ls st) := by
  obtain rfl : len = 1 := len1 hl rfl
  unfold stp at h
  dsimp only at h
  split at h
  · obtain ⟨rfl, rfl, rfl, rfl⟩ := nx_inj h
    exact lv_iand C.1 C.2.1 hd (kk H locs ls S)
  · cases h
theorem st_ior  (C : Cx G q p R s m args meth c) (S : Sd G q M H locs ls lv) (hq : q < 177) (hS0 : S0 ≤ mS M) (hU0 : U0 ≤ mU M) (hc : mS M' ≤ R.cells + S0) (hu : mU M' ≤ R.slots + U0) (hd : decode (mB q) pc = .ok ((.ior), len)) (hl : lenOK (.ior) len = true) (h : stp (.ior) q pc lv st M = some (pc', lv', st', M')) (kk : Kk G q p l e R s m args below meth c Q S0 U0 pc' lv' st' M') : W p l e R s m args below meth c H locs (mS M - S0) (mU M - U0) Q (F0 m pc ls st) := by
  obtain rfl : len = 1 := len1 hl rfl
  unfold stp at h
  dsimp only at h
  split at h
  · obtain ⟨rfl, rfl, rfl, rfl⟩ := nx_inj h
    exact lv_ior C.1 C.2.1 hd (kk H locs ls S)
  · cases h
theorem st_ishl  (C : Cx G q p R s m args meth c) (S : Sd G q M H locs ls lv) (hq : q < 177) (hS0 : S0 ≤ mS M) (hU0 : U0 ≤ mU M) (hc : mS M' ≤ R.cells + S0) (hu : mU M' ≤ R.slots + U0) (hd : decode (mB q) pc = .ok ((.ishl), len)) (hl : lenOK (.ishl) len = true) (h : stp (.ishl) q pc lv st M = some (pc', lv', st', M')) (kk : Kk G q p l e R s m args below meth c Q S0 U0 pc' lv' st' M') : W p l e R s m args below meth c H locs (mS M - S0) (mU M - U0) Q (F0 m pc ls st) := by
  obtain rfl : len = 1 := len1 hl rfl
  unfold stp at h
  dsimp only at h
  split at h
  · obtain ⟨rfl, rfl, rfl, rfl⟩ := nx_inj h
    exact lv_ishl C.1 C.2.1 hd (kk H locs ls S)
  · cases h
theorem st_ladd  (C : Cx G q p R s m args meth c) (S : Sd G q M H locs ls lv) (hq : q < 177) (hS0 : S0 ≤ mS M) (hU0 : U0 ≤ mU M) (hc : mS M' ≤ R.cells + S0) (hu : mU M' ≤ R.slots + U0) (hd : decode (mB q) pc = .ok ((.ladd), len)) (hl : lenOK (.ladd) len = true) (h : stp (.ladd) q pc lv st M = some (pc', lv', st', M')) (kk : Kk G q p l e R s m args below meth c Q S0 U0 pc' lv' st' M') : W p l e R s m args below meth c H locs (mS M - S0) (mU M - U0) Q (F0 m pc ls st) := by
  obtain rfl : len = 1 := len1 hl rfl
  unfold stp at h
  dsimp only at h
  split at h
  · obtain ⟨rfl, rfl, rfl, rfl⟩ := nx_inj h
    exact lv_ladd C.1 C.2.1 hd (kk H locs ls S)
  · cases h
theorem st_lsub  (C : Cx G q p R s m args meth c) (S : Sd G q M H locs ls lv) (hq : q < 177) (hS0 : S0 ≤ mS M) (hU0 : U0 ≤ mU M) (hc : mS M' ≤ R.cells + S0) (hu : mU M' ≤ R.slots + U0) (hd : decode (mB q) pc = .ok ((.lsub), len)) (hl : lenOK (.lsub) len = true) (h : stp (.lsub) q pc lv st M = some (pc', lv', st', M')) (kk : Kk G q p l e R s m args below meth c Q S0 U0 pc' lv' st' M') : W p l e R s m args below meth c H locs (mS M - S0) (mU M - U0) Q (F0 m pc ls st) := by
  obtain rfl : len = 1 := len1 hl rfl
  unfold stp at h
  dsimp only at h
  split at h
  · obtain ⟨rfl, rfl, rfl, rfl⟩ := nx_inj h
    exact lv_lsub C.1 C.2.1 hd (kk H locs ls S)
  · cases h
theorem st_land  (C : Cx G q p R s m args meth c) (S : Sd G q M H locs ls lv) (hq : q < 177) (hS0 : S0 ≤ mS M) (hU0 : U0 ≤ mU M) (hc : mS M' ≤ R.cells + S0) (hu : mU M' ≤ R.slots + U0) (hd : decode (mB q) pc = .ok ((.land), len)) (hl : lenOK (.land) len = true) (h : stp (.land) q pc lv st M = some (pc', lv', st', M')) (kk : Kk G q p l e R s m args below meth c Q S0 U0 pc' lv' st' M') : W p l e R s m args below meth c H locs (mS M - S0) (mU M - U0) Q (F0 m pc ls st) := by
  obtain rfl : len = 1 := len1 hl rfl
  unfold stp at h
  dsimp only at h
  split at h
  · obtain ⟨rfl, rfl, rfl, rfl⟩ := nx_inj h
    exact lv_land C.1 C.2.1 hd (kk H locs ls S)
  · cases h
theorem st_lor  (C : Cx G q p R s m args meth c) (S : Sd G q M H locs ls lv) (hq : q < 177) (hS0 : S0 ≤ mS M) (hU0 : U0 ≤ mU M) (hc : mS M' ≤ R.cells + S0) (hu : mU M' ≤ R.slots + U0) (hd : decode (mB q) pc = .ok ((.lor), len)) (hl : lenOK (.lor) len = true) (h : stp (.lor) q pc lv st M = some (pc', lv', st', M')) (kk : Kk G q p l e R s m args below meth c Q S0 U0 pc' lv' st' M') : W p l e R s m args below meth c H locs (mS M - S0) (mU M - U0) Q (F0 m pc ls st) := by
  obtain rfl : len = 1 := len1 hl rfl
  unfold stp at h
  dsimp only at h
  split at h
  · obtain ⟨rfl, rfl, rfl, rfl⟩ := nx_inj h
    exact lv_lor C.1 C.2.1 hd (kk H locs ls S)
  · cases h
theorem st_lxor  (C : Cx G q p R s m args meth c) (S : Sd G q M H locs ls lv) (hq : q < 177) (hS0 : S0 ≤ mS M) (hU0 : U0 ≤ mU M) (hc : mS M' ≤ R.cells + S0) (hu : mU M' ≤ R.slots + U0) (hd : decode (mB q) pc = .ok ((.lxor), len)) (hl : lenOK (.lxor) len = true) (h : stp (.lxor) q pc lv st M = some (pc', lv', st', M')) (kk : Kk G q p l e R s m args below meth c Q S0 U0 pc' lv' st' M') : W p l e R s m args below meth c H locs (mS M - S0) (mU M - U0) Q (F0 m pc ls st) := by
  obtain rfl : len = 1 := len1 hl rfl
  unfold stp at h
  dsimp only at h
  split at h
  · obtain ⟨rfl, rfl, rfl, rfl⟩ := nx_inj h
    exact lv_lxor C.1 C.2.1 hd (kk H locs ls S)
  · cases h
theorem st_lshl  (C : Cx G q p R s m args meth c) (S : Sd G q M H locs ls lv) (hq : q < 177) (hS0 : S0 ≤ mS M) (hU0 : U0 ≤ mU M) (hc : mS M' ≤ R.cells + S0) (hu : mU M' ≤ R.slots + U0) (hd : decode (mB q) pc = .ok ((.lshl), len)) (hl : lenOK (.lshl) len = true) (h : stp (.lshl) q pc lv st M = some (pc', lv', st', M')) (kk : Kk G q p l e R s m args below meth c Q S0 U0 pc' lv' st' M') : W p l e R s m args below meth c H locs (mS M - S0) (mU M - U0) Q (F0 m pc ls st) := by
  obtain rfl : len = 1 := len1 hl rfl
  unfold stp at h
  dsimp only at h
  split at h
  · obtain ⟨rfl, rfl, rfl, rfl⟩ := nx_inj h
    exact lv_lshl C.1 C.2.1 hd rfl (kk H locs ls S)
  · cases h
theorem st_lshr  (C : Cx G q p R s m args meth c) (S : Sd G q M H locs ls lv) (hq : q < 177) (hS0 : S0 ≤ mS M) (hU0 : U0 ≤ mU M) (hc : mS M' ≤ R.cells + S0) (hu : mU M' ≤ R.slots + U0) (hd : decode (mB q) pc = .ok ((.lshr), len)) (hl : lenOK (.lshr) len = true) (h : stp (.lshr) q pc lv st M = some (pc', lv', st', M')) (kk : Kk G q p l e R s m args below meth c Q S0 U0 pc' lv' st' M') : W p l e R s m args below meth c H locs (mS M - S0) (mU M - U0) Q (F0 m pc ls st) := by
  obtain rfl : len = 1 := len1 hl rfl
  unfold stp at h
  dsimp only at h
  split at h
  · obtain ⟨rfl, rfl, rfl, rfl⟩ := nx_inj h
    exact lv_lshr C.1 C.2.1 hd rfl (kk H locs ls S)
  · cases h
theorem st_lushr  (C : Cx G q p R s m args meth c) (S : Sd G q M H locs ls lv) (hq : q < 177) (hS0 : S0 ≤ mS M) (hU0 : U0 ≤ mU M) (hc : mS M' ≤ R.cells + S0) (hu : mU M' ≤ R.slots + U0) (hd : decode (mB q) pc = .ok ((.lushr), len)) (hl : lenOK (.lushr) len = true) (h : stp (.lushr) q pc lv st M = some (pc', lv', st', M')) (kk : Kk G q p l e R s m args below meth c Q S0 U0 pc' lv' st' M') : W p l e R s m args below meth c H locs (mS M - S0) (mU M - U0) Q (F0 m pc ls st) := by
  obtain rfl : len = 1 := len1 hl rfl
  unfold stp at h
  dsimp only at h
  split at h
  · obtain ⟨rfl, rfl, rfl, rfl⟩ := nx_inj h
    exact lv_lushr C.1 C.2.1 hd rfl (kk H locs ls S)
  · cases h
theorem st_i2l  (C : Cx G q p R s m args meth c) (S : Sd G q M H locs ls lv) (hq : q < 177) (hS0 : S0 ≤ mS M) (hU0 : U0 ≤ mU M) (hc : mS M' ≤ R.cells + S0) (hu : mU M' ≤ R.slots + U0) (hd : decode (mB q) pc = .ok ((.i2l), len)) (hl : lenOK (.i2l) len = true) (h : stp (.i2l) q pc lv st M = some (pc', lv', st', M')) (kk : Kk G q p l e R s m args below meth c Q S0 U0 pc' lv' st' M') : W p l e R s m args below meth c H locs (mS M - S0) (mU M - U0) Q (F0 m pc ls st) := by
  obtain rfl : len = 1 := len1 hl rfl
  unfold stp at h
  dsimp only at h
  split at h
  · obtain ⟨rfl, rfl, rfl, rfl⟩ := nx_inj h
    exact lv_i2l C.1 C.2.1 hd rfl (kk H locs ls S)
  · cases h
theorem st_l2i  (C : Cx G q p R s m args meth c) (S : Sd G q M H locs ls lv) (hq : q < 177) (hS0 : S0 ≤ mS M) (hU0 : U0 ≤ mU M) (hc : mS M' ≤ R.cells + S0) (hu : mU M' ≤ R.slots + U0) (hd : decode (mB q) pc = .ok ((.l2i), len)) (hl : lenOK (.l2i) len = true) (h : stp (.l2i) q pc lv st M = some (pc', lv', st', M')) (kk : Kk G q p l e R s m args below meth c Q S0 U0 pc' lv' st' M') : W p l e R s m args below meth c H locs (mS M - S0) (mU M - U0) Q (F0 m pc ls st) := by
  obtain rfl : len = 1 := len1 hl rfl
  unfold stp at h
  dsimp only at h
  split at h
  · obtain ⟨rfl, rfl, rfl, rfl⟩ := nx_inj h
    exact lv_l2i C.1 C.2.1 hd rfl (kk H locs ls S)
  · cases h
theorem st_lcmp  (C : Cx G q p R s m args meth c) (S : Sd G q M H locs ls lv) (hq : q < 177) (hS0 : S0 ≤ mS M) (hU0 : U0 ≤ mU M) (hc : mS M' ≤ R.cells + S0) (hu : mU M' ≤ R.slots + U0) (hd : decode (mB q) pc = .ok ((.lcmp), len)) (hl : lenOK (.lcmp) len = true) (h : stp (.lcmp) q pc lv st M = some (pc', lv', st', M')) (kk : Kk G q p l e R s m args below meth c Q S0 U0 pc' lv' st' M') : W p l e R s m args below meth c H locs (mS M - S0) (mU M - U0) Q (F0 m pc ls st) := by
  obtain rfl : len = 1 := len1 hl rfl
  unfold stp at h
  dsimp only at h
  split at h
  · obtain ⟨rfl, rfl, rfl, rfl⟩ := nx_inj h
    exact W.lcmp C.1 C.2.1 hd (kk H locs ls S)
  · cases h
theorem st_idiv  (C : Cx G q p R s m args meth c) (S : Sd G q M H locs ls lv) (hq : q < 177) (hS0 : S0 ≤ mS M) (hU0 : U0 ≤ mU M) (hc : mS M' ≤ R.cells + S0) (hu : mU M' ≤ R.slots + U0) (hd : decode (mB q) pc = .ok ((.idiv), len)) (hl : lenOK (.idiv) len = true) (h : stp (.idiv) q pc lv st M = some (pc', lv', st', M')) (kk : Kk G q p l e R s m args below meth c Q S0 U0 pc' lv' st' M') : W p l e R s m args below meth c H locs (mS M - S0) (mU M - U0) Q (F0 m pc ls st) := by
  obtain rfl : len = 1 := len1 hl rfl
  unfold stp at h
  dsimp only at h
  split at h
  · split at h
    · cases h
    · rename_i hn
      obtain ⟨rfl, rfl, rfl, rfl⟩ := nx_inj h
      exact lv_idiv C.1 C.2.1 hd hn (kk H locs ls S)
  · cases h
theorem st_dup  (C : Cx G q p R s m args meth c) (S : Sd G q M H locs ls lv) (hq : q < 177) (hS0 : S0 ≤ mS M) (hU0 : U0 ≤ mU M) (hc : mS M' ≤ R.cells + S0) (hu : mU M' ≤ R.slots + U0) (hd : decode (mB q) pc = .ok ((.dup), len)) (hl : lenOK (.dup) len = true) (h : stp (.dup) q pc lv st M = some (pc', lv', st', M')) (kk : Kk G q p l e R s m args below meth c Q S0 U0 pc' lv' st' M') : W p l e R s m args below meth c H locs (mS M - S0) (mU M - U0) Q (F0 m pc ls st) := by
  obtain rfl : len = 1 := len1 hl rfl
  unfold stp at h
  dsimp only at h
  split at h
  · split at h
    · rename_i hn
      obtain ⟨rfl, rfl, rfl, rfl⟩ := nx_inj h
      exact lv_dup C.1 C.2.1 hd hn (kk H locs ls S)
    · cases h
  · cases h
theorem st_pop  (C : Cx G q p R s m args meth c) (S : Sd G q M H locs ls lv) (hq : q < 177) (hS0 : S0 ≤ mS M) (hU0 : U0 ≤ mU M) (hc : mS M' ≤ R.cells + S0) (hu : mU M' ≤ R.slots + U0) (hd : decode (mB q) pc = .ok ((.pop), len)) (hl : lenOK (.pop) len = true) (h : stp (.pop) q pc lv st M = some (pc', lv', st', M')) (kk : Kk G q p l e R s m args below meth c Q S0 U0 pc' lv' st' M') : W p l e R s m args below meth c H locs (mS M - S0) (mU M - U0) Q (F0 m pc ls st) := by
  obtain rfl : len = 1 := len1 hl rfl
  unfold stp at h
  dsimp only at h
  split at h
  · split at h
    · rename_i hn
      obtain ⟨rfl, rfl, rfl, rfl⟩ := nx_inj h
      exact lv_pop C.1 C.2.1 hd hn (kk H locs ls S)
    · cases h
  · cases h
theorem st_dup2  (C : Cx G q p R s m args meth c) (S : Sd G q M H locs ls lv) (hq : q < 177) (hS0 : S0 ≤ mS M) (hU0 : U0 ≤ mU M) (hc : mS M' ≤ R.cells + S0) (hu : mU M' ≤ R.slots + U0) (hd : decode (mB q) pc = .ok ((.dup2), len)) (hl : lenOK (.dup2) len = true) (h : stp (.dup2) q pc lv st M = some (pc', lv', st', M')) (kk : Kk G q p l e R s m args below meth c Q S0 U0 pc' lv' st' M') : W p l e R s m args below meth c H locs (mS M - S0) (mU M - U0) Q (F0 m pc ls st) := by
  obtain rfl : len = 1 := len1 hl rfl
  unfold stp at h
  dsimp only at h
  split at h
  · split at h
    · rename_i hn
      obtain ⟨rfl, rfl, rfl, rfl⟩ := nx_inj h
      exact lv_dup2_11 C.1 C.2.1 hd hn.1 hn.2 (kk H locs ls S)
    · cases h
  · cases h
theorem st_goto {j : Int} (C : Cx G q p R s m args meth c) (S : Sd G q M H locs ls lv) (hq : q < 177) (hS0 : S0 ≤ mS M) (hU0 : U0 ≤ mU M) (hc : mS M' ≤ R.cells + S0) (hu : mU M' ≤ R.slots + U0) (hd : decode (mB q) pc = .ok ((.goto j), len)) (hl : lenOK (.goto j) len = true) (h : stp (.goto j) q pc lv st M = some (pc', lv', st', M')) (kk : Kk G q p l e R s m args below meth c Q S0 U0 pc' lv' st' M') : W p l e R s m args below meth c H locs (mS M - S0) (mU M - U0) Q (F0 m pc ls st) := by
  obtain rfl : len = 3 := len1 hl rfl
  unfold stp at h
  dsimp only at h
  obtain ⟨h1, rfl, rfl, rfl⟩ := nxj_inj h
  exact lv_goto C.1 C.2.1 hd h1 (kk H locs ls S)
theorem st_ifCond_eq {j : Int} (C : Cx G q p R s m args meth c) (S : Sd G q M H locs ls lv) (hq : q < 177) (hS0 : S0 ≤ mS M) (hU0 : U0 ≤ mU M) (hc : mS M' ≤ R.cells + S0) (hu : mU M' ≤ R.slots + U0) (hd : decode (mB q) pc = .ok ((.ifCond .eq j), len)) (hl : lenOK (.ifCond .eq j) len = true) (h : stp (.ifCond .eq j) q pc lv st M = some (pc', lv', st', M')) (kk : Kk G q p l e R s m args below meth c Q S0 U0 pc' lv' st' M') : W p l e R s m args below meth c H locs (mS M - S0) (mU M - U0) Q (F0 m pc ls st) := by
  obtain rfl : len = 3 := len1 hl rfl
  unfold stp at h
  dsimp only at h
  split at h
  · split at h
    · rename_i h0
      have h0' := (Int.toNat_of_nonneg h0).symm
      split at h
      · rename_i hx
        obtain ⟨rfl, rfl, rfl, rfl⟩ := nx_inj h
        exact lv_if_eq C.1 C.2.1 hd h0' (fun _ => kk H locs ls S) (fun z => absurd hx z)
      · rename_i hx
        obtain ⟨rfl, rfl, rfl, rfl⟩ := nx_inj h
        exact lv_if_eq C.1 C.2.1 hd h0' (fun z => absurd z hx) (fun _ => kk H locs ls S)
    · cases h
  · cases h
theorem st_ifCond_ne {j : Int} (C : Cx G q p R s m args meth c) (S : Sd G q M H locs ls lv) (hq : q < 177) (hS0 : S0 ≤ mS M) (hU0 : U0 ≤ mU M) (hc : mS M' ≤ R.cells + S0) (hu : mU M' ≤ R.slots + U0) (hd : decode (mB q) pc = .ok ((.ifCond .ne j), len)) (hl : lenOK (.ifCond .ne j) len = true) (h : stp (.ifCond .ne j) q pc lv st M = some (pc', lv', st', M')) (kk : Kk G q p l e R s m args below meth c Q S0 U0 pc' lv' st' M') : W p l e R s m args below meth c H locs (mS M - S0) (mU M - U0) Q (F0 m pc ls st) := by
  obtain rfl : len = 3 := len1 hl rfl
  unfold stp at h
  dsimp only at h
  split at h
  · split at h
    · rename_i h0
      have h0' := (Int.toNat_of_nonneg h0).symm
      split at h
      · rename_i hx
        obtain ⟨rfl, rfl, rfl, rfl⟩ := nx_inj h
        exact lv_if_ne C.1 C.2.1 hd h0' (fun _ => kk H locs ls S) (fun z => absurd z hx)
      · rename_i hx
        obtain ⟨rfl, rfl, rfl, rfl⟩ := nx_inj h
        exact lv_if_ne C.1 C.2.1 hd h0' (fun z => absurd z hx) (fun _ => kk H locs ls S)
    · cases h
  · cases h
theorem st_ifCond_lt {j : Int} (C : Cx G q p R s m args meth c) (S : Sd G q M H locs ls lv) (hq : q < 177) (hS0 : S0 ≤ mS M) (hU0 : U0 ≤ mU M) (hc : mS M' ≤ R.cells + S0) (hu : mU M' ≤ R.slots + U0) (hd : decode (mB q) pc = .ok ((.ifCond .lt j), len)) (hl : lenOK (.ifCond .lt j) len = true) (h : stp (.ifCond .lt j) q pc lv st M = some (pc', lv', st', M')) (kk : Kk G q p l e R s m args below meth c Q S0 U0 pc' lv' st' M') : W p l e R s m args below meth c H locs (mS M - S0) (mU M - U0) Q (F0 m pc ls st) := by
  obtain rfl : len = 3 := len1 hl rfl
  unfold stp at h
  dsimp only at h
  split at h
  · split at h
    · rename_i h0
      have h0' := (Int.toNat_of_nonneg h0).symm
      split at h
      · rename_i hx
        obtain ⟨rfl, rfl, rfl, rfl⟩ := nx_inj h
        exact lv_if_lt C.1 C.2.1 hd h0' (fun _ => kk H locs ls S) (fun z => absurd hx z)
      · rename_i hx
        obtain ⟨rfl, rfl, rfl, rfl⟩ := nx_inj h
        exact lv_if_lt C.1 C.2.1 hd h0' (fun z => absurd z hx) (fun _ => kk H locs ls S)
    · cases h
  · cases h
theorem st_ifCond_ge {j : Int} (C : Cx G q p R s m args meth c) (S : Sd G q M H locs ls lv) (hq : q < 177) (hS0 : S0 ≤ mS M) (hU0 : U0 ≤ mU M) (hc : mS M' ≤ R.cells + S0) (hu : mU M' ≤ R.slots + U0) (hd : decode (mB q) pc = .ok ((.ifCond .ge j), len)) (hl : lenOK (.ifCond .ge j) len = true) (h : stp (.ifCond .ge j) q pc lv st M = some (pc', lv', st', M')) (kk : Kk G q p l e R s m args below meth c Q S0 U0 pc' lv' st' M') : W p l e R s m args below meth c H locs (mS M - S0) (mU M - U0) Q (F0 m pc ls st) := by
  obtain rfl : len = 3 := len1 hl rfl
  unfold stp at h
  dsimp only at h
  split at h
  · split at h
    · rename_i h0
      have h0' := (Int.toNat_of_nonneg h0).symm
      split at h
      · rename_i hx
        obtain ⟨rfl, rfl, rfl, rfl⟩ := nx_inj h
        exact lv_if_ge C.1 C.2.1 hd h0' (fun _ => kk H locs ls S) (fun z => absurd hx z)
      · rename_i hx
        obtain ⟨rfl, rfl, rfl, rfl⟩ := nx_inj h
        exact lv_if_ge C.1 C.2.1 hd h0' (fun z => absurd z hx) (fun _ => kk H locs ls S)
    · cases h
  · cases h
theorem st_ifCond_gt {j : Int} (C : Cx G q p R s m args meth c) (S : Sd G q M H locs ls lv) (hq : q < 177) (hS0 : S0 ≤ mS M) (hU0 : U0 ≤ mU M) (hc : mS M' ≤ R.cells + S0) (hu : mU M' ≤ R.slots + U0) (hd : decode (mB q) pc = .ok ((.ifCond .gt j), len)) (hl : lenOK (.ifCond .gt j) len = true) (h : stp (.ifCond .gt j) q pc lv st M = some (pc', lv', st', M')) (kk : Kk G q p l e R s m args below meth c Q S0 U0 pc' lv' st' M') : W p l e R s m args below meth c H locs (mS M - S0) (mU M - U0) Q (F0 m pc ls st) := by
  obtain rfl : len = 3 := len1 hl rfl
  unfold stp at h
  dsimp only at h
  split at h
  · split at h
    · rename_i h0
      have h0' := (Int.toNat_of_nonneg h0).symm
      split at h
      · rename_i hx
        obtain ⟨rfl, rfl, rfl, rfl⟩ := nx_inj h
        exact lv_if_gt C.1 C.2.1 hd h0' (fun _ => kk H locs ls S) (fun z => absurd hx z)
      · rename_i hx
        obtain ⟨rfl, rfl, rfl, rfl⟩ := nx_inj h
        exact lv_if_gt C.1 C.2.1 hd h0' (fun z => absurd z hx) (fun _ => kk H locs ls S)
    · cases h
  · cases h
theorem st_ifCond_le {j : Int} (C : Cx G q p R s m args meth c) (S : Sd G q M H locs ls lv) (hq : q < 177) (hS0 : S0 ≤ mS M) (hU0 : U0 ≤ mU M) (hc : mS M' ≤ R.cells + S0) (hu : mU M' ≤ R.slots + U0) (hd : decode (mB q) pc = .ok ((.ifCond .le j), len)) (hl : lenOK (.ifCond .le j) len = true) (h : stp (.ifCond .le j) q pc lv st M = some (pc', lv', st', M')) (kk : Kk G q p l e R s m args below meth c Q S0 U0 pc' lv' st' M') : W p l e R s m args below meth c H locs (mS M - S0) (mU M - U0) Q (F0 m pc ls st) := by
  obtain rfl : len = 3 := len1 hl rfl
  unfold stp at h
  dsimp only at h
  split at h
  · split at h
    · rename_i h0
      have h0' := (Int.toNat_of_nonneg h0).symm
      split at h
      · rename_i hx
        obtain ⟨rfl, rfl, rfl, rfl⟩ := nx_inj h
        exact lv_if_le C.1 C.2.1 hd h0' (fun _ => kk H locs ls S) (fun z => absurd hx z)
      · rename_i hx
        obtain ⟨rfl, rfl, rfl, rfl⟩ := nx_inj h
        exact lv_if_le C.1 C.2.1 hd h0' (fun z => absurd z hx) (fun _ => kk H locs ls S)
    · cases h
  · cases h
theorem st_if_icmp_eq {j : Int} (C : Cx G q p R s m args meth c) (S : Sd G q M H locs ls lv) (hq : q < 177) (hS0 : S0 ≤ mS M) (hU0 : U0 ≤ mU M) (hc : mS M' ≤ R.cells + S0) (hu : mU M' ≤ R.slots + U0) (hd : decode (mB q) pc = .ok ((.if_icmp .eq j), len)) (hl : lenOK (.if_icmp .eq j) len = true) (h : stp (.if_icmp .eq j) q pc lv st M = some (pc', lv', st', M')) (kk : Kk G q p l e R s m args below meth c Q S0 U0 pc' lv' st' M') : W p l e R s m args below meth c H locs (mS M - S0) (mU M - U0) Q (F0 m pc ls st) := by
  obtain rfl : len = 3 := len1 hl rfl
  unfold stp at h
  dsimp only at h
  split at h
  · split at h
    · rename_i h0
      have h0' := (Int.toNat_of_nonneg h0).symm
      split at h
      · rename_i hx
        obtain ⟨rfl, rfl, rfl, rfl⟩ := nx_inj h
        exact lv_icmp_eq C.1 C.2.1 hd h0' (fun _ => kk H locs ls S) (fun z => absurd hx z)
      · rename_i hx
        obtain ⟨rfl, rfl, rfl, rfl⟩ := nx_inj h
        exact lv_icmp_eq C.1 C.2.1 hd h0' (fun z => absurd z hx) (fun _ => kk H locs ls S)
    · cases h
  · cases h
theorem st_if_icmp_ne {j : Int} (C : Cx G q p R s m args meth c) (S : Sd G q M H locs ls lv) (hq : q < 177) (hS0 : S0 ≤ mS M) (hU0 : U0 ≤ mU M) (hc : mS M' ≤ R.cells + S0) (hu : mU M' ≤ R.slots + U0) (hd : decode (mB q) pc = .ok ((.if_icmp .ne j), len)) (hl : lenOK (.if_icmp .ne j) len = true) (h : stp (.if_icmp .ne j) q pc lv st M = some (pc', lv', st', M')) (kk : Kk G q p l e R s m args below meth c Q S0 U0 pc' lv' st' M') : W p l e R s m args below meth c H locs (mS M - S0) (mU M - U0) Q (F0 m pc ls st) := by
  obtain rfl : len = 3 := len1 hl rfl
  unfold stp at h
  dsimp only at h
  split at h
  · split at h
    · rename_i h0
      have h0' := (Int.toNat_of_nonneg h0).symm
      split at h
      · rename_i hx
        obtain ⟨rfl, rfl, rfl, rfl⟩ := nx_inj h
        exact lv_icmp_ne C.1 C.2.1 hd h0' (fun _ => kk H locs ls S) (fun z => absurd z hx)
      · rename_i hx
        obtain ⟨rfl, rfl, rfl, rfl⟩ := nx_inj h
        exact lv_icmp_ne C.1 C.2.1 hd h0' (fun z => absurd z hx) (fun _ => kk H locs ls S)
    · cases h
  · cases h
theorem st_if_icmp_lt {j : Int} (C : Cx G q p R s m args meth c) (S : Sd G q M H locs ls lv) (hq : q < 177) (hS0 : S0 ≤ mS M) (hU0 : U0 ≤ mU M) (hc : mS M' ≤ R.cells + S0) (hu : mU M' ≤ R.slots + U0) (hd : decode (mB q) pc = .ok ((.if_icmp .lt j), len)) (hl : lenOK (.if_icmp .lt j) len = true) (h : stp (.if_icmp .lt j) q pc lv st M = some (pc', lv', st', M')) (kk : Kk G q p l e R s m args below meth c Q S0 U0 pc' lv' st' M') : W p l e R s m args below meth c H locs (mS M - S0) (mU M - U0) Q (F0 m pc ls st) := by
  obtain rfl : len = 3 := len1 hl rfl
  unfold stp at h
  dsimp only at h
  split at h
  · split at h
    · rename_i h0
      have h0' := (Int.toNat_of_nonneg h0).symm
      split at h
      · rename_i hx
        obtain ⟨rfl, rfl, rfl, rfl⟩ := nx_inj h
        exact lv_icmp_lt C.1 C.2.1 hd h0' (fun _ => kk H locs ls S) (fun z => absurd hx z)
      · rename_i hx
        obtain ⟨rfl, rfl, rfl, rfl⟩ := nx_inj h
        exact lv_icmp_lt C.1 C.2.1 hd h0' (fun z => absurd z hx) (fun _ => kk H locs ls S)
    · cases h
  · cases h
theorem st_if_icmp_ge {j : Int} (C : Cx G q p R s m args meth c) (S : Sd G q M H locs ls lv) (hq : q < 177) (hS0 : S0 ≤ mS M) (hU0 : U0 ≤ mU M) (hc : mS M' ≤ R.cells + S0) (hu : mU M' ≤ R.slots + U0) (hd : decode (mB q) pc = .ok ((.if_icmp .ge j), len)) (hl : lenOK (.if_icmp .ge j) len = true) (h : stp (.if_icmp .ge j) q pc lv st M = some (pc', lv', st', M')) (kk : Kk G q p l e R s m args below meth c Q S0 U0 pc' lv' st' M') : W p l e R s m args below meth c H locs (mS M - S0) (mU M - U0) Q (F0 m pc ls st) := by
  obtain rfl : len = 3 := len1 hl rfl
  unfold stp at h
  dsimp only at h
  split at h
  · split at h
    · rename_i h0
      have h0' := (Int.toNat_of_nonneg h0).symm
      split at h
      · rename_i hx
        obtain ⟨rfl, rfl, rfl, rfl⟩ := nx_inj h
        exact lv_icmp_ge C.1 C.2.1 hd h0' (fun _ => kk H locs ls S) (fun z => absurd hx z)
      · rename_i hx
        obtain ⟨rfl, rfl, rfl, rfl⟩ := nx_inj h
        exact lv_icmp_ge C.1 C.2.1 hd h0' (fun z => absurd z hx) (fun _ => kk H locs ls S)
    · cases h
  · cases h
theorem st_if_icmp_gt {j : Int} (C : Cx G q p R s m args meth c) (S : Sd G q M H locs ls lv) (hq : q < 177) (hS0 : S0 ≤ mS M) (hU0 : U0 ≤ mU M) (hc : mS M' ≤ R.cells + S0) (hu : mU M' ≤ R.slots + U0) (hd : decode (mB q) pc = .ok ((.if_icmp .gt j), len)) (hl : lenOK (.if_icmp .gt j) len = true) (h : stp (.if_icmp .gt j) q pc lv st M = some (pc', lv', st', M')) (kk : Kk G q p l e R s m args below meth c Q S0 U0 pc' lv' st' M') : W p l e R s m args below meth c H locs (mS M - S0) (mU M - U0) Q (F0 m pc ls st) := by
  obtain rfl : len = 3 := len1 hl rfl
  unfold stp at h
  dsimp only at h
  split at h
  · split at h
    · rename_i h0
      have h0' := (Int.toNat_of_nonneg h0).symm
      split at h
      · rename_i hx
        obtain ⟨rfl, rfl, rfl, rfl⟩ := nx_inj h
        exact lv_icmp_gt C.1 C.2.1 hd h0' (fun _ => kk H locs ls S) (fun z => absurd hx z)
      · rename_i hx
        obtain ⟨rfl, rfl, rfl, rfl⟩ := nx_inj h
        exact lv_icmp_gt C.1 C.2.1 hd h0' (fun z => absurd z hx) (fun _ => kk H locs ls S)
    · cases h
  · cases h
theorem st_if_icmp_le {j : Int} (C : Cx G q p R s m args meth c) (S : Sd G q M H locs ls lv) (hq : q < 177) (hS0 : S0 ≤ mS M) (hU0 : U0 ≤ mU M) (hc : mS M' ≤ R.cells + S0) (hu : mU M' ≤ R.slots + U0) (hd : decode (mB q) pc = .ok ((.if_icmp .le j), len)) (hl : lenOK (.if_icmp .le j) len = true) (h : stp (.if_icmp .le j) q pc lv st M = some (pc', lv', st', M')) (kk : Kk G q p l e R s m args below meth c Q S0 U0 pc' lv' st' M') : W p l e R s m args below meth c H locs (mS M - S0) (mU M - U0) Q (F0 m pc ls st) := by
  obtain rfl : len = 3 := len1 hl rfl
  unfold stp at h
  dsimp only at h
  split at h
  · split at h
    · rename_i h0
      have h0' := (Int.toNat_of_nonneg h0).symm
      split at h
      · rename_i hx
        obtain ⟨rfl, rfl, rfl, rfl⟩ := nx_inj h
        exact lv_icmp_le C.1 C.2.1 hd h0' (fun _ => kk H locs ls S) (fun z => absurd hx z)
      · rename_i hx
        obtain ⟨rfl, rfl, rfl, rfl⟩ := nx_inj h
        exact lv_icmp_le C.1 C.2.1 hd h0' (fun z => absurd z hx) (fun _ => kk H locs ls S)
    · cases h
  · cases h
theorem st_tableswitch {d lo hi : Int} {offs : Array Int} (C : Cx G q p R s m args meth c) (S : Sd G q M H locs ls lv) (hq : q < 177) (hS0 : S0 ≤ mS M) (hU0 : U0 ≤ mU M) (hc : mS M' ≤ R.cells + S0) (hu : mU M' ≤ R.slots + U0) (hd : decode (mB q) pc = .ok ((.tableswitch d lo hi offs), len)) (hl : lenOK (.tableswitch d lo hi offs) len = true) (h : stp (.tableswitch d lo hi offs) q pc lv st M = some (pc', lv', st', M')) (kk : Kk G q p l e R s m args below meth c Q S0 U0 pc' lv' st' M') : W p l e R s m args below meth c H locs (mS M - S0) (mU M - U0) Q (F0 m pc ls st) := by
  unfold stp at h
  dsimp only at h
  split at h
  · split at h
    · rename_i hx
      obtain ⟨h1, rfl, rfl, rfl⟩ := nxj_inj h
      exact lv_tableOut C.1 C.2.1 hd hx h1 (kk H locs ls S)
    · rename_i hx
      split at h
      · rename_i hoff
        obtain ⟨h1, rfl, rfl, rfl⟩ := nxj_inj h
        exact lv_tableIn C.1 C.2.1 hd (fun z => hx (Or.inl z)) (fun z => hx (Or.inr z)) hoff h1 (kk H locs ls S)
      · cases h
  · cases h
theorem st_getfield {i : Nat} (C : Cx G q p R s m args meth c) (S : Sd G q M H locs ls lv) (hq : q < 177) (hS0 : S0 ≤ mS M) (hU0 : U0 ≤ mU M) (hc : mS M' ≤ R.cells + S0) (hu : mU M' ≤ R.slots + U0) (hd : decode (mB q) pc = .ok ((.getfield i), len)) (hl : lenOK (.getfield i) len = true) (h : stp (.getfield i) q pc lv st M = some (pc', lv', st', M')) (kk : Kk G q p l e R s m args below meth c Q S0 U0 pc' lv' st' M') : W p l e R s m args below meth c H locs (mS M - S0) (mU M - U0) Q (F0 m pc ls st) := by
  obtain rfl : len = 3 := len1 hl rfl
  unfold stp at h
  dsimp only at h
  split at h
  · rename_i hf
    split at h
    · rename_i hk
      obtain ⟨rfl, rfl, rfl, rfl⟩ := nx_inj h
      exact s_get C S hf hk hd (kk H locs ls S)
    · cases h
  · cases h
theorem st_putfield {i : Nat} (C : Cx G q p R s m args meth c) (S : Sd G q M H locs ls lv) (hq : q < 177) (hS0 : S0 ≤ mS M) (hU0 : U0 ≤ mU M) (hc : mS M' ≤ R.cells + S0) (hu : mU M' ≤ R.slots + U0) (hd : decode (mB q) pc = .ok ((.putfield i), len)) (hl : lenOK (.putfield i) len = true) (h : stp (.putfield i) q pc lv st M = some (pc', lv', st', M')) (kk : Kk G q p l e R s m args below meth c Q S0 U0 pc' lv' st' M') : W p l e R s m args below meth c H locs (mS M - S0) (mU M - U0) Q (F0 m pc ls st) := by
  obtain rfl : len = 3 := len1 hl rfl
  unfold stp at h
  dsimp only at h
  split at h
  · rename_i hf
    split at h
    · rename_i hk
      split at h
      · rename_i ht
        obtain ⟨rfl, rfl, rfl, rfl⟩ := nx_inj h
        obtain ⟨-, h2, h3⟩ := fld_spec hf
        exact s_put C S hq hf hk.1 hk.2 (put_i h3 h2 ht) hd (fun H1 j hB z o ob => kk H1 _ ls (S.heap (S.1.sI z o (wAt_obj h3 hk.1 hB (by rw [← fv_sI (ht.imp id And.left)]; exact ob))) hB))
      · cases h
    · cases h
  · rename_i hf
    split at h
    · rename_i hk
      split at h
      · rename_i ht
        obtain ⟨rfl, rfl, rfl, rfl⟩ := nx_inj h
        obtain ⟨-, h2, h3⟩ := fld_spec hf
        exact s_put C S hq hf hk.1 hk.2 (put_l h3 h2 ht) hd (fun H1 j hB z o ob => kk H1 _ ls (S.heap (S.1.sJ z o (wAt_obj h3 hk.1 hB (by rw [← fv_sJ ht]; exact ob))) hB))
      · cases h
    · cases h
  · rename_i hf
    split at h
    · rename_i hk
      split at h
      · rename_i ht
        obtain ⟨rfl, rfl, rfl, rfl⟩ := nx_inj h
        obtain ⟨-, h2, h3⟩ := fld_spec hf
        exact s_put C S hq hf hk.1 hk.2 (put_r h3 h2 ht) hd (fun H1 j hB z o ob => kk H1 _ ls (S.heap (S.1.sP z o (wAt_obj h3 hk.1 hB (by rw [← fv_sP ht]; exact ob))) hB))
      · cases h
    · cases h
  · cases h
theorem st_iaload  (C : Cx G q p R s m args meth c) (S : Sd G q M H locs ls lv) (hq : q < 177) (hS0 : S0 ≤ mS M) (hU0 : U0 ≤ mU M) (hc : mS M' ≤ R.cells + S0) (hu : mU M' ≤ R.slots + U0) (hd : decode (mB q) pc = .ok ((.iaload), len)) (hl : lenOK (.iaload) len = true) (h : stp (.iaload) q pc lv st M = some (pc', lv', st', M')) (kk : Kk G q p l e R s m args below meth c Q S0 U0 pc' lv' st' M') : W p l e R s m args below meth c H locs (mS M - S0) (mU M - U0) Q (F0 m pc ls st) := by
  obtain rfl : len = 1 := len1 hl rfl
  unfold stp at h
  dsimp only at h
  split at h
  · split at h
    · rename_i hk
      obtain ⟨rfl, rfl, rfl, rfl⟩ := nx_inj h
      exact s_iald C S hk.1 hk.2 hd (kk H locs ls S)
    · cases h
  · cases h
theorem st_laload  (C : Cx G q p R s m args meth c) (S : Sd G q M H locs ls lv) (hq : q < 177) (hS0 : S0 ≤ mS M) (hU0 : U0 ≤ mU M) (hc : mS M' ≤ R.cells + S0) (hu : mU M' ≤ R.slots + U0) (hd : decode (mB q) pc = .ok ((.laload), len)) (hl : lenOK (.laload) len = true) (h : stp (.laload) q pc lv st M = some (pc', lv', st', M')) (kk : Kk G q p l e R s m args below meth c Q S0 U0 pc' lv' st' M') : W p l e R s m args below meth c H locs (mS M - S0) (mU M - U0) Q (F0 m pc ls st) := by
  obtain rfl : len = 1 := len1 hl rfl
  unfold stp at h
  dsimp only at h
  split at h
  · split at h
    · rename_i hk
      obtain ⟨rfl, rfl, rfl, rfl⟩ := nx_inj h
      exact s_lald C S hk.1 hk.2 hd (kk H locs ls S)
    · cases h
  · cases h
theorem st_aaload  (C : Cx G q p R s m args meth c) (S : Sd G q M H locs ls lv) (hq : q < 177) (hS0 : S0 ≤ mS M) (hU0 : U0 ≤ mU M) (hc : mS M' ≤ R.cells + S0) (hu : mU M' ≤ R.slots + U0) (hd : decode (mB q) pc = .ok ((.aaload), len)) (hl : lenOK (.aaload) len = true) (h : stp (.aaload) q pc lv st M = some (pc', lv', st', M')) (kk : Kk G q p l e R s m args below meth c Q S0 U0 pc' lv' st' M') : W p l e R s m args below meth c H locs (mS M - S0) (mU M - U0) Q (F0 m pc ls st) := by
  obtain rfl : len = 1 := len1 hl rfl
  unfold stp at h
  dsimp only at h
  split at h
  · split at h
    · rename_i hk
      obtain ⟨rfl, rfl, rfl, rfl⟩ := nx_inj h
      exact s_aald C S hk.1 hk.2 hd (kk H locs ls S)
    · cases h
  · cases h
theorem st_iastore  (C : Cx G q p R s m args meth c) (S : Sd G q M H locs ls lv) (hq : q < 177) (hS0 : S0 ≤ mS M) (hU0 : U0 ≤ mU M) (hc : mS M' ≤ R.cells + S0) (hu : mU M' ≤ R.slots + U0) (hd : decode (mB q) pc = .ok ((.iastore), len)) (hl : lenOK (.iastore) len = true) (h : stp (.iastore) q pc lv st M = some (pc', lv', st', M')) (kk : Kk G q p l e R s m args below meth c Q S0 U0 pc' lv' st' M') : W p l e R s m args below meth c H locs (mS M - S0) (mU M - U0) Q (F0 m pc ls st) := by
  obtain rfl : len = 1 := len1 hl rfl
  unfold stp at h
  dsimp only at h
  split at h
  · split at h
    · rename_i hk
      obtain ⟨rfl, rfl, rfl, rfl⟩ := nx_inj h
      exact s_iast C S hk.1 hk.2 hd (fun H1 locs1 S1 => kk H1 locs1 ls S1)
    · cases h
  · cases h
theorem st_lastore  (C : Cx G q p R s m args meth c) (S : Sd G q M H locs ls lv) (hq : q < 177) (hS0 : S0 ≤ mS M) (hU0 : U0 ≤ mU M) (hc : mS M' ≤ R.cells + S0) (hu : mU M' ≤ R.slots + U0) (hd : decode (mB q) pc = .ok ((.lastore), len)) (hl : lenOK (.lastore) len = true) (h : stp (.lastore) q pc lv st M = some (pc', lv', st', M')) (kk : Kk G q p l e R s m args below meth c Q S0 U0 pc' lv' st' M') : W p l e R s m args below meth c H locs (mS M - S0) (mU M - U0) Q (F0 m pc ls st) := by
  obtain rfl : len = 1 := len1 hl rfl
  unfold stp at h
  dsimp only at h
  split at h
  · split at h
    · rename_i hk
      obtain ⟨rfl, rfl, rfl, rfl⟩ := nx_inj h
      exact s_last C S hk.1 hk.2 hd (fun H1 locs1 S1 => kk H1 locs1 ls S1)
    · cases h
  · cases h
theorem st_aastore  (C : Cx G q p R s m args meth c) (S : Sd G q M H locs ls lv) (hq : q < 177) (hS0 : S0 ≤ mS M) (hU0 : U0 ≤ mU M) (hc : mS M' ≤ R.cells + S0) (hu : mU M' ≤ R.slots + U0) (hd : decode (mB q) pc = .ok ((.aastore), len)) (hl : lenOK (.aastore) len = true) (h : stp (.aastore) q pc lv st M = some (pc', lv', st', M')) (kk : Kk G q p l e R s m args below meth c Q S0 U0 pc' lv' st' M') : W p l e R s m args below meth c H locs (mS M - S0) (mU M - U0) Q (F0 m pc ls st) := by
  obtain rfl : len = 1 := len1 hl rfl
  unfold stp at h
  dsimp only at h
  split at h
  · split at h
    · rename_i hk
      obtain ⟨rfl, rfl, rfl, rfl⟩ := nx_inj h
      obtain ⟨hk, hi⟩ := hk
      rcases hk with ⟨ha, hb⟩ | ⟨ha, hb⟩
      · exact s_aast C S (k := 3) (Or.inl rfl) ha hb hi hd (fun H1 locs1 S1 => kk H1 locs1 ls S1)
      · exact s_aast C S (k := 4) (Or.inr rfl) ha hb hi hd (fun H1 locs1 S1 => kk H1 locs1 ls S1)
    · cases h
  · cases h
theorem st_arraylength  (C : Cx G q p R s m args meth c) (S : Sd G q M H locs ls lv) (hq : q < 177) (hS0 : S0 ≤ mS M) (hU0 : U0 ≤ mU M) (hc : mS M' ≤ R.cells + S0) (hu : mU M' ≤ R.slots + U0) (hd : decode (mB q) pc = .ok ((.arraylength), len)) (hl : lenOK (.arraylength) len = true) (h : stp (.arraylength) q pc lv st M = some (pc', lv', st', M')) (kk : Kk G q p l e R s m args below meth c Q S0 U0 pc' lv' st' M') : W p l e R s m args below meth c H locs (mS M - S0) (mU M - U0) Q (F0 m pc ls st) := by
  obtain rfl : len = 1 := len1 hl rfl
  unfold stp at h
  dsimp only at h
  split at h
  · split at h
    · rename_i hk
      obtain ⟨rfl, rfl, rfl, rfl⟩ := nx_inj h
      exact s_alen C S hk hd (kk H locs ls S)
    · cases h
  · cases h
theorem st_new {i : Nat} (C : Cx G q p R s m args meth c) (S : Sd G q M H locs ls lv) (hq : q < 177) (hS0 : S0 ≤ mS M) (hU0 : U0 ≤ mU M) (hc : mS M' ≤ R.cells + S0) (hu : mU M' ≤ R.slots + U0) (hd : decode (mB q) pc = .ok ((.new i), len)) (hl : lenOK (.new i) len = true) (h : stp (.new i) q pc lv st M = some (pc', lv', st', M')) (kk : Kk G q p l e R s m args below meth c Q S0 U0 pc' lv' st' M') : W p l e R s m args below meth c H locs (mS M - S0) (mU M - U0) Q (F0 m pc ls st) := by
  obtain rfl : len = 3 := len1 hl rfl
  unfold stp at h
  dsimp only at h
  split at h
  · rename_i ci hf
    split at h
    · rename_i hci
      obtain ⟨rfl, rfl, rfl, rfl⟩ := nx_inj h
      have e1 : mS M - S0 + 1 = mS (nw M (10 + ci, 0) (NN ci)) - S0 := by show _ = mS M + 1 - S0; omega
      have e2 : mU M - U0 + (NN ci) = mU (nw M (10 + ci, 0) (NN ci)) - U0 := by show _ = mU M + (NN ci) - U0; omega
      have e3 : mS (nw M (10 + ci, 0) (NN ci)) = mS M + 1 := rfl
      have e4 : mU (nw M (10 + ci, 0) (NN ci)) = mU M + (NN ci) := rfl
      exact s_new C S hf hci (by omega) (by omega) hd (fun H1 S1 => by rw [e1, e2]; exact kk H1 locs ls S1)
    · cases h
  · cases h
theorem st_newarray {t : ArrayType} (C : Cx G q p R s m args meth c) (S : Sd G q M H locs ls lv) (hq : q < 177) (hS0 : S0 ≤ mS M) (hU0 : U0 ≤ mU M) (hc : mS M' ≤ R.cells + S0) (hu : mU M' ≤ R.slots + U0) (hd : decode (mB q) pc = .ok ((.newarray t), len)) (hl : lenOK (.newarray t) len = true) (h : stp (.newarray t) q pc lv st M = some (pc', lv', st', M')) (kk : Kk G q p l e R s m args below meth c Q S0 U0 pc' lv' st' M') : W p l e R s m args below meth c H locs (mS M - S0) (mU M - U0) Q (F0 m pc ls st) := by
  obtain rfl : len = 2 := len1 hl rfl
  unfold stp at h
  dsimp only at h
  split at h
  · split at h
    · rename_i n r hn
      obtain ⟨rfl, rfl, rfl, rfl⟩ := nx_inj h
      have e1 : mS M - S0 + 1 = mS (nw M (1, n.toNatClampNeg) n.toNatClampNeg) - S0 := by show _ = mS M + 1 - S0; omega
      have e2 : mU M - U0 + n.toNatClampNeg = mU (nw M (1, n.toNatClampNeg) n.toNatClampNeg) - U0 := by show _ = mU M + n.toNatClampNeg - U0; omega
      have e3 : mS (nw M (1, n.toNatClampNeg) n.toNatClampNeg) = mS M + 1 := rfl
      have e4 : mU (nw M (1, n.toNatClampNeg) n.toNatClampNeg) = mU M + n.toNatClampNeg := rfl
      exact s_newI C S hn.1 hn.2 (by omega) (by omega) hd (fun H1 S1 => by rw [e1, e2]; exact kk H1 locs ls S1)
    · cases h
  · split at h
    · rename_i n r hn
      obtain ⟨rfl, rfl, rfl, rfl⟩ := nx_inj h
      have e1 : mS M - S0 + 1 = mS (nw M (2, n.toNatClampNeg) n.toNatClampNeg) - S0 := by show _ = mS M + 1 - S0; omega
      have e2 : mU M - U0 + n.toNatClampNeg = mU (nw M (2, n.toNatClampNeg) n.toNatClampNeg) - U0 := by show _ = mU M + n.toNatClampNeg - U0; omega
      have e3 : mS (nw M (2, n.toNatClampNeg) n.toNatClampNeg) = mS M + 1 := rfl
      have e4 : mU (nw M (2, n.toNatClampNeg) n.toNatClampNeg) = mU M + n.toNatClampNeg := rfl
      exact s_newJ C S hn.1 hn.2 (by omega) (by omega) hd (fun H1 S1 => by rw [e1, e2]; exact kk H1 locs ls S1)
    · cases h
  · cases h
theorem st_anewarray {i : Nat} (C : Cx G q p R s m args meth c) (S : Sd G q M H locs ls lv) (hq : q < 177) (hS0 : S0 ≤ mS M) (hU0 : U0 ≤ mU M) (hc : mS M' ≤ R.cells + S0) (hu : mU M' ≤ R.slots + U0) (hd : decode (mB q) pc = .ok ((.anewarray i), len)) (hl : lenOK (.anewarray i) len = true) (h : stp (.anewarray i) q pc lv st M = some (pc', lv', st', M')) (kk : Kk G q p l e R s m args below meth c Q S0 U0 pc' lv' st' M') : W p l e R s m args below meth c H locs (mS M - S0) (mU M - U0) Q (F0 m pc ls st) := by
  obtain rfl : len = 3 := len1 hl rfl
  unfold stp at h
  dsimp only at h
  split at h
  · rename_i ci n r hf
    split at h
    · rename_i hn
      obtain ⟨rfl, rfl, rfl, rfl⟩ := nx_inj h
      obtain ⟨hn, hci⟩ := hn
      generalize hk : (if ci = aoC 3 then 3 else 4) = k at *
      have e1 : mS M - S0 + 1 = mS (nw M (k, n.toNatClampNeg) n.toNatClampNeg) - S0 := by show _ = mS M + 1 - S0; omega
      have e2 : mU M - U0 + n.toNatClampNeg = mU (nw M (k, n.toNatClampNeg) n.toNatClampNeg) - U0 := by show _ = mU M + n.toNatClampNeg - U0; omega
      have e3 : mS (nw M (k, n.toNatClampNeg) n.toNatClampNeg) = mS M + 1 := rfl
      have e4 : mU (nw M (k, n.toNatClampNeg) n.toNatClampNeg) = mU M + n.toNatClampNeg := rfl
      have hk2 : (k = 3 ∨ k = 4) ∧ ci = aoC k := by
        rcases hci with rfl | rfl
        · rw [if_pos rfl] at hk; subst hk; exact ⟨Or.inl rfl, rfl⟩
        · rw [if_neg (by decide)] at hk; subst hk; exact ⟨Or.inr rfl, rfl⟩
      exact s_newP C S hk2.1 (by rw [hf, hk2.2]) hn.1 hn.2 (by omega) (by omega) hd (fun H1 S1 => by rw [e1, e2]; exact kk H1 locs ls S1)
    · cases h
  · cases h
theorem st_invokespecial {i : Nat} (C : Cx G q p R s m args meth c) (S : Sd G q M H locs ls lv) (hq : q < 177) (hS0 : S0 ≤ mS M) (hU0 : U0 ≤ mU M) (hc : mS M' ≤ R.cells + S0) (hu : mU M' ≤ R.slots + U0) (hd : decode (mB q) pc = .ok ((.invokespecial i), len)) (hl : lenOK (.invokespecial i) len = true) (h : stp (.invokespecial i) q pc lv st M = some (pc', lv', st', M')) (kk : Kk G q p l e R s m args below meth c Q S0 U0 pc' lv' st' M') : W p l e R s m args below meth c H locs (mS M - S0) (mU M - U0) Q (F0 m pc ls st) := by
  obtain rfl : len = 3 := len1 hl rfl
  unfold stp at h
  dsimp only at h
  split at h
  · rename_i ho
    split at h
    · split at h
      · rename_i hk
        obtain ⟨rfl, rfl, rfl, rfl⟩ := nx_inj h
        have hw := objB
        rw [Bool.and_eq_true] at hw
        obtain ⟨hx, hb, hml, hown, hts, hK, hin, hfr, hlo⟩ := C
        refine W.objInit hx hb hown (hts _ (obj_spec ho)) (hts _ (hasW_in hw.1)) (hts _ (hasW_in hw.2)) rfl (by rw [hml]; exact S.2.2.1.1) rfl hd (by omega) (by
          show 2 * 0 + catS st' + 12 ≤ _
          omega) (kk H locs ls S)
      · cases h
    · cases h
  · cases h
theorem st_invokestatic {i : Nat} (C : Cx G q p R s m args meth c) (S : Sd G q M H locs ls lv) (hq : q < 177) (hS0 : S0 ≤ mS M) (hU0 : U0 ≤ mU M) (hc : mS M' ≤ R.cells + S0) (hu : mU M' ≤ R.slots + U0) (hd : decode (mB q) pc = .ok ((.invokestatic i), len)) (hl : lenOK (.invokestatic i) len = true) (h : stp (.invokestatic i) q pc lv st M = some (pc', lv', st', M')) (kk : Kk G q p l e R s m args below meth c Q S0 U0 pc' lv' st' M') : W p l e R s m args below meth c H locs (mS M - S0) (mU M - U0) Q (F0 m pc ls st) := by
  obtain rfl : len = 3 := len1 hl rfl
  unfold stp at h
  dsimp only at h
  split at h
  · rename_i ho
    unfold doC at h
    split at h
    · split at h
      · rename_i hk
        rw [Bool.and_eq_true] at hk
        have hr := Nat.le_of_ble_eq_true hk.1
        have hdp := Nat.le_of_ble_eq_true hk.2
        split at h
        · rename_i hb
          obtain ⟨⟨h1, h2, h3⟩, h4, h5⟩ := hb
          split at h
          · rename_i hkk
            obtain ⟨rfl, rfl, rfl, rfl⟩ := nx_inj h
            exact s_cpy C S S.2.2.1.1 (k := 1) (Or.inl rfl) hkk.1 hkk.2 ho h1 h2 h3 h4 h5 hr hdp hd (fun H1 locs1 hB hL z o hA => kk H1 locs1 ls ⟨S.1.sI z o (wAt_arr (k := 1) (n := _) (by omega) (by omega) (by rw [← hkk.1]; rfl) hB (by rw [hA, elI, elI, elI, mI_sI, if_pos rfl]; congr 2; funext j; unfold va_cpy; split <;> rfl)), hL, S.2.2⟩)
          · split at h
            · rename_i hkk
              obtain ⟨rfl, rfl, rfl, rfl⟩ := nx_inj h
              exact s_cpy C S S.2.2.1.1 (k := 2) (Or.inr rfl) hkk.1 hkk.2 ho h1 h2 h3 h4 h5 hr hdp hd (fun H1 locs1 hB hL z o hA => kk H1 locs1 ls ⟨S.1.sJ z o (wAt_arr (k := 2) (n := _) (by omega) (by omega) (by rw [← hkk.1]; rfl) hB (by rw [hA, elJ, elJ, elJ, mJ_sJ, if_pos rfl]; congr 2; funext j; unfold va_cpy; split <;> rfl)), hL, S.2.2⟩)
            · cases h
        · cases h
      · cases h
    · cases h
  · cases h
end ST
end
section
/-! all instructions that are no call; memory grows alone; calls; the whole run -/
theorem mo_leaf {M M' : SM} (h : M' = M) : mS M ≤ mS M' ∧ mU M ≤ mU M' := by rw [h]; exact ⟨Nat.le_refl _, Nat.le_refl _⟩
section MO
variable {q pc pc' : Nat} {lv lv' : List (Option Value)} {st st' : List Value} {M M' : SM}
theorem mo_iload_n {k : Fin 4} (h : stp (.iload_n k) q pc lv st M = some (pc', lv', st', M')) : mS M ≤ mS M' ∧ mU M ≤ mU M' := by
  unfold stp at h
  dsimp only at h
  repeat' split at h
  all_goals first
    | (cases h; done)
    | exact mo_leaf (nx_inj h).2.2.2
    | exact mo_leaf (nxj_inj h).2.2.2
    | (obtain ⟨-, -, -, rfl⟩ := nx_inj h; exact ⟨Nat.le_refl _, Nat.le_refl _⟩)
    | (obtain ⟨-, -, -, rfl⟩ := nx_inj h; exact ⟨Nat.le_succ _, Nat.le_add_right _ _⟩)
theorem mo_iload {k : Nat} (h : stp (.iload k) q pc lv st M = some (pc', lv', st', M')) : mS M ≤ mS M' ∧ mU M ≤ mU M' := by
  unfold stp at h
  dsimp only at h
  repeat' split at h
  all_goals first
    | (cases h; done)
    | exact mo_leaf (nx_inj h).2.2.2
    | exact mo_leaf (nxj_inj h).2.2.2
    | (obtain ⟨-, -, -, rfl⟩ := nx_inj h; exact ⟨Nat.le_refl _, Nat.le_refl _⟩)
    | (obtain ⟨-, -, -, rfl⟩ := nx_inj h; exact ⟨Nat.le_succ _, Nat.le_add_right _ _⟩)
theorem mo_aload_n {k : Fin 4} (h : stp (.aload_n k) q pc lv st M = some (pc', lv', st', M')) : mS M ≤ mS M' ∧ mU M ≤ mU M' := by
  unfold stp at h
  dsimp only at h
  repeat' split at h
  all_goals first
    | (cases h; done)
    | exact mo_leaf (nx_inj h).2.2.2
    | exact mo_leaf (nxj_inj h).2.2.2
    | (obtain ⟨-, -, -, rfl⟩ := nx_inj h; exact ⟨Nat.le_refl _, Nat.le_refl _⟩)
    | (obtain ⟨-, -, -, rfl⟩ := nx_inj h; exact ⟨Nat.le_succ _, Nat.le_add_right _ _⟩)
theorem mo_aload {k : Nat} (h : stp (.aload k) q pc lv st M = some (pc', lv', st', M')) : mS M ≤ mS M' ∧ mU M ≤ mU M' := by
  unfold stp at h
  dsimp only at h
  repeat' split at h
  all_goals first
    | (cases h; done)
    | exact mo_leaf (nx_inj h).2.2.2
    | exact mo_leaf (nxj_inj h).2.2.2
    | (obtain ⟨-, -, -, rfl⟩ := nx_inj h; exact ⟨Nat.le_refl _, Nat.le_refl _⟩)
    | (obtain ⟨-, -, -, rfl⟩ := nx_inj h; exact ⟨Nat.le_succ _, Nat.le_add_right _ _⟩)
theorem mo_lload_n {k : Fin 4} (h : stp (.lload_n k) q pc lv st M = some (pc', lv', st', M')) : mS M ≤ mS M' ∧ mU M ≤ mU M' := by
  unfold stp at h
  dsimp only at h
  repeat' split at h
  all_goals first
    | (cases h; done)
    | exact mo_leaf (nx_inj h).2.2.2
    | exact mo_leaf (nxj_inj h).2.2.2
    | (obtain ⟨-, -, -, rfl⟩ := nx_inj h; exact ⟨Nat.le_refl _, Nat.le_refl _⟩)
    | (obtain ⟨-, -, -, rfl⟩ := nx_inj h; exact ⟨Nat.le_succ _, Nat.le_add_right _ _⟩)
theorem mo_lload {k : Nat} (h : stp (.lload k) q pc lv st M = some (pc', lv', st', M')) : mS M ≤ mS M' ∧ mU M ≤ mU M' := by
  unfold stp at h
  dsimp only at h
  repeat' split at h
  all_goals first
    | (cases h; done)
    | exact mo_leaf (nx_inj h).2.2.2
    | exact mo_leaf (nxj_inj h).2.2.2
    | (obtain ⟨-, -, -, rfl⟩ := nx_inj h; exact ⟨Nat.le_refl _, Nat.le_refl _⟩)
    | (obtain ⟨-, -, -, rfl⟩ := nx_inj h; exact ⟨Nat.le_succ _, Nat.le_add_right _ _⟩)
theorem mo_istore_n {k : Fin 4} (h : stp (.istore_n k) q pc lv st M = some (pc', lv', st', M')) : mS M ≤ mS M' ∧ mU M ≤ mU M' := by
  unfold stp at h
  dsimp only at h
  repeat' split at h
  all_goals first
    | (cases h; done)
    | exact mo_leaf (nx_inj h).2.2.2
    | exact mo_leaf (nxj_inj h).2.2.2
    | (obtain ⟨-, -, -, rfl⟩ := nx_inj h; exact ⟨Nat.le_refl _, Nat.le_refl _⟩)
    | (obtain ⟨-, -, -, rfl⟩ := nx_inj h; exact ⟨Nat.le_succ _, Nat.le_add_right _ _⟩)
theorem mo_istore {k : Nat} (h : stp (.istore k) q pc lv st M = some (pc', lv', st', M')) : mS M ≤ mS M' ∧ mU M ≤ mU M' := by
  unfold stp at h
  dsimp only at h
  repeat' split at h
  all_goals first
    | (cases h; done)
    | exact mo_leaf (nx_inj h).2.2.2
    | exact mo_leaf (nxj_inj h).2.2.2
    | (obtain ⟨-, -, -, rfl⟩ := nx_inj h; exact ⟨Nat.le_refl _, Nat.le_refl _⟩)
    | (obtain ⟨-, -, -, rfl⟩ := nx_inj h; exact ⟨Nat.le_succ _, Nat.le_add_right _ _⟩)
theorem mo_astore_n {k : Fin 4} (h : stp (.astore_n k) q pc lv st M = some (pc', lv', st', M')) : mS M ≤ mS M' ∧ mU M ≤ mU M' := by
  unfold stp at h
  dsimp only at h
  repeat' split at h
  all_goals first
    | (cases h; done)
    | exact mo_leaf (nx_inj h).2.2.2
    | exact mo_leaf (nxj_inj h).2.2.2
    | (obtain ⟨-, -, -, rfl⟩ := nx_inj h; exact ⟨Nat.le_refl _, Nat.le_refl _⟩)
    | (obtain ⟨-, -, -, rfl⟩ := nx_inj h; exact ⟨Nat.le_succ _, Nat.le_add_right _ _⟩)
theorem mo_astore {k : Nat} (h : stp (.astore k) q pc lv st M = some (pc', lv', st', M')) : mS M ≤ mS M' ∧ mU M ≤ mU M' := by
  unfold stp at h
  dsimp only at h
  repeat' split at h
  all_goals first
    | (cases h; done)
    | exact mo_leaf (nx_inj h).2.2.2
    | exact mo_leaf (nxj_inj h).2.2.2
    | (obtain ⟨-, -, -, rfl⟩ := nx_inj h; exact ⟨Nat.le_refl _, Nat.le_refl _⟩)
    | (obtain ⟨-, -, -, rfl⟩ := nx_inj h; exact ⟨Nat.le_succ _, Nat.le_add_right _ _⟩)
theorem mo_lstore_n {k : Fin 4} (h : stp (.lstore_n k) q pc lv st M = some (pc', lv', st', M')) : mS M ≤ mS M' ∧ mU M ≤ mU M' := by
  unfold stp at h
  dsimp only at h
  repeat' split at h
  all_goals first
    | (cases h; done)
    | exact mo_leaf (nx_inj h).2.2.2
    | exact mo_leaf (nxj_inj h).2.2.2
    | (obtain ⟨-, -, -, rfl⟩ := nx_inj h; exact ⟨Nat.le_refl _, Nat.le_refl _⟩)
    | (obtain ⟨-, -, -, rfl⟩ := nx_inj h; exact ⟨Nat.le_succ _, Nat.le_add_right _ _⟩)
theorem mo_lstore {k : Nat} (h : stp (.lstore k) q pc lv st M = some (pc', lv', st', M')) : mS M ≤ mS M' ∧ mU M ≤ mU M' := by
  unfold stp at h
  dsimp only at h
  repeat' split at h
  all_goals first
    | (cases h; done)
    | exact mo_leaf (nx_inj h).2.2.2
    | exact mo_leaf (nxj_inj h).2.2.2
    | (obtain ⟨-, -, -, rfl⟩ := nx_inj h; exact ⟨Nat.le_refl _, Nat.le_refl _⟩)
    | (obtain ⟨-, -, -, rfl⟩ := nx_inj h; exact ⟨Nat.le_succ _, Nat.le_add_right _ _⟩)
theorem mo_iinc {k : Nat} {n : Int} (h : stp (.iinc k n) q pc lv st M = some (pc', lv', st', M')) : mS M ≤ mS M' ∧ mU M ≤ mU M' := by
  unfold stp at h
  dsimp only at h
  repeat' split at h
  all_goals first
    | (cases h; done)
    | exact mo_leaf (nx_inj h).2.2.2
    | exact mo_leaf (nxj_inj h).2.2.2
    | (obtain ⟨-, -, -, rfl⟩ := nx_inj h; exact ⟨Nat.le_refl _, Nat.le_refl _⟩)
    | (obtain ⟨-, -, -, rfl⟩ := nx_inj h; exact ⟨Nat.le_succ _, Nat.le_add_right _ _⟩)
theorem mo_iconst {n : Int} (h : stp (.iconst n) q pc lv st M = some (pc', lv', st', M')) : mS M ≤ mS M' ∧ mU M ≤ mU M' := by
  unfold stp at h
  dsimp only at h
  repeat' split at h
  all_goals first
    | (cases h; done)
    | exact mo_leaf (nx_inj h).2.2.2
    | exact mo_leaf (nxj_inj h).2.2.2
    | (obtain ⟨-, -, -, rfl⟩ := nx_inj h; exact ⟨Nat.le_refl _, Nat.le_refl _⟩)
    | (obtain ⟨-, -, -, rfl⟩ := nx_inj h; exact ⟨Nat.le_succ _, Nat.le_add_right _ _⟩)
theorem mo_bipush {n : Int} (h : stp (.bipush n) q pc lv st M = some (pc', lv', st', M')) : mS M ≤ mS M' ∧ mU M ≤ mU M' := by
  unfold stp at h
  dsimp only at h
  repeat' split at h
  all_goals first
    | (cases h; done)
    | exact mo_leaf (nx_inj h).2.2.2
    | exact mo_leaf (nxj_inj h).2.2.2
    | (obtain ⟨-, -, -, rfl⟩ := nx_inj h; exact ⟨Nat.le_refl _, Nat.le_refl _⟩)
    | (obtain ⟨-, -, -, rfl⟩ := nx_inj h; exact ⟨Nat.le_succ _, Nat.le_add_right _ _⟩)
theorem mo_sipush {n : Int} (h : stp (.sipush n) q pc lv st M = some (pc', lv', st', M')) : mS M ≤ mS M' ∧ mU M ≤ mU M' := by
  unfold stp at h
  dsimp only at h
  repeat' split at h
  all_goals first
    | (cases h; done)
    | exact mo_leaf (nx_inj h).2.2.2
    | exact mo_leaf (nxj_inj h).2.2.2
    | (obtain ⟨-, -, -, rfl⟩ := nx_inj h; exact ⟨Nat.le_refl _, Nat.le_refl _⟩)
    | (obtain ⟨-, -, -, rfl⟩ := nx_inj h; exact ⟨Nat.le_succ _, Nat.le_add_right _ _⟩)
theorem mo_lconst {n : Fin 2} (h : stp (.lconst n) q pc lv st M = some (pc', lv', st', M')) : mS M ≤ mS M' ∧ mU M ≤ mU M' := by
  unfold stp at h
  dsimp only at h
  repeat' split at h
  all_goals first
    | (cases h; done)
    | exact mo_leaf (nx_inj h).2.2.2
    | exact mo_leaf (nxj_inj h).2.2.2
    | (obtain ⟨-, -, -, rfl⟩ := nx_inj h; exact ⟨Nat.le_refl _, Nat.le_refl _⟩)
    | (obtain ⟨-, -, -, rfl⟩ := nx_inj h; exact ⟨Nat.le_succ _, Nat.le_add_right _ _⟩)
theorem mo_ldc2_w {i : Nat} (h : stp (.ldc2_w i) q pc lv st M = some (pc', lv', st', M')) : mS M ≤ mS M' ∧ mU M ≤ mU M' := by
  unfold stp at h
  dsimp only at h
  repeat' split at h
  all_goals first
    | (cases h; done)
    | exact mo_leaf (nx_inj h).2.2.2
    | exact mo_leaf (nxj_inj h).2.2.2
    | (obtain ⟨-, -, -, rfl⟩ := nx_inj h; exact ⟨Nat.le_refl _, Nat.le_refl _⟩)
    | (obtain ⟨-, -, -, rfl⟩ := nx_inj h; exact ⟨Nat.le_succ _, Nat.le_add_right _ _⟩)
theorem mo_iadd  (h : stp (.iadd) q pc lv st M = some (pc', lv', st', M')) : mS M ≤ mS M' ∧ mU M ≤ mU M' := by
  unfold stp at h
  dsimp only at h
  repeat' split at h
  all_goals first
    | (cases h; done)
    | exact mo_leaf (nx_inj h).2.2.2
    | exact mo_leaf (nxj_inj h).2.2.2
    | (obtain ⟨-, -, -, rfl⟩ := nx_inj h; exact ⟨Nat.le_refl _, Nat.le_refl _⟩)
    | (obtain ⟨-, -, -, rfl⟩ := nx_inj h; exact ⟨Nat.le_succ _, Nat.le_add_right _ _⟩)
theorem mo_isub  (h : stp (.isub) q pc lv st M = some (pc', lv', st', M')) : mS M ≤ mS M' ∧ mU M ≤ mU M' := by
  unfold stp at h
  dsimp only at h
  repeat' split at h
  all_goals first
    | (cases h; done)
    | exact mo_leaf (nx_inj h).2.2.2
    | exact mo_leaf (nxj_inj h).2.2.2
    | (obtain ⟨-, -, -, rfl⟩ := nx_inj h; exact ⟨Nat.le_refl _, Nat.le_refl _⟩)
    | (obtain ⟨-, -, -, rfl⟩ := nx_inj h; exact ⟨Nat.le_succ _, Nat.le_add_right _ _⟩)
theorem mo_imul  (h : stp (.imul) q pc lv st M = some (pc', lv', st', M')) : mS M ≤ mS M' ∧ mU M ≤ mU M' := by
  unfold stp at h
  dsimp only at h
  repeat' split at h
  all_goals first
    | (cases h; done)
    | exact mo_leaf (nx_inj h).2.2.2
    | exact mo_leaf (nxj_inj h).2.2.2
    | (obtain ⟨-, -, -, rfl⟩ := nx_inj h; exact ⟨Nat.le_refl _, Nat.le_refl _⟩)
    | (obtain ⟨-, -, -, rfl⟩ := nx_inj h; exact ⟨Nat.le_succ _, Nat.le_add_right _ _⟩)
theorem mo_iand  (h : stp (.iand) q pc lv st M = some (pc', lv', st', M')) : mS M ≤ mS M' ∧ mU M ≤ mU M' := by
  unfold stp at h
  dsimp only at h
  repeat' split at h
  all_goals first
    | (cases h; done)
    | exact mo_leaf (nx_inj h).2.2.2
    | exact mo_leaf (nxj_inj h).2.2.2
    | (obtain ⟨-, -, -, rfl⟩ := nx_inj h; exact ⟨Nat.le_refl _, Nat.le_refl _⟩)
    | (obtain ⟨-, -, -, rfl⟩ := nx_inj h; exact ⟨Nat.le_succ _, Nat.le_add_right _ _⟩)
theorem mo_ior  (h : stp (.ior) q pc lv st M = some (pc', lv', st', M')) : mS M ≤ mS M' ∧ mU M ≤ mU M' := by
  unfold stp at h
  dsimp only at h
  repeat' split at h
  all_goals first
    | (cases h; done)
    | exact mo_leaf (nx_inj h).2.2.2
    | exact mo_leaf (nxj_inj h).2.2.2
    | (obtain ⟨-, -, -, rfl⟩ := nx_inj h; exact ⟨Nat.le_refl _, Nat.le_refl _⟩)
    | (obtain ⟨-, -, -, rfl⟩ := nx_inj h; exact ⟨Nat.le_succ _, Nat.le_add_right _ _⟩)
theorem mo_ishl  (h : stp (.ishl) q pc lv st M = some (pc', lv', st', M')) : mS M ≤ mS M' ∧ mU M ≤ mU M' := by
  unfold stp at h
  dsimp only at h
  repeat' split at h
  all_goals first
    | (cases h; done)
    | exact mo_leaf (nx_inj h).2.2.2
    | exact mo_leaf (nxj_inj h).2.2.2
    | (obtain ⟨-, -, -, rfl⟩ := nx_inj h; exact ⟨Nat.le_refl _, Nat.le_refl _⟩)
    | (obtain ⟨-, -, -, rfl⟩ := nx_inj h; exact ⟨Nat.le_succ _, Nat.le_add_right _ _⟩)
theorem mo_ladd  (h : stp (.ladd) q pc lv st M = some (pc', lv', st', M')) : mS M ≤ mS M' ∧ mU M ≤ mU M' := by
  unfold stp at h
  dsimp only at h
  repeat' split at h
  all_goals first
    | (cases h; done)
    | exact mo_leaf (nx_inj h).2.2.2
    | exact mo_leaf (nxj_inj h).2.2.2
    | (obtain ⟨-, -, -, rfl⟩ := nx_inj h; exact ⟨Nat.le_refl _, Nat.le_refl _⟩)
    | (obtain ⟨-, -, -, rfl⟩ := nx_inj h; exact ⟨Nat.le_succ _, Nat.le_add_right _ _⟩)
theorem mo_lsub  (h : stp (.lsub) q pc lv st M = some (pc', lv', st', M')) : mS M ≤ mS M' ∧ mU M ≤ mU M' := by
  unfold stp at h
  dsimp only at h
  repeat' split at h
  all_goals first
    | (cases h; done)
    | exact mo_leaf (nx_inj h).2.2.2
    | exact mo_leaf (nxj_inj h).2.2.2
    | (obtain ⟨-, -, -, rfl⟩ := nx_inj h; exact ⟨Nat.le_refl _, Nat.le_refl _⟩)
    | (obtain ⟨-, -, -, rfl⟩ := nx_inj h; exact ⟨Nat.le_succ _, Nat.le_add_right _ _⟩)
theorem mo_land  (h : stp (.land) q pc lv st M = some (pc', lv', st', M')) : mS M ≤ mS M' ∧ mU M ≤ mU M' := by
  unfold stp at h
  dsimp only at h
  repeat' split at h
  all_goals first
    | (cases h; done)
    | exact mo_leaf (nx_inj h).2.2.2
    | exact mo_leaf (nxj_inj h).2.2.2
    | (obtain ⟨-, -, -, rfl⟩ := nx_inj h; exact ⟨Nat.le_refl _, Nat.le_refl _⟩)
    | (obtain ⟨-, -, -, rfl⟩ := nx_inj h; exact ⟨Nat.le_succ _, Nat.le_add_right _ _⟩)
theorem mo_lor  (h : stp (.lor) q pc lv st M = some (pc', lv', st', M')) : mS M ≤ mS M' ∧ mU M ≤ mU M' := by
  unfold stp at h
  dsimp only at h
  repeat' split at h
  all_goals first
    | (cases h; done)
    | exact mo_leaf (nx_inj h).2.2.2
    | exact mo_leaf (nxj_inj h).2.2.2
    | (obtain ⟨-, -, -, rfl⟩ := nx_inj h; exact ⟨Nat.le_refl _, Nat.le_refl _⟩)
    | (obtain ⟨-, -, -, rfl⟩ := nx_inj h; exact ⟨Nat.le_succ _, Nat.le_add_right _ _⟩)
theorem mo_lxor  (h : stp (.lxor) q pc lv st M = some (pc', lv', st', M')) : mS M ≤ mS M' ∧ mU M ≤ mU M' := by
  unfold stp at h
  dsimp only at h
  repeat' split at h
  all_goals first
    | (cases h; done)
    | exact mo_leaf (nx_inj h).2.2.2
    | exact mo_leaf (nxj_inj h).2.2.2
    | (obtain ⟨-, -, -, rfl⟩ := nx_inj h; exact ⟨Nat.le_refl _, Nat.le_refl _⟩)
    | (obtain ⟨-, -, -, rfl⟩ := nx_inj h; exact ⟨Nat.le_succ _, Nat.le_add_right _ _⟩)
theorem mo_lshl  (h : stp (.lshl) q pc lv st M = some (pc', lv', st', M')) : mS M ≤ mS M' ∧ mU M ≤ mU M' := by
  unfold stp at h
  dsimp only at h
  repeat' split at h
  all_goals first
    | (cases h; done)
    | exact mo_leaf (nx_inj h).2.2.2
    | exact mo_leaf (nxj_inj h).2.2.2
    | (obtain ⟨-, -, -, rfl⟩ := nx_inj h; exact ⟨Nat.le_refl _, Nat.le_refl _⟩)
    | (obtain ⟨-, -, -, rfl⟩ := nx_inj h; exact ⟨Nat.le_succ _, Nat.le_add_right _ _⟩)
theorem mo_lshr  (h : stp (.lshr) q pc lv st M = some (pc', lv', st', M')) : mS M ≤ mS M' ∧ mU M ≤ mU M' := by
  unfold stp at h
  dsimp only at h
  repeat' split at h
  all_goals first
    | (cases h; done)
    | exact mo_leaf (nx_inj h).2.2.2
    | exact mo_leaf (nxj_inj h).2.2.2
    | (obtain ⟨-, -, -, rfl⟩ := nx_inj h; exact ⟨Nat.le_refl _, Nat.le_refl _⟩)
    | (obtain ⟨-, -, -, rfl⟩ := nx_inj h; exact ⟨Nat.le_succ _, Nat.le_add_right _ _⟩)
theorem mo_lushr  (h : stp (.lushr) q pc lv st M = some (pc', lv', st', M')) : mS M ≤ mS M' ∧ mU M ≤ mU M' := by
  unfold stp at h
  dsimp only at h
  repeat' split at h
  all_goals first
    | (cases h; done)
    | exact mo_leaf (nx_inj h).2.2.2
    | exact mo_leaf (nxj_inj h).2.2.2
    | (obtain ⟨-, -, -, rfl⟩ := nx_inj h; exact ⟨Nat.le_refl _, Nat.le_refl _⟩)
    | (obtain ⟨-, -, -, rfl⟩ := nx_inj h; exact ⟨Nat.le_succ _, Nat.le_add_right _ _⟩)
theorem mo_i2l  (h : stp (.i2l) q pc lv st M = some (pc', lv', st', M')) : mS M ≤ mS M' ∧ mU M ≤ mU M' := by
  unfold stp at h
  dsimp only at h
  repeat' split at h
  all_goals first
    | (cases h; done)
    | exact mo_leaf (nx_inj h).2.2.2
    | exact mo_leaf (nxj_inj h).2.2.2
    | (obtain ⟨-, -, -, rfl⟩ := nx_inj h; exact ⟨Nat.le_refl _, Nat.le_refl _⟩)
    | (obtain ⟨-, -, -, rfl⟩ := nx_inj h; exact ⟨Nat.le_succ _, Nat.le_add_right _ _⟩)
theorem mo_l2i  (h : stp (.l2i) q pc lv st M = some (pc', lv', st', M')) : mS M ≤ mS M' ∧ mU M ≤ mU M' := by
  unfold stp at h
  dsimp only at h
  repeat' split at h
  all_goals first
    | (cases h; done)
    | exact mo_leaf (nx_inj h).2.2.2
    | exact mo_leaf (nxj_inj h).2.2.2
    | (obtain ⟨-, -, -, rfl⟩ := nx_inj h; exact ⟨Nat.le_refl _, Nat.le_refl _⟩)
    | (obtain ⟨-, -, -, rfl⟩ := nx_inj h; exact ⟨Nat.le_succ _, Nat.le_add_right _ _⟩)
theorem mo_lcmp  (h : stp (.lcmp) q pc lv st M = some (pc', lv', st', M')) : mS M ≤ mS M' ∧ mU M ≤ mU M' := by
  unfold stp at h
  dsimp only at h
  repeat' split at h
  all_goals first
    | (cases h; done)
    | exact mo_leaf (nx_inj h).2.2.2
    | exact mo_leaf (nxj_inj h).2.2.2
    | (obtain ⟨-, -, -, rfl⟩ := nx_inj h; exact ⟨Nat.le_refl _, Nat.le_refl _⟩)
    | (obtain ⟨-, -, -, rfl⟩ := nx_inj h; exact ⟨Nat.le_succ _, Nat.le_add_right _ _⟩)
theorem mo_idiv  (h : stp (.idiv) q pc lv st M = some (pc', lv', st', M')) : mS M ≤ mS M' ∧ mU M ≤ mU M' := by
  unfold stp at h
  dsimp only at h
  repeat' split at h
  all_goals first
    | (cases h; done)
    | exact mo_leaf (nx_inj h).2.2.2
    | exact mo_leaf (nxj_inj h).2.2.2
    | (obtain ⟨-, -, -, rfl⟩ := nx_inj h; exact ⟨Nat.le_refl _, Nat.le_refl _⟩)
    | (obtain ⟨-, -, -, rfl⟩ := nx_inj h; exact ⟨Nat.le_succ _, Nat.le_add_right _ _⟩)
theorem mo_dup  (h : stp (.dup) q pc lv st M = some (pc', lv', st', M')) : mS M ≤ mS M' ∧ mU M ≤ mU M' := by
  unfold stp at h
  dsimp only at h
  repeat' split at h
  all_goals first
    | (cases h; done)
    | exact mo_leaf (nx_inj h).2.2.2
    | exact mo_leaf (nxj_inj h).2.2.2
    | (obtain ⟨-, -, -, rfl⟩ := nx_inj h; exact ⟨Nat.le_refl _, Nat.le_refl _⟩)
    | (obtain ⟨-, -, -, rfl⟩ := nx_inj h; exact ⟨Nat.le_succ _, Nat.le_add_right _ _⟩)
theorem mo_pop  (h : stp (.pop) q pc lv st M = some (pc', lv', st', M')) : mS M ≤ mS M' ∧ mU M ≤ mU M' := by
  unfold stp at h
  dsimp only at h
  repeat' split at h
  all_goals first
    | (cases h; done)
    | exact mo_leaf (nx_inj h).2.2.2
    | exact mo_leaf (nxj_inj h).2.2.2
    | (obtain ⟨-, -, -, rfl⟩ := nx_inj h; exact ⟨Nat.le_refl _, Nat.le_refl _⟩)
    | (obtain ⟨-, -, -, rfl⟩ := nx_inj h; exact ⟨Nat.le_succ _, Nat.le_add_right _ _⟩)
theorem mo_dup2  (h : stp (.dup2) q pc lv st M = some (pc', lv', st', M')) : mS M ≤ mS M' ∧ mU M ≤ mU M' := by
  unfold stp at h
  dsimp only at h
  repeat' split at h
  all_goals first
    | (cases h; done)
    | exact mo_leaf (nx_inj h).2.2.2
    | exact mo_leaf (nxj_inj h).2.2.2
    | (obtain ⟨-, -, -, rfl⟩ := nx_inj h; exact ⟨Nat.le_refl _, Nat.le_refl _⟩)
    | (obtain ⟨-, -, -, rfl⟩ := nx_inj h; exact ⟨Nat.le_succ _, Nat.le_add_right _ _⟩)
theorem mo_goto {j : Int} (h : stp (.goto j) q pc lv st M = some (pc', lv', st', M')) : mS M ≤ mS M' ∧ mU M ≤ mU M' := by
  unfold stp at h
  dsimp only at h
  repeat' split at h
  all_goals first
    | (cases h; done)
    | exact mo_leaf (nx_inj h).2.2.2
    | exact mo_leaf (nxj_inj h).2.2.2
    | (obtain ⟨-, -, -, rfl⟩ := nx_inj h; exact ⟨Nat.le_refl _, Nat.le_refl _⟩)
    | (obtain ⟨-, -, -, rfl⟩ := nx_inj h; exact ⟨Nat.le_succ _, Nat.le_add_right _ _⟩)
theorem mo_ifCond_eq {j : Int} (h : stp (.ifCond .eq j) q pc lv st M = some (pc', lv', st', M')) : mS M ≤ mS M' ∧ mU M ≤ mU M' := by
  unfold stp at h
  dsimp only at h
  repeat' split at h
  all_goals first
    | (cases h; done)
    | exact mo_leaf (nx_inj h).2.2.2
    | exact mo_leaf (nxj_inj h).2.2.2
    | (obtain ⟨-, -, -, rfl⟩ := nx_inj h; exact ⟨Nat.le_refl _, Nat.le_refl _⟩)
    | (obtain ⟨-, -, -, rfl⟩ := nx_inj h; exact ⟨Nat.le_succ _, Nat.le_add_right _ _⟩)
theorem mo_ifCond_ne {j : Int} (h : stp (.ifCond .ne j) q pc lv st M = some (pc', lv', st', M')) : mS M ≤ mS M' ∧ mU M ≤ mU M' := by
  unfold stp at h
  dsimp only at h
  repeat' split at h
  all_goals first
    | (cases h; done)
    | exact mo_leaf (nx_inj h).2.2.2
    | exact mo_leaf (nxj_inj h).2.2.2
    | (obtain ⟨-, -, -, rfl⟩ := nx_inj h; exact ⟨Nat.le_refl _, Nat.le_refl _⟩)
    | (obtain ⟨-, -, -, rfl⟩ := nx_inj h; exact ⟨Nat.le_succ _, Nat.le_add_right _ _⟩)
theorem mo_ifCond_lt {j : Int} (h : stp (.ifCond .lt j) q pc lv st M = some (pc', lv', st', M')) : mS M ≤ mS M' ∧ mU M ≤ mU M' := by
  unfold stp at h
  dsimp only at h
  repeat' split at h
  all_goals first
    | (cases h; done)
    | exact mo_leaf (nx_inj h).2.2.2
    | exact mo_leaf (nxj_inj h).2.2.2
    | (obtain ⟨-, -, -, rfl⟩ := nx_inj h; exact ⟨Nat.le_refl _, Nat.le_refl _⟩)
    | (obtain ⟨-, -, -, rfl⟩ := nx_inj h; exact ⟨Nat.le_succ _, Nat.le_add_right _ _⟩)
theorem mo_ifCond_ge {j : Int} (h : stp (.ifCond .ge j) q pc lv st M = some (pc', lv', st', M')) : mS M ≤ mS M' ∧ mU M ≤ mU M' := by
  unfold stp at h
  dsimp only at h
  repeat' split at h
  all_goals first
    | (cases h; done)
    | exact mo_leaf (nx_inj h).2.2.2
    | exact mo_leaf (nxj_inj h).2.2.2
    | (obtain ⟨-, -, -, rfl⟩ := nx_inj h; exact ⟨Nat.le_refl _, Nat.le_refl _⟩)
    | (obtain ⟨-, -, -, rfl⟩ := nx_inj h; exact ⟨Nat.le_succ _, Nat.le_add_right _ _⟩)
theorem mo_ifCond_gt {j : Int} (h : stp (.ifCond .gt j) q pc lv st M = some (pc', lv', st', M')) : mS M ≤ mS M' ∧ mU M ≤ mU M' := by
  unfold stp at h
  dsimp only at h
  repeat' split at h
  all_goals first
    | (cases h; done)
    | exact mo_leaf (nx_inj h).2.2.2
    | exact mo_leaf (nxj_inj h).2.2.2
    | (obtain ⟨-, -, -, rfl⟩ := nx_inj h; exact ⟨Nat.le_refl _, Nat.le_refl _⟩)
    | (obtain ⟨-, -, -, rfl⟩ := nx_inj h; exact ⟨Nat.le_succ _, Nat.le_add_right _ _⟩)
theorem mo_ifCond_le {j : Int} (h : stp (.ifCond .le j) q pc lv st M = some (pc', lv', st', M')) : mS M ≤ mS M' ∧ mU M ≤ mU M' := by
  unfold stp at h
  dsimp only at h
  repeat' split at h
  all_goals first
    | (cases h; done)
    | exact mo_leaf (nx_inj h).2.2.2
    | exact mo_leaf (nxj_inj h).2.2.2
    | (obtain ⟨-, -, -, rfl⟩ := nx_inj h; exact ⟨Nat.le_refl _, Nat.le_refl _⟩)
    | (obtain ⟨-, -, -, rfl⟩ := nx_inj h; exact ⟨Nat.le_succ _, Nat.le_add_right _ _⟩)
theorem mo_if_icmp_eq {j : Int} (h : stp (.if_icmp .eq j) q pc lv st M = some (pc', lv', st', M')) : mS M ≤ mS M' ∧ mU M ≤ mU M' := by
  unfold stp at h
  dsimp only at h
  repeat' split at h
  all_goals first
    | (cases h; done)
    | exact mo_leaf (nx_inj h).2.2.2
    | exact mo_leaf (nxj_inj h).2.2.2
    | (obtain ⟨-, -, -, rfl⟩ := nx_inj h; exact ⟨Nat.le_refl _, Nat.le_refl _⟩)
    | (obtain ⟨-, -, -, rfl⟩ := nx_inj h; exact ⟨Nat.le_succ _, Nat.le_add_right _ _⟩)
theorem mo_if_icmp_ne {j : Int} (h : stp (.if_icmp .ne j) q pc lv st M = some (pc', lv', st', M')) : mS M ≤ mS M' ∧ mU M ≤ mU M' := by
  unfold stp at h
  dsimp only at h
  repeat' split at h
  all_goals first
    | (cases h; done)
    | exact mo_leaf (nx_inj h).2.2.2
    | exact mo_leaf (nxj_inj h).2.2.2
    | (obtain ⟨-, -, -, rfl⟩ := nx_inj h; exact ⟨Nat.le_refl _, Nat.le_refl _⟩)
    | (obtain ⟨-, -, -, rfl⟩ := nx_inj h; exact ⟨Nat.le_succ _, Nat.le_add_right _ _⟩)
theorem mo_if_icmp_lt {j : Int} (h : stp (.if_icmp .lt j) q pc lv st M = some (pc', lv', st', M')) : mS M ≤ mS M' ∧ mU M ≤ mU M' := by
  unfold stp at h
  dsimp only at h
  repeat' split at h
  all_goals first
    | (cases h; done)
    | exact mo_leaf (nx_inj h).2.2.2
    | exact mo_leaf (nxj_inj h).2.2.2
    | (obtain ⟨-, -, -, rfl⟩ := nx_inj h; exact ⟨Nat.le_refl _, Nat.le_refl _⟩)
    | (obtain ⟨-, -, -, rfl⟩ := nx_inj h; exact ⟨Nat.le_succ _, Nat.le_add_right _ _⟩)
theorem mo_if_icmp_ge {j : Int} (h : stp (.if_icmp .ge j) q pc lv st M = some (pc', lv', st', M')) : mS M ≤ mS M' ∧ mU M ≤ mU M' := by
  unfold stp at h
  dsimp only at h
  repeat' split at h
  all_goals first
    | (cases h; done)
    | exact mo_leaf (nx_inj h).2.2.2
    | exact mo_leaf (nxj_inj h).2.2.2
    | (obtain ⟨-, -, -, rfl⟩ := nx_inj h; exact ⟨Nat.le_refl _, Nat.le_refl _⟩)
    | (obtain ⟨-, -, -, rfl⟩ := nx_inj h; exact ⟨Nat.le_succ _, Nat.le_add_right _ _⟩)
theorem mo_if_icmp_gt {j : Int} (h : stp (.if_icmp .gt j) q pc lv st M = some (pc', lv', st', M')) : mS M ≤ mS M' ∧ mU M ≤ mU M' := by
  unfold stp at h
  dsimp only at h
  repeat' split at h
  all_goals first
    | (cases h; done)
    | exact mo_leaf (nx_inj h).2.2.2
    | exact mo_leaf (nxj_inj h).2.2.2
    | (obtain ⟨-, -, -, rfl⟩ := nx_inj h; exact ⟨Nat.le_refl _, Nat.le_refl _⟩)
    | (obtain ⟨-, -, -, rfl⟩ := nx_inj h; exact ⟨Nat.le_succ _, Nat.le_add_right _ _⟩)
theorem mo_if_icmp_le {j : Int} (h : stp (.if_icmp .le j) q pc lv st M = some (pc', lv', st', M')) : mS M ≤ mS M' ∧ mU M ≤ mU M' := by
  unfold stp at h
  dsimp only at h
  repeat' split at h
  all_goals first
    | (cases h; done)
    | exact mo_leaf (nx_inj h).2.2.2
    | exact mo_leaf (nxj_inj h).2.2.2
    | (obtain ⟨-, -, -, rfl⟩ := nx_inj h; exact ⟨Nat.le_refl _, Nat.le_refl _⟩)
    | (obtain ⟨-, -, -, rfl⟩ := nx_inj h; exact ⟨Nat.le_succ _, Nat.le_add_right _ _⟩)
theorem mo_tableswitch {d lo hi : Int} {offs : Array Int} (h : stp (.tableswitch d lo hi offs) q pc lv st M = some (pc', lv', st', M')) : mS M ≤ mS M' ∧ mU M ≤ mU M' := by
  unfold stp at h
  dsimp only at h
  repeat' split at h
  all_goals first
    | (cases h; done)
    | exact mo_leaf (nx_inj h).2.2.2
    | exact mo_leaf (nxj_inj h).2.2.2
    | (obtain ⟨-, -, -, rfl⟩ := nx_inj h; exact ⟨Nat.le_refl _, Nat.le_refl _⟩)
    | (obtain ⟨-, -, -, rfl⟩ := nx_inj h; exact ⟨Nat.le_succ _, Nat.le_add_right _ _⟩)
theorem mo_getfield {i : Nat} (h : stp (.getfield i) q pc lv st M = some (pc', lv', st', M')) : mS M ≤ mS M' ∧ mU M ≤ mU M' := by
  unfold stp at h
  dsimp only at h
  repeat' split at h
  all_goals first
    | (cases h; done)
    | exact mo_leaf (nx_inj h).2.2.2
    | exact mo_leaf (nxj_inj h).2.2.2
    | (obtain ⟨-, -, -, rfl⟩ := nx_inj h; exact ⟨Nat.le_refl _, Nat.le_refl _⟩)
    | (obtain ⟨-, -, -, rfl⟩ := nx_inj h; exact ⟨Nat.le_succ _, Nat.le_add_right _ _⟩)
theorem mo_putfield {i : Nat} (h : stp (.putfield i) q pc lv st M = some (pc', lv', st', M')) : mS M ≤ mS M' ∧ mU M ≤ mU M' := by
  unfold stp at h
  dsimp only at h
  repeat' split at h
  all_goals first
    | (cases h; done)
    | exact mo_leaf (nx_inj h).2.2.2
    | exact mo_leaf (nxj_inj h).2.2.2
    | (obtain ⟨-, -, -, rfl⟩ := nx_inj h; exact ⟨Nat.le_refl _, Nat.le_refl _⟩)
    | (obtain ⟨-, -, -, rfl⟩ := nx_inj h; exact ⟨Nat.le_succ _, Nat.le_add_right _ _⟩)
theorem mo_iaload  (h : stp (.iaload) q pc lv st M = some (pc', lv', st', M')) : mS M ≤ mS M' ∧ mU M ≤ mU M' := by
  unfold stp at h
  dsimp only at h
  repeat' split at h
  all_goals first
    | (cases h; done)
    | exact mo_leaf (nx_inj h).2.2.2
    | exact mo_leaf (nxj_inj h).2.2.2
    | (obtain ⟨-, -, -, rfl⟩ := nx_inj h; exact ⟨Nat.le_refl _, Nat.le_refl _⟩)
    | (obtain ⟨-, -, -, rfl⟩ := nx_inj h; exact ⟨Nat.le_succ _, Nat.le_add_right _ _⟩)
theorem mo_laload  (h : stp (.laload) q pc lv st M = some (pc', lv', st', M')) : mS M ≤ mS M' ∧ mU M ≤ mU M' := by
  unfold stp at h
  dsimp only at h
  repeat' split at h
  all_goals first
    | (cases h; done)
    | exact mo_leaf (nx_inj h).2.2.2
    | exact mo_leaf (nxj_inj h).2.2.2
    | (obtain ⟨-, -, -, rfl⟩ := nx_inj h; exact ⟨Nat.le_refl _, Nat.le_refl _⟩)
    | (obtain ⟨-, -, -, rfl⟩ := nx_inj h; exact ⟨Nat.le_succ _, Nat.le_add_right _ _⟩)
theorem mo_aaload  (h : stp (.aaload) q pc lv st M = some (pc', lv', st', M')) : mS M ≤ mS M' ∧ mU M ≤ mU M' := by
  unfold stp at h
  dsimp only at h
  repeat' split at h
  all_goals first
    | (cases h; done)
    | exact mo_leaf (nx_inj h).2.2.2
    | exact mo_leaf (nxj_inj h).2.2.2
    | (obtain ⟨-, -, -, rfl⟩ := nx_inj h; exact ⟨Nat.le_refl _, Nat.le_refl _⟩)
    | (obtain ⟨-, -, -, rfl⟩ := nx_inj h; exact ⟨Nat.le_succ _, Nat.le_add_right _ _⟩)
theorem mo_iastore  (h : stp (.iastore) q pc lv st M = some (pc', lv', st', M')) : mS M ≤ mS M' ∧ mU M ≤ mU M' := by
  unfold stp at h
  dsimp only at h
  repeat' split at h
  all_goals first
    | (cases h; done)
    | exact mo_leaf (nx_inj h).2.2.2
    | exact mo_leaf (nxj_inj h).2.2.2
    | (obtain ⟨-, -, -, rfl⟩ := nx_inj h; exact ⟨Nat.le_refl _, Nat.le_refl _⟩)
    | (obtain ⟨-, -, -, rfl⟩ := nx_inj h; exact ⟨Nat.le_succ _, Nat.le_add_right _ _⟩)
theorem mo_lastore  (h : stp (.lastore) q pc lv st M = some (pc', lv', st', M')) : mS M ≤ mS M' ∧ mU M ≤ mU M' := by
  unfold stp at h
  dsimp only at h
  repeat' split at h
  all_goals first
    | (cases h; done)
    | exact mo_leaf (nx_inj h).2.2.2
    | exact mo_leaf (nxj_inj h).2.2.2
    | (obtain ⟨-, -, -, rfl⟩ := nx_inj h; exact ⟨Nat.le_refl _, Nat.le_refl _⟩)
    | (obtain ⟨-, -, -, rfl⟩ := nx_inj h; exact ⟨Nat.le_succ _, Nat.le_add_right _ _⟩)
theorem mo_aastore  (h : stp (.aastore) q pc lv st M = some (pc', lv', st', M')) : mS M ≤ mS M' ∧ mU M ≤ mU M' := by
  unfold stp at h
  dsimp only at h
  repeat' split at h
  all_goals first
    | (cases h; done)
    | exact mo_leaf (nx_inj h).2.2.2
    | exact mo_leaf (nxj_inj h).2.2.2
    | (obtain ⟨-, -, -, rfl⟩ := nx_inj h; exact ⟨Nat.le_refl _, Nat.le_refl _⟩)
    | (obtain ⟨-, -, -, rfl⟩ := nx_inj h; exact ⟨Nat.le_succ _, Nat.le_add_right _ _⟩)
theorem mo_arraylength  (h : stp (.arraylength) q pc lv st M = some (pc', lv', st', M')) : mS M ≤ mS M' ∧ mU M ≤ mU M' := by
  unfold stp at h
  dsimp only at h
  repeat' split at h
  all_goals first
    | (cases h; done)
    | exact mo_leaf (nx_inj h).2.2.2
    | exact mo_leaf (nxj_inj h).2.2.2
    | (obtain ⟨-, -, -, rfl⟩ := nx_inj h; exact ⟨Nat.le_refl _, Nat.le_refl _⟩)
    | (obtain ⟨-, -, -, rfl⟩ := nx_inj h; exact ⟨Nat.le_succ _, Nat.le_add_right _ _⟩)
theorem mo_new {i : Nat} (h : stp (.new i) q pc lv st M = some (pc', lv', st', M')) : mS M ≤ mS M' ∧ mU M ≤ mU M' := by
  unfold stp at h
  dsimp only at h
  repeat' split at h
  all_goals first
    | (cases h; done)
    | exact mo_leaf (nx_inj h).2.2.2
    | exact mo_leaf (nxj_inj h).2.2.2
    | (obtain ⟨-, -, -, rfl⟩ := nx_inj h; exact ⟨Nat.le_refl _, Nat.le_refl _⟩)
    | (obtain ⟨-, -, -, rfl⟩ := nx_inj h; exact ⟨Nat.le_succ _, Nat.le_add_right _ _⟩)
theorem mo_newarray {t : ArrayType} (h : stp (.newarray t) q pc lv st M = some (pc', lv', st', M')) : mS M ≤ mS M' ∧ mU M ≤ mU M' := by
  unfold stp at h
  dsimp only at h
  repeat' split at h
  all_goals first
    | (cases h; done)
    | exact mo_leaf (nx_inj h).2.2.2
    | exact mo_leaf (nxj_inj h).2.2.2
    | (obtain ⟨-, -, -, rfl⟩ := nx_inj h; exact ⟨Nat.le_refl _, Nat.le_refl _⟩)
    | (obtain ⟨-, -, -, rfl⟩ := nx_inj h; exact ⟨Nat.le_succ _, Nat.le_add_right _ _⟩)
theorem mo_anewarray {i : Nat} (h : stp (.anewarray i) q pc lv st M = some (pc', lv', st', M')) : mS M ≤ mS M' ∧ mU M ≤ mU M' := by
  unfold stp at h
  dsimp only at h
  repeat' split at h
  all_goals first
    | (cases h; done)
    | exact mo_leaf (nx_inj h).2.2.2
    | exact mo_leaf (nxj_inj h).2.2.2
    | (obtain ⟨-, -, -, rfl⟩ := nx_inj h; exact ⟨Nat.le_refl _, Nat.le_refl _⟩)
    | (obtain ⟨-, -, -, rfl⟩ := nx_inj h; exact ⟨Nat.le_succ _, Nat.le_add_right _ _⟩)
theorem mo_invokespecial {i : Nat} (h : stp (.invokespecial i) q pc lv st M = some (pc', lv', st', M')) : mS M ≤ mS M' ∧ mU M ≤ mU M' := by
  unfold stp at h
  dsimp only at h
  repeat' split at h
  all_goals first
    | (cases h; done)
    | exact mo_leaf (nx_inj h).2.2.2
    | exact mo_leaf (nxj_inj h).2.2.2
    | (obtain ⟨-, -, -, rfl⟩ := nx_inj h; exact ⟨Nat.le_refl _, Nat.le_refl _⟩)
    | (obtain ⟨-, -, -, rfl⟩ := nx_inj h; exact ⟨Nat.le_succ _, Nat.le_add_right _ _⟩)
theorem mo_invokestatic {i : Nat} (h : stp (.invokestatic i) q pc lv st M = some (pc', lv', st', M')) : mS M ≤ mS M' ∧ mU M ≤ mU M' := by
  unfold stp at h
  dsimp only at h
  unfold doC at h
  repeat' split at h
  all_goals first
    | (cases h; done)
    | exact mo_leaf (nx_inj h).2.2.2
    | exact mo_leaf (nxj_inj h).2.2.2
    | (obtain ⟨-, -, -, rfl⟩ := nx_inj h; exact ⟨Nat.le_refl _, Nat.le_refl _⟩)
    | (obtain ⟨-, -, -, rfl⟩ := nx_inj h; exact ⟨Nat.le_succ _, Nat.le_add_right _ _⟩)
end MO
theorem mo_all {i : Instr} {q pc pc' : Nat} {lv lv' : List (Option Value)} {st st' : List Value} {M M' : SM} (h : stp i q pc lv st M = some (pc', lv', st', M')) : mS M ≤ mS M' ∧ mU M ≤ mU M' := by
  cases i
  case iload_n => exact mo_iload_n h
  case iload => exact mo_iload h
  case aload_n => exact mo_aload_n h
  case aload => exact mo_aload h
  case lload_n => exact mo_lload_n h
  case lload => exact mo_lload h
  case istore_n => exact mo_istore_n h
  case istore => exact mo_istore h
  case astore_n => exact mo_astore_n h
  case astore => exact mo_astore h
  case lstore_n => exact mo_lstore_n h
  case lstore => exact mo_lstore h
  case iinc => exact mo_iinc h
  case iconst => exact mo_iconst h
  case bipush => exact mo_bipush h
  case sipush => exact mo_sipush h
  case lconst => exact mo_lconst h
  case ldc2_w => exact mo_ldc2_w h
  case iadd => exact mo_iadd h
  case isub => exact mo_isub h
  case imul => exact mo_imul h
  case iand => exact mo_iand h
  case ior => exact mo_ior h
  case ishl => exact mo_ishl h
  case ladd => exact mo_ladd h
  case lsub => exact mo_lsub h
  case land => exact mo_land h
  case lor => exact mo_lor h
  case lxor => exact mo_lxor h
  case lshl => exact mo_lshl h
  case lshr => exact mo_lshr h
  case lushr => exact mo_lushr h
  case i2l => exact mo_i2l h
  case l2i => exact mo_l2i h
  case lcmp => exact mo_lcmp h
  case idiv => exact mo_idiv h
  case dup => exact mo_dup h
  case pop => exact mo_pop h
  case dup2 => exact mo_dup2 h
  case goto => exact mo_goto h
  case ifCond cc j =>
    cases cc
    · exact mo_ifCond_eq h
    · exact mo_ifCond_ne h
    · exact mo_ifCond_lt h
    · exact mo_ifCond_ge h
    · exact mo_ifCond_gt h
    · exact mo_ifCond_le h
  case if_icmp cc j =>
    cases cc
    · exact mo_if_icmp_eq h
    · exact mo_if_icmp_ne h
    · exact mo_if_icmp_lt h
    · exact mo_if_icmp_ge h
    · exact mo_if_icmp_gt h
    · exact mo_if_icmp_le h
  case tableswitch => exact mo_tableswitch h
  case getfield => exact mo_getfield h
  case putfield => exact mo_putfield h
  case iaload => exact mo_iaload h
  case laload => exact mo_laload h
  case aaload => exact mo_aaload h
  case iastore => exact mo_iastore h
  case lastore => exact mo_lastore h
  case aastore => exact mo_aastore h
  case arraylength => exact mo_arraylength h
  case new => exact mo_new h
  case newarray => exact mo_newarray h
  case anewarray => exact mo_anewarray h
  case invokespecial => exact mo_invokespecial h
  case invokestatic => exact mo_invokestatic h
  all_goals exact nomatch (show (none : Option Nx) = some _ from h)
theorem st_all {p : Program} {l : Launch} {e : Env} {R : Room} {s : State} {m : MethodId} {args : Array Value} {below : List Frame} {meth : Method} {c : Code} {H : Heap} {locs : List Loc} {Q : State → Prop}
    {G : GT} {q : Nat} {M M' : SM} {pc pc' len S0 U0 : Nat} {ls : Array Slot} {lv lv' : List (Option Value)} {st st' : List Value} {i : Instr}
    (C : Cx G q p R s m args meth c) (S : Sd G q M H locs ls lv) (hq : q < 177) (hS0 : S0 ≤ mS M) (hU0 : U0 ≤ mU M) (hc : mS M' ≤ R.cells + S0) (hu : mU M' ≤ R.slots + U0) (hd : decode (mB q) pc = .ok (i, len)) (hl : lenOK i len = true) (h : stp i q pc lv st M = some (pc', lv', st', M')) (kk : Kk G q p l e R s m args below meth c Q S0 U0 pc' lv' st' M') : W p l e R s m args below meth c H locs (mS M - S0) (mU M - U0) Q (F0 m pc ls st) := by
  cases i
  case iload_n => exact st_iload_n C S hq hS0 hU0 hc hu hd hl h kk
  case iload => exact st_iload C S hq hS0 hU0 hc hu hd hl h kk
  case aload_n => exact st_aload_n C S hq hS0 hU0 hc hu hd hl h kk
  case aload => exact st_aload C S hq hS0 hU0 hc hu hd hl h kk
  case lload_n => exact st_lload_n C S hq hS0 hU0 hc hu hd hl h kk
  case lload => exact st_lload C S hq hS0 hU0 hc hu hd hl h kk
  case istore_n => exact st_istore_n C S hq hS0 hU0 hc hu hd hl h kk
  case istore => exact st_istore C S hq hS0 hU0 hc hu hd hl h kk
  case astore_n => exact st_astore_n C S hq hS0 hU0 hc hu hd hl h kk
  case astore => exact st_astore C S hq hS0 hU0 hc hu hd hl h kk
  case lstore_n => exact st_lstore_n C S hq hS0 hU0 hc hu hd hl h kk
  case lstore => exact st_lstore C S hq hS0 hU0 hc hu hd hl h kk
  case iinc => exact st_iinc C S hq hS0 hU0 hc hu hd hl h kk
  case iconst => exact st_iconst C S hq hS0 hU0 hc hu hd hl h kk
  case bipush => exact st_bipush C S hq hS0 hU0 hc hu hd hl h kk
  case sipush => exact st_sipush C S hq hS0 hU0 hc hu hd hl h kk
  case lconst => exact st_lconst C S hq hS0 hU0 hc hu hd hl h kk
  case ldc2_w => exact st_ldc2_w C S hq hS0 hU0 hc hu hd hl h kk
  case iadd => exact st_iadd C S hq hS0 hU0 hc hu hd hl h kk
  case isub => exact st_isub C S hq hS0 hU0 hc hu hd hl h kk
  case imul => exact st_imul C S hq hS0 hU0 hc hu hd hl h kk
  case iand => exact st_iand C S hq hS0 hU0 hc hu hd hl h kk
  case ior => exact st_ior C S hq hS0 hU0 hc hu hd hl h kk
  case ishl => exact st_ishl C S hq hS0 hU0 hc hu hd hl h kk
  case ladd => exact st_ladd C S hq hS0 hU0 hc hu hd hl h kk
  case lsub => exact st_lsub C S hq hS0 hU0 hc hu hd hl h kk
  case land => exact st_land C S hq hS0 hU0 hc hu hd hl h kk
  case lor => exact st_lor C S hq hS0 hU0 hc hu hd hl h kk
  case lxor => exact st_lxor C S hq hS0 hU0 hc hu hd hl h kk
  case lshl => exact st_lshl C S hq hS0 hU0 hc hu hd hl h kk
  case lshr => exact st_lshr C S hq hS0 hU0 hc hu hd hl h kk
  case lushr => exact st_lushr C S hq hS0 hU0 hc hu hd hl h kk
  case i2l => exact st_i2l C S hq hS0 hU0 hc hu hd hl h kk
  case l2i => exact st_l2i C S hq hS0 hU0 hc hu hd hl h kk
  case lcmp => exact st_lcmp C S hq hS0 hU0 hc hu hd hl h kk
  case idiv => exact st_idiv C S hq hS0 hU0 hc hu hd hl h kk
  case dup => exact st_dup C S hq hS0 hU0 hc hu hd hl h kk
  case pop => exact st_pop C S hq hS0 hU0 hc hu hd hl h kk
  case dup2 => exact st_dup2 C S hq hS0 hU0 hc hu hd hl h kk
  case goto => exact st_goto C S hq hS0 hU0 hc hu hd hl h kk
  case ifCond cc j =>
    cases cc
    · exact st_ifCond_eq C S hq hS0 hU0 hc hu hd hl h kk
    · exact st_ifCond_ne C S hq hS0 hU0 hc hu hd hl h kk
    · exact st_ifCond_lt C S hq hS0 hU0 hc hu hd hl h kk
    · exact st_ifCond_ge C S hq hS0 hU0 hc hu hd hl h kk
    · exact st_ifCond_gt C S hq hS0 hU0 hc hu hd hl h kk
    · exact st_ifCond_le C S hq hS0 hU0 hc hu hd hl h kk
  case if_icmp cc j =>
    cases cc
    · exact st_if_icmp_eq C S hq hS0 hU0 hc hu hd hl h kk
    · exact st_if_icmp_ne C S hq hS0 hU0 hc hu hd hl h kk
    · exact st_if_icmp_lt C S hq hS0 hU0 hc hu hd hl h kk
    · exact st_if_icmp_ge C S hq hS0 hU0 hc hu hd hl h kk
    · exact st_if_icmp_gt C S hq hS0 hU0 hc hu hd hl h kk
    · exact st_if_icmp_le C S hq hS0 hU0 hc hu hd hl h kk
  case tableswitch => exact st_tableswitch C S hq hS0 hU0 hc hu hd hl h kk
  case getfield => exact st_getfield C S hq hS0 hU0 hc hu hd hl h kk
  case putfield => exact st_putfield C S hq hS0 hU0 hc hu hd hl h kk
  case iaload => exact st_iaload C S hq hS0 hU0 hc hu hd hl h kk
  case laload => exact st_laload C S hq hS0 hU0 hc hu hd hl h kk
  case aaload => exact st_aaload C S hq hS0 hU0 hc hu hd hl h kk
  case iastore => exact st_iastore C S hq hS0 hU0 hc hu hd hl h kk
  case lastore => exact st_lastore C S hq hS0 hU0 hc hu hd hl h kk
  case aastore => exact st_aastore C S hq hS0 hU0 hc hu hd hl h kk
  case arraylength => exact st_arraylength C S hq hS0 hU0 hc hu hd hl h kk
  case new => exact st_new C S hq hS0 hU0 hc hu hd hl h kk
  case newarray => exact st_newarray C S hq hS0 hU0 hc hu hd hl h kk
  case anewarray => exact st_anewarray C S hq hS0 hU0 hc hu hd hl h kk
  case invokespecial => exact st_invokespecial C S hq hS0 hU0 hc hu hd hl h kk
  case invokestatic => exact st_invokestatic C S hq hS0 hU0 hc hu hd hl h kk
  all_goals exact nomatch (show (none : Option Nx) = some _ from h)
end
section
/-! calls, and the whole run: what the small machine answers, the machine answers -/
theorem parA : (List.range 176).all (fun q => decide ((parseMethodDescriptor (yN q).desc).map (fun d => d.parameters.length) = some (nPar q))) = true := by decide +kernel
theorem cal_spec {own i q2 kd : Nat} (h : cal own i = some (q2, kd)) : ∃ e ∈ calT, e.1 = own ∧ e.2.1 = i ∧ e.2.2.1 = q2 ∧ e.2.2.2.1 = kd := by
  unfold cal at h
  cases hf : calT.find? (fun e => e.1 == own && e.2.1 == i) with
  | none => rw [hf] at h; cases h
  | some e =>
    rw [hf] at h
    cases h
    have h1 := List.find?_some hf
    simp only [Bool.and_eq_true, beq_iff_eq] at h1
    exact ⟨e, List.mem_of_find?_eq_some hf, h1.1, h1.2, rfl, rfl⟩
theorem cal_lt {own i q2 kd : Nat} (h : cal own i = some (q2, kd)) : q2 < 176 := by
  obtain ⟨e, he, -, -, rfl, -⟩ := cal_spec h
  have := List.all_eq_true.mp calA e he
  unfold calOK at this
  rw [Bool.and_eq_true] at this
  exact Nat.le_of_ble_eq_true this.1
theorem cls_ok {q : Nat} (h : q < 176) : (yN q).cls = CN (ow q) ∧ Cond.initialized (CN (ow q)) ∈ lw_gd := by
  have := List.all_eq_true.mp clsA q (List.mem_range.mpr h)
  unfold clsOK at this
  rw [Bool.and_eq_true, beq_iff_eq] at this
  exact ⟨this.1, hasW_in this.2⟩
theorem mh_ok {q : Nat} (h : q < 176) : (yN q).cls ≠ "java/lang/invoke/MethodHandle" ∧ (yN q).cls ≠ "java/lang/invoke/VarHandle" ∧ (parseMethodDescriptor (yN q).desc).map (fun d => d.parameters.length) = some (nPar q) := by
  have h0 := List.all_eq_true.mp owA q (List.mem_range.mpr (by omega))
  rw [Bool.and_eq_true] at h0
  have h1 := List.all_eq_true.mp mhA (ow q) (List.mem_range.mpr (Nat.le_of_ble_eq_true h0.1))
  simp only [Bool.and_eq_true, bne_iff_ne] at h1
  rw [(cls_ok h).1]
  exact ⟨h1.1, h1.2, of_decide_eq_true (List.all_eq_true.mp parA q (List.mem_range.mpr h))⟩
theorem mL_le {q : Nat} (h : q < 177) : mL q ≤ 8 := by
  have h0 := List.all_eq_true.mp owA q (List.mem_range.mpr h)
  rw [Bool.and_eq_true] at h0
  exact Nat.le_of_ble_eq_true h0.2
theorem ip_s {q : Nat} (h : q < 176) (hs : stM q = true) : Cond.static (yN q) ∈ lw_gd := by
  have := List.all_eq_true.mp ipA q (List.mem_range.mpr h)
  unfold ipOK at this
  rw [if_pos hs] at this
  exact hasW_in this
theorem ip_i {q : Nat} (h : q < 176) (hs : stM q = false) : Cond.instanceMethod (yN q) ∈ lw_gd := by
  have := List.all_eq_true.mp ipA q (List.mem_range.mpr h)
  unfold ipOK at this
  rw [if_neg (by rw [hs]; decide)] at this
  exact hasW_in this
theorem sp_i {q : Nat} (h : q < 176) (hs : stM q = false) (hi : isI q = false) : Cond.selects (yN q).cls (yN q) (yN q) ∈ lw_gd := by
  have := List.all_eq_true.mp spA q (List.mem_range.mpr h)
  unfold spOK at this
  rw [hs, hi] at this
  exact hasW_in this
theorem good_ws {q : Nat} (h : q < 176) : GoodIn lw_gd (mWs q) := fun w hw => by
  rcases List.mem_cons.mp hw with rfl | hw
  · exact gd_good _ (cod_in h)
  · exact gd_good _ hw
/-- the room of a method that makes so many cells -/
def mRm (q a b : Nat) : Room := { frames := dp q, cells := a, slots := b, locals := 36 * dp q }
def mPc (G : GT) (M : SM) (as : List Value) : Array Value → State → Prop := fun a U => a = as.toArray ∧ Wld G M U.heap ∧ Kn G U
def mQc (G : GT) (M : SM) (v : Option Value) : Array Value → State → Outcome → State → Prop := fun _ _ o t => o = .returned v ∧ Wld G M t.heap
theorem mPc_blind (G : GT) (M : SM) (as : List Value) : FrameBlind (mPc G M as) := fun _ _ _ _ h => ⟨h.1, h.2.1, h.2.2.blind⟩
abbrev mMet (l : Launch) (G : GT) (q : Nat) (M : SM) (as : List Value) (v : Option Value) (M2 : SM) : Prop := Met l (yN q) (mWs q) (mRm q (mS M2 - mS M) (mU M2 - mU M)) (mPc G M as) (mQc G M2 v) (mS M2 - mS M) (mU M2 - mU M) (fun a => gB G ≤ a)
section CR
variable {p : Program} {l : Launch} {e : Env} {R : Room} {s : State} {m : MethodId} {args : Array Value} {below : List Frame} {meth : Method} {c : Code} {H : Heap} {locs : List Loc} {cells slots mc ms : Nat} {Q : State → Prop}
variable {G : GT} {q q2 : Nat} {M M2 : SM} {pc i : Nat} {ls : Array Slot} {lv : List (Option Value)} {rest st0 as : List Value} {v : Option Value}
theorem run_on {a : Array Value} (hr : va_Run p l e R s m args below meth c H locs cells slots mc ms (F0 m pc ls st0) rest (mQc G M2 v a) (fun a => gB G ≤ a)) (hL : ∀ x ∈ locs, gB G ≤ x.base)
    (kk : ∀ (H1 : Heap) (locs1 : List Loc), Wld G M2 H1 → (∀ x ∈ locs1, gB G ≤ x.base) → W p l e R s m args below meth c H1 locs1 (cells + mc) (slots + ms) Q (F0 m (pc + 3) ls (v.toList ++ rest))) : W p l e R s m args below meth c H locs cells slots Q (F0 m pc ls st0) := by
  intro T hT X
  obtain ⟨v', st₀, t, T', L, h0, X', hL', e1, e2, ⟨hv, hw⟩, st⟩ := hr T hT X
  cases hv
  obtain ⟨t2, a1, b1⟩ := kk T'.heap (locs ++ L) (by rw [e1]; exact hw) (fun x hx => (List.mem_append.mp hx).elim (hL x) (hL' x)) T' rfl X'
  exact ⟨t2, st t2 a1, b1⟩
theorem fixed (C : Cx G q p R s m args meth c) : CallFix p m c (mB q) (mL q) s args lw_gd (CN (ow q)) := ⟨C.1, C.2.1, C.2.2.1, C.2.2.2.1, C.2.2.2.2.1⟩
theorem room_ok (C : Cx G q p R s m args meth c) (h2 : q2 < 176) (hd : dp q2 < dp q) (a b : Nat) : (mRm q2 a b).frames + 1 ≤ R.frames ∧ 8 + (mL q2 + 11) + (mRm q2 a b).locals ≤ R.locals := by
  have h1 := C.2.2.2.2.2.2.2.1
  have h3 := C.2.2.2.2.2.2.2.2
  have h4 := mL_le (q := q2) (by omega)
  refine ⟨?_, ?_⟩
  · show dp q2 + 1 ≤ R.frames; omega
  · show 8 + (mL q2 + 11) + 36 * dp q2 ≤ R.locals; omega
theorem call_V (C : Cx G q p R s m args meth c) (S : Sd G q M H locs ls lv) {kd b : Nat} (hM : mMet l G q2 M (.ref b :: as) v M2) (hf : cal (ow q) i = some (q2, kd)) (hkd : kd = 0 ∨ kd = 1) (hn : as.length = nPar q2) (hr : catS rest ≤ 8) (hdp : dp q2 < dp q) (hk : mK M b = (10 + ow q2, 0))
    (hcells : cells + (mS M2 - mS M) ≤ R.cells) (hslots : slots + (mU M2 - mU M) ≤ R.slots) (hd : decode (mB q) pc = .ok (.invokevirtual i, 3)) :
    va_Run p l e R s m args below meth c H locs cells slots (mS M2 - mS M) (mU M2 - mU M) (F0 m pc ls (as.reverse ++ .ref b :: rest)) rest (mQc G M2 v (Value.ref b :: as).toArray) (fun a => gB G ≤ a) := by
  have h2 := cal_lt hf
  obtain ⟨e0, he, e1, e2, e3, e4⟩ := cal_spec hf
  have hc := List.all_eq_true.mp calA e0 he
  unfold calOK at hc
  rw [Bool.and_eq_true, e4, e3] at hc
  have hts := C.2.2.2.2.1
  have hK := C.2.2.2.2.2.1
  have hfl : stM q2 = false ∧ isI q2 = false ∧ ow q2 < nCl := by
    rcases hkd with rfl | rfl
    · simp only [Bool.and_eq_true, Bool.not_eq_true'] at hc
      exact ⟨hc.2.1.1.2, hc.2.1.2, Nat.le_of_ble_eq_true hc.2.2⟩
    · simp only [Bool.and_eq_true, Bool.not_eq_true'] at hc
      exact ⟨hc.2.1.1, hc.2.1.2, Nat.le_of_ble_eq_true hc.2.2⟩
  have hin := hts _ (ip_i h2 hfl.1)
  have hse := hts _ (sp_i h2 hfl.1 hfl.2.1)
  have hini : (Cond.initialized (yN q2).cls).before args s = true := by rw [(cls_ok h2).1]; exact hts _ (cls_ok h2).2
  have hPre : PreV s H (yN q2).cls b (mPc G M (.ref b :: as)) as := by
    refine ⟨mPc_blind _ _ _, ?_, fun U hU hW => ⟨rfl, by rw [hU]; exact S.1, hK.moved hW⟩⟩
    obtain ⟨-, cell, g1, g2, g3, -⟩ := (S.1.2.2.2 b).2.2 (ow q2) hfl.2.2 (by rw [hk])
    exact ⟨cell, g1, by rw [g3]; rfl, by rw [g2, (cls_ok h2).1]; exact (hK.1.1 (ow q2) _ (cls_at _ hfl.2.2)).2.1⟩
  have hls : ls.size = mL q := S.2.2.1.1
  rcases hkd with rfl | rfl
  · have hl : (Cond.methodLink (CN (ow q)) i (yN q2)).before args s = true := by
      simp only [Bool.and_eq_true] at hc
      have := hts _ (hasW_in hc.2.1.1.1)
      rwa [e1, e2] at this
    exact va_runV (C := (yN q2).cls) (As := as) (rest := rest) (bytes := mB q2) (maxL := mL q2) (ret := mRt q2) (n := nPar q2) (index := i) (fixed C) hM ⟨callB_of (nPar q2) hts (good_ws h2) rfl rfl rfl hini hl (mh_ok h2) (room_ok C h2 hdp _ _), hin, hse⟩ hPre rfl hn hls rfl (lv_room hr) hd ⟨hcells, hslots⟩
  · have hl : va_Nw (.methodLinkNest (CN (ow q)) i (yN q2) NH) s := by
      have := hK.2.2.2.1 e0 he (by rw [e4])
      unfold nstN at this
      rwa [e1, e2, e3] at this
    exact va_runVN (C := (yN q2).cls) (As := as) (rest := rest) (bytes := mB q2) (maxL := mL q2) (ret := mRt q2) (n := nPar q2) (index := i) (fixed C) hM ⟨va_cnB (nPar q2) hts (good_ws h2) rfl rfl rfl hl hini (mh_ok h2) (room_ok C h2 hdp _ _), hin, hse⟩ hPre rfl hn hls rfl (lv_room hr) hd ⟨hcells, hslots⟩
theorem call_S (C : Cx G q p R s m args meth c) (S : Sd G q M H locs ls lv) (hM : mMet l G q2 M as v M2) {kd : Nat} (hf : cal (ow q) i = some (q2, kd)) (hkd : kd = 2 ∨ kd = 3) (hn : as.length = nPar q2) (hr : catS rest ≤ 8) (hdp : dp q2 < dp q)
    (hcells : cells + (mS M2 - mS M) ≤ R.cells) (hslots : slots + (mU M2 - mU M) ≤ R.slots) (hd : decode (mB q) pc = .ok (.invokestatic i, 3)) :
    va_Run p l e R s m args below meth c H locs cells slots (mS M2 - mS M) (mU M2 - mU M) (F0 m pc ls (as.reverse ++ rest)) rest (mQc G M2 v as.toArray) (fun a => gB G ≤ a) := by
  have h2 := cal_lt hf
  obtain ⟨e0, he, e1, e2, e3, e4⟩ := cal_spec hf
  have hc := List.all_eq_true.mp calA e0 he
  unfold calOK at hc
  rw [Bool.and_eq_true, e4, e3] at hc
  have hts := C.2.2.2.2.1
  have hK := C.2.2.2.2.2.1
  have hfl : stM q2 = true := by
    rcases hkd with rfl | rfl
    · simp only [Bool.and_eq_true] at hc
      exact hc.2.2
    · exact hc.2
  have hst := hts _ (ip_s h2 hfl)
  have hini : (Cond.initialized (yN q2).cls).before args s = true := by rw [(cls_ok h2).1]; exact hts _ (cls_ok h2).2
  have hPre : PreS s H (mPc G M as) as := ⟨mPc_blind _ _ _, fun U hU hW => ⟨rfl, by rw [hU]; exact S.1, hK.moved hW⟩⟩
  have hls : ls.size = mL q := S.2.2.1.1
  rcases hkd with rfl | rfl
  · have hl : (Cond.methodLink (CN (ow q)) i (yN q2)).before args s = true := by
      simp only [Bool.and_eq_true] at hc
      have := hts _ (hasW_in hc.2.1)
      rwa [e1, e2] at this
    exact va_runS (As := as) (rest := rest) (bytes := mB q2) (maxL := mL q2) (ret := mRt q2) (n := nPar q2) (index := i) (fixed C) hM ⟨callB_of (nPar q2) hts (good_ws h2) rfl rfl rfl hini hl (mh_ok h2) (room_ok C h2 hdp _ _), hst⟩ hPre rfl hn hls rfl (lv_room hr) hd ⟨hcells, hslots⟩
  · have hl : va_Nw (.methodLinkNest (CN (ow q)) i (yN q2) NH) s := by
      have := hK.2.2.2.1 e0 he (by rw [e4])
      unfold nstN at this
      rwa [e1, e2, e3] at this
    exact va_runSN (As := as) (rest := rest) (bytes := mB q2) (maxL := mL q2) (ret := mRt q2) (n := nPar q2) (index := i) (fixed C) hM ⟨va_cnB (nPar q2) hts (good_ws h2) rfl rfl rfl hl hini (mh_ok h2) (room_ok C h2 hdp _ _), hst, trivial⟩ hPre rfl hn hls rfl (lv_room hr) hd ⟨hcells, hslots⟩
theorem call_I (C : Cx G q p R s m args meth c) (S : Sd G q M H locs ls lv) {kd b : Nat} (hM : mMet l G q2 M (.ref b :: as) v M2) (hf : cal (ow q) i = some (q2, kd)) (hkd : kd = 4 ∨ kd = 5) (hn : as.length = nPar q2) (hr : catS rest ≤ 8) (hdp : dp q2 < dp q)
    (hcells : cells + (mS M2 - mS M) ≤ R.cells) (hslots : slots + (mU M2 - mU M) ≤ R.slots) (hd : decode (mB q) pc = .ok (.invokespecial i, 3)) :
    va_Run p l e R s m args below meth c H locs cells slots (mS M2 - mS M) (mU M2 - mU M) (F0 m pc ls (as.reverse ++ .ref b :: rest)) rest (mQc G M2 v (Value.ref b :: as).toArray) (fun a => gB G ≤ a) := by
  have h2 := cal_lt hf
  obtain ⟨e0, he, e1, e2, e3, e4⟩ := cal_spec hf
  have hc := List.all_eq_true.mp calA e0 he
  unfold calOK at hc
  rw [Bool.and_eq_true, e4, e3] at hc
  have hts := C.2.2.2.2.1
  have hK := C.2.2.2.2.2.1
  have hfl : stM q2 = false ∧ isI q2 = true := by
    rcases hkd with rfl | rfl
    · simp only [Bool.and_eq_true, Bool.not_eq_true'] at hc
      exact ⟨hc.2.1.2, hc.2.2⟩
    · simp only [Bool.and_eq_true, Bool.not_eq_true'] at hc
      exact ⟨hc.2.1, hc.2.2⟩
  have hin := hts _ (ip_i h2 hfl.1)
  obtain ⟨hy1, hret⟩ := ini_nm hfl.2 (by omega)
  have hini : (Cond.initialized (yN q2).cls).before args s = true := by rw [(cls_ok h2).1]; exact hts _ (cls_ok h2).2
  have hPre : PreS s H (mPc G M (.ref b :: as)) (.ref b :: as) := ⟨mPc_blind _ _ _, fun U hU hW => ⟨rfl, by rw [hU]; exact S.1, hK.moved hW⟩⟩
  have hls : ls.size = mL q := S.2.2.1.1
  have hws : mWs q2 = Cond.code (yN q2) (mB q2) (mL q2) none :: lw_gd := by unfold mWs codW; rw [hret]
  rcases hkd with rfl | rfl
  · have hl : (Cond.methodLink (CN (ow q)) i (yN q2)).before args s = true := by
      simp only [Bool.and_eq_true] at hc
      have := hts _ (hasW_in hc.2.1.1)
      rwa [e1, e2] at this
    exact va_runI (As := as) (rest := rest) (bytes := mB q2) (maxL := mL q2) (n := nPar q2) (index := i) (fixed C) hM ⟨callB_of (nPar q2) hts (good_ws h2) hws rfl rfl hini hl (mh_ok h2) (room_ok C h2 hdp _ _), hy1, hin⟩ hPre rfl hn hls rfl (lv_room hr) hd ⟨hcells, hslots⟩
  · have hl : va_Nw (.methodLinkNest (CN (ow q)) i (yN q2) NH) s := by
      have := hK.2.2.2.1 e0 he (by rw [e4])
      unfold nstN at this
      rwa [e1, e2, e3] at this
    exact va_runIN (As := as) (rest := rest) (bytes := mB q2) (maxL := mL q2) (n := nPar q2) (index := i) (fixed C) hM ⟨va_cnB (nPar q2) hts (good_ws h2) hws rfl rfl hl hini (mh_ok h2) (room_ok C h2 hdp _ _), hy1, hin⟩ hPre rfl hn hls rfl (lv_room hr) hd ⟨hcells, hslots⟩
end CR
end
section
/-! the whole run: what the small machine answers, the machine answers -/
theorem doV_spec {q pc q2 kd : Nat} {lv : List (Option Value)} {st : List Value} {M : SM} {r : Res} (h : doV q pc lv st M q2 kd = some r) : ∃ (a : Nat) (as rest : List Value), st = as.reverse ++ .ref a :: rest ∧ (kd = 0 ∨ kd = 1) ∧ as.length = nPar q2 ∧ callOK q q2 (.ref a :: as) rest = true ∧ mK M a = (10 + ow q2, 0) ∧ r = .inr (.inr (q2, .ref a :: as, M, pc + 3, lv, rest)) := by
  unfold doV at h
  split at h
  · rename_i hdrop
    split at h
    · rename_i hc
      split at h
      · rename_i hk
        simp only [Bool.and_eq_true, Bool.or_eq_true, beq_iff_eq] at hc
        refine ⟨_, (st.take (nPar q2)).reverse, _, ?_, hc.1.2, hc.2, hc.1.1, hk, (Option.some.inj h).symm⟩
        rw [List.reverse_reverse]
        have := List.take_append_drop (nPar q2) st
        rw [hdrop] at this
        exact this.symm
      · cases h
    · cases h
  · cases h
theorem doI_spec {q pc q2 kd : Nat} {lv : List (Option Value)} {st : List Value} {M : SM} {r : Res} (h : doI q pc lv st M q2 kd = some r) : ∃ (a : Nat) (as rest : List Value), st = as.reverse ++ .ref a :: rest ∧ (kd = 4 ∨ kd = 5) ∧ as.length = nPar q2 ∧ callOK q q2 (.ref a :: as) rest = true ∧ r = .inr (.inr (q2, .ref a :: as, M, pc + 3, lv, rest)) := by
  unfold doI at h
  split at h
  · rename_i hdrop
    split at h
    · rename_i hc
      simp only [Bool.and_eq_true, Bool.or_eq_true, beq_iff_eq] at hc
      refine ⟨_, (st.take (nPar q2)).reverse, _, ?_, hc.1.2, hc.2, hc.1.1, (Option.some.inj h).symm⟩
      rw [List.reverse_reverse]
      have := List.take_append_drop (nPar q2) st
      rw [hdrop] at this
      exact this.symm
    · cases h
  · cases h
theorem doS_spec {q pc q2 kd : Nat} {lv : List (Option Value)} {st : List Value} {M : SM} {r : Res} (h : doS q pc lv st M q2 kd = some r) : ∃ (as rest : List Value), st = as.reverse ++ rest ∧ (kd = 2 ∨ kd = 3) ∧ as.length = nPar q2 ∧ callOK q q2 as rest = true ∧ r = .inr (.inr (q2, as, M, pc + 3, lv, rest)) := by
  unfold doS at h
  split at h
  split at h
  · rename_i hc
    simp only [Bool.and_eq_true, Bool.or_eq_true, beq_iff_eq] at hc
    refine ⟨(st.take (nPar q2)).reverse, st.drop (nPar q2), ?_, hc.1.2, hc.2, hc.1.1, (Option.some.inj h).symm⟩
    rw [List.reverse_reverse]
    exact (List.take_append_drop (nPar q2) st).symm
  · cases h
theorem callOK_spec {q q2 : Nat} {as rest : List Value} (h : callOK q q2 as rest = true) : (entA as).length ≤ mL q2 ∧ catS rest ≤ 8 ∧ dp q2 < dp q := by
  unfold callOK at h
  simp only [Bool.and_eq_true] at h
  exact ⟨Nat.le_of_ble_eq_true h.1.1, Nat.le_of_ble_eq_true h.1.2, Nat.le_of_ble_eq_true h.2⟩
/-- the instruction with which a method ends -/
def retI (q : Nat) (i : Instr) (v : Option Value) : Prop := match v with
  | none => i = .return_ ∧ mRt q = none
  | some (.int x) => i = .ireturn ∧ retOK (mRt q) x = true
  | some (.long _) => i = .lreturn ∧ mRt q = some .long
  | _ => False
/-- one step of the small machine: a next instruction, an end, a call -/
theorem sto_spec {i : Instr} {q pc : Nat} {lv : List (Option Value)} {st : List Value} {M : SM} {r : Res} (h : sto i q pc lv st M = some r) :
    (∃ x : Nx, stp i q pc lv st M = some x ∧ r = .inl x) ∨
    (∃ v : Option Value, retI q i v ∧ st = v.toList ∧ r = .inr (.inl (v, M))) ∨
    (∃ (k q2 kd : Nat), cal (ow q) k = some (q2, kd) ∧ ((i = .invokevirtual k ∧ doV q pc lv st M q2 kd = some r) ∨ (i = .invokestatic k ∧ doS q pc lv st M q2 kd = some r) ∨ (i = .invokespecial k ∧ doI q pc lv st M q2 kd = some r))) := by
  have hm : ∀ {i : Instr}, (stp i q pc lv st M).map Sum.inl = some r → ∃ x : Nx, stp i q pc lv st M = some x ∧ r = .inl x := fun h => by
    obtain ⟨x, hx, rfl⟩ := Option.map_eq_some_iff.mp h
    exact ⟨x, hx, rfl⟩
  unfold sto at h
  split at h
  · split at h
    · split at h
      · rename_i hr
        exact Or.inr (Or.inl ⟨none, ⟨rfl, hr⟩, rfl, (Option.some.inj h).symm⟩)
      · cases h
    · cases h
  · split at h
    · split at h
      · rename_i x hr
        exact Or.inr (Or.inl ⟨some (.int x), ⟨rfl, hr⟩, rfl, (Option.some.inj h).symm⟩)
      · cases h
    · cases h
  · split at h
    · split at h
      · rename_i x hr
        exact Or.inr (Or.inl ⟨some (.long x), ⟨rfl, hr⟩, rfl, (Option.some.inj h).symm⟩)
      · cases h
    · cases h
  · split at h
    · rename_i hf
      exact Or.inr (Or.inr ⟨_, _, _, hf, Or.inl ⟨rfl, h⟩⟩)
    · cases h
  · split at h
    · exact Or.inl (hm h)
    · split at h
      · rename_i hf
        exact Or.inr (Or.inr ⟨_, _, _, hf, Or.inr (Or.inl ⟨rfl, h⟩)⟩)
      · cases h
  · split at h
    · exact Or.inl (hm h)
    · split at h
      · rename_i hf
        exact Or.inr (Or.inr ⟨_, _, _, hf, Or.inr (Or.inr ⟨rfl, h⟩)⟩)
      · cases h
  · exact Or.inl (hm h)
/-- what a run of the small machine says of the machine: from there the machine comes to an end of the method with that answer, that memory -/
def Runs (l : Launch) (G : GT) (q pc : Nat) (lv : List (Option Value)) (st : List Value) (M : SM) (v : Option Value) (M2 : SM) : Prop :=
  ∀ (p : Program) (e : Env) (R : Room) (s : State) (m : MethodId) (args : Array Value) (below : List Frame) (meth : Method) (c : Code) (H : Heap) (locs : List Loc) (Q : State → Prop) (ls : Array Slot) (S0 U0 : Nat),
    q < 177 → Cx G q p R s m args meth c → Sd G q M H locs ls lv → S0 ≤ mS M → U0 ≤ mU M → mS M2 ≤ R.cells + S0 → mU M2 ≤ R.slots + U0 →
    (∀ (H' : Heap) (locs' : List Loc) (pc' : Nat) (ls' : Array Slot) (i : Instr), Wld G M2 H' → (∀ x ∈ locs', gB G ≤ x.base) → retI q i v → decode (mB q) pc' = .ok (i, 1) → W p l e R s m args below meth c H' locs' (mS M2 - S0) (mU M2 - U0) Q (F0 m pc' ls' v.toList)) →
    W p l e R s m args below meth c H locs (mS M - S0) (mU M - U0) Q (F0 m pc ls st)
theorem runs_call {l : Launch} {G : GT} {q pc : Nat} {lv : List (Option Value)} {st : List Value} {M M1 M2 : SM} {v v1 : Option Value} {rest : List Value}
    (hrun : ∀ (p : Program) (e : Env) (R : Room) (s : State) (m : MethodId) (args : Array Value) (below : List Frame) (meth : Method) (c : Code) (H : Heap) (locs : List Loc) (ls : Array Slot) (cells slots : Nat), q < 177 → Cx G q p R s m args meth c → Sd G q M H locs ls lv → cells + (mS M1 - mS M) ≤ R.cells → slots + (mU M1 - mU M) ≤ R.slots →
      ∃ a : Array Value, va_Run p l e R s m args below meth c H locs cells slots (mS M1 - mS M) (mU M1 - mU M) (F0 m pc ls st) rest (mQc G M1 v1 a) (fun a => gB G ≤ a))
    (h1 : mS M ≤ mS M1 ∧ mU M ≤ mU M1) (h2 : mS M1 ≤ mS M2 ∧ mU M1 ≤ mU M2) (hR : Runs l G q (pc + 3) lv (v1.toList ++ rest) M1 v M2) : Runs l G q pc lv st M v M2 := by
  intro p e R s m args below meth c H locs Q ls S0 U0 hq C S hS0 hU0 hc hu hend
  obtain ⟨a, hr⟩ := hrun p e R s m args below meth c H locs ls (mS M - S0) (mU M - U0) hq C S (by omega) (by omega)
  refine run_on hr S.2.1 fun H1 locs1 hW hL => ?_
  rw [show mS M - S0 + (mS M1 - mS M) = mS M1 - S0 by omega, show mU M - U0 + (mU M1 - mU M) = mU M1 - U0 by omega]
  exact hR p e R s m args below meth c H1 locs1 Q ls S0 U0 hq C ⟨hW, hL, S.2.2⟩ (by omega) (by omega) hc hu hend
/-- a method's contract out of its run -/
theorem met_of {l : Launch} {G : GT} {q : Nat} {as : List Value} {M M2 : SM} {v : Option Value} (hq : q < 176) (ha : (entA as).length ≤ mL q) (h : Runs l G q 0 (ent q as) [] M v M2) : mMet l G q M as v M2 := by
  refine va_MetF (cc := mB q) (maxL := mL q) (ret := mRt q) (List.all_eq_true.mp plA q (List.mem_range.mpr (by omega))) rfl ?_
  intro p e s m args below meth c s₁ B hml hv
  obtain ⟨rfl, hW, hK⟩ := hv
  have hts := atoms_spec (ws := mWs q) B.pre
  have hown : s.vm.findClass (CN (ow q)) = some m.cls := by rw [← (cls_ok hq).1]; exact findClass_of_methodNamed B.named
  have hlocks := B.notSynchronized
  have hr := B.returns
  have hx := B.exec
  have hb := B.bytes
  have C : Cx G q p (headSpec (mWs q) (mRm q (mS M2 - mS M) (mU M2 - mU M))).room s m as.toArray meth c := ⟨hx, hb, hml, hown, fun w hw => hts w (List.mem_cons_of_mem _ hw), hK, fun hi => (name_of_methodNamed B.named B.method).1.trans (ini_nm hi (by omega)).1, Nat.le_refl _, Nat.le_refl _⟩
  have hl := ent_has q as ha
  rw [lg_entry_eq]
  have key := h p e _ s m as.toArray below meth c s.heap [] (MQ below (mQc G M2 v) as.toArray s (mS M2 - mS M) (mU M2 - mU M) (fun a => gB G ≤ a)) _ (mS M) (mU M) (by omega) C ⟨hW, fun x hx => (by cases hx), hl, ent_len q as ha⟩ (Nat.le_refl _) (Nat.le_refl _) (by show mS M2 ≤ mS M2 - mS M + mS M; omega) (by show mU M2 ≤ mU M2 - mU M + mU M; omega) ?_
  · rw [Nat.sub_self, Nat.sub_self] at key
    exact key
  · intro H' locs' pc' ls' i hW' hL' hri hd
    have hq' : ∀ t : State, t.heap = H' → s.WarmedH t.vm → mQc G M2 v as.toArray s (.returned v) t := fun t ht _ => ⟨rfl, by rw [ht]; exact hW'⟩
    match v, hri with
    | none, hri =>
      obtain ⟨rfl, hrt⟩ := hri
      exact W.vret hx hb (by rw [hr, hrt]) hq' hL' hd
    | some (.long x), hri =>
      obtain ⟨rfl, hrt⟩ := hri
      exact W.lret hx hb (by rw [hr, hrt]) hq' hL' hd
    | some (.int x), hri =>
      obtain ⟨rfl, hrt⟩ := hri
      unfold retOK at hrt
      split at hrt
      · rename_i hrr
        exact W.iret hx hb (by rw [hr, hrr]) hq' hL' hd
      · rename_i hrr
        refine W.zret hx hb (hr.trans hrr) ?_ hq' hL' hd
        rw [Bool.or_eq_true, beq_iff_eq, beq_iff_eq] at hrt
        rcases hrt with rfl | rfl <;> decide
      · cases hrt
theorem core (l : Launch) (G : GT) : ∀ (n q pc : Nat) (lv : List (Option Value)) (st : List Value) (M : SM) (v : Option Value) (M2 : SM), ex n q pc lv st M = some (v, M2) → mS M ≤ mS M2 ∧ mU M ≤ mU M2 ∧ Runs l G q pc lv st M v M2
  | 0, _, _, _, _, _, _, _, h => by cases h
  | n + 1, q, pc, lv, st, M, v, M2, h => by
    rw [ex] at h
    cases hd : decode (mB q) pc with
    | error _ => rw [hd] at h; cases h
    | ok x =>
      obtain ⟨i, len⟩ := x
      rw [hd] at h
      dsimp only at h
      cases hs : stq i len q pc lv st M with
      | none => rw [hs] at h; cases h
      | some r =>
        rw [hs] at h
        unfold stq at hs
        split at hs
        case isFalse => cases hs
        case isTrue hl =>
          rcases sto_spec hs with ⟨x, hx, rfl⟩ | ⟨v', hv, hst, rfl⟩ | ⟨k, q2, kd, hf, hcase⟩
          · obtain ⟨pc', lv', st', M'⟩ := x
            obtain ⟨m1, m2⟩ := mo_all hx
            obtain ⟨k1, k2, k3⟩ := core l G n q pc' lv' st' M' v M2 h
            refine ⟨Nat.le_trans m1 k1, Nat.le_trans m2 k2, fun p e R s m args below meth c H locs Q ls S0 U0 hq C S hS0 hU0 hc hu hend => ?_⟩
            exact st_all C S hq hS0 hU0 (by omega) (by omega) hd hl hx (fun H' locs' ls' S' => k3 p e R s m args below meth c H' locs' Q ls' S0 U0 hq C S' (by omega) (by omega) hc hu hend)
          · have e : v' = v ∧ M = M2 := by have := Option.some.inj (show some (v', M) = some (v, M2) from h); exact ⟨congrArg Prod.fst this, congrArg Prod.snd this⟩
            obtain ⟨rfl, rfl⟩ := e
            refine ⟨Nat.le_refl _, Nat.le_refl _, fun p e R s m args below meth c H locs Q ls S0 U0 hq C S hS0 hU0 hc hu hend => ?_⟩
            have hlen : len = 1 := by
              match v', hv with
              | none, hv => rw [hv.1] at hl; exact len1 hl rfl
              | some (.int _), hv => rw [hv.1] at hl; exact len1 hl rfl
              | some (.long _), hv => rw [hv.1] at hl; exact len1 hl rfl
            subst hlen
            rw [hst]
            exact hend H locs pc ls i S.1 S.2.1 hv hd
          · have h2 := cal_lt hf
            rcases hcase with ⟨rfl, hcall⟩ | ⟨rfl, hcall⟩ | ⟨rfl, hcall⟩
            · obtain rfl : len = 3 := len1 hl rfl
              obtain ⟨a, as, rest, rfl, hkd, hn, hco, hk, rfl⟩ := doV_spec hcall
              obtain ⟨c1, c2, c3⟩ := callOK_spec hco
              simp only [hdl] at h
              cases hx : ex n q2 0 (ent q2 (.ref a :: as)) [] M with
              | none => rw [hx] at h; cases h
              | some y =>
                obtain ⟨v1, M1⟩ := y
                rw [hx] at h
                obtain ⟨a1, a2, a3⟩ := core l G n q2 0 _ [] M v1 M1 hx
                obtain ⟨b1, b2, b3⟩ := core l G n q (pc + 3) lv _ M1 v M2 h
                refine ⟨Nat.le_trans a1 b1, Nat.le_trans a2 b2, runs_call (rest := rest) ?_ ⟨a1, a2⟩ ⟨b1, b2⟩ b3⟩
                intro p e R s m args below meth c H locs ls cells slots hq C S hcells hslots
                exact ⟨_, call_V C S (met_of h2 c1 a3) hf hkd hn c2 c3 hk hcells hslots hd⟩
            · obtain rfl : len = 3 := len1 hl rfl
              obtain ⟨as, rest, rfl, hkd, hn, hco, rfl⟩ := doS_spec hcall
              obtain ⟨c1, c2, c3⟩ := callOK_spec hco
              simp only [hdl] at h
              cases hx : ex n q2 0 (ent q2 as) [] M with
              | none => rw [hx] at h; cases h
              | some y =>
                obtain ⟨v1, M1⟩ := y
                rw [hx] at h
                obtain ⟨a1, a2, a3⟩ := core l G n q2 0 _ [] M v1 M1 hx
                obtain ⟨b1, b2, b3⟩ := core l G n q (pc + 3) lv _ M1 v M2 h
                refine ⟨Nat.le_trans a1 b1, Nat.le_trans a2 b2, runs_call (rest := rest) ?_ ⟨a1, a2⟩ ⟨b1, b2⟩ b3⟩
                intro p e R s m args below meth c H locs ls cells slots hq C S hcells hslots
                exact ⟨_, call_S C S (met_of h2 c1 a3) hf hkd hn c2 c3 hcells hslots hd⟩
            · obtain rfl : len = 3 := len1 hl rfl
              obtain ⟨a, as, rest, rfl, hkd, hn, hco, rfl⟩ := doI_spec hcall
              obtain ⟨c1, c2, c3⟩ := callOK_spec hco
              simp only [hdl] at h
              cases hx : ex n q2 0 (ent q2 (.ref a :: as)) [] M with
              | none => rw [hx] at h; cases h
              | some y =>
                obtain ⟨v1, M1⟩ := y
                rw [hx] at h
                obtain ⟨a1, a2, a3⟩ := core l G n q2 0 _ [] M v1 M1 hx
                obtain ⟨b1, b2, b3⟩ := core l G n q (pc + 3) lv _ M1 v M2 h
                refine ⟨Nat.le_trans a1 b1, Nat.le_trans a2 b2, runs_call (rest := rest) ?_ ⟨a1, a2⟩ ⟨b1, b2⟩ b3⟩
                intro p e R s m args below meth c H locs ls cells slots hq C S hcells hslots
                exact ⟨_, call_I C S (met_of h2 c1 a3) hf hkd hn c2 c3 hcells hslots hd⟩
end
section
/-! THE CLAIM OUT OF ONE WALK OF THE LAW'S BODY. Your part is whole_start (and what it stands on); all else here is the same for every law, but numbers. -/
def R_law : String := "DependentReplayLaw"
def lw_P (b : Addr) (xs : List Int32) (args : Array Value) (s : State) : Prop := args = #[.ref b] ∧ s.IntsAt b xs ∧ xs.length ≤ 1536 ∧ (Jvm.Cond.and given_1 narrow_1).before args s = true
def lw_Q (_ : Array Value) (s : State) (o : Outcome) (t : State) : Prop := o = .returned (some (.int 1)) ∧ Framed s o t [] 600000 7302250
def lw_Z (below : List Frame) (a : Array Value) (s : State) : State → Prop := fun t => ∃ o, t.status = .running ∧ Ended t below o ∧ lw_Q a s o t
/-- the law's own end, with 1 on the stack, nothing written that was there before, its room as the claim has it -/
theorem lw_ret {p : Program} {l : Launch} {e : Env} {s : State} {m : MethodId} {below : List Frame} {meth : Method} {c : Code} {b : Nat} (hx : p.tables.exec = Jvm.exec) (hb : c.code = code) (hr : meth.sig.returnType = ret) (hlocks : meth.locks = false) {pc : Nat} {H : Heap} {ls : Array Slot} (hdg : decode code pc = .ok (.ireturn, 1)) : W p l e room_1 s m #[Value.ref b] below meth c H [] 600000 7302250 (lw_Z below #[Value.ref b] s) (F0 m pc ls [.int 1]) := by
  intro T hT X
  obtain ⟨fs, hret, hrun, hended, hW, hframe⟩ := X.leave (v := some (.int 1)) (hlocks := hlocks) (fun h => by rw [hr] at h; cases h)
  have hmeth' : T.vm.method? m = some meth := X.method'
  refine ⟨T.setFrames fs, ?_, .returned (some (.int 1)), hrun, hended, rfl, ⟨_, rfl⟩, hW, hframe⟩
  jvm_step X.here [X.here.top, hx, hb, hdg, hmeth', hr, ret, narrow_b1]
  (try refine ⟨rfl, ?_⟩); (try refine ⟨rfl, ?_⟩)
  first | (intro acts; rw [hret _ acts rfl rfl rfl]) | rw [hret _ _ rfl rfl rfl]
  exact Steps.refl _
/-- what holds at the law's entry: the machine, the code, the tables' words (any of lw_tbl by 'hts w (by decide +kernel)'), the script of L ints xs at the cell b, what the Statement gives of the start (any of its parts by flat_of_before) -/
def lw_At (p : Program) (s : State) (m : MethodId) (meth : Method) (c : Code) (b L : Nat) (xs : Nat → Int32) : Prop :=
  p.tables.exec = Jvm.exec ∧ c.code = code ∧ meth.sig.returnType = ret ∧ c.maxLocals = 4 ∧ s.vm.findClass R_law = some m.cls ∧ (∀ w ∈ lw_tbl, w.before #[Value.ref b] s = true) ∧ va_X b L xs s s.heap ∧ b < s.heap.size ∧ meth.locks = false ∧ (Jvm.Cond.and given_1 narrow_1).before #[Value.ref b] s = true
/-! the law's start: its memory holds the script alone -/
def M0 (b S L : Nat) (xs : Nat → Int32) : SM := (fun a => if a = b then xs else fun _ => 0, fun _ _ => 0, fun _ _ => none, fun a => if a = b then (5, L) else (0, 0), S, 0)
theorem tbl_gd {args : Array Value} {s : State} (hts : ∀ w ∈ lw_tbl, w.before args s = true) : ∀ w ∈ lw_gd, w.before args s = true := fun w hw => hts w (List.mem_filter.mp hw).1
theorem kn_start {args : Array Value} {s : State} {b L : Nat} {xs : Nat → Int32} (hts : ∀ w ∈ lw_tbl, w.before args s = true) (hX : va_X b L xs s s.heap) : ∃ (D : va_G) (ar : Nat → ClassId), Kn (D, (s.heap.size, ar), (b, L, xs, s.heap)) s := by
  have hg := tbl_gd hts
  have hk : ∀ ci, ∃ x : ClassId × (Nat → Nat), ci < nCl → u_Kn s (CN ci) (TT ci) (NN ci) x.1 x.2 := by
    intro ci
    by_cases h : ci < nCl
    · have hi := List.all_eq_true.mp insA ci (List.mem_range.mpr h)
      rw [Bool.and_eq_true] at hi
      obtain ⟨cC, iS, hkn⟩ := u_known hg (lay_in h) (hg _ (hasW_in hi.1))
      exact ⟨(cC, iS), fun _ => hkn⟩
    · exact ⟨(0, fun _ => 0), fun z => absurd z h⟩
  have ha := arcA
  rw [Bool.and_eq_true] at ha
  obtain ⟨cI, kI, compI, i1, i2, i3⟩ := Cond.arrayClass_spec (hg _ (hasW_in ha.1))
  obtain ⟨cJ, kJ, compJ, j1, j2, j3⟩ := Cond.arrayClass_spec (hg _ (hasW_in ha.2))
  have hv := aovA
  simp only [Bool.and_eq_true, decide_eq_true_eq] at hv
  have ho3 := hts _ (List.mem_of_getElem? hv.1.1.1)
  have ho4 := hts _ (List.mem_of_getElem? hv.1.1.2)
  obtain ⟨comp3, c3, k3, r1, r2, r3, r4, r5⟩ := Cond.arrayOver_spec ho3
  obtain ⟨comp4, c4, k4, q1, q2, q3, q4, q5⟩ := Cond.arrayOver_spec ho4
  refine ⟨(fun ci => (Classical.choose (hk ci)).1, fun ci => (Classical.choose (hk ci)).2), fun k => if k = 1 then cI else if k = 2 then cJ else if k = 3 then c3 else c4, ⟨fun c q hq => ?_, fun k q h => by simp at h⟩, fun k h1 h2 => ?_, hX, fun e he ho => ?_, va_AO.of ho3, va_AO.of ho4⟩
  · have hc : c < nCl := by
      have := (List.getElem?_eq_some_iff.mp hq).1
      exact this
    have := cls_at c hc
    rw [this] at hq
    cases hq
    exact Classical.choose_spec (hk c) hc
  · match k, h1, h2 with
    | 1, _, _ => exact ⟨fun n z => ⟨fun k h => (by cases h), kI, i2, compI, i3⟩, i1⟩
    | 2, _, _ => exact ⟨fun n z => ⟨fun k h => (by cases h), kJ, j2, compJ, j3⟩, j1⟩
    | 3, _, _ => exact ⟨fun n z => ⟨fun k h => (by cases h), k3, r3, comp3, r4⟩, k3, comp3, r3, r4, r1, r5⟩
    | 4, _, _ => exact ⟨fun n z => ⟨fun k h => (by cases h), k4, q3, comp4, q4⟩, k4, comp4, q3, q4, q1, q5⟩
  · have h := List.all_eq_true.mp nstA e he
    rw [Bool.or_eq_true, beq_iff_eq, decide_eq_true_eq] at h
    exact va_Nw.of rfl (hts _ (List.mem_of_getElem? (h.resolve_left (by omega))))
set_option maxRecDepth 100000 in
theorem start_of {p : Program} {e : Env} {s : State} {m : MethodId} {below : List Frame} {meth : Method} {c : Code} (l : Launch) {b L : Nat} {xs : Nat → Int32} (C0 : lw_At p s m meth c b L xs)
    (hp : ∃ M2 : SM, cl 176 [.ref b] (M0 b s.heap.size L xs) = some (some (.int 1), M2) ∧ mS M2 ≤ 600000 + s.heap.size ∧ mU M2 ≤ 7302250) :
    W p l e room_1 s m #[Value.ref b] below meth c s.heap [] 0 0 (lw_Z below #[Value.ref b] s) (entryFrame m ([Value.ref b] : List Value).toArray 4) := by
  obtain ⟨hx, hb, hr, hml, hown, hts, hX, hbl, hlocks, hgv⟩ := id C0
  obtain ⟨D, ar, hK⟩ := kn_start hts hX
  obtain ⟨M2, hcl, hS, hU⟩ := hp
  obtain ⟨n, hn⟩ := rn_iff.mp hcl
  obtain ⟨m1, m2, hR⟩ := core l (D, (s.heap.size, ar), (b, L, xs, s.heap)) n _ _ _ _ _ _ _ hn
  have hl := ent_has 176 [.ref b] (Nat.le_of_ble_eq_true rfl)
  rw [lg_entry_eq]
  have hW : Wld (D, (s.heap.size, ar), (b, L, xs, s.heap)) (M0 b s.heap.size L xs) s.heap := by
    refine ⟨rfl, Nat.le_refl _, hbl, fun a => ?_⟩
    by_cases hab : a = b
    · subst hab
      have hk : mK (M0 a s.heap.size L xs) a = (5, L) := if_pos rfl
      refine ⟨fun _ => ⟨rfl, by rw [hk]; rfl, if_pos rfl, rfl⟩, fun k h1 h2 h3 => ?_, fun ci h1 h2 => ?_⟩
      · rw [hk] at h1; simp at h1; omega
      · rw [hk] at h2; simp at h2; omega
    · have hk : mK (M0 b s.heap.size L xs) a = (0, 0) := if_neg hab
      refine ⟨fun h => ?_, fun k h1 h2 h3 => ?_, fun ci h1 h2 => ?_⟩
      · rw [hk] at h; simp at h
      · rw [hk] at h1; simp at h1; omega
      · rw [hk] at h2; simp at h2; omega
  have C : Cx (D, (s.heap.size, ar), (b, L, xs, s.heap)) 176 p room_1 s m #[Value.ref b] meth c := ⟨hx, hb, hml, hown, tbl_gd hts, hK, fun h => (by cases h), Nat.le_of_ble_eq_true rfl, Nat.le_of_ble_eq_true rfl⟩
  have key := hR p e room_1 s m #[Value.ref b] below meth c s.heap [] (lw_Z below #[Value.ref b] s) _ s.heap.size 0 (Nat.le_of_ble_eq_true rfl) C ⟨hW, fun x hx => (by cases hx), hl, ent_len 176 [.ref b] (Nat.le_of_ble_eq_true rfl)⟩ (Nat.le_refl _) (Nat.le_refl _) hS hU ?_
  · rw [show mS (M0 b s.heap.size L xs) = s.heap.size from rfl, Nat.sub_self] at key
    exact key
  · intro H' locs' pc' ls' i hW' hL' hri hd
    obtain ⟨rfl, -⟩ := hri
    refine W.widen (k := 600000) (n := 7302250) (by omega) (by omega) ?_
    refine va_forget hL' ?_
    exact lw_ret hx hb hr hlocks hd
end
section
/-! one step of the small machine, as an equation -/
/-- behind a call -/
noncomputable def cbn (o : Out) (q pc : Nat) (ls : List (Option Value)) (rest : List Value) : Out := match o with
  | some (v, M1) => rn q pc ls (v.toList ++ rest) M1
  | none => none
theorem cbn_i (v : Value) (M1 : SM) (q pc : Nat) (ls : List (Option Value)) (rest : List Value) : cbn (some (some v, M1)) q pc ls rest = rn q pc ls (v :: rest) M1 := rfl
theorem cbn_v (M1 : SM) (q pc : Nat) (ls : List (Option Value)) (rest : List Value) : cbn (some (none, M1)) q pc ls rest = rn q pc ls rest M1 := rfl
theorem hdl_ite (c : Prop) [Decidable c] (q : Nat) (a b : Option Res) : hdl (rn q) cl (if c then a else b) = if c then hdl (rn q) cl a else hdl (rn q) cl b := by split <;> rfl
theorem map_ite (c : Prop) [Decidable c] (a b : Option Nx) : (if c then a else b).map (Sum.inl : Nx → Res) = if c then a.map .inl else b.map .inl := by split <;> rfl
theorem ite_cg {c : Prop} [Decidable c] {a a' b b' : Out} (h1 : a = a') (h2 : b = b') : (if c then a else b) = if c then a' else b' := by rw [h1, h2]
section RR
variable {q pc len : Nat} {ls : List (Option Value)} {r : List Value} {M : SM}
theorem r_sto {i : Instr} (hd : decode (mB q) pc = .ok (i, len)) (hl : lenOK i len = true) (st : List Value) : rn q pc ls st M = hdl (rn q) cl (sto i q pc ls st M) := by
  rw [rn_eq hd]
  unfold stq
  rw [if_pos hl]
theorem r_nx {i : Instr} {st st' : List Value} {pc' : Nat} {ls' : List (Option Value)} {M' : SM} (hd : decode (mB q) pc = .ok (i, len)) (hl : lenOK i len = true) (h : sto i q pc ls st M = some (.inl (pc', ls', st', M'))) : rn q pc ls st M = rn q pc' ls' st' M' := by
  rw [r_sto hd hl, h]
  rfl
theorem r_iload_n {k : Fin 4} {x : Int32} (hd : decode (mB q) pc = .ok (.iload_n k, 1)) (h : ls[(k : Nat)]? = some (some (.int x))) : rn q pc ls r M = rn q (pc + 1) ls (.int x :: r) M := r_nx hd rfl (by show Option.map _ (match ls[(k : Nat)]? with | some (some (.int x)) => nx (pc + 1) ls (.int x :: r) M | _ => none) = _; rw [h]; rfl)
theorem r_iload {k : Nat} {x : Int32} (hd : decode (mB q) pc = .ok (.iload k, 2)) (h : ls[k]? = some (some (.int x))) : rn q pc ls r M = rn q (pc + 2) ls (.int x :: r) M := r_nx hd rfl (by show Option.map _ (match ls[k]? with | some (some (.int x)) => nx (pc + 2) ls (.int x :: r) M | _ => none) = _; rw [h]; rfl)
theorem r_aload_n {k : Fin 4} {x : Nat} (hd : decode (mB q) pc = .ok (.aload_n k, 1)) (h : ls[(k : Nat)]? = some (some (.ref x))) : rn q pc ls r M = rn q (pc + 1) ls (.ref x :: r) M := r_nx hd rfl (by show Option.map _ (match ls[(k : Nat)]? with | some (some (.ref x)) => nx (pc + 1) ls (.ref x :: r) M | _ => none) = _; rw [h]; rfl)
theorem r_aload {k : Nat} {x : Nat} (hd : decode (mB q) pc = .ok (.aload k, 2)) (h : ls[k]? = some (some (.ref x))) : rn q pc ls r M = rn q (pc + 2) ls (.ref x :: r) M := r_nx hd rfl (by show Option.map _ (match ls[k]? with | some (some (.ref x)) => nx (pc + 2) ls (.ref x :: r) M | _ => none) = _; rw [h]; rfl)
theorem r_lload_n {k : Fin 4} {x : Int64} (hd : decode (mB q) pc = .ok (.lload_n k, 1)) (h : ls[(k : Nat)]? = some (some (.long x))) (h2 : ls[(k : Nat) + 1]? = some none) : rn q pc ls r M = rn q (pc + 1) ls (.long x :: r) M := r_nx hd rfl (by show Option.map _ (match ls[(k : Nat)]?, ls[(k : Nat) + 1]? with | some (some (.long x)), some none => nx (pc + 1) ls (.long x :: r) M | _, _ => none) = _; rw [h, h2]; rfl)
theorem r_lload {k : Nat} {x : Int64} (hd : decode (mB q) pc = .ok (.lload k, 2)) (h : ls[k]? = some (some (.long x))) (h2 : ls[k + 1]? = some none) : rn q pc ls r M = rn q (pc + 2) ls (.long x :: r) M := r_nx hd rfl (by show Option.map _ (match ls[k]?, ls[k + 1]? with | some (some (.long x)), some none => nx (pc + 2) ls (.long x :: r) M | _, _ => none) = _; rw [h, h2]; rfl)
theorem r_istore_n {k : Fin 4} {x : Int32} (hd : decode (mB q) pc = .ok (.istore_n k, 1)) (h : (k : Nat) + 1 ≤ ls.length) : rn q pc ls (.int x :: r) M = rn q (pc + 1) (ls.set (k : Nat) (some (.int x))) r M := r_nx hd rfl (by show Option.map _ (if (k : Nat) < ls.length then nx (pc + 1) (ls.set (k : Nat) (some (.int x))) r M else none) = _; rw [if_pos (Nat.lt_of_succ_le h)]; rfl)
theorem r_istore {k : Nat} {x : Int32} (hd : decode (mB q) pc = .ok (.istore k, 2)) (h : k + 1 ≤ ls.length) : rn q pc ls (.int x :: r) M = rn q (pc + 2) (ls.set k (some (.int x))) r M := r_nx hd rfl (by show Option.map _ (if k < ls.length then nx (pc + 2) (ls.set k (some (.int x))) r M else none) = _; rw [if_pos (Nat.lt_of_succ_le h)]; rfl)
theorem r_astore_n {k : Fin 4} {x : Nat} (hd : decode (mB q) pc = .ok (.astore_n k, 1)) (h : (k : Nat) + 1 ≤ ls.length) : rn q pc ls (.ref x :: r) M = rn q (pc + 1) (ls.set (k : Nat) (some (.ref x))) r M := r_nx hd rfl (by show Option.map _ (if (k : Nat) < ls.length then nx (pc + 1) (ls.set (k : Nat) (some (.ref x))) r M else none) = _; rw [if_pos (Nat.lt_of_succ_le h)]; rfl)
theorem r_lstore_n {k : Fin 4} {x : Int64} (hd : decode (mB q) pc = .ok (.lstore_n k, 1)) (h : (k : Nat) + 2 ≤ ls.length) : rn q pc ls (.long x :: r) M = rn q (pc + 1) ((ls.set (k : Nat) (some (.long x))).set ((k : Nat) + 1) none) r M := r_nx hd rfl (by show Option.map _ (if (k : Nat) + 1 < ls.length then nx (pc + 1) ((ls.set (k : Nat) (some (.long x))).set ((k : Nat) + 1) none) r M else none) = _; rw [if_pos (Nat.lt_of_succ_le h)]; rfl)
theorem r_lstore {k : Nat} {x : Int64} (hd : decode (mB q) pc = .ok (.lstore k, 2)) (h : k + 2 ≤ ls.length) : rn q pc ls (.long x :: r) M = rn q (pc + 2) ((ls.set k (some (.long x))).set (k + 1) none) r M := r_nx hd rfl (by show Option.map _ (if k + 1 < ls.length then nx (pc + 2) ((ls.set k (some (.long x))).set (k + 1) none) r M else none) = _; rw [if_pos (Nat.lt_of_succ_le h)]; rfl)
theorem r_iinc {k : Nat} {n : Int} {x : Int32} (hd : decode (mB q) pc = .ok (.iinc k n, 3)) (h : ls[k]? = some (some (.int x))) : rn q pc ls r M = rn q (pc + 3) (ls.set k (some (.int (x + Int32.ofInt n)))) r M := r_nx hd rfl (by show Option.map _ (match ls[k]? with | some (some (.int x)) => nx (pc + 3) (ls.set k (some (.int (x + Int32.ofInt n)))) r M | _ => none) = _; rw [h]; rfl)
theorem r_if {i : Instr} {o : Int} {c : Prop} [Decidable c] {st r : List Value} (hd : decode (mB q) pc = .ok (i, 3)) (hl : lenOK i 3 = true) (h0 : 0 ≤ (pc : Int) + o) (h : sto i q pc ls st M = Option.map .inl (if 0 ≤ (pc : Int) + o then (if c then nx ((pc : Int) + o).toNat ls r M else nx (pc + 3) ls r M) else none)) : rn q pc ls st M = if c then rn q ((pc : Int) + o).toNat ls r M else rn q (pc + 3) ls r M := by
  rw [r_sto hd hl, h, if_pos h0, map_ite, hdl_ite]
  rfl
theorem r_goto {o : Int} (hd : decode (mB q) pc = .ok (.goto o, 3)) (h0 : 0 ≤ (pc : Int) + o) : rn q pc ls r M = rn q ((pc : Int) + o).toNat ls r M := r_nx hd rfl (by show Option.map _ (nxj pc o ls r M) = _; unfold nxj; rw [if_pos h0]; rfl)
theorem r_getI {i ci k a : Nat} (hd : decode (mB q) pc = .ok (.getfield i, 3)) (hf : fld (ow q) i = some (ci, k)) (ht : fT ci k = 0 ∨ fT ci k = 3) : rn q pc ls (.ref a :: r) M = if mK M a = (10 + ci, 0) then rn q (pc + 3) ls (.int (mI M a k) :: r) M else none := by
  rw [r_sto hd rfl]
  show hdl (rn q) cl (Option.map _ (match fld (ow q) i, (Value.ref a :: r) with | some (ci, k), .ref a :: r => if mK M a = (10 + ci, 0) then nx (pc + 3) ls (fv M a ci k :: r) M else none | _, _ => none)) = _
  rw [hf]
  dsimp only
  rw [map_ite, hdl_ite]
  have e : fv M a ci k = .int (mI M a k) := by unfold fv; rcases ht with h | h <;> rw [h] <;> rfl
  rw [e]
  rfl
theorem r_getJ {i ci k a : Nat} (hd : decode (mB q) pc = .ok (.getfield i, 3)) (hf : fld (ow q) i = some (ci, k)) (ht : fT ci k = 1) : rn q pc ls (.ref a :: r) M = if mK M a = (10 + ci, 0) then rn q (pc + 3) ls (.long (mJ M a k) :: r) M else none := by
  rw [r_sto hd rfl]
  show hdl (rn q) cl (Option.map _ (match fld (ow q) i, (Value.ref a :: r) with | some (ci, k), .ref a :: r => if mK M a = (10 + ci, 0) then nx (pc + 3) ls (fv M a ci k :: r) M else none | _, _ => none)) = _
  rw [hf]
  dsimp only
  rw [map_ite, hdl_ite]
  have e : fv M a ci k = .long (mJ M a k) := by unfold fv; rw [ht]; rfl
  rw [e]
  rfl
theorem r_getP {i ci k a : Nat} (hd : decode (mB q) pc = .ok (.getfield i, 3)) (hf : fld (ow q) i = some (ci, k)) (ht : fT ci k = 2) : rn q pc ls (.ref a :: r) M = if mK M a = (10 + ci, 0) then rn q (pc + 3) ls (va_rf (mP M a k) :: r) M else none := by
  rw [r_sto hd rfl]
  show hdl (rn q) cl (Option.map _ (match fld (ow q) i, (Value.ref a :: r) with | some (ci, k), .ref a :: r => if mK M a = (10 + ci, 0) then nx (pc + 3) ls (fv M a ci k :: r) M else none | _, _ => none)) = _
  rw [hf]
  dsimp only
  rw [map_ite, hdl_ite]
  have e : fv M a ci k = va_rf (mP M a k) := by unfold fv; rw [ht]; rfl
  rw [e]
  rfl
theorem r_putI {i ci k a : Nat} {x : Int32} (hd : decode (mB q) pc = .ok (.putfield i, 3)) (hf : fld (ow q) i = some (ci, k)) (ht : fT ci k = 0) (hn : finOK ci k q = true) : rn q pc ls (.int x :: .ref a :: r) M = if mK M a = (10 + ci, 0) then rn q (pc + 3) ls r (sI M a (va_up (mI M a) k x)) else none := by
  rw [r_sto hd rfl]
  show hdl (rn q) cl (Option.map _ (match fld (ow q) i, (Value.int x :: Value.ref a :: r) with
    | some (ci, k), .int x :: .ref a :: r => if mK M a = (10 + ci, 0) ∧ finOK ci k q = true then (if fT ci k = 0 ∨ (fT ci k = 3 ∧ (x = 0 ∨ x = 1)) then nx (pc + 3) ls r (sI M a (va_up (mI M a) k x)) else none) else none
    | some (ci, k), .long x :: .ref a :: r => if mK M a = (10 + ci, 0) ∧ finOK ci k q = true then (if fT ci k = 1 then nx (pc + 3) ls r (sJ M a (va_up (mJ M a) k x)) else none) else none
    | some (ci, k), .ref b :: .ref a :: r => if mK M a = (10 + ci, 0) ∧ finOK ci k q = true then (if fT ci k = 2 then nx (pc + 3) ls r (sP M a (va_up (mP M a) k (some b))) else none) else none
    | _, _ => none)) = _
  rw [hf]
  dsimp only
  rw [if_pos (Or.inl ht), map_ite, hdl_ite]
  simp only [hn, and_true]
  rfl
theorem r_putZ {i ci k a : Nat} {x : Int32} (hd : decode (mB q) pc = .ok (.putfield i, 3)) (hf : fld (ow q) i = some (ci, k)) (ht : fT ci k = 3) (hn : finOK ci k q = true) (hx : x = 0 ∨ x = 1) : rn q pc ls (.int x :: .ref a :: r) M = if mK M a = (10 + ci, 0) then rn q (pc + 3) ls r (sI M a (va_up (mI M a) k x)) else none := by
  rw [r_sto hd rfl]
  show hdl (rn q) cl (Option.map _ (match fld (ow q) i, (Value.int x :: Value.ref a :: r) with
    | some (ci, k), .int x :: .ref a :: r => if mK M a = (10 + ci, 0) ∧ finOK ci k q = true then (if fT ci k = 0 ∨ (fT ci k = 3 ∧ (x = 0 ∨ x = 1)) then nx (pc + 3) ls r (sI M a (va_up (mI M a) k x)) else none) else none
    | some (ci, k), .long x :: .ref a :: r => if mK M a = (10 + ci, 0) ∧ finOK ci k q = true then (if fT ci k = 1 then nx (pc + 3) ls r (sJ M a (va_up (mJ M a) k x)) else none) else none
    | some (ci, k), .ref b :: .ref a :: r => if mK M a = (10 + ci, 0) ∧ finOK ci k q = true then (if fT ci k = 2 then nx (pc + 3) ls r (sP M a (va_up (mP M a) k (some b))) else none) else none
    | _, _ => none)) = _
  rw [hf]
  dsimp only
  rw [if_pos (Or.inr ⟨ht, hx⟩), map_ite, hdl_ite]
  simp only [hn, and_true]
  rfl
theorem r_putJ {i ci k a : Nat} {x : Int64} (hd : decode (mB q) pc = .ok (.putfield i, 3)) (hf : fld (ow q) i = some (ci, k)) (ht : fT ci k = 1) (hn : finOK ci k q = true) : rn q pc ls (.long x :: .ref a :: r) M = if mK M a = (10 + ci, 0) then rn q (pc + 3) ls r (sJ M a (va_up (mJ M a) k x)) else none := by
  rw [r_sto hd rfl]
  show hdl (rn q) cl (Option.map _ (match fld (ow q) i, (Value.long x :: Value.ref a :: r) with
    | some (ci, k), .int x :: .ref a :: r => if mK M a = (10 + ci, 0) ∧ finOK ci k q = true then (if fT ci k = 0 ∨ (fT ci k = 3 ∧ (x = 0 ∨ x = 1)) then nx (pc + 3) ls r (sI M a (va_up (mI M a) k x)) else none) else none
    | some (ci, k), .long x :: .ref a :: r => if mK M a = (10 + ci, 0) ∧ finOK ci k q = true then (if fT ci k = 1 then nx (pc + 3) ls r (sJ M a (va_up (mJ M a) k x)) else none) else none
    | some (ci, k), .ref b :: .ref a :: r => if mK M a = (10 + ci, 0) ∧ finOK ci k q = true then (if fT ci k = 2 then nx (pc + 3) ls r (sP M a (va_up (mP M a) k (some b))) else none) else none
    | _, _ => none)) = _
  rw [hf]
  dsimp only
  rw [if_pos ht, map_ite, hdl_ite]
  simp only [hn, and_true]
  rfl
theorem r_putP {i ci k a b : Nat} (hd : decode (mB q) pc = .ok (.putfield i, 3)) (hf : fld (ow q) i = some (ci, k)) (ht : fT ci k = 2) (hn : finOK ci k q = true) : rn q pc ls (.ref b :: .ref a :: r) M = if mK M a = (10 + ci, 0) then rn q (pc + 3) ls r (sP M a (va_up (mP M a) k (some b))) else none := by
  rw [r_sto hd rfl]
  show hdl (rn q) cl (Option.map _ (match fld (ow q) i, (Value.ref b :: Value.ref a :: r) with
    | some (ci, k), .int x :: .ref a :: r => if mK M a = (10 + ci, 0) ∧ finOK ci k q = true then (if fT ci k = 0 ∨ (fT ci k = 3 ∧ (x = 0 ∨ x = 1)) then nx (pc + 3) ls r (sI M a (va_up (mI M a) k x)) else none) else none
    | some (ci, k), .long x :: .ref a :: r => if mK M a = (10 + ci, 0) ∧ finOK ci k q = true then (if fT ci k = 1 then nx (pc + 3) ls r (sJ M a (va_up (mJ M a) k x)) else none) else none
    | some (ci, k), .ref b :: .ref a :: r => if mK M a = (10 + ci, 0) ∧ finOK ci k q = true then (if fT ci k = 2 then nx (pc + 3) ls r (sP M a (va_up (mP M a) k (some b))) else none) else none
    | _, _ => none)) = _
  rw [hf]
  dsimp only
  rw [if_pos ht, map_ite, hdl_ite]
  simp only [hn, and_true]
  rfl
/-- an instruction under a condition -/
theorem r_cnd {i : Instr} {c : Prop} [Decidable c] {st st' : List Value} {pc' : Nat} {ls' : List (Option Value)} {M' : SM} (hd : decode (mB q) pc = .ok (i, len)) (hl : lenOK i len = true) (h : sto i q pc ls st M = Option.map .inl (if c then nx pc' ls' st' M' else none)) : rn q pc ls st M = if c then rn q pc' ls' st' M' else none := by
  rw [r_sto hd hl, h, map_ite, hdl_ite]
  rfl
theorem r_new {i ci : Nat} (hd : decode (mB q) pc = .ok (.new i, 3)) (hf : ncl (ow q) i = some ci) (hc : ci < nCl) : rn q pc ls r M = rn q (pc + 3) ls (.ref (mS M) :: r) (nw M (10 + ci, 0) (NN ci)) := r_nx hd rfl (by
  show Option.map _ (match ncl (ow q) i with | some ci => if ci < nCl then nx (pc + 3) ls (.ref (mS M) :: r) (nw M (10 + ci, 0) (NN ci)) else none | none => none) = _
  rw [hf]
  dsimp only
  rw [if_pos hc]
  rfl)
theorem r_newI {n : Int32} (hd : decode (mB q) pc = .ok (.newarray .int, 2)) : rn q pc ls (.int n :: r) M = if 0 ≤ n ∧ n ≤ 100000 then rn q (pc + 2) ls (.ref (mS M) :: r) (nw M (1, n.toNatClampNeg) n.toNatClampNeg) else none := r_cnd hd rfl rfl
theorem r_newJ {n : Int32} (hd : decode (mB q) pc = .ok (.newarray .long, 2)) : rn q pc ls (.int n :: r) M = if 0 ≤ n ∧ n ≤ 100000 then rn q (pc + 2) ls (.ref (mS M) :: r) (nw M (2, n.toNatClampNeg) n.toNatClampNeg) else none := r_cnd hd rfl rfl
theorem r_newP {n : Int32} {i k : Nat} (hk : k = 3 ∨ k = 4) (hd : decode (mB q) pc = .ok (.anewarray i, 3)) (hf : ncl (ow q) i = some (aoC k)) : rn q pc ls (.int n :: r) M = if 0 ≤ n ∧ n ≤ 100000 then rn q (pc + 3) ls (.ref (mS M) :: r) (nw M (k, n.toNatClampNeg) n.toNatClampNeg) else none := by
  refine r_cnd hd rfl ?_
  show Option.map _ (match ncl (ow q) i, (Value.int n :: r) with | some ci, .int n :: r => if (0 ≤ n ∧ n ≤ 100000) ∧ (ci = aoC 3 ∨ ci = aoC 4) then nx (pc + 3) ls (.ref (mS M) :: r) (nw M ((if ci = aoC 3 then 3 else 4), n.toNatClampNeg) n.toNatClampNeg) else none | _, _ => none) = _
  rw [hf]
  dsimp only
  rcases hk with rfl | rfl
  · simp only [true_or, and_true, if_true]
  · simp only [or_true, and_true]
    rfl
theorem r_ireturn {x : Int32} (hd : decode (mB q) pc = .ok (.ireturn, 1)) (hr : mRt q = some .int) : rn q pc ls [.int x] M = some (some (.int x), M) := by
  rw [r_sto hd rfl]
  show hdl (rn q) cl (if retOK (mRt q) x = true then _ else _) = _
  rw [hr]
  rfl
theorem r_zreturn {x : Int32} (hd : decode (mB q) pc = .ok (.ireturn, 1)) (hr : mRt q = some .boolean) : rn q pc ls [.int x] M = if x = 0 ∨ x = 1 then some (some (.int x), M) else none := by
  rw [r_sto hd rfl]
  show hdl (rn q) cl (if retOK (mRt q) x = true then _ else _) = _
  rw [hr, hdl_ite]
  have e : (retOK (some .boolean) x = true) = (x = 0 ∨ x = 1) := by
    show ((x == 0 || x == 1) = true) = _
    rw [Bool.or_eq_true, beq_iff_eq, beq_iff_eq]
  simp only [e]
  rfl
theorem r_lreturn {x : Int64} (hd : decode (mB q) pc = .ok (.lreturn, 1)) (hr : mRt q = some .long) : rn q pc ls [.long x] M = some (some (.long x), M) := by
  rw [r_sto hd rfl]
  show hdl (rn q) cl (if mRt q = some .long then _ else _) = _
  rw [if_pos hr]
  rfl
theorem r_vreturn (hd : decode (mB q) pc = .ok (.return_, 1)) (hr : mRt q = none) : rn q pc ls [] M = some (none, M) := by
  rw [r_sto hd rfl]
  show hdl (rn q) cl (if mRt q = none then _ else _) = _
  rw [if_pos hr]
  rfl
theorem doV_n {q2 n kd : Nat} {st : List Value} (hn : nPar q2 = n) : doV q pc ls st M q2 kd = (match (st.take n).reverse, st.drop n with
  | as, .ref a :: r => if callOK q q2 (.ref a :: as) r && (kd == 0 || kd == 1) && as.length == n then (if mK M a = (10 + ow q2, 0) then some (.inr (.inr (q2, .ref a :: as, M, pc + 3, ls, r))) else none) else none
  | _, _ => none) := by subst hn; rfl
theorem doI_n {q2 n kd : Nat} {st : List Value} (hn : nPar q2 = n) : doI q pc ls st M q2 kd = (match (st.take n).reverse, st.drop n with
  | as, .ref a :: r => if callOK q q2 (.ref a :: as) r && (kd == 4 || kd == 5) && as.length == n then some (.inr (.inr (q2, .ref a :: as, M, pc + 3, ls, r))) else none
  | _, _ => none) := by subst hn; rfl
theorem doS_n {q2 n kd : Nat} {st : List Value} (hn : nPar q2 = n) : doS q pc ls st M q2 kd = (match (st.take n).reverse, st.drop n with
  | as, r => if callOK q q2 as r && (kd == 2 || kd == 3) && as.length == n then some (.inr (.inr (q2, as, M, pc + 3, ls, r))) else none) := by subst hn; rfl
theorem r_callV {i q2 kd a : Nat} {as st : List Value} (hd : decode (mB q) pc = .ok (.invokevirtual i, 3)) (hf : cal (ow q) i = some (q2, kd)) (hst : doV q pc ls st M q2 kd = if mK M a = (10 + ow q2, 0) then some (.inr (.inr (q2, .ref a :: as, M, pc + 3, ls, r))) else none) : rn q pc ls st M = if mK M a = (10 + ow q2, 0) then cbn (cl q2 (.ref a :: as) M) q (pc + 3) ls r else none := by
  rw [r_sto hd rfl]
  show hdl (rn q) cl (match cal (ow q) i with | some (q2, kd) => doV q pc ls st M q2 kd | none => none) = _
  rw [hf]
  dsimp only
  rw [hst, hdl_ite]
  rfl
theorem r_callS {i q2 kd : Nat} {as st : List Value} (hd : decode (mB q) pc = .ok (.invokestatic i, 3)) (hc : isCpy (ow q) i = false) (hf : cal (ow q) i = some (q2, kd)) (hst : doS q pc ls st M q2 kd = some (.inr (.inr (q2, as, M, pc + 3, ls, r)))) : rn q pc ls st M = cbn (cl q2 as M) q (pc + 3) ls r := by
  rw [r_sto hd rfl]
  show hdl (rn q) cl (if isCpy (ow q) i = true then _ else match cal (ow q) i with | some (q2, kd) => doS q pc ls st M q2 kd | none => none) = _
  rw [if_neg (by rw [hc]; decide), hf]
  dsimp only
  rw [hst]
  rfl
theorem r_callI {i q2 kd : Nat} {as st : List Value} (hd : decode (mB q) pc = .ok (.invokespecial i, 3)) (hc : isObj (ow q) i = false) (hf : cal (ow q) i = some (q2, kd)) (hst : doI q pc ls st M q2 kd = some (.inr (.inr (q2, as, M, pc + 3, ls, r)))) : rn q pc ls st M = cbn (cl q2 as M) q (pc + 3) ls r := by
  rw [r_sto hd rfl]
  show hdl (rn q) cl (if isObj (ow q) i = true then _ else match cal (ow q) i with | some (q2, kd) => doI q pc ls st M q2 kd | none => none) = _
  rw [if_neg (by rw [hc]; decide), hf]
  dsimp only
  rw [hst]
  rfl
theorem r_obj {i a : Nat} (hd : decode (mB q) pc = .ok (.invokespecial i, 3)) (hc : isObj (ow q) i = true) (hr : catS r ≤ 8 ∧ 1 ≤ dp q) : rn q pc ls (.ref a :: r) M = rn q (pc + 3) ls r M := by
  refine r_nx hd rfl ?_
  show (if isObj (ow q) i = true then Option.map _ (if isObj (ow q) i = true then (if catS r ≤ 8 ∧ 1 ≤ dp q then nx (pc + 3) ls r M else none) else none) else _) = _
  rw [if_pos hc, if_pos hc, if_pos hr]
  rfl
theorem r_cpy {i a b : Nat} {n dp0 sp0 : Int32} (hd : decode (mB q) pc = .ok (.invokestatic i, 3)) (hc : isCpy (ow q) i = true) (hr : (Nat.ble (catS r) 8 && Nat.ble 1 (dp q)) = true) : rn q pc ls (.int n :: .int dp0 :: .ref a :: .int sp0 :: .ref b :: r) M = if (¬ sp0 < 0 ∧ ¬ dp0 < 0 ∧ ¬ n < 0) ∧ sp0.toNatClampNeg + n.toNatClampNeg ≤ (mK M b).2 ∧ dp0.toNatClampNeg + n.toNatClampNeg ≤ (mK M a).2 then
        (if (mK M a).1 = 1 ∧ (mK M b).1 = 1 then rn q (pc + 3) ls r (sI M a (va_cpy (mI M b) (mI M a) sp0.toNatClampNeg dp0.toNatClampNeg n.toNatClampNeg))
         else if (mK M a).1 = 2 ∧ (mK M b).1 = 2 then rn q (pc + 3) ls r (sJ M a (va_cpy (mJ M b) (mJ M a) sp0.toNatClampNeg dp0.toNatClampNeg n.toNatClampNeg)) else none)
       else none := by
  rw [r_sto hd rfl]
  show hdl (rn q) cl (if isCpy (ow q) i = true then Option.map _ (if isCpy (ow q) i = true then doC q pc ls _ M else none) else _) = _
  rw [if_pos hc, if_pos hc]
  unfold doC
  dsimp only
  rw [if_pos hr, map_ite, map_ite, map_ite, hdl_ite, hdl_ite, hdl_ite]
  rfl
theorem r_tab {d lo hi : Int} {offs : Array Int} {x : Int32} (hd : decode (mB q) pc = .ok (.tableswitch d lo hi offs, len)) : rn q pc ls (.int x :: r) M = hdl (rn q) cl (Option.map .inl (if x.toInt < lo ∨ hi < x.toInt then nxj pc d ls r M else (match offs[(x.toInt - lo).toNat]? with | some o => nxj pc o ls r M | none => none))) := r_sto hd rfl _
theorem r_tabO {d lo hi : Int} {offs : Array Int} {x : Int32} (hd : decode (mB q) pc = .ok (.tableswitch d lo hi offs, len)) (hx : x.toInt < lo ∨ hi < x.toInt) (h0 : 0 ≤ (pc : Int) + d) : rn q pc ls (.int x :: r) M = rn q ((pc : Int) + d).toNat ls r M := by
  rw [r_tab hd, if_pos hx]
  unfold nxj
  rw [if_pos h0]
  rfl
end RR
theorem ti_ne {x c : Int32} (h : ¬ x = c) : x.toInt ≠ c.toInt := fun e => h (Int32.toInt_inj.mp e)
end
section
/-! step rows, by program (wip/whole/gen13.py): init -/
theorem np_0 : nPar 0 = 0 := by decide +kernel
theorem np_1 : nPar 1 = 0 := by decide +kernel
theorem np_2 : nPar 2 = 0 := by decide +kernel
theorem np_3 : nPar 3 = 0 := by decide +kernel
theorem np_4 : nPar 4 = 0 := by decide +kernel
theorem np_5 : nPar 5 = 0 := by decide +kernel
theorem np_6 : nPar 6 = 2 := by decide +kernel
theorem np_7 : nPar 7 = 0 := by decide +kernel
theorem np_8 : nPar 8 = 0 := by decide +kernel
theorem np_9 : nPar 9 = 0 := by decide +kernel
theorem np_10 : nPar 10 = 1 := by decide +kernel
theorem np_11 : nPar 11 = 0 := by decide +kernel
theorem np_12 : nPar 12 = 2 := by decide +kernel
theorem np_13 : nPar 13 = 1 := by decide +kernel
theorem np_14 : nPar 14 = 1 := by decide +kernel
theorem np_15 : nPar 15 = 1 := by decide +kernel
theorem np_16 : nPar 16 = 1 := by decide +kernel
theorem np_17 : nPar 17 = 1 := by decide +kernel
theorem np_18 : nPar 18 = 3 := by decide +kernel
theorem np_19 : nPar 19 = 1 := by decide +kernel
theorem np_20 : nPar 20 = 1 := by decide +kernel
theorem np_21 : nPar 21 = 3 := by decide +kernel
theorem np_22 : nPar 22 = 3 := by decide +kernel
theorem np_23 : nPar 23 = 1 := by decide +kernel
theorem np_24 : nPar 24 = 1 := by decide +kernel
theorem np_25 : nPar 25 = 1 := by decide +kernel
theorem np_26 : nPar 26 = 1 := by decide +kernel
theorem np_27 : nPar 27 = 2 := by decide +kernel
theorem np_28 : nPar 28 = 1 := by decide +kernel
theorem np_29 : nPar 29 = 0 := by decide +kernel
theorem np_30 : nPar 30 = 2 := by decide +kernel
theorem np_31 : nPar 31 = 2 := by decide +kernel
theorem np_32 : nPar 32 = 2 := by decide +kernel
theorem np_33 : nPar 33 = 1 := by decide +kernel
theorem np_34 : nPar 34 = 2 := by decide +kernel
theorem np_35 : nPar 35 = 2 := by decide +kernel
theorem np_36 : nPar 36 = 1 := by decide +kernel
theorem np_37 : nPar 37 = 1 := by decide +kernel
theorem np_38 : nPar 38 = 1 := by decide +kernel
theorem np_39 : nPar 39 = 1 := by decide +kernel
theorem np_40 : nPar 40 = 2 := by decide +kernel
theorem np_41 : nPar 41 = 0 := by decide +kernel
theorem np_42 : nPar 42 = 1 := by decide +kernel
theorem np_43 : nPar 43 = 1 := by decide +kernel
theorem np_44 : nPar 44 = 1 := by decide +kernel
theorem np_45 : nPar 45 = 0 := by decide +kernel
theorem np_46 : nPar 46 = 0 := by decide +kernel
theorem np_47 : nPar 47 = 1 := by decide +kernel
theorem np_48 : nPar 48 = 1 := by decide +kernel
theorem np_49 : nPar 49 = 2 := by decide +kernel
theorem np_50 : nPar 50 = 3 := by decide +kernel
theorem np_51 : nPar 51 = 3 := by decide +kernel
theorem np_52 : nPar 52 = 1 := by decide +kernel
theorem np_53 : nPar 53 = 2 := by decide +kernel
theorem np_54 : nPar 54 = 1 := by decide +kernel
theorem np_55 : nPar 55 = 3 := by decide +kernel
theorem np_56 : nPar 56 = 2 := by decide +kernel
theorem np_57 : nPar 57 = 0 := by decide +kernel
theorem np_58 : nPar 58 = 1 := by decide +kernel
theorem np_59 : nPar 59 = 2 := by decide +kernel
theorem np_60 : nPar 60 = 1 := by decide +kernel
theorem np_61 : nPar 61 = 1 := by decide +kernel
theorem np_62 : nPar 62 = 2 := by decide +kernel
theorem np_63 : nPar 63 = 1 := by decide +kernel
theorem np_64 : nPar 64 = 1 := by decide +kernel
theorem np_65 : nPar 65 = 1 := by decide +kernel
theorem np_66 : nPar 66 = 0 := by decide +kernel
theorem np_67 : nPar 67 = 1 := by decide +kernel
theorem np_68 : nPar 68 = 1 := by decide +kernel
theorem np_69 : nPar 69 = 0 := by decide +kernel
theorem np_70 : nPar 70 = 1 := by decide +kernel
theorem np_71 : nPar 71 = 1 := by decide +kernel
theorem np_72 : nPar 72 = 0 := by decide +kernel
theorem np_73 : nPar 73 = 1 := by decide +kernel
theorem np_74 : nPar 74 = 1 := by decide +kernel
theorem np_75 : nPar 75 = 1 := by decide +kernel
theorem np_76 : nPar 76 = 1 := by decide +kernel
theorem np_77 : nPar 77 = 0 := by decide +kernel
theorem np_78 : nPar 78 = 0 := by decide +kernel
theorem np_79 : nPar 79 = 0 := by decide +kernel
theorem np_80 : nPar 80 = 0 := by decide +kernel
theorem np_81 : nPar 81 = 0 := by decide +kernel
theorem np_82 : nPar 82 = 0 := by decide +kernel
theorem np_83 : nPar 83 = 1 := by decide +kernel
theorem np_84 : nPar 84 = 1 := by decide +kernel
theorem np_85 : nPar 85 = 0 := by decide +kernel
theorem np_86 : nPar 86 = 0 := by decide +kernel
theorem np_87 : nPar 87 = 0 := by decide +kernel
theorem np_88 : nPar 88 = 0 := by decide +kernel
theorem np_89 : nPar 89 = 0 := by decide +kernel
theorem np_90 : nPar 90 = 1 := by decide +kernel
theorem np_91 : nPar 91 = 0 := by decide +kernel
theorem np_92 : nPar 92 = 0 := by decide +kernel
theorem np_93 : nPar 93 = 0 := by decide +kernel
theorem np_94 : nPar 94 = 0 := by decide +kernel
theorem np_95 : nPar 95 = 1 := by decide +kernel
theorem np_96 : nPar 96 = 1 := by decide +kernel
theorem np_97 : nPar 97 = 1 := by decide +kernel
theorem np_98 : nPar 98 = 1 := by decide +kernel
theorem np_99 : nPar 99 = 0 := by decide +kernel
theorem np_100 : nPar 100 = 0 := by decide +kernel
theorem np_101 : nPar 101 = 4 := by decide +kernel
theorem np_102 : nPar 102 = 2 := by decide +kernel
theorem np_103 : nPar 103 = 3 := by decide +kernel
theorem np_104 : nPar 104 = 3 := by decide +kernel
theorem np_105 : nPar 105 = 1 := by decide +kernel
theorem np_106 : nPar 106 = 0 := by decide +kernel
theorem np_107 : nPar 107 = 4 := by decide +kernel
theorem np_108 : nPar 108 = 3 := by decide +kernel
theorem np_109 : nPar 109 = 3 := by decide +kernel
theorem np_110 : nPar 110 = 2 := by decide +kernel
theorem np_111 : nPar 111 = 2 := by decide +kernel
theorem np_112 : nPar 112 = 2 := by decide +kernel
theorem np_113 : nPar 113 = 2 := by decide +kernel
theorem np_114 : nPar 114 = 1 := by decide +kernel
theorem np_115 : nPar 115 = 2 := by decide +kernel
theorem np_116 : nPar 116 = 2 := by decide +kernel
theorem np_117 : nPar 117 = 2 := by decide +kernel
theorem np_118 : nPar 118 = 1 := by decide +kernel
theorem np_119 : nPar 119 = 2 := by decide +kernel
theorem np_120 : nPar 120 = 2 := by decide +kernel
theorem np_121 : nPar 121 = 1 := by decide +kernel
theorem np_122 : nPar 122 = 2 := by decide +kernel
theorem np_123 : nPar 123 = 0 := by decide +kernel
theorem np_124 : nPar 124 = 1 := by decide +kernel
theorem np_125 : nPar 125 = 1 := by decide +kernel
theorem np_126 : nPar 126 = 1 := by decide +kernel
theorem np_127 : nPar 127 = 2 := by decide +kernel
theorem np_128 : nPar 128 = 2 := by decide +kernel
theorem np_129 : nPar 129 = 0 := by decide +kernel
theorem np_130 : nPar 130 = 1 := by decide +kernel
theorem np_131 : nPar 131 = 0 := by decide +kernel
theorem np_132 : nPar 132 = 1 := by decide +kernel
theorem np_133 : nPar 133 = 0 := by decide +kernel
theorem np_134 : nPar 134 = 0 := by decide +kernel
theorem np_135 : nPar 135 = 0 := by decide +kernel
theorem np_136 : nPar 136 = 0 := by decide +kernel
theorem np_137 : nPar 137 = 0 := by decide +kernel
theorem np_138 : nPar 138 = 1 := by decide +kernel
theorem np_139 : nPar 139 = 1 := by decide +kernel
theorem np_140 : nPar 140 = 1 := by decide +kernel
theorem np_141 : nPar 141 = 2 := by decide +kernel
theorem np_142 : nPar 142 = 2 := by decide +kernel
theorem np_143 : nPar 143 = 1 := by decide +kernel
theorem np_144 : nPar 144 = 0 := by decide +kernel
theorem np_145 : nPar 145 = 0 := by decide +kernel
theorem np_146 : nPar 146 = 2 := by decide +kernel
theorem np_147 : nPar 147 = 1 := by decide +kernel
theorem np_148 : nPar 148 = 1 := by decide +kernel
theorem np_149 : nPar 149 = 2 := by decide +kernel
theorem np_150 : nPar 150 = 1 := by decide +kernel
theorem np_151 : nPar 151 = 1 := by decide +kernel
theorem np_152 : nPar 152 = 1 := by decide +kernel
theorem np_153 : nPar 153 = 0 := by decide +kernel
theorem np_154 : nPar 154 = 0 := by decide +kernel
theorem np_155 : nPar 155 = 0 := by decide +kernel
theorem np_156 : nPar 156 = 1 := by decide +kernel
theorem np_157 : nPar 157 = 1 := by decide +kernel
theorem np_158 : nPar 158 = 1 := by decide +kernel
theorem np_159 : nPar 159 = 1 := by decide +kernel
theorem np_160 : nPar 160 = 0 := by decide +kernel
theorem np_161 : nPar 161 = 1 := by decide +kernel
theorem np_162 : nPar 162 = 0 := by decide +kernel
theorem np_163 : nPar 163 = 0 := by decide +kernel
theorem np_164 : nPar 164 = 0 := by decide +kernel
theorem np_165 : nPar 165 = 0 := by decide +kernel
theorem np_166 : nPar 166 = 1 := by decide +kernel
theorem np_167 : nPar 167 = 0 := by decide +kernel
theorem np_168 : nPar 168 = 1 := by decide +kernel
theorem np_169 : nPar 169 = 0 := by decide +kernel
theorem np_170 : nPar 170 = 0 := by decide +kernel
theorem np_171 : nPar 171 = 0 := by decide +kernel
theorem np_172 : nPar 172 = 0 := by decide +kernel
theorem np_173 : nPar 173 = 0 := by decide +kernel
theorem np_174 : nPar 174 = 1 := by decide +kernel
theorem np_175 : nPar 175 = 1 := by decide +kernel
section S0
variable {a0 a1 a2 a3 a4 a5 a6 a7 a8 a9 : Option Value} {l ls : List (Option Value)} {r : List Value} {M : SM} {x y z w p k : Int32} {u v s : Int64} {a b c d : Nat}

-- 0 DR_init()V
theorem t0_0 : rn 0 0 (some (.ref a) :: l) r M = rn 0 1 (some (.ref a) :: l) (.ref a :: r) M := r_aload_n (by decide +kernel : decode (mB 0) 0 = .ok (.aload_n 0, 1)) rfl
theorem t0_1 : rn 0 1 ls [.ref a] M = rn 0 4 ls [] M := r_obj (by decide +kernel : decode (mB 0) 1 = .ok (.invokespecial 1, 3)) (by decide +kernel) (by decide)
theorem t0_4 : rn 0 4 (some (.ref a) :: l) r M = rn 0 5 (some (.ref a) :: l) (.ref a :: r) M := r_aload_n (by decide +kernel : decode (mB 0) 4 = .ok (.aload_n 0, 1)) rfl
theorem t0_5 : rn 0 5 ls r M = rn 0 8 ls (.ref (mS M) :: r) (nw M (11, 0) 2) := r_new (ci := 1) (by decide +kernel : decode (mB 0) 5 = .ok (.new 7, 3)) (by decide +kernel) (by decide)
theorem t0_8 : rn 0 8 ls (.ref a :: r) M = rn 0 9 ls (.ref a :: .ref a :: r) M := r_nx (by decide +kernel : decode (mB 0) 8 = .ok (.dup, 1)) rfl rfl
theorem t0_9 : rn 0 9 ls [.ref a, .ref b, .ref c] M = cbn (cl 1 [.ref a] M) 0 12 ls [.ref b, .ref c] := r_callI (kd := 5) (by decide +kernel : decode (mB 0) 9 = .ok (.invokespecial 9, 3)) (by decide +kernel) (by decide +kernel) ((doI_n np_1).trans rfl)
theorem t0_12 : rn 0 12 ls (.ref b :: .ref a :: r) M = if mK M a = (10, 0) then rn 0 15 ls r (sP M a (va_up (mP M a) 0 (some b))) else none := r_putP (ci := 0) (k := 0) (by decide +kernel : decode (mB 0) 12 = .ok (.putfield 10, 3)) (by decide +kernel) rfl rfl
theorem t0_15 : rn 0 15 (some (.ref a) :: l) r M = rn 0 16 (some (.ref a) :: l) (.ref a :: r) M := r_aload_n (by decide +kernel : decode (mB 0) 15 = .ok (.aload_n 0, 1)) rfl
theorem t0_16 : rn 0 16 ls r M = rn 0 19 ls (.ref (mS M) :: r) (nw M (15, 0) 3) := r_new (ci := 5) (by decide +kernel : decode (mB 0) 16 = .ok (.new 16, 3)) (by decide +kernel) (by decide)
theorem t0_19 : rn 0 19 ls (.ref a :: r) M = rn 0 20 ls (.ref a :: .ref a :: r) M := r_nx (by decide +kernel : decode (mB 0) 19 = .ok (.dup, 1)) rfl rfl
theorem t0_20 : rn 0 20 ls [.ref a, .ref b, .ref c] M = cbn (cl 8 [.ref a] M) 0 23 ls [.ref b, .ref c] := r_callI (kd := 4) (by decide +kernel : decode (mB 0) 20 = .ok (.invokespecial 18, 3)) (by decide +kernel) (by decide +kernel) ((doI_n np_8).trans rfl)
theorem t0_23 : rn 0 23 ls (.ref b :: .ref a :: r) M = if mK M a = (10, 0) then rn 0 26 ls r (sP M a (va_up (mP M a) 1 (some b))) else none := r_putP (ci := 0) (k := 1) (by decide +kernel : decode (mB 0) 23 = .ok (.putfield 19, 3)) (by decide +kernel) rfl rfl
theorem t0_26 : rn 0 26 (some (.ref a) :: l) r M = rn 0 27 (some (.ref a) :: l) (.ref a :: r) M := r_aload_n (by decide +kernel : decode (mB 0) 26 = .ok (.aload_n 0, 1)) rfl
theorem t0_27 : rn 0 27 ls r M = rn 0 28 ls (.int 2 :: r) M := r_nx (by decide +kernel : decode (mB 0) 27 = .ok (.iconst 2, 1)) rfl rfl
theorem t0_28 : rn 0 28 ls (.int x :: r) M = if 0 ≤ x ∧ x ≤ 100000 then rn 0 31 ls (.ref (mS M) :: r) (nw M (4, x.toNatClampNeg) x.toNatClampNeg) else none := r_newP (k := 4) (by decide) (by decide +kernel : decode (mB 0) 28 = .ok (.anewarray 23, 3)) (by decide +kernel)
theorem t0_31 : rn 0 31 ls (.ref b :: .ref a :: r) M = if mK M a = (10, 0) then rn 0 34 ls r (sP M a (va_up (mP M a) 2 (some b))) else none := r_putP (ci := 0) (k := 2) (by decide +kernel : decode (mB 0) 31 = .ok (.putfield 25, 3)) (by decide +kernel) rfl rfl
theorem t0_34 : rn 0 34 (some (.ref a) :: l) r M = rn 0 35 (some (.ref a) :: l) (.ref a :: r) M := r_aload_n (by decide +kernel : decode (mB 0) 34 = .ok (.aload_n 0, 1)) rfl
theorem t0_35 : rn 0 35 ls r M = rn 0 38 ls (.ref (mS M) :: r) (nw M (16, 0) 2) := r_new (ci := 6) (by decide +kernel : decode (mB 0) 35 = .ok (.new 29, 3)) (by decide +kernel) (by decide)
theorem t0_38 : rn 0 38 ls (.ref a :: r) M = rn 0 39 ls (.ref a :: .ref a :: r) M := r_nx (by decide +kernel : decode (mB 0) 38 = .ok (.dup, 1)) rfl rfl
theorem t0_39 : rn 0 39 ls [.ref a, .ref b, .ref c] M = cbn (cl 9 [.ref a] M) 0 42 ls [.ref b, .ref c] := r_callI (kd := 5) (by decide +kernel : decode (mB 0) 39 = .ok (.invokespecial 31, 3)) (by decide +kernel) (by decide +kernel) ((doI_n np_9).trans rfl)
theorem t0_42 : rn 0 42 ls (.ref b :: .ref a :: r) M = if mK M a = (10, 0) then rn 0 45 ls r (sP M a (va_up (mP M a) 3 (some b))) else none := r_putP (ci := 0) (k := 3) (by decide +kernel : decode (mB 0) 42 = .ok (.putfield 32, 3)) (by decide +kernel) rfl rfl
theorem t0_45 : rn 0 45 (some (.ref a) :: l) r M = rn 0 46 (some (.ref a) :: l) (.ref a :: r) M := r_aload_n (by decide +kernel : decode (mB 0) 45 = .ok (.aload_n 0, 1)) rfl
theorem t0_46 : rn 0 46 ls r M = rn 0 49 ls (.ref (mS M) :: r) (nw M (17, 0) 5) := r_new (ci := 7) (by decide +kernel : decode (mB 0) 46 = .ok (.new 36, 3)) (by decide +kernel) (by decide)
theorem t0_49 : rn 0 49 ls (.ref a :: r) M = rn 0 50 ls (.ref a :: .ref a :: r) M := r_nx (by decide +kernel : decode (mB 0) 49 = .ok (.dup, 1)) rfl rfl
theorem t0_50 : rn 0 50 (some (.ref a) :: l) r M = rn 0 51 (some (.ref a) :: l) (.ref a :: r) M := r_aload_n (by decide +kernel : decode (mB 0) 50 = .ok (.aload_n 0, 1)) rfl
theorem t0_51 : rn 0 51 ls (.ref a :: r) M = if mK M a = (10, 0) then rn 0 54 ls (va_rf (mP M a 3) :: r) M else none := r_getP (ci := 0) (k := 3) (by decide +kernel : decode (mB 0) 51 = .ok (.getfield 32, 3)) (by decide +kernel) rfl
theorem t0_54 : rn 0 54 ls [.ref a, .ref b, .ref c, .ref d] M = cbn (cl 10 [.ref b, .ref a] M) 0 57 ls [.ref c, .ref d] := r_callI (kd := 4) (by decide +kernel : decode (mB 0) 54 = .ok (.invokespecial 38, 3)) (by decide +kernel) (by decide +kernel) ((doI_n np_10).trans rfl)
theorem t0_57 : rn 0 57 ls (.ref b :: .ref a :: r) M = if mK M a = (10, 0) then rn 0 60 ls r (sP M a (va_up (mP M a) 4 (some b))) else none := r_putP (ci := 0) (k := 4) (by decide +kernel : decode (mB 0) 57 = .ok (.putfield 41, 3)) (by decide +kernel) rfl rfl
theorem t0_60 : rn 0 60 (some (.ref a) :: l) r M = rn 0 61 (some (.ref a) :: l) (.ref a :: r) M := r_aload_n (by decide +kernel : decode (mB 0) 60 = .ok (.aload_n 0, 1)) rfl
theorem t0_61 : rn 0 61 ls r M = rn 0 64 ls (.ref (mS M) :: r) (nw M (13, 0) 7) := r_new (ci := 3) (by decide +kernel : decode (mB 0) 61 = .ok (.new 45, 3)) (by decide +kernel) (by decide)
theorem t0_64 : rn 0 64 ls (.ref a :: r) M = rn 0 65 ls (.ref a :: .ref a :: r) M := r_nx (by decide +kernel : decode (mB 0) 64 = .ok (.dup, 1)) rfl rfl
theorem t0_65 : rn 0 65 ls [.ref a, .ref b, .ref c] M = cbn (cl 3 [.ref a] M) 0 68 ls [.ref b, .ref c] := r_callI (kd := 4) (by decide +kernel : decode (mB 0) 65 = .ok (.invokespecial 47, 3)) (by decide +kernel) (by decide +kernel) ((doI_n np_3).trans rfl)
theorem t0_68 : rn 0 68 ls (.ref b :: .ref a :: r) M = if mK M a = (10, 0) then rn 0 71 ls r (sP M a (va_up (mP M a) 5 (some b))) else none := r_putP (ci := 0) (k := 5) (by decide +kernel : decode (mB 0) 68 = .ok (.putfield 48, 3)) (by decide +kernel) rfl rfl
theorem t0_71 : rn 0 71 (some (.ref a) :: l) r M = rn 0 72 (some (.ref a) :: l) (.ref a :: r) M := r_aload_n (by decide +kernel : decode (mB 0) 71 = .ok (.aload_n 0, 1)) rfl
theorem t0_72 : rn 0 72 ls r M = rn 0 75 ls (.ref (mS M) :: r) (nw M (14, 0) 2) := r_new (ci := 4) (by decide +kernel : decode (mB 0) 72 = .ok (.new 52, 3)) (by decide +kernel) (by decide)
theorem t0_75 : rn 0 75 ls (.ref a :: r) M = rn 0 76 ls (.ref a :: .ref a :: r) M := r_nx (by decide +kernel : decode (mB 0) 75 = .ok (.dup, 1)) rfl rfl
theorem t0_76 : rn 0 76 ls [.ref a, .ref b, .ref c] M = cbn (cl 4 [.ref a] M) 0 79 ls [.ref b, .ref c] := r_callI (kd := 4) (by decide +kernel : decode (mB 0) 76 = .ok (.invokespecial 54, 3)) (by decide +kernel) (by decide +kernel) ((doI_n np_4).trans rfl)
theorem t0_79 : rn 0 79 ls (.ref b :: .ref a :: r) M = if mK M a = (10, 0) then rn 0 82 ls r (sP M a (va_up (mP M a) 6 (some b))) else none := r_putP (ci := 0) (k := 6) (by decide +kernel : decode (mB 0) 79 = .ok (.putfield 55, 3)) (by decide +kernel) rfl rfl
theorem t0_82 : rn 0 82 ls r M = rn 0 83 ls (.int 0 :: r) M := r_nx (by decide +kernel : decode (mB 0) 82 = .ok (.iconst 0, 1)) rfl rfl
theorem t0_83 : rn 0 83 (a0 :: a1 :: l) (.int x :: r) M = rn 0 84 (a0 :: some (.int x) :: l) r M := r_istore_n (by decide +kernel : decode (mB 0) 83 = .ok (.istore_n 1, 1)) (Nat.le_add_left 2 l.length)
theorem t0_84 : rn 0 84 (a0 :: some (.int x) :: l) r M = rn 0 85 (a0 :: some (.int x) :: l) (.int x :: r) M := r_iload_n (by decide +kernel : decode (mB 0) 84 = .ok (.iload_n 1, 1)) rfl
theorem t0_85 : rn 0 85 ls r M = rn 0 86 ls (.int 2 :: r) M := r_nx (by decide +kernel : decode (mB 0) 85 = .ok (.iconst 2, 1)) rfl rfl
theorem t0_86 : rn 0 86 ls (.int y :: .int x :: r) M = if y ≤ x then rn 0 108 ls r M else rn 0 89 ls r M := r_if (o := 22) (r := r) (c := y ≤ x) (by decide +kernel : decode (mB 0) 86 = .ok (.if_icmp .ge 22, 3)) rfl (by decide) rfl
theorem t0_89 : rn 0 89 (some (.ref a) :: l) r M = rn 0 90 (some (.ref a) :: l) (.ref a :: r) M := r_aload_n (by decide +kernel : decode (mB 0) 89 = .ok (.aload_n 0, 1)) rfl
theorem t0_90 : rn 0 90 ls (.ref a :: r) M = if mK M a = (10, 0) then rn 0 93 ls (va_rf (mP M a 2) :: r) M else none := r_getP (ci := 0) (k := 2) (by decide +kernel : decode (mB 0) 90 = .ok (.getfield 25, 3)) (by decide +kernel) rfl
theorem t0_93 : rn 0 93 (a0 :: some (.int x) :: l) r M = rn 0 94 (a0 :: some (.int x) :: l) (.int x :: r) M := r_iload_n (by decide +kernel : decode (mB 0) 93 = .ok (.iload_n 1, 1)) rfl
theorem t0_94 : rn 0 94 ls r M = rn 0 97 ls (.ref (mS M) :: r) (nw M (18, 0) 2) := r_new (ci := 8) (by decide +kernel : decode (mB 0) 94 = .ok (.new 23, 3)) (by decide +kernel) (by decide)
theorem t0_97 : rn 0 97 ls (.ref a :: r) M = rn 0 98 ls (.ref a :: .ref a :: r) M := r_nx (by decide +kernel : decode (mB 0) 97 = .ok (.dup, 1)) rfl rfl
theorem t0_98 : rn 0 98 ls [.ref a, .ref b, .int x, .ref c] M = cbn (cl 11 [.ref a] M) 0 101 ls [.ref b, .int x, .ref c] := r_callI (kd := 5) (by decide +kernel : decode (mB 0) 98 = .ok (.invokespecial 59, 3)) (by decide +kernel) (by decide +kernel) ((doI_n np_11).trans rfl)
theorem t0_101 : rn 0 101 ls (.ref b :: .int x :: .ref a :: r) M = if ((mK M a = (3, (mK M a).2) ∧ mK M b = (10 + aoC 3, 0)) ∨ (mK M a = (4, (mK M a).2) ∧ mK M b = (10 + aoC 4, 0))) ∧ inR x (mK M a).2 then rn 0 102 ls r (sP M a (va_up (mP M a) x.toNatClampNeg (some b))) else none := r_cnd (by decide +kernel : decode (mB 0) 101 = .ok (.aastore, 1)) rfl rfl
theorem t0_102 : rn 0 102 (a0 :: some (.int x) :: l) r M = rn 0 105 (a0 :: some (.int (x + 1)) :: l) r M := r_iinc (by decide +kernel : decode (mB 0) 102 = .ok (.iinc 1 1, 3)) rfl
theorem t0_105 : rn 0 105 ls r M = rn 0 84 ls r M := r_goto (o := (-21)) (by decide +kernel : decode (mB 0) 105 = .ok (.goto (-21), 3)) (by decide)
theorem t0_108 : rn 0 108 ls [] M = some (none, M) := r_vreturn (by decide +kernel : decode (mB 0) 108 = .ok (.return_, 1)) rfl
-- 1 State_init()V
theorem t1_0 : rn 1 0 (some (.ref a) :: l) r M = rn 1 1 (some (.ref a) :: l) (.ref a :: r) M := r_aload_n (by decide +kernel : decode (mB 1) 0 = .ok (.aload_n 0, 1)) rfl
theorem t1_1 : rn 1 1 ls [.ref a] M = rn 1 4 ls [] M := r_obj (by decide +kernel : decode (mB 1) 1 = .ok (.invokespecial 3, 3)) (by decide +kernel) (by decide)
theorem t1_4 : rn 1 4 (some (.ref a) :: l) r M = rn 1 5 (some (.ref a) :: l) (.ref a :: r) M := r_aload_n (by decide +kernel : decode (mB 1) 4 = .ok (.aload_n 0, 1)) rfl
theorem t1_5 : rn 1 5 ls r M = rn 1 8 ls (.ref (mS M) :: r) (nw M (12, 0) 7) := r_new (ci := 2) (by decide +kernel : decode (mB 1) 5 = .ok (.new 9, 3)) (by decide +kernel) (by decide)
theorem t1_8 : rn 1 8 ls (.ref a :: r) M = rn 1 9 ls (.ref a :: .ref a :: r) M := r_nx (by decide +kernel : decode (mB 1) 8 = .ok (.dup, 1)) rfl rfl
theorem t1_9 : rn 1 9 ls [.ref a, .ref b, .ref c] M = cbn (cl 2 [.ref a] M) 1 12 ls [.ref b, .ref c] := r_callI (kd := 5) (by decide +kernel : decode (mB 1) 9 = .ok (.invokespecial 11, 3)) (by decide +kernel) (by decide +kernel) ((doI_n np_2).trans rfl)
theorem t1_12 : rn 1 12 ls (.ref b :: .ref a :: r) M = if mK M a = (11, 0) then rn 1 15 ls r (sP M a (va_up (mP M a) 0 (some b))) else none := r_putP (ci := 1) (k := 0) (by decide +kernel : decode (mB 1) 12 = .ok (.putfield 12, 3)) (by decide +kernel) rfl rfl
theorem t1_15 : rn 1 15 (some (.ref a) :: l) r M = rn 1 16 (some (.ref a) :: l) (.ref a :: r) M := r_aload_n (by decide +kernel : decode (mB 1) 15 = .ok (.aload_n 0, 1)) rfl
theorem t1_16 : rn 1 16 ls r M = rn 1 19 ls (.ref (mS M) :: r) (nw M (13, 0) 7) := r_new (ci := 3) (by decide +kernel : decode (mB 1) 16 = .ok (.new 18, 3)) (by decide +kernel) (by decide)
theorem t1_19 : rn 1 19 ls (.ref a :: r) M = rn 1 20 ls (.ref a :: .ref a :: r) M := r_nx (by decide +kernel : decode (mB 1) 19 = .ok (.dup, 1)) rfl rfl
theorem t1_20 : rn 1 20 ls [.ref a, .ref b, .ref c] M = cbn (cl 3 [.ref a] M) 1 23 ls [.ref b, .ref c] := r_callI (kd := 4) (by decide +kernel : decode (mB 1) 20 = .ok (.invokespecial 20, 3)) (by decide +kernel) (by decide +kernel) ((doI_n np_3).trans rfl)
theorem t1_23 : rn 1 23 ls (.ref b :: .ref a :: r) M = if mK M a = (11, 0) then rn 1 26 ls r (sP M a (va_up (mP M a) 1 (some b))) else none := r_putP (ci := 1) (k := 1) (by decide +kernel : decode (mB 1) 23 = .ok (.putfield 21, 3)) (by decide +kernel) rfl rfl
theorem t1_26 : rn 1 26 ls [] M = some (none, M) := r_vreturn (by decide +kernel : decode (mB 1) 26 = .ok (.return_, 1)) rfl
-- 2 Log_init()V
theorem t2_0 : rn 2 0 (some (.ref a) :: l) r M = rn 2 1 (some (.ref a) :: l) (.ref a :: r) M := r_aload_n (by decide +kernel : decode (mB 2) 0 = .ok (.aload_n 0, 1)) rfl
theorem t2_1 : rn 2 1 ls [.ref a] M = rn 2 4 ls [] M := r_obj (by decide +kernel : decode (mB 2) 1 = .ok (.invokespecial 3, 3)) (by decide +kernel) (by decide)
theorem t2_4 : rn 2 4 (some (.ref a) :: l) r M = rn 2 5 (some (.ref a) :: l) (.ref a :: r) M := r_aload_n (by decide +kernel : decode (mB 2) 4 = .ok (.aload_n 0, 1)) rfl
theorem t2_5 : rn 2 5 ls r M = rn 2 7 ls (.int 40 :: r) M := r_nx (by decide +kernel : decode (mB 2) 5 = .ok (.bipush 40, 2)) rfl rfl
theorem t2_7 : rn 2 7 ls (.int x :: r) M = if 0 ≤ x ∧ x ≤ 100000 then rn 2 9 ls (.ref (mS M) :: r) (nw M (1, x.toNatClampNeg) x.toNatClampNeg) else none := r_newI (by decide +kernel : decode (mB 2) 7 = .ok (.newarray .int, 2))
theorem t2_9 : rn 2 9 ls (.ref b :: .ref a :: r) M = if mK M a = (12, 0) then rn 2 12 ls r (sP M a (va_up (mP M a) 2 (some b))) else none := r_putP (ci := 2) (k := 2) (by decide +kernel : decode (mB 2) 9 = .ok (.putfield 9, 3)) (by decide +kernel) rfl rfl
theorem t2_12 : rn 2 12 (some (.ref a) :: l) r M = rn 2 13 (some (.ref a) :: l) (.ref a :: r) M := r_aload_n (by decide +kernel : decode (mB 2) 12 = .ok (.aload_n 0, 1)) rfl
theorem t2_13 : rn 2 13 ls r M = rn 2 15 ls (.int 40 :: r) M := r_nx (by decide +kernel : decode (mB 2) 13 = .ok (.bipush 40, 2)) rfl rfl
theorem t2_15 : rn 2 15 ls (.int x :: r) M = if 0 ≤ x ∧ x ≤ 100000 then rn 2 17 ls (.ref (mS M) :: r) (nw M (1, x.toNatClampNeg) x.toNatClampNeg) else none := r_newI (by decide +kernel : decode (mB 2) 15 = .ok (.newarray .int, 2))
theorem t2_17 : rn 2 17 ls (.ref b :: .ref a :: r) M = if mK M a = (12, 0) then rn 2 20 ls r (sP M a (va_up (mP M a) 3 (some b))) else none := r_putP (ci := 2) (k := 3) (by decide +kernel : decode (mB 2) 17 = .ok (.putfield 15, 3)) (by decide +kernel) rfl rfl
theorem t2_20 : rn 2 20 (some (.ref a) :: l) r M = rn 2 21 (some (.ref a) :: l) (.ref a :: r) M := r_aload_n (by decide +kernel : decode (mB 2) 20 = .ok (.aload_n 0, 1)) rfl
theorem t2_21 : rn 2 21 ls r M = rn 2 23 ls (.int 40 :: r) M := r_nx (by decide +kernel : decode (mB 2) 21 = .ok (.bipush 40, 2)) rfl rfl
theorem t2_23 : rn 2 23 ls (.int x :: r) M = if 0 ≤ x ∧ x ≤ 100000 then rn 2 25 ls (.ref (mS M) :: r) (nw M (1, x.toNatClampNeg) x.toNatClampNeg) else none := r_newI (by decide +kernel : decode (mB 2) 23 = .ok (.newarray .int, 2))
theorem t2_25 : rn 2 25 ls (.ref b :: .ref a :: r) M = if mK M a = (12, 0) then rn 2 28 ls r (sP M a (va_up (mP M a) 4 (some b))) else none := r_putP (ci := 2) (k := 4) (by decide +kernel : decode (mB 2) 25 = .ok (.putfield 18, 3)) (by decide +kernel) rfl rfl
theorem t2_28 : rn 2 28 (some (.ref a) :: l) r M = rn 2 29 (some (.ref a) :: l) (.ref a :: r) M := r_aload_n (by decide +kernel : decode (mB 2) 28 = .ok (.aload_n 0, 1)) rfl
theorem t2_29 : rn 2 29 ls r M = rn 2 31 ls (.int 40 :: r) M := r_nx (by decide +kernel : decode (mB 2) 29 = .ok (.bipush 40, 2)) rfl rfl
theorem t2_31 : rn 2 31 ls (.int x :: r) M = if 0 ≤ x ∧ x ≤ 100000 then rn 2 33 ls (.ref (mS M) :: r) (nw M (2, x.toNatClampNeg) x.toNatClampNeg) else none := r_newJ (by decide +kernel : decode (mB 2) 31 = .ok (.newarray .long, 2))
theorem t2_33 : rn 2 33 ls (.ref b :: .ref a :: r) M = if mK M a = (12, 0) then rn 2 36 ls r (sP M a (va_up (mP M a) 5 (some b))) else none := r_putP (ci := 2) (k := 5) (by decide +kernel : decode (mB 2) 33 = .ok (.putfield 21, 3)) (by decide +kernel) rfl rfl
theorem t2_36 : rn 2 36 (some (.ref a) :: l) r M = rn 2 37 (some (.ref a) :: l) (.ref a :: r) M := r_aload_n (by decide +kernel : decode (mB 2) 36 = .ok (.aload_n 0, 1)) rfl
theorem t2_37 : rn 2 37 ls r M = rn 2 39 ls (.int 40 :: r) M := r_nx (by decide +kernel : decode (mB 2) 37 = .ok (.bipush 40, 2)) rfl rfl
theorem t2_39 : rn 2 39 ls (.int x :: r) M = if 0 ≤ x ∧ x ≤ 100000 then rn 2 41 ls (.ref (mS M) :: r) (nw M (2, x.toNatClampNeg) x.toNatClampNeg) else none := r_newJ (by decide +kernel : decode (mB 2) 39 = .ok (.newarray .long, 2))
theorem t2_41 : rn 2 41 ls (.ref b :: .ref a :: r) M = if mK M a = (12, 0) then rn 2 44 ls r (sP M a (va_up (mP M a) 6 (some b))) else none := r_putP (ci := 2) (k := 6) (by decide +kernel : decode (mB 2) 41 = .ok (.putfield 25, 3)) (by decide +kernel) rfl rfl
theorem t2_44 : rn 2 44 ls [] M = some (none, M) := r_vreturn (by decide +kernel : decode (mB 2) 44 = .ok (.return_, 1)) rfl
-- 3 Replay_init()V
theorem t3_0 : rn 3 0 (some (.ref a) :: l) r M = rn 3 1 (some (.ref a) :: l) (.ref a :: r) M := r_aload_n (by decide +kernel : decode (mB 3) 0 = .ok (.aload_n 0, 1)) rfl
theorem t3_1 : rn 3 1 ls [.ref a] M = rn 3 4 ls [] M := r_obj (by decide +kernel : decode (mB 3) 1 = .ok (.invokespecial 3, 3)) (by decide +kernel) (by decide)
theorem t3_4 : rn 3 4 (some (.ref a) :: l) r M = rn 3 5 (some (.ref a) :: l) (.ref a :: r) M := r_aload_n (by decide +kernel : decode (mB 3) 4 = .ok (.aload_n 0, 1)) rfl
theorem t3_5 : rn 3 5 ls r M = rn 3 7 ls (.int 40 :: r) M := r_nx (by decide +kernel : decode (mB 3) 5 = .ok (.bipush 40, 2)) rfl rfl
theorem t3_7 : rn 3 7 ls (.int x :: r) M = if 0 ≤ x ∧ x ≤ 100000 then rn 3 9 ls (.ref (mS M) :: r) (nw M (1, x.toNatClampNeg) x.toNatClampNeg) else none := r_newI (by decide +kernel : decode (mB 3) 7 = .ok (.newarray .int, 2))
theorem t3_9 : rn 3 9 ls (.ref b :: .ref a :: r) M = if mK M a = (13, 0) then rn 3 12 ls r (sP M a (va_up (mP M a) 4 (some b))) else none := r_putP (ci := 3) (k := 4) (by decide +kernel : decode (mB 3) 9 = .ok (.putfield 9, 3)) (by decide +kernel) rfl rfl
theorem t3_12 : rn 3 12 (some (.ref a) :: l) r M = rn 3 13 (some (.ref a) :: l) (.ref a :: r) M := r_aload_n (by decide +kernel : decode (mB 3) 12 = .ok (.aload_n 0, 1)) rfl
theorem t3_13 : rn 3 13 ls r M = rn 3 15 ls (.int 40 :: r) M := r_nx (by decide +kernel : decode (mB 3) 13 = .ok (.bipush 40, 2)) rfl rfl
theorem t3_15 : rn 3 15 ls (.int x :: r) M = if 0 ≤ x ∧ x ≤ 100000 then rn 3 17 ls (.ref (mS M) :: r) (nw M (1, x.toNatClampNeg) x.toNatClampNeg) else none := r_newI (by decide +kernel : decode (mB 3) 15 = .ok (.newarray .int, 2))
theorem t3_17 : rn 3 17 ls (.ref b :: .ref a :: r) M = if mK M a = (13, 0) then rn 3 20 ls r (sP M a (va_up (mP M a) 5 (some b))) else none := r_putP (ci := 3) (k := 5) (by decide +kernel : decode (mB 3) 17 = .ok (.putfield 15, 3)) (by decide +kernel) rfl rfl
theorem t3_20 : rn 3 20 (some (.ref a) :: l) r M = rn 3 21 (some (.ref a) :: l) (.ref a :: r) M := r_aload_n (by decide +kernel : decode (mB 3) 20 = .ok (.aload_n 0, 1)) rfl
theorem t3_21 : rn 3 21 ls r M = rn 3 24 ls (.ref (mS M) :: r) (nw M (14, 0) 2) := r_new (ci := 4) (by decide +kernel : decode (mB 3) 21 = .ok (.new 18, 3)) (by decide +kernel) (by decide)
theorem t3_24 : rn 3 24 ls (.ref a :: r) M = rn 3 25 ls (.ref a :: .ref a :: r) M := r_nx (by decide +kernel : decode (mB 3) 24 = .ok (.dup, 1)) rfl rfl
theorem t3_25 : rn 3 25 ls [.ref a, .ref b, .ref c] M = cbn (cl 4 [.ref a] M) 3 28 ls [.ref b, .ref c] := r_callI (kd := 4) (by decide +kernel : decode (mB 3) 25 = .ok (.invokespecial 20, 3)) (by decide +kernel) (by decide +kernel) ((doI_n np_4).trans rfl)
theorem t3_28 : rn 3 28 ls (.ref b :: .ref a :: r) M = if mK M a = (13, 0) then rn 3 31 ls r (sP M a (va_up (mP M a) 6 (some b))) else none := r_putP (ci := 3) (k := 6) (by decide +kernel : decode (mB 3) 28 = .ok (.putfield 21, 3)) (by decide +kernel) rfl rfl
theorem t3_31 : rn 3 31 (some (.ref a) :: l) r M = rn 3 32 (some (.ref a) :: l) (.ref a :: r) M := r_aload_n (by decide +kernel : decode (mB 3) 31 = .ok (.aload_n 0, 1)) rfl
theorem t3_32 : rn 3 32 ls [.ref a] M = if mK M a = (13, 0) then cbn (cl 7 [.ref a] M) 3 35 ls [] else none := r_callV (kd := 0) (by decide +kernel : decode (mB 3) 32 = .ok (.invokevirtual 25, 3)) (by decide +kernel) ((doV_n np_7).trans rfl)
theorem t3_35 : rn 3 35 ls [] M = some (none, M) := r_vreturn (by decide +kernel : decode (mB 3) 35 = .ok (.return_, 1)) rfl
-- 4 Tree_init()V
theorem t4_0 : rn 4 0 (some (.ref a) :: l) r M = rn 4 1 (some (.ref a) :: l) (.ref a :: r) M := r_aload_n (by decide +kernel : decode (mB 4) 0 = .ok (.aload_n 0, 1)) rfl
theorem t4_1 : rn 4 1 ls [.ref a] M = rn 4 4 ls [] M := r_obj (by decide +kernel : decode (mB 4) 1 = .ok (.invokespecial 3, 3)) (by decide +kernel) (by decide)
theorem t4_4 : rn 4 4 (some (.ref a) :: l) r M = rn 4 5 (some (.ref a) :: l) (.ref a :: r) M := r_aload_n (by decide +kernel : decode (mB 4) 4 = .ok (.aload_n 0, 1)) rfl
theorem t4_5 : rn 4 5 ls r M = rn 4 7 ls (.int 16 :: r) M := r_nx (by decide +kernel : decode (mB 4) 5 = .ok (.bipush 16, 2)) rfl rfl
theorem t4_7 : rn 4 7 ls (.int x :: r) M = if 0 ≤ x ∧ x ≤ 100000 then rn 4 9 ls (.ref (mS M) :: r) (nw M (1, x.toNatClampNeg) x.toNatClampNeg) else none := r_newI (by decide +kernel : decode (mB 4) 7 = .ok (.newarray .int, 2))
theorem t4_9 : rn 4 9 ls (.ref b :: .ref a :: r) M = if mK M a = (14, 0) then rn 4 12 ls r (sP M a (va_up (mP M a) 0 (some b))) else none := r_putP (ci := 4) (k := 0) (by decide +kernel : decode (mB 4) 9 = .ok (.putfield 9, 3)) (by decide +kernel) rfl rfl
theorem t4_12 : rn 4 12 (some (.ref a) :: l) r M = rn 4 13 (some (.ref a) :: l) (.ref a :: r) M := r_aload_n (by decide +kernel : decode (mB 4) 12 = .ok (.aload_n 0, 1)) rfl
theorem t4_13 : rn 4 13 ls r M = rn 4 15 ls (.int 16 :: r) M := r_nx (by decide +kernel : decode (mB 4) 13 = .ok (.bipush 16, 2)) rfl rfl
theorem t4_15 : rn 4 15 ls (.int x :: r) M = if 0 ≤ x ∧ x ≤ 100000 then rn 4 17 ls (.ref (mS M) :: r) (nw M (1, x.toNatClampNeg) x.toNatClampNeg) else none := r_newI (by decide +kernel : decode (mB 4) 15 = .ok (.newarray .int, 2))
theorem t4_17 : rn 4 17 ls (.ref b :: .ref a :: r) M = if mK M a = (14, 0) then rn 4 20 ls r (sP M a (va_up (mP M a) 1 (some b))) else none := r_putP (ci := 4) (k := 1) (by decide +kernel : decode (mB 4) 17 = .ok (.putfield 15, 3)) (by decide +kernel) rfl rfl
theorem t4_20 : rn 4 20 (some (.ref a) :: l) r M = rn 4 21 (some (.ref a) :: l) (.ref a :: r) M := r_aload_n (by decide +kernel : decode (mB 4) 20 = .ok (.aload_n 0, 1)) rfl
theorem t4_21 : rn 4 21 ls [.ref a] M = if mK M a = (14, 0) then cbn (cl 5 [.ref a] M) 4 24 ls [] else none := r_callV (kd := 0) (by decide +kernel : decode (mB 4) 21 = .ok (.invokevirtual 18, 3)) (by decide +kernel) ((doV_n np_5).trans rfl)
theorem t4_24 : rn 4 24 ls [] M = some (none, M) := r_vreturn (by decide +kernel : decode (mB 4) 24 = .ok (.return_, 1)) rfl
-- 8 History_init()V
theorem t8_0 : rn 8 0 (some (.ref a) :: l) r M = rn 8 1 (some (.ref a) :: l) (.ref a :: r) M := r_aload_n (by decide +kernel : decode (mB 8) 0 = .ok (.aload_n 0, 1)) rfl
theorem t8_1 : rn 8 1 ls [.ref a] M = rn 8 4 ls [] M := r_obj (by decide +kernel : decode (mB 8) 1 = .ok (.invokespecial 3, 3)) (by decide +kernel) (by decide)
theorem t8_4 : rn 8 4 (some (.ref a) :: l) r M = rn 8 5 (some (.ref a) :: l) (.ref a :: r) M := r_aload_n (by decide +kernel : decode (mB 8) 4 = .ok (.aload_n 0, 1)) rfl
theorem t8_5 : rn 8 5 ls r M = rn 8 7 ls (.int 7 :: r) M := r_nx (by decide +kernel : decode (mB 8) 5 = .ok (.bipush 7, 2)) rfl rfl
theorem t8_7 : rn 8 7 ls (.int x :: r) M = if 0 ≤ x ∧ x ≤ 100000 then rn 8 10 ls (.ref (mS M) :: r) (nw M (3, x.toNatClampNeg) x.toNatClampNeg) else none := r_newP (k := 3) (by decide) (by decide +kernel : decode (mB 8) 7 = .ok (.anewarray 11, 3)) (by decide +kernel)
theorem t8_10 : rn 8 10 ls (.ref b :: .ref a :: r) M = if mK M a = (15, 0) then rn 8 13 ls r (sP M a (va_up (mP M a) 0 (some b))) else none := r_putP (ci := 5) (k := 0) (by decide +kernel : decode (mB 8) 10 = .ok (.putfield 13, 3)) (by decide +kernel) rfl rfl
theorem t8_13 : rn 8 13 ls r M = rn 8 14 ls (.int 0 :: r) M := r_nx (by decide +kernel : decode (mB 8) 13 = .ok (.iconst 0, 1)) rfl rfl
theorem t8_14 : rn 8 14 (a0 :: a1 :: l) (.int x :: r) M = rn 8 15 (a0 :: some (.int x) :: l) r M := r_istore_n (by decide +kernel : decode (mB 8) 14 = .ok (.istore_n 1, 1)) (Nat.le_add_left 2 l.length)
theorem t8_15 : rn 8 15 (a0 :: some (.int x) :: l) r M = rn 8 16 (a0 :: some (.int x) :: l) (.int x :: r) M := r_iload_n (by decide +kernel : decode (mB 8) 15 = .ok (.iload_n 1, 1)) rfl
theorem t8_16 : rn 8 16 ls r M = rn 8 18 ls (.int 7 :: r) M := r_nx (by decide +kernel : decode (mB 8) 16 = .ok (.bipush 7, 2)) rfl rfl
theorem t8_18 : rn 8 18 ls (.int y :: .int x :: r) M = if y ≤ x then rn 8 40 ls r M else rn 8 21 ls r M := r_if (o := 22) (r := r) (c := y ≤ x) (by decide +kernel : decode (mB 8) 18 = .ok (.if_icmp .ge 22, 3)) rfl (by decide) rfl
theorem t8_21 : rn 8 21 (some (.ref a) :: l) r M = rn 8 22 (some (.ref a) :: l) (.ref a :: r) M := r_aload_n (by decide +kernel : decode (mB 8) 21 = .ok (.aload_n 0, 1)) rfl
theorem t8_22 : rn 8 22 ls (.ref a :: r) M = if mK M a = (15, 0) then rn 8 25 ls (va_rf (mP M a 0) :: r) M else none := r_getP (ci := 5) (k := 0) (by decide +kernel : decode (mB 8) 22 = .ok (.getfield 13, 3)) (by decide +kernel) rfl
theorem t8_25 : rn 8 25 (a0 :: some (.int x) :: l) r M = rn 8 26 (a0 :: some (.int x) :: l) (.int x :: r) M := r_iload_n (by decide +kernel : decode (mB 8) 25 = .ok (.iload_n 1, 1)) rfl
theorem t8_26 : rn 8 26 ls r M = rn 8 29 ls (.ref (mS M) :: r) (nw M (11, 0) 2) := r_new (ci := 1) (by decide +kernel : decode (mB 8) 26 = .ok (.new 11, 3)) (by decide +kernel) (by decide)
theorem t8_29 : rn 8 29 ls (.ref a :: r) M = rn 8 30 ls (.ref a :: .ref a :: r) M := r_nx (by decide +kernel : decode (mB 8) 29 = .ok (.dup, 1)) rfl rfl
theorem t8_30 : rn 8 30 ls [.ref a, .ref b, .int x, .ref c] M = cbn (cl 1 [.ref a] M) 8 33 ls [.ref b, .int x, .ref c] := r_callI (kd := 5) (by decide +kernel : decode (mB 8) 30 = .ok (.invokespecial 17, 3)) (by decide +kernel) (by decide +kernel) ((doI_n np_1).trans rfl)
theorem t8_33 : rn 8 33 ls (.ref b :: .int x :: .ref a :: r) M = if ((mK M a = (3, (mK M a).2) ∧ mK M b = (10 + aoC 3, 0)) ∨ (mK M a = (4, (mK M a).2) ∧ mK M b = (10 + aoC 4, 0))) ∧ inR x (mK M a).2 then rn 8 34 ls r (sP M a (va_up (mP M a) x.toNatClampNeg (some b))) else none := r_cnd (by decide +kernel : decode (mB 8) 33 = .ok (.aastore, 1)) rfl rfl
theorem t8_34 : rn 8 34 (a0 :: some (.int x) :: l) r M = rn 8 37 (a0 :: some (.int (x + 1)) :: l) r M := r_iinc (by decide +kernel : decode (mB 8) 34 = .ok (.iinc 1 1, 3)) rfl
theorem t8_37 : rn 8 37 ls r M = rn 8 15 ls r M := r_goto (o := (-22)) (by decide +kernel : decode (mB 8) 37 = .ok (.goto (-22), 3)) (by decide)
theorem t8_40 : rn 8 40 ls [] M = some (none, M) := r_vreturn (by decide +kernel : decode (mB 8) 40 = .ok (.return_, 1)) rfl
-- 9 Pad_init()V
theorem t9_0 : rn 9 0 (some (.ref a) :: l) r M = rn 9 1 (some (.ref a) :: l) (.ref a :: r) M := r_aload_n (by decide +kernel : decode (mB 9) 0 = .ok (.aload_n 0, 1)) rfl
theorem t9_1 : rn 9 1 ls [.ref a] M = rn 9 4 ls [] M := r_obj (by decide +kernel : decode (mB 9) 1 = .ok (.invokespecial 3, 3)) (by decide +kernel) (by decide)
theorem t9_4 : rn 9 4 (some (.ref a) :: l) r M = rn 9 5 (some (.ref a) :: l) (.ref a :: r) M := r_aload_n (by decide +kernel : decode (mB 9) 4 = .ok (.aload_n 0, 1)) rfl
theorem t9_5 : rn 9 5 ls r M = rn 9 7 ls (.int 80 :: r) M := r_nx (by decide +kernel : decode (mB 9) 5 = .ok (.bipush 80, 2)) rfl rfl
theorem t9_7 : rn 9 7 ls (.int x :: r) M = if 0 ≤ x ∧ x ≤ 100000 then rn 9 9 ls (.ref (mS M) :: r) (nw M (1, x.toNatClampNeg) x.toNatClampNeg) else none := r_newI (by decide +kernel : decode (mB 9) 7 = .ok (.newarray .int, 2))
theorem t9_9 : rn 9 9 ls (.ref b :: .ref a :: r) M = if mK M a = (16, 0) then rn 9 12 ls r (sP M a (va_up (mP M a) 0 (some b))) else none := r_putP (ci := 6) (k := 0) (by decide +kernel : decode (mB 9) 9 = .ok (.putfield 9, 3)) (by decide +kernel) rfl rfl
theorem t9_12 : rn 9 12 ls [] M = some (none, M) := r_vreturn (by decide +kernel : decode (mB 9) 12 = .ok (.return_, 1)) rfl
-- 10 Reader_init(LDependentReplay$Pad;)V
theorem t10_0 : rn 10 0 (some (.ref a) :: l) r M = rn 10 1 (some (.ref a) :: l) (.ref a :: r) M := r_aload_n (by decide +kernel : decode (mB 10) 0 = .ok (.aload_n 0, 1)) rfl
theorem t10_1 : rn 10 1 ls [.ref a] M = rn 10 4 ls [] M := r_obj (by decide +kernel : decode (mB 10) 1 = .ok (.invokespecial 3, 3)) (by decide +kernel) (by decide)
theorem t10_4 : rn 10 4 (some (.ref a) :: l) r M = rn 10 5 (some (.ref a) :: l) (.ref a :: r) M := r_aload_n (by decide +kernel : decode (mB 10) 4 = .ok (.aload_n 0, 1)) rfl
theorem t10_5 : rn 10 5 (a0 :: some (.ref a) :: l) r M = rn 10 6 (a0 :: some (.ref a) :: l) (.ref a :: r) M := r_aload_n (by decide +kernel : decode (mB 10) 5 = .ok (.aload_n 1, 1)) rfl
theorem t10_6 : rn 10 6 ls (.ref b :: .ref a :: r) M = if mK M a = (17, 0) then rn 10 9 ls r (sP M a (va_up (mP M a) 0 (some b))) else none := r_putP (ci := 7) (k := 0) (by decide +kernel : decode (mB 10) 6 = .ok (.putfield 9, 3)) (by decide +kernel) rfl rfl
theorem t10_9 : rn 10 9 ls [] M = some (none, M) := r_vreturn (by decide +kernel : decode (mB 10) 9 = .ok (.return_, 1)) rfl
-- 11 Slot_init()V
theorem t11_0 : rn 11 0 (some (.ref a) :: l) r M = rn 11 1 (some (.ref a) :: l) (.ref a :: r) M := r_aload_n (by decide +kernel : decode (mB 11) 0 = .ok (.aload_n 0, 1)) rfl
theorem t11_1 : rn 11 1 ls [.ref a] M = rn 11 4 ls [] M := r_obj (by decide +kernel : decode (mB 11) 1 = .ok (.invokespecial 1, 3)) (by decide +kernel) (by decide)
theorem t11_4 : rn 11 4 (some (.ref a) :: l) r M = rn 11 5 (some (.ref a) :: l) (.ref a :: r) M := r_aload_n (by decide +kernel : decode (mB 11) 4 = .ok (.aload_n 0, 1)) rfl
theorem t11_5 : rn 11 5 ls r M = rn 11 8 ls (.ref (mS M) :: r) (nw M (11, 0) 2) := r_new (ci := 1) (by decide +kernel : decode (mB 11) 5 = .ok (.new 7, 3)) (by decide +kernel) (by decide)
theorem t11_8 : rn 11 8 ls (.ref a :: r) M = rn 11 9 ls (.ref a :: .ref a :: r) M := r_nx (by decide +kernel : decode (mB 11) 8 = .ok (.dup, 1)) rfl rfl
theorem t11_9 : rn 11 9 ls [.ref a, .ref b, .ref c] M = cbn (cl 1 [.ref a] M) 11 12 ls [.ref b, .ref c] := r_callI (kd := 5) (by decide +kernel : decode (mB 11) 9 = .ok (.invokespecial 9, 3)) (by decide +kernel) (by decide +kernel) ((doI_n np_1).trans rfl)
theorem t11_12 : rn 11 12 ls (.ref b :: .ref a :: r) M = if mK M a = (18, 0) then rn 11 15 ls r (sP M a (va_up (mP M a) 0 (some b))) else none := r_putP (ci := 8) (k := 0) (by decide +kernel : decode (mB 11) 12 = .ok (.putfield 10, 3)) (by decide +kernel) rfl rfl
theorem t11_15 : rn 11 15 ls [] M = some (none, M) := r_vreturn (by decide +kernel : decode (mB 11) 15 = .ok (.return_, 1)) rfl
-- 6 Arrays_fill([II)V
theorem t6_0 : rn 6 0 ls r M = rn 6 1 ls (.int 0 :: r) M := r_nx (by decide +kernel : decode (mB 6) 0 = .ok (.iconst 0, 1)) rfl rfl
theorem t6_1 : rn 6 1 (a0 :: a1 :: a2 :: l) (.int x :: r) M = rn 6 2 (a0 :: a1 :: some (.int x) :: l) r M := r_istore_n (by decide +kernel : decode (mB 6) 1 = .ok (.istore_n 2, 1)) (Nat.le_add_left 3 l.length)
theorem t6_2 : rn 6 2 (some (.ref a) :: l) r M = rn 6 3 (some (.ref a) :: l) (.ref a :: r) M := r_aload_n (by decide +kernel : decode (mB 6) 2 = .ok (.aload_n 0, 1)) rfl
theorem t6_3 : rn 6 3 ls (.ref a :: r) M = if (mK M a).1 = 1 ∨ (mK M a).1 = 5 then rn 6 4 ls (.int (Int32.ofNat (mK M a).2) :: r) M else none := r_cnd (by decide +kernel : decode (mB 6) 3 = .ok (.arraylength, 1)) rfl rfl
theorem t6_4 : rn 6 4 (a0 :: a1 :: a2 :: a3 :: l) (.int x :: r) M = rn 6 5 (a0 :: a1 :: a2 :: some (.int x) :: l) r M := r_istore_n (by decide +kernel : decode (mB 6) 4 = .ok (.istore_n 3, 1)) (Nat.le_add_left 4 l.length)
theorem t6_5 : rn 6 5 (a0 :: a1 :: some (.int x) :: l) r M = rn 6 6 (a0 :: a1 :: some (.int x) :: l) (.int x :: r) M := r_iload_n (by decide +kernel : decode (mB 6) 5 = .ok (.iload_n 2, 1)) rfl
theorem t6_6 : rn 6 6 (a0 :: a1 :: a2 :: some (.int x) :: l) r M = rn 6 7 (a0 :: a1 :: a2 :: some (.int x) :: l) (.int x :: r) M := r_iload_n (by decide +kernel : decode (mB 6) 6 = .ok (.iload_n 3, 1)) rfl
theorem t6_7 : rn 6 7 ls (.int y :: .int x :: r) M = if y ≤ x then rn 6 20 ls r M else rn 6 10 ls r M := r_if (o := 13) (r := r) (c := y ≤ x) (by decide +kernel : decode (mB 6) 7 = .ok (.if_icmp .ge 13, 3)) rfl (by decide) rfl
theorem t6_10 : rn 6 10 (some (.ref a) :: l) r M = rn 6 11 (some (.ref a) :: l) (.ref a :: r) M := r_aload_n (by decide +kernel : decode (mB 6) 10 = .ok (.aload_n 0, 1)) rfl
theorem t6_11 : rn 6 11 (a0 :: a1 :: some (.int x) :: l) r M = rn 6 12 (a0 :: a1 :: some (.int x) :: l) (.int x :: r) M := r_iload_n (by decide +kernel : decode (mB 6) 11 = .ok (.iload_n 2, 1)) rfl
theorem t6_12 : rn 6 12 (a0 :: some (.int x) :: l) r M = rn 6 13 (a0 :: some (.int x) :: l) (.int x :: r) M := r_iload_n (by decide +kernel : decode (mB 6) 12 = .ok (.iload_n 1, 1)) rfl
theorem t6_13 : rn 6 13 ls (.int y :: .int x :: .ref a :: r) M = if (mK M a).1 = 1 ∧ inR x (mK M a).2 then rn 6 14 ls r (sI M a (va_up (mI M a) x.toNatClampNeg y)) else none := r_cnd (by decide +kernel : decode (mB 6) 13 = .ok (.iastore, 1)) rfl rfl
theorem t6_14 : rn 6 14 (a0 :: a1 :: some (.int x) :: l) r M = rn 6 17 (a0 :: a1 :: some (.int (x + 1)) :: l) r M := r_iinc (by decide +kernel : decode (mB 6) 14 = .ok (.iinc 2 1, 3)) rfl
theorem t6_17 : rn 6 17 ls r M = rn 6 5 ls r M := r_goto (o := (-12)) (by decide +kernel : decode (mB 6) 17 = .ok (.goto (-12), 3)) (by decide)
theorem t6_20 : rn 6 20 ls [] M = some (none, M) := r_vreturn (by decide +kernel : decode (mB 6) 20 = .ok (.return_, 1)) rfl
-- 30 Math_min(II)I
theorem t30_0 : rn 30 0 (some (.int x) :: l) r M = rn 30 1 (some (.int x) :: l) (.int x :: r) M := r_iload_n (by decide +kernel : decode (mB 30) 0 = .ok (.iload_n 0, 1)) rfl
theorem t30_1 : rn 30 1 (a0 :: some (.int x) :: l) r M = rn 30 2 (a0 :: some (.int x) :: l) (.int x :: r) M := r_iload_n (by decide +kernel : decode (mB 30) 1 = .ok (.iload_n 1, 1)) rfl
theorem t30_2 : rn 30 2 ls (.int y :: .int x :: r) M = if y < x then rn 30 9 ls r M else rn 30 5 ls r M := r_if (o := 7) (r := r) (c := y < x) (by decide +kernel : decode (mB 30) 2 = .ok (.if_icmp .gt 7, 3)) rfl (by decide) rfl
theorem t30_5 : rn 30 5 (some (.int x) :: l) r M = rn 30 6 (some (.int x) :: l) (.int x :: r) M := r_iload_n (by decide +kernel : decode (mB 30) 5 = .ok (.iload_n 0, 1)) rfl
theorem t30_6 : rn 30 6 ls r M = rn 30 10 ls r M := r_goto (o := 4) (by decide +kernel : decode (mB 30) 6 = .ok (.goto 4, 3)) (by decide)
theorem t30_9 : rn 30 9 (a0 :: some (.int x) :: l) r M = rn 30 10 (a0 :: some (.int x) :: l) (.int x :: r) M := r_iload_n (by decide +kernel : decode (mB 30) 9 = .ok (.iload_n 1, 1)) rfl
theorem t30_10 : rn 30 10 ls [.int x] M = some (some (.int x), M) := r_ireturn (by decide +kernel : decode (mB 30) 10 = .ok (.ireturn, 1)) rfl
-- 37 Long_bitCount(J)I
theorem t37_0 : rn 37 0 (some (.long u) :: none :: l) r M = rn 37 1 (some (.long u) :: none :: l) (.long u :: r) M := r_lload_n (by decide +kernel : decode (mB 37) 0 = .ok (.lload_n 0, 1)) rfl rfl
theorem t37_1 : rn 37 1 (some (.long u) :: none :: l) r M = rn 37 2 (some (.long u) :: none :: l) (.long u :: r) M := r_lload_n (by decide +kernel : decode (mB 37) 1 = .ok (.lload_n 0, 1)) rfl rfl
theorem t37_2 : rn 37 2 ls r M = rn 37 3 ls (.int 1 :: r) M := r_nx (by decide +kernel : decode (mB 37) 2 = .ok (.iconst 1, 1)) rfl rfl
theorem t37_3 : rn 37 3 ls (.int y :: .long u :: r) M = rn 37 4 ls (.long ((u.toUInt64 >>> (y.toInt64.toUInt64 &&& Int64.toUInt64 63)).toInt64) :: r) M := r_nx (by decide +kernel : decode (mB 37) 3 = .ok (.lushr, 1)) rfl rfl
theorem t37_4 : rn 37 4 ls r M = rn 37 7 ls (.long 6148914691236517205 :: r) M := r_nx (by decide +kernel : decode (mB 37) 4 = .ok (.ldc2_w 314, 3)) rfl rfl
theorem t37_7 : rn 37 7 ls (.long v :: .long u :: r) M = rn 37 8 ls (.long (u &&& v) :: r) M := r_nx (by decide +kernel : decode (mB 37) 7 = .ok (.land, 1)) rfl rfl
theorem t37_8 : rn 37 8 ls (.long v :: .long u :: r) M = rn 37 9 ls (.long (u - v) :: r) M := r_nx (by decide +kernel : decode (mB 37) 8 = .ok (.lsub, 1)) rfl rfl
theorem t37_9 : rn 37 9 (a0 :: a1 :: l) (.long u :: r) M = rn 37 10 (some (.long u) :: none :: l) r M := r_lstore_n (by decide +kernel : decode (mB 37) 9 = .ok (.lstore_n 0, 1)) (Nat.le_add_left 2 l.length)
theorem t37_10 : rn 37 10 (some (.long u) :: none :: l) r M = rn 37 11 (some (.long u) :: none :: l) (.long u :: r) M := r_lload_n (by decide +kernel : decode (mB 37) 10 = .ok (.lload_n 0, 1)) rfl rfl
theorem t37_11 : rn 37 11 ls r M = rn 37 14 ls (.long 3689348814741910323 :: r) M := r_nx (by decide +kernel : decode (mB 37) 11 = .ok (.ldc2_w 316, 3)) rfl rfl
theorem t37_14 : rn 37 14 ls (.long v :: .long u :: r) M = rn 37 15 ls (.long (u &&& v) :: r) M := r_nx (by decide +kernel : decode (mB 37) 14 = .ok (.land, 1)) rfl rfl
theorem t37_15 : rn 37 15 (some (.long u) :: none :: l) r M = rn 37 16 (some (.long u) :: none :: l) (.long u :: r) M := r_lload_n (by decide +kernel : decode (mB 37) 15 = .ok (.lload_n 0, 1)) rfl rfl
theorem t37_16 : rn 37 16 ls r M = rn 37 17 ls (.int 2 :: r) M := r_nx (by decide +kernel : decode (mB 37) 16 = .ok (.iconst 2, 1)) rfl rfl
theorem t37_17 : rn 37 17 ls (.int y :: .long u :: r) M = rn 37 18 ls (.long ((u.toUInt64 >>> (y.toInt64.toUInt64 &&& Int64.toUInt64 63)).toInt64) :: r) M := r_nx (by decide +kernel : decode (mB 37) 17 = .ok (.lushr, 1)) rfl rfl
theorem t37_18 : rn 37 18 ls r M = rn 37 21 ls (.long 3689348814741910323 :: r) M := r_nx (by decide +kernel : decode (mB 37) 18 = .ok (.ldc2_w 316, 3)) rfl rfl
theorem t37_21 : rn 37 21 ls (.long v :: .long u :: r) M = rn 37 22 ls (.long (u &&& v) :: r) M := r_nx (by decide +kernel : decode (mB 37) 21 = .ok (.land, 1)) rfl rfl
theorem t37_22 : rn 37 22 ls (.long v :: .long u :: r) M = rn 37 23 ls (.long (u + v) :: r) M := r_nx (by decide +kernel : decode (mB 37) 22 = .ok (.ladd, 1)) rfl rfl
theorem t37_23 : rn 37 23 (a0 :: a1 :: l) (.long u :: r) M = rn 37 24 (some (.long u) :: none :: l) r M := r_lstore_n (by decide +kernel : decode (mB 37) 23 = .ok (.lstore_n 0, 1)) (Nat.le_add_left 2 l.length)
theorem t37_24 : rn 37 24 (some (.long u) :: none :: l) r M = rn 37 25 (some (.long u) :: none :: l) (.long u :: r) M := r_lload_n (by decide +kernel : decode (mB 37) 24 = .ok (.lload_n 0, 1)) rfl rfl
theorem t37_25 : rn 37 25 (some (.long u) :: none :: l) r M = rn 37 26 (some (.long u) :: none :: l) (.long u :: r) M := r_lload_n (by decide +kernel : decode (mB 37) 25 = .ok (.lload_n 0, 1)) rfl rfl
theorem t37_26 : rn 37 26 ls r M = rn 37 27 ls (.int 4 :: r) M := r_nx (by decide +kernel : decode (mB 37) 26 = .ok (.iconst 4, 1)) rfl rfl
theorem t37_27 : rn 37 27 ls (.int y :: .long u :: r) M = rn 37 28 ls (.long ((u.toUInt64 >>> (y.toInt64.toUInt64 &&& Int64.toUInt64 63)).toInt64) :: r) M := r_nx (by decide +kernel : decode (mB 37) 27 = .ok (.lushr, 1)) rfl rfl
theorem t37_28 : rn 37 28 ls (.long v :: .long u :: r) M = rn 37 29 ls (.long (u + v) :: r) M := r_nx (by decide +kernel : decode (mB 37) 28 = .ok (.ladd, 1)) rfl rfl
theorem t37_29 : rn 37 29 ls r M = rn 37 32 ls (.long 1085102592571150095 :: r) M := r_nx (by decide +kernel : decode (mB 37) 29 = .ok (.ldc2_w 318, 3)) rfl rfl
theorem t37_32 : rn 37 32 ls (.long v :: .long u :: r) M = rn 37 33 ls (.long (u &&& v) :: r) M := r_nx (by decide +kernel : decode (mB 37) 32 = .ok (.land, 1)) rfl rfl
theorem t37_33 : rn 37 33 (a0 :: a1 :: l) (.long u :: r) M = rn 37 34 (some (.long u) :: none :: l) r M := r_lstore_n (by decide +kernel : decode (mB 37) 33 = .ok (.lstore_n 0, 1)) (Nat.le_add_left 2 l.length)
theorem t37_34 : rn 37 34 (some (.long u) :: none :: l) r M = rn 37 35 (some (.long u) :: none :: l) (.long u :: r) M := r_lload_n (by decide +kernel : decode (mB 37) 34 = .ok (.lload_n 0, 1)) rfl rfl
theorem t37_35 : rn 37 35 (some (.long u) :: none :: l) r M = rn 37 36 (some (.long u) :: none :: l) (.long u :: r) M := r_lload_n (by decide +kernel : decode (mB 37) 35 = .ok (.lload_n 0, 1)) rfl rfl
theorem t37_36 : rn 37 36 ls r M = rn 37 38 ls (.int 8 :: r) M := r_nx (by decide +kernel : decode (mB 37) 36 = .ok (.bipush 8, 2)) rfl rfl
theorem t37_38 : rn 37 38 ls (.int y :: .long u :: r) M = rn 37 39 ls (.long ((u.toUInt64 >>> (y.toInt64.toUInt64 &&& Int64.toUInt64 63)).toInt64) :: r) M := r_nx (by decide +kernel : decode (mB 37) 38 = .ok (.lushr, 1)) rfl rfl
theorem t37_39 : rn 37 39 ls (.long v :: .long u :: r) M = rn 37 40 ls (.long (u + v) :: r) M := r_nx (by decide +kernel : decode (mB 37) 39 = .ok (.ladd, 1)) rfl rfl
theorem t37_40 : rn 37 40 (a0 :: a1 :: l) (.long u :: r) M = rn 37 41 (some (.long u) :: none :: l) r M := r_lstore_n (by decide +kernel : decode (mB 37) 40 = .ok (.lstore_n 0, 1)) (Nat.le_add_left 2 l.length)
theorem t37_41 : rn 37 41 (some (.long u) :: none :: l) r M = rn 37 42 (some (.long u) :: none :: l) (.long u :: r) M := r_lload_n (by decide +kernel : decode (mB 37) 41 = .ok (.lload_n 0, 1)) rfl rfl
theorem t37_42 : rn 37 42 (some (.long u) :: none :: l) r M = rn 37 43 (some (.long u) :: none :: l) (.long u :: r) M := r_lload_n (by decide +kernel : decode (mB 37) 42 = .ok (.lload_n 0, 1)) rfl rfl
theorem t37_43 : rn 37 43 ls r M = rn 37 45 ls (.int 16 :: r) M := r_nx (by decide +kernel : decode (mB 37) 43 = .ok (.bipush 16, 2)) rfl rfl
theorem t37_45 : rn 37 45 ls (.int y :: .long u :: r) M = rn 37 46 ls (.long ((u.toUInt64 >>> (y.toInt64.toUInt64 &&& Int64.toUInt64 63)).toInt64) :: r) M := r_nx (by decide +kernel : decode (mB 37) 45 = .ok (.lushr, 1)) rfl rfl
theorem t37_46 : rn 37 46 ls (.long v :: .long u :: r) M = rn 37 47 ls (.long (u + v) :: r) M := r_nx (by decide +kernel : decode (mB 37) 46 = .ok (.ladd, 1)) rfl rfl
theorem t37_47 : rn 37 47 (a0 :: a1 :: l) (.long u :: r) M = rn 37 48 (some (.long u) :: none :: l) r M := r_lstore_n (by decide +kernel : decode (mB 37) 47 = .ok (.lstore_n 0, 1)) (Nat.le_add_left 2 l.length)
theorem t37_48 : rn 37 48 (some (.long u) :: none :: l) r M = rn 37 49 (some (.long u) :: none :: l) (.long u :: r) M := r_lload_n (by decide +kernel : decode (mB 37) 48 = .ok (.lload_n 0, 1)) rfl rfl
theorem t37_49 : rn 37 49 (some (.long u) :: none :: l) r M = rn 37 50 (some (.long u) :: none :: l) (.long u :: r) M := r_lload_n (by decide +kernel : decode (mB 37) 49 = .ok (.lload_n 0, 1)) rfl rfl
theorem t37_50 : rn 37 50 ls r M = rn 37 52 ls (.int 32 :: r) M := r_nx (by decide +kernel : decode (mB 37) 50 = .ok (.bipush 32, 2)) rfl rfl
theorem t37_52 : rn 37 52 ls (.int y :: .long u :: r) M = rn 37 53 ls (.long ((u.toUInt64 >>> (y.toInt64.toUInt64 &&& Int64.toUInt64 63)).toInt64) :: r) M := r_nx (by decide +kernel : decode (mB 37) 52 = .ok (.lushr, 1)) rfl rfl
theorem t37_53 : rn 37 53 ls (.long v :: .long u :: r) M = rn 37 54 ls (.long (u + v) :: r) M := r_nx (by decide +kernel : decode (mB 37) 53 = .ok (.ladd, 1)) rfl rfl
theorem t37_54 : rn 37 54 (a0 :: a1 :: l) (.long u :: r) M = rn 37 55 (some (.long u) :: none :: l) r M := r_lstore_n (by decide +kernel : decode (mB 37) 54 = .ok (.lstore_n 0, 1)) (Nat.le_add_left 2 l.length)
theorem t37_55 : rn 37 55 (some (.long u) :: none :: l) r M = rn 37 56 (some (.long u) :: none :: l) (.long u :: r) M := r_lload_n (by decide +kernel : decode (mB 37) 55 = .ok (.lload_n 0, 1)) rfl rfl
theorem t37_56 : rn 37 56 ls (.long u :: r) M = rn 37 57 ls (.int u.toInt32 :: r) M := r_nx (by decide +kernel : decode (mB 37) 56 = .ok (.l2i, 1)) rfl rfl
theorem t37_57 : rn 37 57 ls r M = rn 37 59 ls (.int 127 :: r) M := r_nx (by decide +kernel : decode (mB 37) 57 = .ok (.bipush 127, 2)) rfl rfl
theorem t37_59 : rn 37 59 ls (.int y :: .int x :: r) M = rn 37 60 ls (.int (x &&& y) :: r) M := r_nx (by decide +kernel : decode (mB 37) 59 = .ok (.iand, 1)) rfl rfl
theorem t37_60 : rn 37 60 ls [.int x] M = some (some (.int x), M) := r_ireturn (by decide +kernel : decode (mB 37) 60 = .ok (.ireturn, 1)) rfl
-- 56 Math_max(II)I
theorem t56_0 : rn 56 0 (some (.int x) :: l) r M = rn 56 1 (some (.int x) :: l) (.int x :: r) M := r_iload_n (by decide +kernel : decode (mB 56) 0 = .ok (.iload_n 0, 1)) rfl
theorem t56_1 : rn 56 1 (a0 :: some (.int x) :: l) r M = rn 56 2 (a0 :: some (.int x) :: l) (.int x :: r) M := r_iload_n (by decide +kernel : decode (mB 56) 1 = .ok (.iload_n 1, 1)) rfl
theorem t56_2 : rn 56 2 ls (.int y :: .int x :: r) M = if x < y then rn 56 9 ls r M else rn 56 5 ls r M := r_if (o := 7) (r := r) (c := x < y) (by decide +kernel : decode (mB 56) 2 = .ok (.if_icmp .lt 7, 3)) rfl (by decide) rfl
theorem t56_5 : rn 56 5 (some (.int x) :: l) r M = rn 56 6 (some (.int x) :: l) (.int x :: r) M := r_iload_n (by decide +kernel : decode (mB 56) 5 = .ok (.iload_n 0, 1)) rfl
theorem t56_6 : rn 56 6 ls r M = rn 56 10 ls r M := r_goto (o := 4) (by decide +kernel : decode (mB 56) 6 = .ok (.goto 4, 3)) (by decide)
theorem t56_9 : rn 56 9 (a0 :: some (.int x) :: l) r M = rn 56 10 (a0 :: some (.int x) :: l) (.int x :: r) M := r_iload_n (by decide +kernel : decode (mB 56) 9 = .ok (.iload_n 1, 1)) rfl
theorem t56_10 : rn 56 10 ls [.int x] M = some (some (.int x), M) := r_ireturn (by decide +kernel : decode (mB 56) 10 = .ok (.ireturn, 1)) rfl
end S0
end
section
/-! step rows, by program (wip/whole/gen13.py): inner -/
section S1
variable {a0 a1 a2 a3 a4 a5 a6 a7 a8 a9 : Option Value} {l ls : List (Option Value)} {r : List Value} {M : SM} {x y z w p k : Int32} {u v s : Int64} {a b c d : Nat}

-- 5 Tree_clear()V
theorem t5_0 : rn 5 0 (some (.ref a) :: l) r M = rn 5 1 (some (.ref a) :: l) (.ref a :: r) M := r_aload_n (by decide +kernel : decode (mB 5) 0 = .ok (.aload_n 0, 1)) rfl
theorem t5_1 : rn 5 1 ls (.ref a :: r) M = if mK M a = (14, 0) then rn 5 4 ls (va_rf (mP M a 0) :: r) M else none := r_getP (ci := 4) (k := 0) (by decide +kernel : decode (mB 5) 1 = .ok (.getfield 9, 3)) (by decide +kernel) rfl
theorem t5_4 : rn 5 4 ls r M = rn 5 6 ls (.int (-6) :: r) M := r_nx (by decide +kernel : decode (mB 5) 4 = .ok (.bipush (-6), 2)) rfl rfl
theorem t5_6 : rn 5 6 ls [.int x, .ref a] M = cbn (cl 6 [.ref a, .int x] M) 5 9 ls [] := r_callS (kd := 2) (by decide +kernel : decode (mB 5) 6 = .ok (.invokestatic 21, 3)) (by decide +kernel) (by decide +kernel) ((doS_n np_6).trans rfl)
theorem t5_9 : rn 5 9 (some (.ref a) :: l) r M = rn 5 10 (some (.ref a) :: l) (.ref a :: r) M := r_aload_n (by decide +kernel : decode (mB 5) 9 = .ok (.aload_n 0, 1)) rfl
theorem t5_10 : rn 5 10 ls (.ref a :: r) M = if mK M a = (14, 0) then rn 5 13 ls (va_rf (mP M a 1) :: r) M else none := r_getP (ci := 4) (k := 1) (by decide +kernel : decode (mB 5) 10 = .ok (.getfield 15, 3)) (by decide +kernel) rfl
theorem t5_13 : rn 5 13 ls r M = rn 5 15 ls (.int (-6) :: r) M := r_nx (by decide +kernel : decode (mB 5) 13 = .ok (.bipush (-6), 2)) rfl rfl
theorem t5_15 : rn 5 15 ls [.int x, .ref a] M = cbn (cl 6 [.ref a, .int x] M) 5 18 ls [] := r_callS (kd := 2) (by decide +kernel : decode (mB 5) 15 = .ok (.invokestatic 21, 3)) (by decide +kernel) (by decide +kernel) ((doS_n np_6).trans rfl)
theorem t5_18 : rn 5 18 (some (.ref a) :: l) r M = rn 5 19 (some (.ref a) :: l) (.ref a :: r) M := r_aload_n (by decide +kernel : decode (mB 5) 18 = .ok (.aload_n 0, 1)) rfl
theorem t5_19 : rn 5 19 ls (.ref a :: r) M = if mK M a = (14, 0) then rn 5 22 ls (va_rf (mP M a 1) :: r) M else none := r_getP (ci := 4) (k := 1) (by decide +kernel : decode (mB 5) 19 = .ok (.getfield 15, 3)) (by decide +kernel) rfl
theorem t5_22 : rn 5 22 ls r M = rn 5 23 ls (.int 0 :: r) M := r_nx (by decide +kernel : decode (mB 5) 22 = .ok (.iconst 0, 1)) rfl rfl
theorem t5_23 : rn 5 23 ls r M = rn 5 24 ls (.int 0 :: r) M := r_nx (by decide +kernel : decode (mB 5) 23 = .ok (.iconst 0, 1)) rfl rfl
theorem t5_24 : rn 5 24 ls (.int y :: .int x :: .ref a :: r) M = if (mK M a).1 = 1 ∧ inR x (mK M a).2 then rn 5 25 ls r (sI M a (va_up (mI M a) x.toNatClampNeg y)) else none := r_cnd (by decide +kernel : decode (mB 5) 24 = .ok (.iastore, 1)) rfl rfl
theorem t5_25 : rn 5 25 ls [] M = some (none, M) := r_vreturn (by decide +kernel : decode (mB 5) 25 = .ok (.return_, 1)) rfl
-- 7 Replay_clear()V
theorem t7_0 : rn 7 0 (some (.ref a) :: l) r M = rn 7 1 (some (.ref a) :: l) (.ref a :: r) M := r_aload_n (by decide +kernel : decode (mB 7) 0 = .ok (.aload_n 0, 1)) rfl
theorem t7_1 : rn 7 1 ls r M = rn 7 2 ls (.long 0 :: r) M := r_nx (by decide +kernel : decode (mB 7) 1 = .ok (.lconst 0, 1)) rfl rfl
theorem t7_2 : rn 7 2 ls (.long u :: .ref a :: r) M = if mK M a = (13, 0) then rn 7 5 ls r (sJ M a (va_up (mJ M a) 0 u)) else none := r_putJ (ci := 3) (k := 0) (by decide +kernel : decode (mB 7) 2 = .ok (.putfield 28, 3)) (by decide +kernel) rfl rfl
theorem t7_5 : rn 7 5 (some (.ref a) :: l) r M = rn 7 6 (some (.ref a) :: l) (.ref a :: r) M := r_aload_n (by decide +kernel : decode (mB 7) 5 = .ok (.aload_n 0, 1)) rfl
theorem t7_6 : rn 7 6 ls r M = rn 7 7 ls (.long 0 :: r) M := r_nx (by decide +kernel : decode (mB 7) 6 = .ok (.lconst 0, 1)) rfl rfl
theorem t7_7 : rn 7 7 ls (.long u :: .ref a :: r) M = if mK M a = (13, 0) then rn 7 10 ls r (sJ M a (va_up (mJ M a) 1 u)) else none := r_putJ (ci := 3) (k := 1) (by decide +kernel : decode (mB 7) 7 = .ok (.putfield 32, 3)) (by decide +kernel) rfl rfl
theorem t7_10 : rn 7 10 (some (.ref a) :: l) r M = rn 7 11 (some (.ref a) :: l) (.ref a :: r) M := r_aload_n (by decide +kernel : decode (mB 7) 10 = .ok (.aload_n 0, 1)) rfl
theorem t7_11 : rn 7 11 ls r M = rn 7 12 ls (.int 0 :: r) M := r_nx (by decide +kernel : decode (mB 7) 11 = .ok (.iconst 0, 1)) rfl rfl
theorem t7_12 : rn 7 12 ls (.int x :: .ref a :: r) M = if mK M a = (13, 0) then rn 7 15 ls r (sI M a (va_up (mI M a) 2 x)) else none := r_putI (ci := 3) (k := 2) (by decide +kernel : decode (mB 7) 12 = .ok (.putfield 35, 3)) (by decide +kernel) rfl rfl
theorem t7_15 : rn 7 15 (some (.ref a) :: l) r M = rn 7 16 (some (.ref a) :: l) (.ref a :: r) M := r_aload_n (by decide +kernel : decode (mB 7) 15 = .ok (.aload_n 0, 1)) rfl
theorem t7_16 : rn 7 16 ls r M = rn 7 17 ls (.int 0 :: r) M := r_nx (by decide +kernel : decode (mB 7) 16 = .ok (.iconst 0, 1)) rfl rfl
theorem t7_17 : rn 7 17 ls (.int x :: .ref a :: r) M = if mK M a = (13, 0) then rn 7 20 ls r (sI M a (va_up (mI M a) 3 x)) else none := r_putI (ci := 3) (k := 3) (by decide +kernel : decode (mB 7) 17 = .ok (.putfield 39, 3)) (by decide +kernel) rfl rfl
theorem t7_20 : rn 7 20 (some (.ref a) :: l) r M = rn 7 21 (some (.ref a) :: l) (.ref a :: r) M := r_aload_n (by decide +kernel : decode (mB 7) 20 = .ok (.aload_n 0, 1)) rfl
theorem t7_21 : rn 7 21 ls (.ref a :: r) M = if mK M a = (13, 0) then rn 7 24 ls (va_rf (mP M a 4) :: r) M else none := r_getP (ci := 3) (k := 4) (by decide +kernel : decode (mB 7) 21 = .ok (.getfield 9, 3)) (by decide +kernel) rfl
theorem t7_24 : rn 7 24 ls r M = rn 7 26 ls (.int (-6) :: r) M := r_nx (by decide +kernel : decode (mB 7) 24 = .ok (.bipush (-6), 2)) rfl rfl
theorem t7_26 : rn 7 26 ls [.int x, .ref a] M = cbn (cl 6 [.ref a, .int x] M) 7 29 ls [] := r_callS (kd := 2) (by decide +kernel : decode (mB 7) 26 = .ok (.invokestatic 42, 3)) (by decide +kernel) (by decide +kernel) ((doS_n np_6).trans rfl)
theorem t7_29 : rn 7 29 (some (.ref a) :: l) r M = rn 7 30 (some (.ref a) :: l) (.ref a :: r) M := r_aload_n (by decide +kernel : decode (mB 7) 29 = .ok (.aload_n 0, 1)) rfl
theorem t7_30 : rn 7 30 ls (.ref a :: r) M = if mK M a = (13, 0) then rn 7 33 ls (va_rf (mP M a 5) :: r) M else none := r_getP (ci := 3) (k := 5) (by decide +kernel : decode (mB 7) 30 = .ok (.getfield 15, 3)) (by decide +kernel) rfl
theorem t7_33 : rn 7 33 ls r M = rn 7 35 ls (.int (-6) :: r) M := r_nx (by decide +kernel : decode (mB 7) 33 = .ok (.bipush (-6), 2)) rfl rfl
theorem t7_35 : rn 7 35 ls [.int x, .ref a] M = cbn (cl 6 [.ref a, .int x] M) 7 38 ls [] := r_callS (kd := 2) (by decide +kernel : decode (mB 7) 35 = .ok (.invokestatic 42, 3)) (by decide +kernel) (by decide +kernel) ((doS_n np_6).trans rfl)
theorem t7_38 : rn 7 38 (some (.ref a) :: l) r M = rn 7 39 (some (.ref a) :: l) (.ref a :: r) M := r_aload_n (by decide +kernel : decode (mB 7) 38 = .ok (.aload_n 0, 1)) rfl
theorem t7_39 : rn 7 39 ls (.ref a :: r) M = if mK M a = (13, 0) then rn 7 42 ls (va_rf (mP M a 6) :: r) M else none := r_getP (ci := 3) (k := 6) (by decide +kernel : decode (mB 7) 39 = .ok (.getfield 21, 3)) (by decide +kernel) rfl
theorem t7_42 : rn 7 42 ls [.ref a] M = if mK M a = (14, 0) then cbn (cl 5 [.ref a] M) 7 45 ls [] else none := r_callV (kd := 0) (by decide +kernel : decode (mB 7) 42 = .ok (.invokevirtual 48, 3)) (by decide +kernel) ((doV_n np_5).trans rfl)
theorem t7_45 : rn 7 45 ls [] M = some (none, M) := r_vreturn (by decide +kernel : decode (mB 7) 45 = .ok (.return_, 1)) rfl
-- 13 History_prepare(LDependentReplay$State;)V
theorem t13_0 : rn 13 0 (some (.ref a) :: l) r M = rn 13 1 (some (.ref a) :: l) (.ref a :: r) M := r_aload_n (by decide +kernel : decode (mB 13) 0 = .ok (.aload_n 0, 1)) rfl
theorem t13_1 : rn 13 1 ls (.ref a :: r) M = if mK M a = (15, 0) then rn 13 4 ls (va_rf (mP M a 0) :: r) M else none := r_getP (ci := 5) (k := 0) (by decide +kernel : decode (mB 13) 1 = .ok (.getfield 13, 3)) (by decide +kernel) rfl
theorem t13_4 : rn 13 4 (some (.ref a) :: l) r M = rn 13 5 (some (.ref a) :: l) (.ref a :: r) M := r_aload_n (by decide +kernel : decode (mB 13) 4 = .ok (.aload_n 0, 1)) rfl
theorem t13_5 : rn 13 5 ls (.ref a :: r) M = if mK M a = (15, 0) then rn 13 8 ls (.int (mI M a 1) :: r) M else none := r_getI (ci := 5) (k := 1) (by decide +kernel : decode (mB 13) 5 = .ok (.getfield 18, 3)) (by decide +kernel) (Or.inl rfl)
theorem t13_8 : rn 13 8 ls (.int x :: .ref a :: r) M = if ((mK M a).1 = 3 ∨ (mK M a).1 = 4) ∧ inR x (mK M a).2 then rn 13 9 ls (va_rf (mP M a x.toNatClampNeg) :: r) M else none := r_cnd (by decide +kernel : decode (mB 13) 8 = .ok (.aaload, 1)) rfl rfl
theorem t13_9 : rn 13 9 (a0 :: some (.ref a) :: l) r M = rn 13 10 (a0 :: some (.ref a) :: l) (.ref a :: r) M := r_aload_n (by decide +kernel : decode (mB 13) 9 = .ok (.aload_n 1, 1)) rfl
theorem t13_10 : rn 13 10 ls [.ref a, .ref b] M = if mK M b = (11, 0) then cbn (cl 14 [.ref b, .ref a] M) 13 13 ls [] else none := r_callV (kd := 0) (by decide +kernel : decode (mB 13) 10 = .ok (.invokevirtual 22, 3)) (by decide +kernel) ((doV_n np_14).trans rfl)
theorem t13_13 : rn 13 13 ls [] M = some (none, M) := r_vreturn (by decide +kernel : decode (mB 13) 13 = .ok (.return_, 1)) rfl
-- 14 State_copyFrom(LDependentReplay$State;)V
theorem t14_0 : rn 14 0 (some (.ref a) :: l) r M = rn 14 1 (some (.ref a) :: l) (.ref a :: r) M := r_aload_n (by decide +kernel : decode (mB 14) 0 = .ok (.aload_n 0, 1)) rfl
theorem t14_1 : rn 14 1 ls (.ref a :: r) M = if mK M a = (11, 0) then rn 14 4 ls (va_rf (mP M a 0) :: r) M else none := r_getP (ci := 1) (k := 0) (by decide +kernel : decode (mB 14) 1 = .ok (.getfield 12, 3)) (by decide +kernel) rfl
theorem t14_4 : rn 14 4 (a0 :: some (.ref a) :: l) r M = rn 14 5 (a0 :: some (.ref a) :: l) (.ref a :: r) M := r_aload_n (by decide +kernel : decode (mB 14) 4 = .ok (.aload_n 1, 1)) rfl
theorem t14_5 : rn 14 5 ls (.ref a :: r) M = if mK M a = (11, 0) then rn 14 8 ls (va_rf (mP M a 0) :: r) M else none := r_getP (ci := 1) (k := 0) (by decide +kernel : decode (mB 14) 5 = .ok (.getfield 12, 3)) (by decide +kernel) rfl
theorem t14_8 : rn 14 8 ls [.ref a, .ref b] M = if mK M b = (12, 0) then cbn (cl 15 [.ref b, .ref a] M) 14 11 ls [] else none := r_callV (kd := 0) (by decide +kernel : decode (mB 14) 8 = .ok (.invokevirtual 25, 3)) (by decide +kernel) ((doV_n np_15).trans rfl)
theorem t14_11 : rn 14 11 (some (.ref a) :: l) r M = rn 14 12 (some (.ref a) :: l) (.ref a :: r) M := r_aload_n (by decide +kernel : decode (mB 14) 11 = .ok (.aload_n 0, 1)) rfl
theorem t14_12 : rn 14 12 ls (.ref a :: r) M = if mK M a = (11, 0) then rn 14 15 ls (va_rf (mP M a 1) :: r) M else none := r_getP (ci := 1) (k := 1) (by decide +kernel : decode (mB 14) 12 = .ok (.getfield 21, 3)) (by decide +kernel) rfl
theorem t14_15 : rn 14 15 (a0 :: some (.ref a) :: l) r M = rn 14 16 (a0 :: some (.ref a) :: l) (.ref a :: r) M := r_aload_n (by decide +kernel : decode (mB 14) 15 = .ok (.aload_n 1, 1)) rfl
theorem t14_16 : rn 14 16 ls (.ref a :: r) M = if mK M a = (11, 0) then rn 14 19 ls (va_rf (mP M a 1) :: r) M else none := r_getP (ci := 1) (k := 1) (by decide +kernel : decode (mB 14) 16 = .ok (.getfield 21, 3)) (by decide +kernel) rfl
theorem t14_19 : rn 14 19 ls [.ref a, .ref b] M = if mK M b = (13, 0) then cbn (cl 16 [.ref b, .ref a] M) 14 22 ls [] else none := r_callV (kd := 0) (by decide +kernel : decode (mB 14) 19 = .ok (.invokevirtual 29, 3)) (by decide +kernel) ((doV_n np_16).trans rfl)
theorem t14_22 : rn 14 22 ls [] M = some (none, M) := r_vreturn (by decide +kernel : decode (mB 14) 22 = .ok (.return_, 1)) rfl
-- 15 Log_copyFrom(LDependentReplay$Log;)V
theorem t15_0 : rn 15 0 (some (.ref a) :: l) r M = rn 15 1 (some (.ref a) :: l) (.ref a :: r) M := r_aload_n (by decide +kernel : decode (mB 15) 0 = .ok (.aload_n 0, 1)) rfl
theorem t15_1 : rn 15 1 (a0 :: some (.ref a) :: l) r M = rn 15 2 (a0 :: some (.ref a) :: l) (.ref a :: r) M := r_aload_n (by decide +kernel : decode (mB 15) 1 = .ok (.aload_n 1, 1)) rfl
theorem t15_2 : rn 15 2 ls (.ref a :: r) M = if mK M a = (12, 0) then rn 15 5 ls (.int (mI M a 0) :: r) M else none := r_getI (ci := 2) (k := 0) (by decide +kernel : decode (mB 15) 2 = .ok (.getfield 28, 3)) (by decide +kernel) (Or.inl rfl)
theorem t15_5 : rn 15 5 ls (.int x :: .ref a :: r) M = if mK M a = (12, 0) then rn 15 8 ls r (sI M a (va_up (mI M a) 0 x)) else none := r_putI (ci := 2) (k := 0) (by decide +kernel : decode (mB 15) 5 = .ok (.putfield 28, 3)) (by decide +kernel) rfl rfl
theorem t15_8 : rn 15 8 (some (.ref a) :: l) r M = rn 15 9 (some (.ref a) :: l) (.ref a :: r) M := r_aload_n (by decide +kernel : decode (mB 15) 8 = .ok (.aload_n 0, 1)) rfl
theorem t15_9 : rn 15 9 (a0 :: some (.ref a) :: l) r M = rn 15 10 (a0 :: some (.ref a) :: l) (.ref a :: r) M := r_aload_n (by decide +kernel : decode (mB 15) 9 = .ok (.aload_n 1, 1)) rfl
theorem t15_10 : rn 15 10 ls (.ref a :: r) M = if mK M a = (12, 0) then rn 15 13 ls (.long (mJ M a 1) :: r) M else none := r_getJ (ci := 2) (k := 1) (by decide +kernel : decode (mB 15) 10 = .ok (.getfield 32, 3)) (by decide +kernel) rfl
theorem t15_13 : rn 15 13 ls (.long u :: .ref a :: r) M = if mK M a = (12, 0) then rn 15 16 ls r (sJ M a (va_up (mJ M a) 1 u)) else none := r_putJ (ci := 2) (k := 1) (by decide +kernel : decode (mB 15) 13 = .ok (.putfield 32, 3)) (by decide +kernel) rfl rfl
theorem t15_16 : rn 15 16 (a0 :: some (.ref a) :: l) r M = rn 15 17 (a0 :: some (.ref a) :: l) (.ref a :: r) M := r_aload_n (by decide +kernel : decode (mB 15) 16 = .ok (.aload_n 1, 1)) rfl
theorem t15_17 : rn 15 17 ls (.ref a :: r) M = if mK M a = (12, 0) then rn 15 20 ls (va_rf (mP M a 2) :: r) M else none := r_getP (ci := 2) (k := 2) (by decide +kernel : decode (mB 15) 17 = .ok (.getfield 9, 3)) (by decide +kernel) rfl
theorem t15_20 : rn 15 20 ls r M = rn 15 21 ls (.int 0 :: r) M := r_nx (by decide +kernel : decode (mB 15) 20 = .ok (.iconst 0, 1)) rfl rfl
theorem t15_21 : rn 15 21 (some (.ref a) :: l) r M = rn 15 22 (some (.ref a) :: l) (.ref a :: r) M := r_aload_n (by decide +kernel : decode (mB 15) 21 = .ok (.aload_n 0, 1)) rfl
theorem t15_22 : rn 15 22 ls (.ref a :: r) M = if mK M a = (12, 0) then rn 15 25 ls (va_rf (mP M a 2) :: r) M else none := r_getP (ci := 2) (k := 2) (by decide +kernel : decode (mB 15) 22 = .ok (.getfield 9, 3)) (by decide +kernel) rfl
theorem t15_25 : rn 15 25 ls r M = rn 15 26 ls (.int 0 :: r) M := r_nx (by decide +kernel : decode (mB 15) 25 = .ok (.iconst 0, 1)) rfl rfl
theorem t15_26 : rn 15 26 ls r M = rn 15 28 ls (.int 40 :: r) M := r_nx (by decide +kernel : decode (mB 15) 26 = .ok (.bipush 40, 2)) rfl rfl
theorem t15_28 : rn 15 28 ls [.int z, .int y, .ref a, .int x, .ref b] M = if (¬ x < 0 ∧ ¬ y < 0 ∧ ¬ z < 0) ∧ x.toNatClampNeg + z.toNatClampNeg ≤ (mK M b).2 ∧ y.toNatClampNeg + z.toNatClampNeg ≤ (mK M a).2 then (if (mK M a).1 = 1 ∧ (mK M b).1 = 1 then rn 15 31 ls [] (sI M a (va_cpy (mI M b) (mI M a) x.toNatClampNeg y.toNatClampNeg z.toNatClampNeg)) else if (mK M a).1 = 2 ∧ (mK M b).1 = 2 then rn 15 31 ls [] (sJ M a (va_cpy (mJ M b) (mJ M a) x.toNatClampNeg y.toNatClampNeg z.toNatClampNeg)) else none) else none := r_cpy (by decide +kernel : decode (mB 15) 28 = .ok (.invokestatic 36, 3)) (by decide +kernel) rfl
theorem t15_31 : rn 15 31 (a0 :: some (.ref a) :: l) r M = rn 15 32 (a0 :: some (.ref a) :: l) (.ref a :: r) M := r_aload_n (by decide +kernel : decode (mB 15) 31 = .ok (.aload_n 1, 1)) rfl
theorem t15_32 : rn 15 32 ls (.ref a :: r) M = if mK M a = (12, 0) then rn 15 35 ls (va_rf (mP M a 3) :: r) M else none := r_getP (ci := 2) (k := 3) (by decide +kernel : decode (mB 15) 32 = .ok (.getfield 15, 3)) (by decide +kernel) rfl
theorem t15_35 : rn 15 35 ls r M = rn 15 36 ls (.int 0 :: r) M := r_nx (by decide +kernel : decode (mB 15) 35 = .ok (.iconst 0, 1)) rfl rfl
theorem t15_36 : rn 15 36 (some (.ref a) :: l) r M = rn 15 37 (some (.ref a) :: l) (.ref a :: r) M := r_aload_n (by decide +kernel : decode (mB 15) 36 = .ok (.aload_n 0, 1)) rfl
theorem t15_37 : rn 15 37 ls (.ref a :: r) M = if mK M a = (12, 0) then rn 15 40 ls (va_rf (mP M a 3) :: r) M else none := r_getP (ci := 2) (k := 3) (by decide +kernel : decode (mB 15) 37 = .ok (.getfield 15, 3)) (by decide +kernel) rfl
theorem t15_40 : rn 15 40 ls r M = rn 15 41 ls (.int 0 :: r) M := r_nx (by decide +kernel : decode (mB 15) 40 = .ok (.iconst 0, 1)) rfl rfl
theorem t15_41 : rn 15 41 ls r M = rn 15 43 ls (.int 40 :: r) M := r_nx (by decide +kernel : decode (mB 15) 41 = .ok (.bipush 40, 2)) rfl rfl
theorem t15_43 : rn 15 43 ls [.int z, .int y, .ref a, .int x, .ref b] M = if (¬ x < 0 ∧ ¬ y < 0 ∧ ¬ z < 0) ∧ x.toNatClampNeg + z.toNatClampNeg ≤ (mK M b).2 ∧ y.toNatClampNeg + z.toNatClampNeg ≤ (mK M a).2 then (if (mK M a).1 = 1 ∧ (mK M b).1 = 1 then rn 15 46 ls [] (sI M a (va_cpy (mI M b) (mI M a) x.toNatClampNeg y.toNatClampNeg z.toNatClampNeg)) else if (mK M a).1 = 2 ∧ (mK M b).1 = 2 then rn 15 46 ls [] (sJ M a (va_cpy (mJ M b) (mJ M a) x.toNatClampNeg y.toNatClampNeg z.toNatClampNeg)) else none) else none := r_cpy (by decide +kernel : decode (mB 15) 43 = .ok (.invokestatic 36, 3)) (by decide +kernel) rfl
theorem t15_46 : rn 15 46 (a0 :: some (.ref a) :: l) r M = rn 15 47 (a0 :: some (.ref a) :: l) (.ref a :: r) M := r_aload_n (by decide +kernel : decode (mB 15) 46 = .ok (.aload_n 1, 1)) rfl
theorem t15_47 : rn 15 47 ls (.ref a :: r) M = if mK M a = (12, 0) then rn 15 50 ls (va_rf (mP M a 4) :: r) M else none := r_getP (ci := 2) (k := 4) (by decide +kernel : decode (mB 15) 47 = .ok (.getfield 18, 3)) (by decide +kernel) rfl
theorem t15_50 : rn 15 50 ls r M = rn 15 51 ls (.int 0 :: r) M := r_nx (by decide +kernel : decode (mB 15) 50 = .ok (.iconst 0, 1)) rfl rfl
theorem t15_51 : rn 15 51 (some (.ref a) :: l) r M = rn 15 52 (some (.ref a) :: l) (.ref a :: r) M := r_aload_n (by decide +kernel : decode (mB 15) 51 = .ok (.aload_n 0, 1)) rfl
theorem t15_52 : rn 15 52 ls (.ref a :: r) M = if mK M a = (12, 0) then rn 15 55 ls (va_rf (mP M a 4) :: r) M else none := r_getP (ci := 2) (k := 4) (by decide +kernel : decode (mB 15) 52 = .ok (.getfield 18, 3)) (by decide +kernel) rfl
theorem t15_55 : rn 15 55 ls r M = rn 15 56 ls (.int 0 :: r) M := r_nx (by decide +kernel : decode (mB 15) 55 = .ok (.iconst 0, 1)) rfl rfl
theorem t15_56 : rn 15 56 ls r M = rn 15 58 ls (.int 40 :: r) M := r_nx (by decide +kernel : decode (mB 15) 56 = .ok (.bipush 40, 2)) rfl rfl
theorem t15_58 : rn 15 58 ls [.int z, .int y, .ref a, .int x, .ref b] M = if (¬ x < 0 ∧ ¬ y < 0 ∧ ¬ z < 0) ∧ x.toNatClampNeg + z.toNatClampNeg ≤ (mK M b).2 ∧ y.toNatClampNeg + z.toNatClampNeg ≤ (mK M a).2 then (if (mK M a).1 = 1 ∧ (mK M b).1 = 1 then rn 15 61 ls [] (sI M a (va_cpy (mI M b) (mI M a) x.toNatClampNeg y.toNatClampNeg z.toNatClampNeg)) else if (mK M a).1 = 2 ∧ (mK M b).1 = 2 then rn 15 61 ls [] (sJ M a (va_cpy (mJ M b) (mJ M a) x.toNatClampNeg y.toNatClampNeg z.toNatClampNeg)) else none) else none := r_cpy (by decide +kernel : decode (mB 15) 58 = .ok (.invokestatic 36, 3)) (by decide +kernel) rfl
theorem t15_61 : rn 15 61 (a0 :: some (.ref a) :: l) r M = rn 15 62 (a0 :: some (.ref a) :: l) (.ref a :: r) M := r_aload_n (by decide +kernel : decode (mB 15) 61 = .ok (.aload_n 1, 1)) rfl
theorem t15_62 : rn 15 62 ls (.ref a :: r) M = if mK M a = (12, 0) then rn 15 65 ls (va_rf (mP M a 5) :: r) M else none := r_getP (ci := 2) (k := 5) (by decide +kernel : decode (mB 15) 62 = .ok (.getfield 21, 3)) (by decide +kernel) rfl
theorem t15_65 : rn 15 65 ls r M = rn 15 66 ls (.int 0 :: r) M := r_nx (by decide +kernel : decode (mB 15) 65 = .ok (.iconst 0, 1)) rfl rfl
theorem t15_66 : rn 15 66 (some (.ref a) :: l) r M = rn 15 67 (some (.ref a) :: l) (.ref a :: r) M := r_aload_n (by decide +kernel : decode (mB 15) 66 = .ok (.aload_n 0, 1)) rfl
theorem t15_67 : rn 15 67 ls (.ref a :: r) M = if mK M a = (12, 0) then rn 15 70 ls (va_rf (mP M a 5) :: r) M else none := r_getP (ci := 2) (k := 5) (by decide +kernel : decode (mB 15) 67 = .ok (.getfield 21, 3)) (by decide +kernel) rfl
theorem t15_70 : rn 15 70 ls r M = rn 15 71 ls (.int 0 :: r) M := r_nx (by decide +kernel : decode (mB 15) 70 = .ok (.iconst 0, 1)) rfl rfl
theorem t15_71 : rn 15 71 ls r M = rn 15 73 ls (.int 40 :: r) M := r_nx (by decide +kernel : decode (mB 15) 71 = .ok (.bipush 40, 2)) rfl rfl
theorem t15_73 : rn 15 73 ls [.int z, .int y, .ref a, .int x, .ref b] M = if (¬ x < 0 ∧ ¬ y < 0 ∧ ¬ z < 0) ∧ x.toNatClampNeg + z.toNatClampNeg ≤ (mK M b).2 ∧ y.toNatClampNeg + z.toNatClampNeg ≤ (mK M a).2 then (if (mK M a).1 = 1 ∧ (mK M b).1 = 1 then rn 15 76 ls [] (sI M a (va_cpy (mI M b) (mI M a) x.toNatClampNeg y.toNatClampNeg z.toNatClampNeg)) else if (mK M a).1 = 2 ∧ (mK M b).1 = 2 then rn 15 76 ls [] (sJ M a (va_cpy (mJ M b) (mJ M a) x.toNatClampNeg y.toNatClampNeg z.toNatClampNeg)) else none) else none := r_cpy (by decide +kernel : decode (mB 15) 73 = .ok (.invokestatic 36, 3)) (by decide +kernel) rfl
theorem t15_76 : rn 15 76 (a0 :: some (.ref a) :: l) r M = rn 15 77 (a0 :: some (.ref a) :: l) (.ref a :: r) M := r_aload_n (by decide +kernel : decode (mB 15) 76 = .ok (.aload_n 1, 1)) rfl
theorem t15_77 : rn 15 77 ls (.ref a :: r) M = if mK M a = (12, 0) then rn 15 80 ls (va_rf (mP M a 6) :: r) M else none := r_getP (ci := 2) (k := 6) (by decide +kernel : decode (mB 15) 77 = .ok (.getfield 25, 3)) (by decide +kernel) rfl
theorem t15_80 : rn 15 80 ls r M = rn 15 81 ls (.int 0 :: r) M := r_nx (by decide +kernel : decode (mB 15) 80 = .ok (.iconst 0, 1)) rfl rfl
theorem t15_81 : rn 15 81 (some (.ref a) :: l) r M = rn 15 82 (some (.ref a) :: l) (.ref a :: r) M := r_aload_n (by decide +kernel : decode (mB 15) 81 = .ok (.aload_n 0, 1)) rfl
theorem t15_82 : rn 15 82 ls (.ref a :: r) M = if mK M a = (12, 0) then rn 15 85 ls (va_rf (mP M a 6) :: r) M else none := r_getP (ci := 2) (k := 6) (by decide +kernel : decode (mB 15) 82 = .ok (.getfield 25, 3)) (by decide +kernel) rfl
theorem t15_85 : rn 15 85 ls r M = rn 15 86 ls (.int 0 :: r) M := r_nx (by decide +kernel : decode (mB 15) 85 = .ok (.iconst 0, 1)) rfl rfl
theorem t15_86 : rn 15 86 ls r M = rn 15 88 ls (.int 40 :: r) M := r_nx (by decide +kernel : decode (mB 15) 86 = .ok (.bipush 40, 2)) rfl rfl
theorem t15_88 : rn 15 88 ls [.int z, .int y, .ref a, .int x, .ref b] M = if (¬ x < 0 ∧ ¬ y < 0 ∧ ¬ z < 0) ∧ x.toNatClampNeg + z.toNatClampNeg ≤ (mK M b).2 ∧ y.toNatClampNeg + z.toNatClampNeg ≤ (mK M a).2 then (if (mK M a).1 = 1 ∧ (mK M b).1 = 1 then rn 15 91 ls [] (sI M a (va_cpy (mI M b) (mI M a) x.toNatClampNeg y.toNatClampNeg z.toNatClampNeg)) else if (mK M a).1 = 2 ∧ (mK M b).1 = 2 then rn 15 91 ls [] (sJ M a (va_cpy (mJ M b) (mJ M a) x.toNatClampNeg y.toNatClampNeg z.toNatClampNeg)) else none) else none := r_cpy (by decide +kernel : decode (mB 15) 88 = .ok (.invokestatic 36, 3)) (by decide +kernel) rfl
theorem t15_91 : rn 15 91 ls [] M = some (none, M) := r_vreturn (by decide +kernel : decode (mB 15) 91 = .ok (.return_, 1)) rfl
-- 16 Replay_copyFrom(LDependentReplay$Replay;)V
theorem t16_0 : rn 16 0 (some (.ref a) :: l) r M = rn 16 1 (some (.ref a) :: l) (.ref a :: r) M := r_aload_n (by decide +kernel : decode (mB 16) 0 = .ok (.aload_n 0, 1)) rfl
theorem t16_1 : rn 16 1 (a0 :: some (.ref a) :: l) r M = rn 16 2 (a0 :: some (.ref a) :: l) (.ref a :: r) M := r_aload_n (by decide +kernel : decode (mB 16) 1 = .ok (.aload_n 1, 1)) rfl
theorem t16_2 : rn 16 2 ls (.ref a :: r) M = if mK M a = (13, 0) then rn 16 5 ls (.long (mJ M a 0) :: r) M else none := r_getJ (ci := 3) (k := 0) (by decide +kernel : decode (mB 16) 2 = .ok (.getfield 28, 3)) (by decide +kernel) rfl
theorem t16_5 : rn 16 5 ls (.long u :: .ref a :: r) M = if mK M a = (13, 0) then rn 16 8 ls r (sJ M a (va_up (mJ M a) 0 u)) else none := r_putJ (ci := 3) (k := 0) (by decide +kernel : decode (mB 16) 5 = .ok (.putfield 28, 3)) (by decide +kernel) rfl rfl
theorem t16_8 : rn 16 8 (some (.ref a) :: l) r M = rn 16 9 (some (.ref a) :: l) (.ref a :: r) M := r_aload_n (by decide +kernel : decode (mB 16) 8 = .ok (.aload_n 0, 1)) rfl
theorem t16_9 : rn 16 9 (a0 :: some (.ref a) :: l) r M = rn 16 10 (a0 :: some (.ref a) :: l) (.ref a :: r) M := r_aload_n (by decide +kernel : decode (mB 16) 9 = .ok (.aload_n 1, 1)) rfl
theorem t16_10 : rn 16 10 ls (.ref a :: r) M = if mK M a = (13, 0) then rn 16 13 ls (.long (mJ M a 1) :: r) M else none := r_getJ (ci := 3) (k := 1) (by decide +kernel : decode (mB 16) 10 = .ok (.getfield 32, 3)) (by decide +kernel) rfl
theorem t16_13 : rn 16 13 ls (.long u :: .ref a :: r) M = if mK M a = (13, 0) then rn 16 16 ls r (sJ M a (va_up (mJ M a) 1 u)) else none := r_putJ (ci := 3) (k := 1) (by decide +kernel : decode (mB 16) 13 = .ok (.putfield 32, 3)) (by decide +kernel) rfl rfl
theorem t16_16 : rn 16 16 (some (.ref a) :: l) r M = rn 16 17 (some (.ref a) :: l) (.ref a :: r) M := r_aload_n (by decide +kernel : decode (mB 16) 16 = .ok (.aload_n 0, 1)) rfl
theorem t16_17 : rn 16 17 (a0 :: some (.ref a) :: l) r M = rn 16 18 (a0 :: some (.ref a) :: l) (.ref a :: r) M := r_aload_n (by decide +kernel : decode (mB 16) 17 = .ok (.aload_n 1, 1)) rfl
theorem t16_18 : rn 16 18 ls (.ref a :: r) M = if mK M a = (13, 0) then rn 16 21 ls (.int (mI M a 2) :: r) M else none := r_getI (ci := 3) (k := 2) (by decide +kernel : decode (mB 16) 18 = .ok (.getfield 35, 3)) (by decide +kernel) (Or.inl rfl)
theorem t16_21 : rn 16 21 ls (.int x :: .ref a :: r) M = if mK M a = (13, 0) then rn 16 24 ls r (sI M a (va_up (mI M a) 2 x)) else none := r_putI (ci := 3) (k := 2) (by decide +kernel : decode (mB 16) 21 = .ok (.putfield 35, 3)) (by decide +kernel) rfl rfl
theorem t16_24 : rn 16 24 (some (.ref a) :: l) r M = rn 16 25 (some (.ref a) :: l) (.ref a :: r) M := r_aload_n (by decide +kernel : decode (mB 16) 24 = .ok (.aload_n 0, 1)) rfl
theorem t16_25 : rn 16 25 (a0 :: some (.ref a) :: l) r M = rn 16 26 (a0 :: some (.ref a) :: l) (.ref a :: r) M := r_aload_n (by decide +kernel : decode (mB 16) 25 = .ok (.aload_n 1, 1)) rfl
theorem t16_26 : rn 16 26 ls (.ref a :: r) M = if mK M a = (13, 0) then rn 16 29 ls (.int (mI M a 3) :: r) M else none := r_getI (ci := 3) (k := 3) (by decide +kernel : decode (mB 16) 26 = .ok (.getfield 39, 3)) (by decide +kernel) (Or.inl rfl)
theorem t16_29 : rn 16 29 ls (.int x :: .ref a :: r) M = if mK M a = (13, 0) then rn 16 32 ls r (sI M a (va_up (mI M a) 3 x)) else none := r_putI (ci := 3) (k := 3) (by decide +kernel : decode (mB 16) 29 = .ok (.putfield 39, 3)) (by decide +kernel) rfl rfl
theorem t16_32 : rn 16 32 (a0 :: some (.ref a) :: l) r M = rn 16 33 (a0 :: some (.ref a) :: l) (.ref a :: r) M := r_aload_n (by decide +kernel : decode (mB 16) 32 = .ok (.aload_n 1, 1)) rfl
theorem t16_33 : rn 16 33 ls (.ref a :: r) M = if mK M a = (13, 0) then rn 16 36 ls (va_rf (mP M a 4) :: r) M else none := r_getP (ci := 3) (k := 4) (by decide +kernel : decode (mB 16) 33 = .ok (.getfield 9, 3)) (by decide +kernel) rfl
theorem t16_36 : rn 16 36 ls r M = rn 16 37 ls (.int 0 :: r) M := r_nx (by decide +kernel : decode (mB 16) 36 = .ok (.iconst 0, 1)) rfl rfl
theorem t16_37 : rn 16 37 (some (.ref a) :: l) r M = rn 16 38 (some (.ref a) :: l) (.ref a :: r) M := r_aload_n (by decide +kernel : decode (mB 16) 37 = .ok (.aload_n 0, 1)) rfl
theorem t16_38 : rn 16 38 ls (.ref a :: r) M = if mK M a = (13, 0) then rn 16 41 ls (va_rf (mP M a 4) :: r) M else none := r_getP (ci := 3) (k := 4) (by decide +kernel : decode (mB 16) 38 = .ok (.getfield 9, 3)) (by decide +kernel) rfl
theorem t16_41 : rn 16 41 ls r M = rn 16 42 ls (.int 0 :: r) M := r_nx (by decide +kernel : decode (mB 16) 41 = .ok (.iconst 0, 1)) rfl rfl
theorem t16_42 : rn 16 42 ls r M = rn 16 44 ls (.int 40 :: r) M := r_nx (by decide +kernel : decode (mB 16) 42 = .ok (.bipush 40, 2)) rfl rfl
theorem t16_44 : rn 16 44 ls [.int z, .int y, .ref a, .int x, .ref b] M = if (¬ x < 0 ∧ ¬ y < 0 ∧ ¬ z < 0) ∧ x.toNatClampNeg + z.toNatClampNeg ≤ (mK M b).2 ∧ y.toNatClampNeg + z.toNatClampNeg ≤ (mK M a).2 then (if (mK M a).1 = 1 ∧ (mK M b).1 = 1 then rn 16 47 ls [] (sI M a (va_cpy (mI M b) (mI M a) x.toNatClampNeg y.toNatClampNeg z.toNatClampNeg)) else if (mK M a).1 = 2 ∧ (mK M b).1 = 2 then rn 16 47 ls [] (sJ M a (va_cpy (mJ M b) (mJ M a) x.toNatClampNeg y.toNatClampNeg z.toNatClampNeg)) else none) else none := r_cpy (by decide +kernel : decode (mB 16) 44 = .ok (.invokestatic 49, 3)) (by decide +kernel) rfl
theorem t16_47 : rn 16 47 (a0 :: some (.ref a) :: l) r M = rn 16 48 (a0 :: some (.ref a) :: l) (.ref a :: r) M := r_aload_n (by decide +kernel : decode (mB 16) 47 = .ok (.aload_n 1, 1)) rfl
theorem t16_48 : rn 16 48 ls (.ref a :: r) M = if mK M a = (13, 0) then rn 16 51 ls (va_rf (mP M a 5) :: r) M else none := r_getP (ci := 3) (k := 5) (by decide +kernel : decode (mB 16) 48 = .ok (.getfield 15, 3)) (by decide +kernel) rfl
theorem t16_51 : rn 16 51 ls r M = rn 16 52 ls (.int 0 :: r) M := r_nx (by decide +kernel : decode (mB 16) 51 = .ok (.iconst 0, 1)) rfl rfl
theorem t16_52 : rn 16 52 (some (.ref a) :: l) r M = rn 16 53 (some (.ref a) :: l) (.ref a :: r) M := r_aload_n (by decide +kernel : decode (mB 16) 52 = .ok (.aload_n 0, 1)) rfl
theorem t16_53 : rn 16 53 ls (.ref a :: r) M = if mK M a = (13, 0) then rn 16 56 ls (va_rf (mP M a 5) :: r) M else none := r_getP (ci := 3) (k := 5) (by decide +kernel : decode (mB 16) 53 = .ok (.getfield 15, 3)) (by decide +kernel) rfl
theorem t16_56 : rn 16 56 ls r M = rn 16 57 ls (.int 0 :: r) M := r_nx (by decide +kernel : decode (mB 16) 56 = .ok (.iconst 0, 1)) rfl rfl
theorem t16_57 : rn 16 57 ls r M = rn 16 59 ls (.int 40 :: r) M := r_nx (by decide +kernel : decode (mB 16) 57 = .ok (.bipush 40, 2)) rfl rfl
theorem t16_59 : rn 16 59 ls [.int z, .int y, .ref a, .int x, .ref b] M = if (¬ x < 0 ∧ ¬ y < 0 ∧ ¬ z < 0) ∧ x.toNatClampNeg + z.toNatClampNeg ≤ (mK M b).2 ∧ y.toNatClampNeg + z.toNatClampNeg ≤ (mK M a).2 then (if (mK M a).1 = 1 ∧ (mK M b).1 = 1 then rn 16 62 ls [] (sI M a (va_cpy (mI M b) (mI M a) x.toNatClampNeg y.toNatClampNeg z.toNatClampNeg)) else if (mK M a).1 = 2 ∧ (mK M b).1 = 2 then rn 16 62 ls [] (sJ M a (va_cpy (mJ M b) (mJ M a) x.toNatClampNeg y.toNatClampNeg z.toNatClampNeg)) else none) else none := r_cpy (by decide +kernel : decode (mB 16) 59 = .ok (.invokestatic 49, 3)) (by decide +kernel) rfl
theorem t16_62 : rn 16 62 (some (.ref a) :: l) r M = rn 16 63 (some (.ref a) :: l) (.ref a :: r) M := r_aload_n (by decide +kernel : decode (mB 16) 62 = .ok (.aload_n 0, 1)) rfl
theorem t16_63 : rn 16 63 ls (.ref a :: r) M = if mK M a = (13, 0) then rn 16 66 ls (va_rf (mP M a 6) :: r) M else none := r_getP (ci := 3) (k := 6) (by decide +kernel : decode (mB 16) 63 = .ok (.getfield 21, 3)) (by decide +kernel) rfl
theorem t16_66 : rn 16 66 (a0 :: some (.ref a) :: l) r M = rn 16 67 (a0 :: some (.ref a) :: l) (.ref a :: r) M := r_aload_n (by decide +kernel : decode (mB 16) 66 = .ok (.aload_n 1, 1)) rfl
theorem t16_67 : rn 16 67 ls (.ref a :: r) M = if mK M a = (13, 0) then rn 16 70 ls (va_rf (mP M a 6) :: r) M else none := r_getP (ci := 3) (k := 6) (by decide +kernel : decode (mB 16) 67 = .ok (.getfield 21, 3)) (by decide +kernel) rfl
theorem t16_70 : rn 16 70 ls [.ref a, .ref b] M = if mK M b = (14, 0) then cbn (cl 17 [.ref b, .ref a] M) 16 73 ls [] else none := r_callV (kd := 0) (by decide +kernel : decode (mB 16) 70 = .ok (.invokevirtual 55, 3)) (by decide +kernel) ((doV_n np_17).trans rfl)
theorem t16_73 : rn 16 73 ls [] M = some (none, M) := r_vreturn (by decide +kernel : decode (mB 16) 73 = .ok (.return_, 1)) rfl
-- 17 Tree_copyFrom(LDependentReplay$Tree;)V
theorem t17_0 : rn 17 0 (a0 :: some (.ref a) :: l) r M = rn 17 1 (a0 :: some (.ref a) :: l) (.ref a :: r) M := r_aload_n (by decide +kernel : decode (mB 17) 0 = .ok (.aload_n 1, 1)) rfl
theorem t17_1 : rn 17 1 ls (.ref a :: r) M = if mK M a = (14, 0) then rn 17 4 ls (va_rf (mP M a 0) :: r) M else none := r_getP (ci := 4) (k := 0) (by decide +kernel : decode (mB 17) 1 = .ok (.getfield 9, 3)) (by decide +kernel) rfl
theorem t17_4 : rn 17 4 ls r M = rn 17 5 ls (.int 0 :: r) M := r_nx (by decide +kernel : decode (mB 17) 4 = .ok (.iconst 0, 1)) rfl rfl
theorem t17_5 : rn 17 5 (some (.ref a) :: l) r M = rn 17 6 (some (.ref a) :: l) (.ref a :: r) M := r_aload_n (by decide +kernel : decode (mB 17) 5 = .ok (.aload_n 0, 1)) rfl
theorem t17_6 : rn 17 6 ls (.ref a :: r) M = if mK M a = (14, 0) then rn 17 9 ls (va_rf (mP M a 0) :: r) M else none := r_getP (ci := 4) (k := 0) (by decide +kernel : decode (mB 17) 6 = .ok (.getfield 9, 3)) (by decide +kernel) rfl
theorem t17_9 : rn 17 9 ls r M = rn 17 10 ls (.int 0 :: r) M := r_nx (by decide +kernel : decode (mB 17) 9 = .ok (.iconst 0, 1)) rfl rfl
theorem t17_10 : rn 17 10 ls r M = rn 17 12 ls (.int 16 :: r) M := r_nx (by decide +kernel : decode (mB 17) 10 = .ok (.bipush 16, 2)) rfl rfl
theorem t17_12 : rn 17 12 ls [.int z, .int y, .ref a, .int x, .ref b] M = if (¬ x < 0 ∧ ¬ y < 0 ∧ ¬ z < 0) ∧ x.toNatClampNeg + z.toNatClampNeg ≤ (mK M b).2 ∧ y.toNatClampNeg + z.toNatClampNeg ≤ (mK M a).2 then (if (mK M a).1 = 1 ∧ (mK M b).1 = 1 then rn 17 15 ls [] (sI M a (va_cpy (mI M b) (mI M a) x.toNatClampNeg y.toNatClampNeg z.toNatClampNeg)) else if (mK M a).1 = 2 ∧ (mK M b).1 = 2 then rn 17 15 ls [] (sJ M a (va_cpy (mJ M b) (mJ M a) x.toNatClampNeg y.toNatClampNeg z.toNatClampNeg)) else none) else none := r_cpy (by decide +kernel : decode (mB 17) 12 = .ok (.invokestatic 27, 3)) (by decide +kernel) rfl
theorem t17_15 : rn 17 15 (a0 :: some (.ref a) :: l) r M = rn 17 16 (a0 :: some (.ref a) :: l) (.ref a :: r) M := r_aload_n (by decide +kernel : decode (mB 17) 15 = .ok (.aload_n 1, 1)) rfl
theorem t17_16 : rn 17 16 ls (.ref a :: r) M = if mK M a = (14, 0) then rn 17 19 ls (va_rf (mP M a 1) :: r) M else none := r_getP (ci := 4) (k := 1) (by decide +kernel : decode (mB 17) 16 = .ok (.getfield 15, 3)) (by decide +kernel) rfl
theorem t17_19 : rn 17 19 ls r M = rn 17 20 ls (.int 0 :: r) M := r_nx (by decide +kernel : decode (mB 17) 19 = .ok (.iconst 0, 1)) rfl rfl
theorem t17_20 : rn 17 20 (some (.ref a) :: l) r M = rn 17 21 (some (.ref a) :: l) (.ref a :: r) M := r_aload_n (by decide +kernel : decode (mB 17) 20 = .ok (.aload_n 0, 1)) rfl
theorem t17_21 : rn 17 21 ls (.ref a :: r) M = if mK M a = (14, 0) then rn 17 24 ls (va_rf (mP M a 1) :: r) M else none := r_getP (ci := 4) (k := 1) (by decide +kernel : decode (mB 17) 21 = .ok (.getfield 15, 3)) (by decide +kernel) rfl
theorem t17_24 : rn 17 24 ls r M = rn 17 25 ls (.int 0 :: r) M := r_nx (by decide +kernel : decode (mB 17) 24 = .ok (.iconst 0, 1)) rfl rfl
theorem t17_25 : rn 17 25 ls r M = rn 17 27 ls (.int 16 :: r) M := r_nx (by decide +kernel : decode (mB 17) 25 = .ok (.bipush 16, 2)) rfl rfl
theorem t17_27 : rn 17 27 ls [.int z, .int y, .ref a, .int x, .ref b] M = if (¬ x < 0 ∧ ¬ y < 0 ∧ ¬ z < 0) ∧ x.toNatClampNeg + z.toNatClampNeg ≤ (mK M b).2 ∧ y.toNatClampNeg + z.toNatClampNeg ≤ (mK M a).2 then (if (mK M a).1 = 1 ∧ (mK M b).1 = 1 then rn 17 30 ls [] (sI M a (va_cpy (mI M b) (mI M a) x.toNatClampNeg y.toNatClampNeg z.toNatClampNeg)) else if (mK M a).1 = 2 ∧ (mK M b).1 = 2 then rn 17 30 ls [] (sJ M a (va_cpy (mJ M b) (mJ M a) x.toNatClampNeg y.toNatClampNeg z.toNatClampNeg)) else none) else none := r_cpy (by decide +kernel : decode (mB 17) 27 = .ok (.invokestatic 27, 3)) (by decide +kernel) rfl
theorem t17_30 : rn 17 30 ls [] M = some (none, M) := r_vreturn (by decide +kernel : decode (mB 17) 30 = .ok (.return_, 1)) rfl
-- 18 State_writeEntry(III)I
theorem t18_0 : rn 18 0 (a0 :: a1 :: some (.int x) :: l) r M = rn 18 1 (a0 :: a1 :: some (.int x) :: l) (.int x :: r) M := r_iload_n (by decide +kernel : decode (mB 18) 0 = .ok (.iload_n 2, 1)) rfl
theorem t18_1 : rn 18 1 ls [.int x] M = cbn (cl 19 [.int x] M) 18 4 ls [] := r_callS (kd := 3) (by decide +kernel : decode (mB 18) 1 = .ok (.invokestatic 32, 3)) (by decide +kernel) (by decide +kernel) ((doS_n np_19).trans rfl)
theorem t18_4 : rn 18 4 ls (.int x :: r) M = if x = 0 then rn 18 11 ls r M else rn 18 7 ls r M := r_if (o := 7) (r := r) (c := x = 0) (by decide +kernel : decode (mB 18) 4 = .ok (.ifCond .eq 7, 3)) rfl (by decide) rfl
theorem t18_7 : rn 18 7 (a0 :: a1 :: some (.int x) :: l) r M = rn 18 8 (a0 :: a1 :: some (.int x) :: l) (.int x :: r) M := r_iload_n (by decide +kernel : decode (mB 18) 7 = .ok (.iload_n 2, 1)) rfl
theorem t18_8 : rn 18 8 ls (.int x :: r) M = if ¬ x = 0 then rn 18 13 ls r M else rn 18 11 ls r M := r_if (o := 5) (r := r) (c := ¬ x = 0) (by decide +kernel : decode (mB 18) 8 = .ok (.ifCond .ne 5, 3)) rfl (by decide) rfl
theorem t18_11 : rn 18 11 ls r M = rn 18 12 ls (.int (-1) :: r) M := r_nx (by decide +kernel : decode (mB 18) 11 = .ok (.iconst (-1), 1)) rfl rfl
theorem t18_12 : rn 18 12 ls [.int x] M = some (some (.int x), M) := r_ireturn (by decide +kernel : decode (mB 18) 12 = .ok (.ireturn, 1)) rfl
theorem t18_13 : rn 18 13 (a0 :: some (.int x) :: l) r M = rn 18 14 (a0 :: some (.int x) :: l) (.int x :: r) M := r_iload_n (by decide +kernel : decode (mB 18) 13 = .ok (.iload_n 1, 1)) rfl
theorem t18_14 : rn 18 14 ls [.int x] M = cbn (cl 20 [.int x] M) 18 17 ls [] := r_callS (kd := 3) (by decide +kernel : decode (mB 18) 14 = .ok (.invokestatic 36, 3)) (by decide +kernel) (by decide +kernel) ((doS_n np_20).trans rfl)
theorem t18_17 : rn 18 17 ls (.int x :: r) M = if x = 0 then rn 18 29 ls r M else rn 18 20 ls r M := r_if (o := 12) (r := r) (c := x = 0) (by decide +kernel : decode (mB 18) 17 = .ok (.ifCond .eq 12, 3)) rfl (by decide) rfl
theorem t18_20 : rn 18 20 (a0 :: a1 :: a2 :: some (.int x) :: l) r M = rn 18 21 (a0 :: a1 :: a2 :: some (.int x) :: l) (.int x :: r) M := r_iload_n (by decide +kernel : decode (mB 18) 20 = .ok (.iload_n 3, 1)) rfl
theorem t18_21 : rn 18 21 ls [.int x] M = cbn (cl 19 [.int x] M) 18 24 ls [] := r_callS (kd := 3) (by decide +kernel : decode (mB 18) 21 = .ok (.invokestatic 32, 3)) (by decide +kernel) (by decide +kernel) ((doS_n np_19).trans rfl)
theorem t18_24 : rn 18 24 ls (.int x :: r) M = if ¬ x = 0 then rn 18 29 ls r M else rn 18 27 ls r M := r_if (o := 5) (r := r) (c := ¬ x = 0) (by decide +kernel : decode (mB 18) 24 = .ok (.ifCond .ne 5, 3)) rfl (by decide) rfl
theorem t18_27 : rn 18 27 ls r M = rn 18 28 ls (.int (-1) :: r) M := r_nx (by decide +kernel : decode (mB 18) 27 = .ok (.iconst (-1), 1)) rfl rfl
theorem t18_28 : rn 18 28 ls [.int x] M = some (some (.int x), M) := r_ireturn (by decide +kernel : decode (mB 18) 28 = .ok (.ireturn, 1)) rfl
theorem t18_29 : rn 18 29 (a0 :: some (.int x) :: l) r M = rn 18 30 (a0 :: some (.int x) :: l) (.int x :: r) M := r_iload_n (by decide +kernel : decode (mB 18) 29 = .ok (.iload_n 1, 1)) rfl
theorem t18_30 : rn 18 30 ls r M = rn 18 31 ls (.int 1 :: r) M := r_nx (by decide +kernel : decode (mB 18) 30 = .ok (.iconst 1, 1)) rfl rfl
theorem t18_31 : rn 18 31 ls (.int y :: .int x :: r) M = if ¬ x = y then rn 18 48 ls r M else rn 18 34 ls r M := r_if (o := 17) (r := r) (c := ¬ x = y) (by decide +kernel : decode (mB 18) 31 = .ok (.if_icmp .ne 17, 3)) rfl (by decide) rfl
theorem t18_34 : rn 18 34 (a0 :: a1 :: a2 :: some (.int x) :: l) r M = rn 18 35 (a0 :: a1 :: a2 :: some (.int x) :: l) (.int x :: r) M := r_iload_n (by decide +kernel : decode (mB 18) 34 = .ok (.iload_n 3, 1)) rfl
theorem t18_35 : rn 18 35 ls (.int x :: r) M = if x < 0 then rn 18 45 ls r M else rn 18 38 ls r M := r_if (o := 10) (r := r) (c := x < 0) (by decide +kernel : decode (mB 18) 35 = .ok (.ifCond .lt 10, 3)) rfl (by decide) rfl
theorem t18_38 : rn 18 38 (a0 :: a1 :: a2 :: some (.int x) :: l) r M = rn 18 39 (a0 :: a1 :: a2 :: some (.int x) :: l) (.int x :: r) M := r_iload_n (by decide +kernel : decode (mB 18) 38 = .ok (.iload_n 3, 1)) rfl
theorem t18_39 : rn 18 39 ls r M = rn 18 42 ls (.int 1000 :: r) M := r_nx (by decide +kernel : decode (mB 18) 39 = .ok (.sipush 1000, 3)) rfl rfl
theorem t18_42 : rn 18 42 ls (.int y :: .int x :: r) M = if x < y then rn 18 48 ls r M else rn 18 45 ls r M := r_if (o := 6) (r := r) (c := x < y) (by decide +kernel : decode (mB 18) 42 = .ok (.if_icmp .lt 6, 3)) rfl (by decide) rfl
theorem t18_45 : rn 18 45 ls r M = rn 18 47 ls (.int (-2) :: r) M := r_nx (by decide +kernel : decode (mB 18) 45 = .ok (.bipush (-2), 2)) rfl rfl
theorem t18_47 : rn 18 47 ls [.int x] M = some (some (.int x), M) := r_ireturn (by decide +kernel : decode (mB 18) 47 = .ok (.ireturn, 1)) rfl
theorem t18_48 : rn 18 48 (some (.ref a) :: l) r M = rn 18 49 (some (.ref a) :: l) (.ref a :: r) M := r_aload_n (by decide +kernel : decode (mB 18) 48 = .ok (.aload_n 0, 1)) rfl
theorem t18_49 : rn 18 49 ls (.ref a :: r) M = if mK M a = (11, 0) then rn 18 52 ls (va_rf (mP M a 0) :: r) M else none := r_getP (ci := 1) (k := 0) (by decide +kernel : decode (mB 18) 49 = .ok (.getfield 12, 3)) (by decide +kernel) rfl
theorem t18_52 : rn 18 52 (a0 :: some (.int x) :: l) r M = rn 18 53 (a0 :: some (.int x) :: l) (.int x :: r) M := r_iload_n (by decide +kernel : decode (mB 18) 52 = .ok (.iload_n 1, 1)) rfl
theorem t18_53 : rn 18 53 (a0 :: a1 :: some (.int x) :: l) r M = rn 18 54 (a0 :: a1 :: some (.int x) :: l) (.int x :: r) M := r_iload_n (by decide +kernel : decode (mB 18) 53 = .ok (.iload_n 2, 1)) rfl
theorem t18_54 : rn 18 54 (a0 :: a1 :: a2 :: some (.int x) :: l) r M = rn 18 55 (a0 :: a1 :: a2 :: some (.int x) :: l) (.int x :: r) M := r_iload_n (by decide +kernel : decode (mB 18) 54 = .ok (.iload_n 3, 1)) rfl
theorem t18_55 : rn 18 55 ls [.int x, .int y, .int z, .ref a] M = if mK M a = (12, 0) then cbn (cl 21 [.ref a, .int z, .int y, .int x] M) 18 58 ls [] else none := r_callV (kd := 0) (by decide +kernel : decode (mB 18) 55 = .ok (.invokevirtual 39, 3)) (by decide +kernel) ((doV_n np_21).trans rfl)
theorem t18_58 : rn 18 58 ls [.int x] M = some (some (.int x), M) := r_ireturn (by decide +kernel : decode (mB 18) 58 = .ok (.ireturn, 1)) rfl
-- 21 Log_append(III)I
theorem t21_0 : rn 21 0 (some (.ref a) :: l) r M = rn 21 1 (some (.ref a) :: l) (.ref a :: r) M := r_aload_n (by decide +kernel : decode (mB 21) 0 = .ok (.aload_n 0, 1)) rfl
theorem t21_1 : rn 21 1 ls (.ref a :: r) M = if mK M a = (12, 0) then rn 21 4 ls (.int (mI M a 0) :: r) M else none := r_getI (ci := 2) (k := 0) (by decide +kernel : decode (mB 21) 1 = .ok (.getfield 28, 3)) (by decide +kernel) (Or.inl rfl)
theorem t21_4 : rn 21 4 ls r M = rn 21 6 ls (.int 40 :: r) M := r_nx (by decide +kernel : decode (mB 21) 4 = .ok (.bipush 40, 2)) rfl rfl
theorem t21_6 : rn 21 6 ls (.int y :: .int x :: r) M = if x < y then rn 21 12 ls r M else rn 21 9 ls r M := r_if (o := 6) (r := r) (c := x < y) (by decide +kernel : decode (mB 21) 6 = .ok (.if_icmp .lt 6, 3)) rfl (by decide) rfl
theorem t21_9 : rn 21 9 ls r M = rn 21 11 ls (.int (-4) :: r) M := r_nx (by decide +kernel : decode (mB 21) 9 = .ok (.bipush (-4), 2)) rfl rfl
theorem t21_11 : rn 21 11 ls [.int x] M = some (some (.int x), M) := r_ireturn (by decide +kernel : decode (mB 21) 11 = .ok (.ireturn, 1)) rfl
theorem t21_12 : rn 21 12 (some (.ref a) :: l) r M = rn 21 13 (some (.ref a) :: l) (.ref a :: r) M := r_aload_n (by decide +kernel : decode (mB 21) 12 = .ok (.aload_n 0, 1)) rfl
theorem t21_13 : rn 21 13 ls (.ref a :: r) M = if mK M a = (12, 0) then rn 21 16 ls (.int (mI M a 0) :: r) M else none := r_getI (ci := 2) (k := 0) (by decide +kernel : decode (mB 21) 13 = .ok (.getfield 28, 3)) (by decide +kernel) (Or.inl rfl)
theorem t21_16 : rn 21 16 (a0 :: a1 :: a2 :: a3 :: a4 :: l) (.int x :: r) M = rn 21 18 (a0 :: a1 :: a2 :: a3 :: some (.int x) :: l) r M := r_istore (by decide +kernel : decode (mB 21) 16 = .ok (.istore 4, 2)) (Nat.le_add_left 5 l.length)
theorem t21_18 : rn 21 18 (some (.ref a) :: l) r M = rn 21 19 (some (.ref a) :: l) (.ref a :: r) M := r_aload_n (by decide +kernel : decode (mB 21) 18 = .ok (.aload_n 0, 1)) rfl
theorem t21_19 : rn 21 19 ls (.ref a :: r) M = if mK M a = (12, 0) then rn 21 22 ls (va_rf (mP M a 2) :: r) M else none := r_getP (ci := 2) (k := 2) (by decide +kernel : decode (mB 21) 19 = .ok (.getfield 9, 3)) (by decide +kernel) rfl
theorem t21_22 : rn 21 22 (a0 :: a1 :: a2 :: a3 :: some (.int x) :: l) r M = rn 21 24 (a0 :: a1 :: a2 :: a3 :: some (.int x) :: l) (.int x :: r) M := r_iload (by decide +kernel : decode (mB 21) 22 = .ok (.iload 4, 2)) rfl
theorem t21_24 : rn 21 24 (a0 :: some (.int x) :: l) r M = rn 21 25 (a0 :: some (.int x) :: l) (.int x :: r) M := r_iload_n (by decide +kernel : decode (mB 21) 24 = .ok (.iload_n 1, 1)) rfl
theorem t21_25 : rn 21 25 ls (.int y :: .int x :: .ref a :: r) M = if (mK M a).1 = 1 ∧ inR x (mK M a).2 then rn 21 26 ls r (sI M a (va_up (mI M a) x.toNatClampNeg y)) else none := r_cnd (by decide +kernel : decode (mB 21) 25 = .ok (.iastore, 1)) rfl rfl
theorem t21_26 : rn 21 26 (some (.ref a) :: l) r M = rn 21 27 (some (.ref a) :: l) (.ref a :: r) M := r_aload_n (by decide +kernel : decode (mB 21) 26 = .ok (.aload_n 0, 1)) rfl
theorem t21_27 : rn 21 27 ls (.ref a :: r) M = if mK M a = (12, 0) then rn 21 30 ls (va_rf (mP M a 3) :: r) M else none := r_getP (ci := 2) (k := 3) (by decide +kernel : decode (mB 21) 27 = .ok (.getfield 15, 3)) (by decide +kernel) rfl
theorem t21_30 : rn 21 30 (a0 :: a1 :: a2 :: a3 :: some (.int x) :: l) r M = rn 21 32 (a0 :: a1 :: a2 :: a3 :: some (.int x) :: l) (.int x :: r) M := r_iload (by decide +kernel : decode (mB 21) 30 = .ok (.iload 4, 2)) rfl
theorem t21_32 : rn 21 32 (a0 :: a1 :: some (.int x) :: l) r M = rn 21 33 (a0 :: a1 :: some (.int x) :: l) (.int x :: r) M := r_iload_n (by decide +kernel : decode (mB 21) 32 = .ok (.iload_n 2, 1)) rfl
theorem t21_33 : rn 21 33 ls (.int y :: .int x :: .ref a :: r) M = if (mK M a).1 = 1 ∧ inR x (mK M a).2 then rn 21 34 ls r (sI M a (va_up (mI M a) x.toNatClampNeg y)) else none := r_cnd (by decide +kernel : decode (mB 21) 33 = .ok (.iastore, 1)) rfl rfl
theorem t21_34 : rn 21 34 (some (.ref a) :: l) r M = rn 21 35 (some (.ref a) :: l) (.ref a :: r) M := r_aload_n (by decide +kernel : decode (mB 21) 34 = .ok (.aload_n 0, 1)) rfl
theorem t21_35 : rn 21 35 ls (.ref a :: r) M = if mK M a = (12, 0) then rn 21 38 ls (va_rf (mP M a 4) :: r) M else none := r_getP (ci := 2) (k := 4) (by decide +kernel : decode (mB 21) 35 = .ok (.getfield 18, 3)) (by decide +kernel) rfl
theorem t21_38 : rn 21 38 (a0 :: a1 :: a2 :: a3 :: some (.int x) :: l) r M = rn 21 40 (a0 :: a1 :: a2 :: a3 :: some (.int x) :: l) (.int x :: r) M := r_iload (by decide +kernel : decode (mB 21) 38 = .ok (.iload 4, 2)) rfl
theorem t21_40 : rn 21 40 (a0 :: a1 :: a2 :: some (.int x) :: l) r M = rn 21 41 (a0 :: a1 :: a2 :: some (.int x) :: l) (.int x :: r) M := r_iload_n (by decide +kernel : decode (mB 21) 40 = .ok (.iload_n 3, 1)) rfl
theorem t21_41 : rn 21 41 ls (.int y :: .int x :: .ref a :: r) M = if (mK M a).1 = 1 ∧ inR x (mK M a).2 then rn 21 42 ls r (sI M a (va_up (mI M a) x.toNatClampNeg y)) else none := r_cnd (by decide +kernel : decode (mB 21) 41 = .ok (.iastore, 1)) rfl rfl
theorem t21_42 : rn 21 42 (some (.ref a) :: l) r M = rn 21 43 (some (.ref a) :: l) (.ref a :: r) M := r_aload_n (by decide +kernel : decode (mB 21) 42 = .ok (.aload_n 0, 1)) rfl
theorem t21_43 : rn 21 43 ls (.ref a :: r) M = if mK M a = (12, 0) then rn 21 46 ls (va_rf (mP M a 5) :: r) M else none := r_getP (ci := 2) (k := 5) (by decide +kernel : decode (mB 21) 43 = .ok (.getfield 21, 3)) (by decide +kernel) rfl
theorem t21_46 : rn 21 46 (a0 :: a1 :: a2 :: a3 :: some (.int x) :: l) r M = rn 21 48 (a0 :: a1 :: a2 :: a3 :: some (.int x) :: l) (.int x :: r) M := r_iload (by decide +kernel : decode (mB 21) 46 = .ok (.iload 4, 2)) rfl
theorem t21_48 : rn 21 48 (some (.ref a) :: l) r M = rn 21 49 (some (.ref a) :: l) (.ref a :: r) M := r_aload_n (by decide +kernel : decode (mB 21) 48 = .ok (.aload_n 0, 1)) rfl
theorem t21_49 : rn 21 49 (a0 :: some (.int x) :: l) r M = rn 21 50 (a0 :: some (.int x) :: l) (.int x :: r) M := r_iload_n (by decide +kernel : decode (mB 21) 49 = .ok (.iload_n 1, 1)) rfl
theorem t21_50 : rn 21 50 (a0 :: a1 :: some (.int x) :: l) r M = rn 21 51 (a0 :: a1 :: some (.int x) :: l) (.int x :: r) M := r_iload_n (by decide +kernel : decode (mB 21) 50 = .ok (.iload_n 2, 1)) rfl
theorem t21_51 : rn 21 51 (a0 :: a1 :: a2 :: some (.int x) :: l) r M = rn 21 52 (a0 :: a1 :: a2 :: some (.int x) :: l) (.int x :: r) M := r_iload_n (by decide +kernel : decode (mB 21) 51 = .ok (.iload_n 3, 1)) rfl
theorem t21_52 : rn 21 52 ls [.int x, .int y, .int z, .ref a, .int w, .ref b] M = if mK M a = (12, 0) then cbn (cl 22 [.ref a, .int z, .int y, .int x] M) 21 55 ls [.int w, .ref b] else none := r_callV (kd := 0) (by decide +kernel : decode (mB 21) 52 = .ok (.invokevirtual 42, 3)) (by decide +kernel) ((doV_n np_22).trans rfl)
theorem t21_55 : rn 21 55 ls (.long u :: .int x :: .ref a :: r) M = if (mK M a).1 = 2 ∧ inR x (mK M a).2 then rn 21 56 ls r (sJ M a (va_up (mJ M a) x.toNatClampNeg u)) else none := r_cnd (by decide +kernel : decode (mB 21) 55 = .ok (.lastore, 1)) rfl rfl
theorem t21_56 : rn 21 56 (some (.ref a) :: l) r M = rn 21 57 (some (.ref a) :: l) (.ref a :: r) M := r_aload_n (by decide +kernel : decode (mB 21) 56 = .ok (.aload_n 0, 1)) rfl
theorem t21_57 : rn 21 57 ls (.ref a :: r) M = rn 21 58 ls (.ref a :: .ref a :: r) M := r_nx (by decide +kernel : decode (mB 21) 57 = .ok (.dup, 1)) rfl rfl
theorem t21_58 : rn 21 58 ls (.ref a :: r) M = if mK M a = (12, 0) then rn 21 61 ls (.int (mI M a 0) :: r) M else none := r_getI (ci := 2) (k := 0) (by decide +kernel : decode (mB 21) 58 = .ok (.getfield 28, 3)) (by decide +kernel) (Or.inl rfl)
theorem t21_61 : rn 21 61 ls r M = rn 21 62 ls (.int 1 :: r) M := r_nx (by decide +kernel : decode (mB 21) 61 = .ok (.iconst 1, 1)) rfl rfl
theorem t21_62 : rn 21 62 ls (.int y :: .int x :: r) M = rn 21 63 ls (.int (x + y) :: r) M := r_nx (by decide +kernel : decode (mB 21) 62 = .ok (.iadd, 1)) rfl rfl
theorem t21_63 : rn 21 63 ls (.int x :: .ref a :: r) M = if mK M a = (12, 0) then rn 21 66 ls r (sI M a (va_up (mI M a) 0 x)) else none := r_putI (ci := 2) (k := 0) (by decide +kernel : decode (mB 21) 63 = .ok (.putfield 28, 3)) (by decide +kernel) rfl rfl
theorem t21_66 : rn 21 66 (some (.ref a) :: l) r M = rn 21 67 (some (.ref a) :: l) (.ref a :: r) M := r_aload_n (by decide +kernel : decode (mB 21) 66 = .ok (.aload_n 0, 1)) rfl
theorem t21_67 : rn 21 67 (a0 :: a1 :: a2 :: a3 :: some (.int x) :: l) r M = rn 21 69 (a0 :: a1 :: a2 :: a3 :: some (.int x) :: l) (.int x :: r) M := r_iload (by decide +kernel : decode (mB 21) 67 = .ok (.iload 4, 2)) rfl
theorem t21_69 : rn 21 69 ls [.int x, .ref a] M = if mK M a = (12, 0) then cbn (cl 26 [.ref a, .int x] M) 21 72 ls [] else none := r_callV (kd := 0) (by decide +kernel : decode (mB 21) 69 = .ok (.invokevirtual 46, 3)) (by decide +kernel) ((doV_n np_26).trans rfl)
theorem t21_72 : rn 21 72 (a0 :: a1 :: a2 :: a3 :: some (.int x) :: l) r M = rn 21 74 (a0 :: a1 :: a2 :: a3 :: some (.int x) :: l) (.int x :: r) M := r_iload (by decide +kernel : decode (mB 21) 72 = .ok (.iload 4, 2)) rfl
theorem t21_74 : rn 21 74 ls [.int x] M = some (some (.int x), M) := r_ireturn (by decide +kernel : decode (mB 21) 74 = .ok (.ireturn, 1)) rfl
-- 22 Log_firstNeeds(III)J
theorem t22_0 : rn 22 0 (some (.ref a) :: l) r M = rn 22 1 (some (.ref a) :: l) (.ref a :: r) M := r_aload_n (by decide +kernel : decode (mB 22) 0 = .ok (.aload_n 0, 1)) rfl
theorem t22_1 : rn 22 1 (a0 :: a1 :: some (.int x) :: l) r M = rn 22 2 (a0 :: a1 :: some (.int x) :: l) (.int x :: r) M := r_iload_n (by decide +kernel : decode (mB 22) 1 = .ok (.iload_n 2, 1)) rfl
theorem t22_2 : rn 22 2 ls [.int x, .ref a] M = if mK M a = (12, 0) then cbn (cl 23 [.ref a, .int x] M) 22 5 ls [] else none := r_callV (kd := 0) (by decide +kernel : decode (mB 22) 2 = .ok (.invokevirtual 50, 3)) (by decide +kernel) ((doV_n np_23).trans rfl)
theorem t22_5 : rn 22 5 (a0 :: a1 :: a2 :: a3 :: a4 :: a5 :: l) (.long u :: r) M = rn 22 7 (a0 :: a1 :: a2 :: a3 :: some (.long u) :: none :: l) r M := r_lstore (by decide +kernel : decode (mB 22) 5 = .ok (.lstore 4, 2)) (Nat.le_add_left 6 l.length)
theorem t22_7 : rn 22 7 (a0 :: some (.int x) :: l) r M = rn 22 8 (a0 :: some (.int x) :: l) (.int x :: r) M := r_iload_n (by decide +kernel : decode (mB 22) 7 = .ok (.iload_n 1, 1)) rfl
theorem t22_8 : rn 22 8 ls [.int x] M = cbn (cl 20 [.int x] M) 22 11 ls [] := r_callS (kd := 3) (by decide +kernel : decode (mB 22) 8 = .ok (.invokestatic 54, 3)) (by decide +kernel) (by decide +kernel) ((doS_n np_20).trans rfl)
theorem t22_11 : rn 22 11 ls (.int x :: r) M = if x = 0 then rn 22 28 ls r M else rn 22 14 ls r M := r_if (o := 17) (r := r) (c := x = 0) (by decide +kernel : decode (mB 22) 11 = .ok (.ifCond .eq 17, 3)) rfl (by decide) rfl
theorem t22_14 : rn 22 14 (a0 :: a1 :: a2 :: some (.int x) :: l) r M = rn 22 15 (a0 :: a1 :: a2 :: some (.int x) :: l) (.int x :: r) M := r_iload_n (by decide +kernel : decode (mB 22) 14 = .ok (.iload_n 3, 1)) rfl
theorem t22_15 : rn 22 15 ls (.int x :: r) M = if x = 0 then rn 22 28 ls r M else rn 22 18 ls r M := r_if (o := 13) (r := r) (c := x = 0) (by decide +kernel : decode (mB 22) 15 = .ok (.ifCond .eq 13, 3)) rfl (by decide) rfl
theorem t22_18 : rn 22 18 (a0 :: a1 :: a2 :: a3 :: some (.long u) :: none :: l) r M = rn 22 20 (a0 :: a1 :: a2 :: a3 :: some (.long u) :: none :: l) (.long u :: r) M := r_lload (by decide +kernel : decode (mB 22) 18 = .ok (.lload 4, 2)) rfl rfl
theorem t22_20 : rn 22 20 (some (.ref a) :: l) r M = rn 22 21 (some (.ref a) :: l) (.ref a :: r) M := r_aload_n (by decide +kernel : decode (mB 22) 20 = .ok (.aload_n 0, 1)) rfl
theorem t22_21 : rn 22 21 (a0 :: a1 :: a2 :: some (.int x) :: l) r M = rn 22 22 (a0 :: a1 :: a2 :: some (.int x) :: l) (.int x :: r) M := r_iload_n (by decide +kernel : decode (mB 22) 21 = .ok (.iload_n 3, 1)) rfl
theorem t22_22 : rn 22 22 ls [.int x, .ref a, .long u] M = if mK M a = (12, 0) then cbn (cl 23 [.ref a, .int x] M) 22 25 ls [.long u] else none := r_callV (kd := 0) (by decide +kernel : decode (mB 22) 22 = .ok (.invokevirtual 50, 3)) (by decide +kernel) ((doV_n np_23).trans rfl)
theorem t22_25 : rn 22 25 ls (.long v :: .long u :: r) M = rn 22 26 ls (.long (u ||| v) :: r) M := r_nx (by decide +kernel : decode (mB 22) 25 = .ok (.lor, 1)) rfl rfl
theorem t22_26 : rn 22 26 (a0 :: a1 :: a2 :: a3 :: a4 :: a5 :: l) (.long u :: r) M = rn 22 28 (a0 :: a1 :: a2 :: a3 :: some (.long u) :: none :: l) r M := r_lstore (by decide +kernel : decode (mB 22) 26 = .ok (.lstore 4, 2)) (Nat.le_add_left 6 l.length)
theorem t22_28 : rn 22 28 (a0 :: some (.int x) :: l) r M = rn 22 29 (a0 :: some (.int x) :: l) (.int x :: r) M := r_iload_n (by decide +kernel : decode (mB 22) 28 = .ok (.iload_n 1, 1)) rfl
theorem t22_29 : rn 22 29 ls r M = rn 22 30 ls (.int 3 :: r) M := r_nx (by decide +kernel : decode (mB 22) 29 = .ok (.iconst 3, 1)) rfl rfl
theorem t22_30 : rn 22 30 ls (.int y :: .int x :: r) M = if ¬ x = y then rn 22 43 ls r M else rn 22 33 ls r M := r_if (o := 13) (r := r) (c := ¬ x = y) (by decide +kernel : decode (mB 22) 30 = .ok (.if_icmp .ne 13, 3)) rfl (by decide) rfl
theorem t22_33 : rn 22 33 (a0 :: a1 :: a2 :: a3 :: some (.long u) :: none :: l) r M = rn 22 35 (a0 :: a1 :: a2 :: a3 :: some (.long u) :: none :: l) (.long u :: r) M := r_lload (by decide +kernel : decode (mB 22) 33 = .ok (.lload 4, 2)) rfl rfl
theorem t22_35 : rn 22 35 (some (.ref a) :: l) r M = rn 22 36 (some (.ref a) :: l) (.ref a :: r) M := r_aload_n (by decide +kernel : decode (mB 22) 35 = .ok (.aload_n 0, 1)) rfl
theorem t22_36 : rn 22 36 (a0 :: a1 :: some (.int x) :: l) r M = rn 22 37 (a0 :: a1 :: some (.int x) :: l) (.int x :: r) M := r_iload_n (by decide +kernel : decode (mB 22) 36 = .ok (.iload_n 2, 1)) rfl
theorem t22_37 : rn 22 37 ls [.int x, .ref a, .long u] M = if mK M a = (12, 0) then cbn (cl 25 [.ref a, .int x] M) 22 40 ls [.long u] else none := r_callV (kd := 0) (by decide +kernel : decode (mB 22) 37 = .ok (.invokevirtual 58, 3)) (by decide +kernel) ((doV_n np_25).trans rfl)
theorem t22_40 : rn 22 40 ls (.long v :: .long u :: r) M = rn 22 41 ls (.long (u ||| v) :: r) M := r_nx (by decide +kernel : decode (mB 22) 40 = .ok (.lor, 1)) rfl rfl
theorem t22_41 : rn 22 41 (a0 :: a1 :: a2 :: a3 :: a4 :: a5 :: l) (.long u :: r) M = rn 22 43 (a0 :: a1 :: a2 :: a3 :: some (.long u) :: none :: l) r M := r_lstore (by decide +kernel : decode (mB 22) 41 = .ok (.lstore 4, 2)) (Nat.le_add_left 6 l.length)
theorem t22_43 : rn 22 43 (a0 :: a1 :: a2 :: a3 :: some (.long u) :: none :: l) r M = rn 22 45 (a0 :: a1 :: a2 :: a3 :: some (.long u) :: none :: l) (.long u :: r) M := r_lload (by decide +kernel : decode (mB 22) 43 = .ok (.lload 4, 2)) rfl rfl
theorem t22_45 : rn 22 45 ls [.long u] M = some (some (.long u), M) := r_lreturn (by decide +kernel : decode (mB 22) 45 = .ok (.lreturn, 1)) rfl
-- 23 Log_latestOfFile(I)J
theorem t23_0 : rn 23 0 (some (.ref a) :: l) r M = rn 23 1 (some (.ref a) :: l) (.ref a :: r) M := r_aload_n (by decide +kernel : decode (mB 23) 0 = .ok (.aload_n 0, 1)) rfl
theorem t23_1 : rn 23 1 ls (.ref a :: r) M = if mK M a = (12, 0) then rn 23 4 ls (.int (mI M a 0) :: r) M else none := r_getI (ci := 2) (k := 0) (by decide +kernel : decode (mB 23) 1 = .ok (.getfield 28, 3)) (by decide +kernel) (Or.inl rfl)
theorem t23_4 : rn 23 4 ls r M = rn 23 5 ls (.int 1 :: r) M := r_nx (by decide +kernel : decode (mB 23) 4 = .ok (.iconst 1, 1)) rfl rfl
theorem t23_5 : rn 23 5 ls (.int y :: .int x :: r) M = rn 23 6 ls (.int (x - y) :: r) M := r_nx (by decide +kernel : decode (mB 23) 5 = .ok (.isub, 1)) rfl rfl
theorem t23_6 : rn 23 6 (a0 :: a1 :: a2 :: l) (.int x :: r) M = rn 23 7 (a0 :: a1 :: some (.int x) :: l) r M := r_istore_n (by decide +kernel : decode (mB 23) 6 = .ok (.istore_n 2, 1)) (Nat.le_add_left 3 l.length)
theorem t23_7 : rn 23 7 (a0 :: a1 :: some (.int x) :: l) r M = rn 23 8 (a0 :: a1 :: some (.int x) :: l) (.int x :: r) M := r_iload_n (by decide +kernel : decode (mB 23) 7 = .ok (.iload_n 2, 1)) rfl
theorem t23_8 : rn 23 8 ls (.int x :: r) M = if x < 0 then rn 23 32 ls r M else rn 23 11 ls r M := r_if (o := 24) (r := r) (c := x < 0) (by decide +kernel : decode (mB 23) 8 = .ok (.ifCond .lt 24, 3)) rfl (by decide) rfl
theorem t23_11 : rn 23 11 (some (.ref a) :: l) r M = rn 23 12 (some (.ref a) :: l) (.ref a :: r) M := r_aload_n (by decide +kernel : decode (mB 23) 11 = .ok (.aload_n 0, 1)) rfl
theorem t23_12 : rn 23 12 ls (.ref a :: r) M = if mK M a = (12, 0) then rn 23 15 ls (va_rf (mP M a 3) :: r) M else none := r_getP (ci := 2) (k := 3) (by decide +kernel : decode (mB 23) 12 = .ok (.getfield 15, 3)) (by decide +kernel) rfl
theorem t23_15 : rn 23 15 (a0 :: a1 :: some (.int x) :: l) r M = rn 23 16 (a0 :: a1 :: some (.int x) :: l) (.int x :: r) M := r_iload_n (by decide +kernel : decode (mB 23) 15 = .ok (.iload_n 2, 1)) rfl
theorem t23_16 : rn 23 16 ls (.int x :: .ref a :: r) M = if ((mK M a).1 = 1 ∨ (mK M a).1 = 5) ∧ inR x (mK M a).2 then rn 23 17 ls (.int (mI M a x.toNatClampNeg) :: r) M else none := r_cnd (by decide +kernel : decode (mB 23) 16 = .ok (.iaload, 1)) rfl rfl
theorem t23_17 : rn 23 17 (a0 :: some (.int x) :: l) r M = rn 23 18 (a0 :: some (.int x) :: l) (.int x :: r) M := r_iload_n (by decide +kernel : decode (mB 23) 17 = .ok (.iload_n 1, 1)) rfl
theorem t23_18 : rn 23 18 ls (.int y :: .int x :: r) M = if ¬ x = y then rn 23 26 ls r M else rn 23 21 ls r M := r_if (o := 8) (r := r) (c := ¬ x = y) (by decide +kernel : decode (mB 23) 18 = .ok (.if_icmp .ne 8, 3)) rfl (by decide) rfl
theorem t23_21 : rn 23 21 (a0 :: a1 :: some (.int x) :: l) r M = rn 23 22 (a0 :: a1 :: some (.int x) :: l) (.int x :: r) M := r_iload_n (by decide +kernel : decode (mB 23) 21 = .ok (.iload_n 2, 1)) rfl
theorem t23_22 : rn 23 22 ls [.int x] M = cbn (cl 24 [.int x] M) 23 25 ls [] := r_callS (kd := 3) (by decide +kernel : decode (mB 23) 22 = .ok (.invokestatic 61, 3)) (by decide +kernel) (by decide +kernel) ((doS_n np_24).trans rfl)
theorem t23_25 : rn 23 25 ls [.long u] M = some (some (.long u), M) := r_lreturn (by decide +kernel : decode (mB 23) 25 = .ok (.lreturn, 1)) rfl
theorem t23_26 : rn 23 26 (a0 :: a1 :: some (.int x) :: l) r M = rn 23 29 (a0 :: a1 :: some (.int (x + (-1))) :: l) r M := r_iinc (by decide +kernel : decode (mB 23) 26 = .ok (.iinc 2 (-1), 3)) rfl
theorem t23_29 : rn 23 29 ls r M = rn 23 7 ls r M := r_goto (o := (-22)) (by decide +kernel : decode (mB 23) 29 = .ok (.goto (-22), 3)) (by decide)
theorem t23_32 : rn 23 32 ls r M = rn 23 33 ls (.long 0 :: r) M := r_nx (by decide +kernel : decode (mB 23) 32 = .ok (.lconst 0, 1)) rfl rfl
theorem t23_33 : rn 23 33 ls [.long u] M = some (some (.long u), M) := r_lreturn (by decide +kernel : decode (mB 23) 33 = .ok (.lreturn, 1)) rfl
-- 25 Log_latestInDirectory(I)J
theorem t25_0 : rn 25 0 (some (.ref a) :: l) r M = rn 25 1 (some (.ref a) :: l) (.ref a :: r) M := r_aload_n (by decide +kernel : decode (mB 25) 0 = .ok (.aload_n 0, 1)) rfl
theorem t25_1 : rn 25 1 ls (.ref a :: r) M = if mK M a = (12, 0) then rn 25 4 ls (.int (mI M a 0) :: r) M else none := r_getI (ci := 2) (k := 0) (by decide +kernel : decode (mB 25) 1 = .ok (.getfield 28, 3)) (by decide +kernel) (Or.inl rfl)
theorem t25_4 : rn 25 4 ls r M = rn 25 5 ls (.int 1 :: r) M := r_nx (by decide +kernel : decode (mB 25) 4 = .ok (.iconst 1, 1)) rfl rfl
theorem t25_5 : rn 25 5 ls (.int y :: .int x :: r) M = rn 25 6 ls (.int (x - y) :: r) M := r_nx (by decide +kernel : decode (mB 25) 5 = .ok (.isub, 1)) rfl rfl
theorem t25_6 : rn 25 6 (a0 :: a1 :: a2 :: l) (.int x :: r) M = rn 25 7 (a0 :: a1 :: some (.int x) :: l) r M := r_istore_n (by decide +kernel : decode (mB 25) 6 = .ok (.istore_n 2, 1)) (Nat.le_add_left 3 l.length)
theorem t25_7 : rn 25 7 (a0 :: a1 :: some (.int x) :: l) r M = rn 25 8 (a0 :: a1 :: some (.int x) :: l) (.int x :: r) M := r_iload_n (by decide +kernel : decode (mB 25) 7 = .ok (.iload_n 2, 1)) rfl
theorem t25_8 : rn 25 8 ls (.int x :: r) M = if x < 0 then rn 25 44 ls r M else rn 25 11 ls r M := r_if (o := 36) (r := r) (c := x < 0) (by decide +kernel : decode (mB 25) 8 = .ok (.ifCond .lt 36, 3)) rfl (by decide) rfl
theorem t25_11 : rn 25 11 (some (.ref a) :: l) r M = rn 25 12 (some (.ref a) :: l) (.ref a :: r) M := r_aload_n (by decide +kernel : decode (mB 25) 11 = .ok (.aload_n 0, 1)) rfl
theorem t25_12 : rn 25 12 ls (.ref a :: r) M = if mK M a = (12, 0) then rn 25 15 ls (va_rf (mP M a 2) :: r) M else none := r_getP (ci := 2) (k := 2) (by decide +kernel : decode (mB 25) 12 = .ok (.getfield 9, 3)) (by decide +kernel) rfl
theorem t25_15 : rn 25 15 (a0 :: a1 :: some (.int x) :: l) r M = rn 25 16 (a0 :: a1 :: some (.int x) :: l) (.int x :: r) M := r_iload_n (by decide +kernel : decode (mB 25) 15 = .ok (.iload_n 2, 1)) rfl
theorem t25_16 : rn 25 16 ls (.int x :: .ref a :: r) M = if ((mK M a).1 = 1 ∨ (mK M a).1 = 5) ∧ inR x (mK M a).2 then rn 25 17 ls (.int (mI M a x.toNatClampNeg) :: r) M else none := r_cnd (by decide +kernel : decode (mB 25) 16 = .ok (.iaload, 1)) rfl rfl
theorem t25_17 : rn 25 17 ls [.int x] M = cbn (cl 20 [.int x] M) 25 20 ls [] := r_callS (kd := 3) (by decide +kernel : decode (mB 25) 17 = .ok (.invokestatic 54, 3)) (by decide +kernel) (by decide +kernel) ((doS_n np_20).trans rfl)
theorem t25_20 : rn 25 20 ls (.int x :: r) M = if x = 0 then rn 25 38 ls r M else rn 25 23 ls r M := r_if (o := 18) (r := r) (c := x = 0) (by decide +kernel : decode (mB 25) 20 = .ok (.ifCond .eq 18, 3)) rfl (by decide) rfl
theorem t25_23 : rn 25 23 (some (.ref a) :: l) r M = rn 25 24 (some (.ref a) :: l) (.ref a :: r) M := r_aload_n (by decide +kernel : decode (mB 25) 23 = .ok (.aload_n 0, 1)) rfl
theorem t25_24 : rn 25 24 ls (.ref a :: r) M = if mK M a = (12, 0) then rn 25 27 ls (va_rf (mP M a 4) :: r) M else none := r_getP (ci := 2) (k := 4) (by decide +kernel : decode (mB 25) 24 = .ok (.getfield 18, 3)) (by decide +kernel) rfl
theorem t25_27 : rn 25 27 (a0 :: a1 :: some (.int x) :: l) r M = rn 25 28 (a0 :: a1 :: some (.int x) :: l) (.int x :: r) M := r_iload_n (by decide +kernel : decode (mB 25) 27 = .ok (.iload_n 2, 1)) rfl
theorem t25_28 : rn 25 28 ls (.int x :: .ref a :: r) M = if ((mK M a).1 = 1 ∨ (mK M a).1 = 5) ∧ inR x (mK M a).2 then rn 25 29 ls (.int (mI M a x.toNatClampNeg) :: r) M else none := r_cnd (by decide +kernel : decode (mB 25) 28 = .ok (.iaload, 1)) rfl rfl
theorem t25_29 : rn 25 29 (a0 :: some (.int x) :: l) r M = rn 25 30 (a0 :: some (.int x) :: l) (.int x :: r) M := r_iload_n (by decide +kernel : decode (mB 25) 29 = .ok (.iload_n 1, 1)) rfl
theorem t25_30 : rn 25 30 ls (.int y :: .int x :: r) M = if ¬ x = y then rn 25 38 ls r M else rn 25 33 ls r M := r_if (o := 8) (r := r) (c := ¬ x = y) (by decide +kernel : decode (mB 25) 30 = .ok (.if_icmp .ne 8, 3)) rfl (by decide) rfl
theorem t25_33 : rn 25 33 (a0 :: a1 :: some (.int x) :: l) r M = rn 25 34 (a0 :: a1 :: some (.int x) :: l) (.int x :: r) M := r_iload_n (by decide +kernel : decode (mB 25) 33 = .ok (.iload_n 2, 1)) rfl
theorem t25_34 : rn 25 34 ls [.int x] M = cbn (cl 24 [.int x] M) 25 37 ls [] := r_callS (kd := 3) (by decide +kernel : decode (mB 25) 34 = .ok (.invokestatic 61, 3)) (by decide +kernel) (by decide +kernel) ((doS_n np_24).trans rfl)
theorem t25_37 : rn 25 37 ls [.long u] M = some (some (.long u), M) := r_lreturn (by decide +kernel : decode (mB 25) 37 = .ok (.lreturn, 1)) rfl
theorem t25_38 : rn 25 38 (a0 :: a1 :: some (.int x) :: l) r M = rn 25 41 (a0 :: a1 :: some (.int (x + (-1))) :: l) r M := r_iinc (by decide +kernel : decode (mB 25) 38 = .ok (.iinc 2 (-1), 3)) rfl
theorem t25_41 : rn 25 41 ls r M = rn 25 7 ls r M := r_goto (o := (-34)) (by decide +kernel : decode (mB 25) 41 = .ok (.goto (-34), 3)) (by decide)
theorem t25_44 : rn 25 44 ls r M = rn 25 45 ls (.long 0 :: r) M := r_nx (by decide +kernel : decode (mB 25) 44 = .ok (.lconst 0, 1)) rfl rfl
theorem t25_45 : rn 25 45 ls [.long u] M = some (some (.long u), M) := r_lreturn (by decide +kernel : decode (mB 25) 45 = .ok (.lreturn, 1)) rfl
-- 26 Log_lean(I)V
theorem t26_0 : rn 26 0 (a0 :: some (.int x) :: l) r M = rn 26 1 (a0 :: some (.int x) :: l) (.int x :: r) M := r_iload_n (by decide +kernel : decode (mB 26) 0 = .ok (.iload_n 1, 1)) rfl
theorem t26_1 : rn 26 1 (a0 :: a1 :: a2 :: l) (.int x :: r) M = rn 26 2 (a0 :: a1 :: some (.int x) :: l) r M := r_istore_n (by decide +kernel : decode (mB 26) 1 = .ok (.istore_n 2, 1)) (Nat.le_add_left 3 l.length)
theorem t26_2 : rn 26 2 (a0 :: a1 :: some (.int x) :: l) r M = rn 26 3 (a0 :: a1 :: some (.int x) :: l) (.int x :: r) M := r_iload_n (by decide +kernel : decode (mB 26) 2 = .ok (.iload_n 2, 1)) rfl
theorem t26_3 : rn 26 3 (some (.ref a) :: l) r M = rn 26 4 (some (.ref a) :: l) (.ref a :: r) M := r_aload_n (by decide +kernel : decode (mB 26) 3 = .ok (.aload_n 0, 1)) rfl
theorem t26_4 : rn 26 4 ls (.ref a :: r) M = if mK M a = (12, 0) then rn 26 7 ls (.int (mI M a 0) :: r) M else none := r_getI (ci := 2) (k := 0) (by decide +kernel : decode (mB 26) 4 = .ok (.getfield 28, 3)) (by decide +kernel) (Or.inl rfl)
theorem t26_7 : rn 26 7 ls (.int y :: .int x :: r) M = if y ≤ x then rn 26 69 ls r M else rn 26 10 ls r M := r_if (o := 62) (r := r) (c := y ≤ x) (by decide +kernel : decode (mB 26) 7 = .ok (.if_icmp .ge 62, 3)) rfl (by decide) rfl
theorem t26_10 : rn 26 10 (some (.ref a) :: l) r M = rn 26 11 (some (.ref a) :: l) (.ref a :: r) M := r_aload_n (by decide +kernel : decode (mB 26) 10 = .ok (.aload_n 0, 1)) rfl
theorem t26_11 : rn 26 11 ls (.ref a :: r) M = if mK M a = (12, 0) then rn 26 14 ls (va_rf (mP M a 5) :: r) M else none := r_getP (ci := 2) (k := 5) (by decide +kernel : decode (mB 26) 11 = .ok (.getfield 21, 3)) (by decide +kernel) rfl
theorem t26_14 : rn 26 14 (a0 :: a1 :: some (.int x) :: l) r M = rn 26 15 (a0 :: a1 :: some (.int x) :: l) (.int x :: r) M := r_iload_n (by decide +kernel : decode (mB 26) 14 = .ok (.iload_n 2, 1)) rfl
theorem t26_15 : rn 26 15 ls (.int x :: .ref a :: r) M = if (mK M a).1 = 2 ∧ inR x (mK M a).2 then rn 26 16 ls (.long (mJ M a x.toNatClampNeg) :: r) M else none := r_cnd (by decide +kernel : decode (mB 26) 15 = .ok (.laload, 1)) rfl rfl
theorem t26_16 : rn 26 16 (a0 :: a1 :: a2 :: a3 :: a4 :: l) (.long u :: r) M = rn 26 17 (a0 :: a1 :: a2 :: some (.long u) :: none :: l) r M := r_lstore_n (by decide +kernel : decode (mB 26) 16 = .ok (.lstore_n 3, 1)) (Nat.le_add_left 5 l.length)
theorem t26_17 : rn 26 17 ls r M = rn 26 18 ls (.int 0 :: r) M := r_nx (by decide +kernel : decode (mB 26) 17 = .ok (.iconst 0, 1)) rfl rfl
theorem t26_18 : rn 26 18 (a0 :: a1 :: a2 :: a3 :: a4 :: a5 :: l) (.int x :: r) M = rn 26 20 (a0 :: a1 :: a2 :: a3 :: a4 :: some (.int x) :: l) r M := r_istore (by decide +kernel : decode (mB 26) 18 = .ok (.istore 5, 2)) (Nat.le_add_left 6 l.length)
theorem t26_20 : rn 26 20 (a0 :: a1 :: a2 :: a3 :: a4 :: some (.int x) :: l) r M = rn 26 22 (a0 :: a1 :: a2 :: a3 :: a4 :: some (.int x) :: l) (.int x :: r) M := r_iload (by decide +kernel : decode (mB 26) 20 = .ok (.iload 5, 2)) rfl
theorem t26_22 : rn 26 22 (a0 :: a1 :: some (.int x) :: l) r M = rn 26 23 (a0 :: a1 :: some (.int x) :: l) (.int x :: r) M := r_iload_n (by decide +kernel : decode (mB 26) 22 = .ok (.iload_n 2, 1)) rfl
theorem t26_23 : rn 26 23 ls (.int y :: .int x :: r) M = if y ≤ x then rn 26 56 ls r M else rn 26 26 ls r M := r_if (o := 33) (r := r) (c := y ≤ x) (by decide +kernel : decode (mB 26) 23 = .ok (.if_icmp .ge 33, 3)) rfl (by decide) rfl
theorem t26_26 : rn 26 26 (some (.ref a) :: l) r M = rn 26 27 (some (.ref a) :: l) (.ref a :: r) M := r_aload_n (by decide +kernel : decode (mB 26) 26 = .ok (.aload_n 0, 1)) rfl
theorem t26_27 : rn 26 27 ls (.ref a :: r) M = if mK M a = (12, 0) then rn 26 30 ls (va_rf (mP M a 5) :: r) M else none := r_getP (ci := 2) (k := 5) (by decide +kernel : decode (mB 26) 27 = .ok (.getfield 21, 3)) (by decide +kernel) rfl
theorem t26_30 : rn 26 30 (a0 :: a1 :: some (.int x) :: l) r M = rn 26 31 (a0 :: a1 :: some (.int x) :: l) (.int x :: r) M := r_iload_n (by decide +kernel : decode (mB 26) 30 = .ok (.iload_n 2, 1)) rfl
theorem t26_31 : rn 26 31 ls (.int x :: .ref a :: r) M = if (mK M a).1 = 2 ∧ inR x (mK M a).2 then rn 26 32 ls (.long (mJ M a x.toNatClampNeg) :: r) M else none := r_cnd (by decide +kernel : decode (mB 26) 31 = .ok (.laload, 1)) rfl rfl
theorem t26_32 : rn 26 32 (a0 :: a1 :: a2 :: a3 :: a4 :: some (.int x) :: l) r M = rn 26 34 (a0 :: a1 :: a2 :: a3 :: a4 :: some (.int x) :: l) (.int x :: r) M := r_iload (by decide +kernel : decode (mB 26) 32 = .ok (.iload 5, 2)) rfl
theorem t26_34 : rn 26 34 ls [.int x, .long u] M = cbn (cl 27 [.long u, .int x] M) 26 37 ls [] := r_callS (kd := 3) (by decide +kernel : decode (mB 26) 34 = .ok (.invokestatic 64, 3)) (by decide +kernel) (by decide +kernel) ((doS_n np_27).trans rfl)
theorem t26_37 : rn 26 37 ls (.int x :: r) M = if x = 0 then rn 26 50 ls r M else rn 26 40 ls r M := r_if (o := 13) (r := r) (c := x = 0) (by decide +kernel : decode (mB 26) 37 = .ok (.ifCond .eq 13, 3)) rfl (by decide) rfl
theorem t26_40 : rn 26 40 (a0 :: a1 :: a2 :: some (.long u) :: none :: l) r M = rn 26 41 (a0 :: a1 :: a2 :: some (.long u) :: none :: l) (.long u :: r) M := r_lload_n (by decide +kernel : decode (mB 26) 40 = .ok (.lload_n 3, 1)) rfl rfl
theorem t26_41 : rn 26 41 (some (.ref a) :: l) r M = rn 26 42 (some (.ref a) :: l) (.ref a :: r) M := r_aload_n (by decide +kernel : decode (mB 26) 41 = .ok (.aload_n 0, 1)) rfl
theorem t26_42 : rn 26 42 ls (.ref a :: r) M = if mK M a = (12, 0) then rn 26 45 ls (va_rf (mP M a 6) :: r) M else none := r_getP (ci := 2) (k := 6) (by decide +kernel : decode (mB 26) 42 = .ok (.getfield 25, 3)) (by decide +kernel) rfl
theorem t26_45 : rn 26 45 (a0 :: a1 :: a2 :: a3 :: a4 :: some (.int x) :: l) r M = rn 26 47 (a0 :: a1 :: a2 :: a3 :: a4 :: some (.int x) :: l) (.int x :: r) M := r_iload (by decide +kernel : decode (mB 26) 45 = .ok (.iload 5, 2)) rfl
theorem t26_47 : rn 26 47 ls (.int x :: .ref a :: r) M = if (mK M a).1 = 2 ∧ inR x (mK M a).2 then rn 26 48 ls (.long (mJ M a x.toNatClampNeg) :: r) M else none := r_cnd (by decide +kernel : decode (mB 26) 47 = .ok (.laload, 1)) rfl rfl
theorem t26_48 : rn 26 48 ls (.long v :: .long u :: r) M = rn 26 49 ls (.long (u ||| v) :: r) M := r_nx (by decide +kernel : decode (mB 26) 48 = .ok (.lor, 1)) rfl rfl
theorem t26_49 : rn 26 49 (a0 :: a1 :: a2 :: a3 :: a4 :: l) (.long u :: r) M = rn 26 50 (a0 :: a1 :: a2 :: some (.long u) :: none :: l) r M := r_lstore_n (by decide +kernel : decode (mB 26) 49 = .ok (.lstore_n 3, 1)) (Nat.le_add_left 5 l.length)
theorem t26_50 : rn 26 50 (a0 :: a1 :: a2 :: a3 :: a4 :: some (.int x) :: l) r M = rn 26 53 (a0 :: a1 :: a2 :: a3 :: a4 :: some (.int (x + 1)) :: l) r M := r_iinc (by decide +kernel : decode (mB 26) 50 = .ok (.iinc 5 1, 3)) rfl
theorem t26_53 : rn 26 53 ls r M = rn 26 20 ls r M := r_goto (o := (-33)) (by decide +kernel : decode (mB 26) 53 = .ok (.goto (-33), 3)) (by decide)
theorem t26_56 : rn 26 56 (some (.ref a) :: l) r M = rn 26 57 (some (.ref a) :: l) (.ref a :: r) M := r_aload_n (by decide +kernel : decode (mB 26) 56 = .ok (.aload_n 0, 1)) rfl
theorem t26_57 : rn 26 57 ls (.ref a :: r) M = if mK M a = (12, 0) then rn 26 60 ls (va_rf (mP M a 6) :: r) M else none := r_getP (ci := 2) (k := 6) (by decide +kernel : decode (mB 26) 57 = .ok (.getfield 25, 3)) (by decide +kernel) rfl
theorem t26_60 : rn 26 60 (a0 :: a1 :: some (.int x) :: l) r M = rn 26 61 (a0 :: a1 :: some (.int x) :: l) (.int x :: r) M := r_iload_n (by decide +kernel : decode (mB 26) 60 = .ok (.iload_n 2, 1)) rfl
theorem t26_61 : rn 26 61 (a0 :: a1 :: a2 :: some (.long u) :: none :: l) r M = rn 26 62 (a0 :: a1 :: a2 :: some (.long u) :: none :: l) (.long u :: r) M := r_lload_n (by decide +kernel : decode (mB 26) 61 = .ok (.lload_n 3, 1)) rfl rfl
theorem t26_62 : rn 26 62 ls (.long u :: .int x :: .ref a :: r) M = if (mK M a).1 = 2 ∧ inR x (mK M a).2 then rn 26 63 ls r (sJ M a (va_up (mJ M a) x.toNatClampNeg u)) else none := r_cnd (by decide +kernel : decode (mB 26) 62 = .ok (.lastore, 1)) rfl rfl
theorem t26_63 : rn 26 63 (a0 :: a1 :: some (.int x) :: l) r M = rn 26 66 (a0 :: a1 :: some (.int (x + 1)) :: l) r M := r_iinc (by decide +kernel : decode (mB 26) 63 = .ok (.iinc 2 1, 3)) rfl
theorem t26_66 : rn 26 66 ls r M = rn 26 2 ls r M := r_goto (o := (-64)) (by decide +kernel : decode (mB 26) 66 = .ok (.goto (-64), 3)) (by decide)
theorem t26_69 : rn 26 69 ls [] M = some (none, M) := r_vreturn (by decide +kernel : decode (mB 26) 69 = .ok (.return_, 1)) rfl
-- 29 History_keepPrepared()V
theorem t29_0 : rn 29 0 (some (.ref a) :: l) r M = rn 29 1 (some (.ref a) :: l) (.ref a :: r) M := r_aload_n (by decide +kernel : decode (mB 29) 0 = .ok (.aload_n 0, 1)) rfl
theorem t29_1 : rn 29 1 (some (.ref a) :: l) r M = rn 29 2 (some (.ref a) :: l) (.ref a :: r) M := r_aload_n (by decide +kernel : decode (mB 29) 1 = .ok (.aload_n 0, 1)) rfl
theorem t29_2 : rn 29 2 ls (.ref a :: r) M = if mK M a = (15, 0) then rn 29 5 ls (.int (mI M a 1) :: r) M else none := r_getI (ci := 5) (k := 1) (by decide +kernel : decode (mB 29) 2 = .ok (.getfield 18, 3)) (by decide +kernel) (Or.inl rfl)
theorem t29_5 : rn 29 5 ls r M = rn 29 7 ls (.int 6 :: r) M := r_nx (by decide +kernel : decode (mB 29) 5 = .ok (.bipush 6, 2)) rfl rfl
theorem t29_7 : rn 29 7 ls (.int y :: .int x :: r) M = if ¬ x = y then rn 29 14 ls r M else rn 29 10 ls r M := r_if (o := 7) (r := r) (c := ¬ x = y) (by decide +kernel : decode (mB 29) 7 = .ok (.if_icmp .ne 7, 3)) rfl (by decide) rfl
theorem t29_10 : rn 29 10 ls r M = rn 29 11 ls (.int 0 :: r) M := r_nx (by decide +kernel : decode (mB 29) 10 = .ok (.iconst 0, 1)) rfl rfl
theorem t29_11 : rn 29 11 ls r M = rn 29 20 ls r M := r_goto (o := 9) (by decide +kernel : decode (mB 29) 11 = .ok (.goto 9, 3)) (by decide)
theorem t29_14 : rn 29 14 (some (.ref a) :: l) r M = rn 29 15 (some (.ref a) :: l) (.ref a :: r) M := r_aload_n (by decide +kernel : decode (mB 29) 14 = .ok (.aload_n 0, 1)) rfl
theorem t29_15 : rn 29 15 ls (.ref a :: r) M = if mK M a = (15, 0) then rn 29 18 ls (.int (mI M a 1) :: r) M else none := r_getI (ci := 5) (k := 1) (by decide +kernel : decode (mB 29) 15 = .ok (.getfield 18, 3)) (by decide +kernel) (Or.inl rfl)
theorem t29_18 : rn 29 18 ls r M = rn 29 19 ls (.int 1 :: r) M := r_nx (by decide +kernel : decode (mB 29) 18 = .ok (.iconst 1, 1)) rfl rfl
theorem t29_19 : rn 29 19 ls (.int y :: .int x :: r) M = rn 29 20 ls (.int (x + y) :: r) M := r_nx (by decide +kernel : decode (mB 29) 19 = .ok (.iadd, 1)) rfl rfl
theorem t29_20 : rn 29 20 ls (.int x :: .ref a :: r) M = if mK M a = (15, 0) then rn 29 23 ls r (sI M a (va_up (mI M a) 1 x)) else none := r_putI (ci := 5) (k := 1) (by decide +kernel : decode (mB 29) 20 = .ok (.putfield 18, 3)) (by decide +kernel) rfl rfl
theorem t29_23 : rn 29 23 (some (.ref a) :: l) r M = rn 29 24 (some (.ref a) :: l) (.ref a :: r) M := r_aload_n (by decide +kernel : decode (mB 29) 23 = .ok (.aload_n 0, 1)) rfl
theorem t29_24 : rn 29 24 (some (.ref a) :: l) r M = rn 29 25 (some (.ref a) :: l) (.ref a :: r) M := r_aload_n (by decide +kernel : decode (mB 29) 24 = .ok (.aload_n 0, 1)) rfl
theorem t29_25 : rn 29 25 ls (.ref a :: r) M = if mK M a = (15, 0) then rn 29 28 ls (.int (mI M a 2) :: r) M else none := r_getI (ci := 5) (k := 2) (by decide +kernel : decode (mB 29) 25 = .ok (.getfield 26, 3)) (by decide +kernel) (Or.inl rfl)
theorem t29_28 : rn 29 28 ls r M = rn 29 29 ls (.int 1 :: r) M := r_nx (by decide +kernel : decode (mB 29) 28 = .ok (.iconst 1, 1)) rfl rfl
theorem t29_29 : rn 29 29 ls (.int y :: .int x :: r) M = rn 29 30 ls (.int (x + y) :: r) M := r_nx (by decide +kernel : decode (mB 29) 29 = .ok (.iadd, 1)) rfl rfl
theorem t29_30 : rn 29 30 ls r M = rn 29 32 ls (.int 6 :: r) M := r_nx (by decide +kernel : decode (mB 29) 30 = .ok (.bipush 6, 2)) rfl rfl
theorem t29_32 : rn 29 32 ls [.int x, .int y, .ref a] M = cbn (cl 30 [.int y, .int x] M) 29 35 ls [.ref a] := r_callS (kd := 2) (by decide +kernel : decode (mB 29) 32 = .ok (.invokestatic 29, 3)) (by decide +kernel) (by decide +kernel) ((doS_n np_30).trans rfl)
theorem t29_35 : rn 29 35 ls (.int x :: .ref a :: r) M = if mK M a = (15, 0) then rn 29 38 ls r (sI M a (va_up (mI M a) 2 x)) else none := r_putI (ci := 5) (k := 2) (by decide +kernel : decode (mB 29) 35 = .ok (.putfield 26, 3)) (by decide +kernel) rfl rfl
theorem t29_38 : rn 29 38 ls [] M = some (none, M) := r_vreturn (by decide +kernel : decode (mB 29) 38 = .ok (.return_, 1)) rfl
-- 35 State_tellNeed(II)I
theorem t35_0 : rn 35 0 (some (.ref a) :: l) r M = rn 35 1 (some (.ref a) :: l) (.ref a :: r) M := r_aload_n (by decide +kernel : decode (mB 35) 0 = .ok (.aload_n 0, 1)) rfl
theorem t35_1 : rn 35 1 ls (.ref a :: r) M = if mK M a = (11, 0) then rn 35 4 ls (va_rf (mP M a 0) :: r) M else none := r_getP (ci := 1) (k := 0) (by decide +kernel : decode (mB 35) 1 = .ok (.getfield 12, 3)) (by decide +kernel) rfl
theorem t35_4 : rn 35 4 (a0 :: some (.int x) :: l) r M = rn 35 5 (a0 :: some (.int x) :: l) (.int x :: r) M := r_iload_n (by decide +kernel : decode (mB 35) 4 = .ok (.iload_n 1, 1)) rfl
theorem t35_5 : rn 35 5 ls [.int x, .ref a] M = if mK M a = (12, 0) then cbn (cl 36 [.ref a, .int x] M) 35 8 ls [] else none := r_callV (kd := 0) (by decide +kernel : decode (mB 35) 5 = .ok (.invokevirtual 43, 3)) (by decide +kernel) ((doV_n np_36).trans rfl)
theorem t35_8 : rn 35 8 ls (.int x :: r) M = if x = 0 then rn 35 22 ls r M else rn 35 11 ls r M := r_if (o := 14) (r := r) (c := x = 0) (by decide +kernel : decode (mB 35) 8 = .ok (.ifCond .eq 14, 3)) rfl (by decide) rfl
theorem t35_11 : rn 35 11 (some (.ref a) :: l) r M = rn 35 12 (some (.ref a) :: l) (.ref a :: r) M := r_aload_n (by decide +kernel : decode (mB 35) 11 = .ok (.aload_n 0, 1)) rfl
theorem t35_12 : rn 35 12 ls (.ref a :: r) M = if mK M a = (11, 0) then rn 35 15 ls (va_rf (mP M a 0) :: r) M else none := r_getP (ci := 1) (k := 0) (by decide +kernel : decode (mB 35) 12 = .ok (.getfield 12, 3)) (by decide +kernel) rfl
theorem t35_15 : rn 35 15 (a0 :: a1 :: some (.int x) :: l) r M = rn 35 16 (a0 :: a1 :: some (.int x) :: l) (.int x :: r) M := r_iload_n (by decide +kernel : decode (mB 35) 15 = .ok (.iload_n 2, 1)) rfl
theorem t35_16 : rn 35 16 ls [.int x, .ref a] M = if mK M a = (12, 0) then cbn (cl 36 [.ref a, .int x] M) 35 19 ls [] else none := r_callV (kd := 0) (by decide +kernel : decode (mB 35) 16 = .ok (.invokevirtual 43, 3)) (by decide +kernel) ((doV_n np_36).trans rfl)
theorem t35_19 : rn 35 19 ls (.int x :: r) M = if ¬ x = 0 then rn 35 24 ls r M else rn 35 22 ls r M := r_if (o := 5) (r := r) (c := ¬ x = 0) (by decide +kernel : decode (mB 35) 19 = .ok (.ifCond .ne 5, 3)) rfl (by decide) rfl
theorem t35_22 : rn 35 22 ls r M = rn 35 23 ls (.int (-1) :: r) M := r_nx (by decide +kernel : decode (mB 35) 22 = .ok (.iconst (-1), 1)) rfl rfl
theorem t35_23 : rn 35 23 ls [.int x] M = some (some (.int x), M) := r_ireturn (by decide +kernel : decode (mB 35) 23 = .ok (.ireturn, 1)) rfl
theorem t35_24 : rn 35 24 (a0 :: a1 :: some (.int x) :: l) r M = rn 35 25 (a0 :: a1 :: some (.int x) :: l) (.int x :: r) M := r_iload_n (by decide +kernel : decode (mB 35) 24 = .ok (.iload_n 2, 1)) rfl
theorem t35_25 : rn 35 25 (a0 :: some (.int x) :: l) r M = rn 35 26 (a0 :: some (.int x) :: l) (.int x :: r) M := r_iload_n (by decide +kernel : decode (mB 35) 25 = .ok (.iload_n 1, 1)) rfl
theorem t35_26 : rn 35 26 ls (.int y :: .int x :: r) M = if x < y then rn 35 32 ls r M else rn 35 29 ls r M := r_if (o := 6) (r := r) (c := x < y) (by decide +kernel : decode (mB 35) 26 = .ok (.if_icmp .lt 6, 3)) rfl (by decide) rfl
theorem t35_29 : rn 35 29 ls r M = rn 35 31 ls (.int (-5) :: r) M := r_nx (by decide +kernel : decode (mB 35) 29 = .ok (.bipush (-5), 2)) rfl rfl
theorem t35_31 : rn 35 31 ls [.int x] M = some (some (.int x), M) := r_ireturn (by decide +kernel : decode (mB 35) 31 = .ok (.ireturn, 1)) rfl
theorem t35_32 : rn 35 32 (some (.ref a) :: l) r M = rn 35 33 (some (.ref a) :: l) (.ref a :: r) M := r_aload_n (by decide +kernel : decode (mB 35) 32 = .ok (.aload_n 0, 1)) rfl
theorem t35_33 : rn 35 33 ls (.ref a :: r) M = if mK M a = (11, 0) then rn 35 36 ls (va_rf (mP M a 0) :: r) M else none := r_getP (ci := 1) (k := 0) (by decide +kernel : decode (mB 35) 33 = .ok (.getfield 12, 3)) (by decide +kernel) rfl
theorem t35_36 : rn 35 36 ls (.ref a :: r) M = if mK M a = (12, 0) then rn 35 39 ls (va_rf (mP M a 5) :: r) M else none := r_getP (ci := 2) (k := 5) (by decide +kernel : decode (mB 35) 36 = .ok (.getfield 46, 3)) (by decide +kernel) rfl
theorem t35_39 : rn 35 39 (a0 :: some (.int x) :: l) r M = rn 35 40 (a0 :: some (.int x) :: l) (.int x :: r) M := r_iload_n (by decide +kernel : decode (mB 35) 39 = .ok (.iload_n 1, 1)) rfl
theorem t35_40 : rn 35 40 ls (.int x :: .ref a :: r) M = rn 35 41 ls (.int x :: .ref a :: .int x :: .ref a :: r) M := r_nx (by decide +kernel : decode (mB 35) 40 = .ok (.dup2, 1)) rfl rfl
theorem t35_41 : rn 35 41 ls (.int x :: .ref a :: r) M = if (mK M a).1 = 2 ∧ inR x (mK M a).2 then rn 35 42 ls (.long (mJ M a x.toNatClampNeg) :: r) M else none := r_cnd (by decide +kernel : decode (mB 35) 41 = .ok (.laload, 1)) rfl rfl
theorem t35_42 : rn 35 42 (a0 :: a1 :: some (.int x) :: l) r M = rn 35 43 (a0 :: a1 :: some (.int x) :: l) (.int x :: r) M := r_iload_n (by decide +kernel : decode (mB 35) 42 = .ok (.iload_n 2, 1)) rfl
theorem t35_43 : rn 35 43 ls [.int x, .long u, .int y, .ref a] M = cbn (cl 24 [.int x] M) 35 46 ls [.long u, .int y, .ref a] := r_callS (kd := 3) (by decide +kernel : decode (mB 35) 43 = .ok (.invokestatic 50, 3)) (by decide +kernel) (by decide +kernel) ((doS_n np_24).trans rfl)
theorem t35_46 : rn 35 46 ls (.long v :: .long u :: r) M = rn 35 47 ls (.long (u ||| v) :: r) M := r_nx (by decide +kernel : decode (mB 35) 46 = .ok (.lor, 1)) rfl rfl
theorem t35_47 : rn 35 47 ls (.long u :: .int x :: .ref a :: r) M = if (mK M a).1 = 2 ∧ inR x (mK M a).2 then rn 35 48 ls r (sJ M a (va_up (mJ M a) x.toNatClampNeg u)) else none := r_cnd (by decide +kernel : decode (mB 35) 47 = .ok (.lastore, 1)) rfl rfl
theorem t35_48 : rn 35 48 (some (.ref a) :: l) r M = rn 35 49 (some (.ref a) :: l) (.ref a :: r) M := r_aload_n (by decide +kernel : decode (mB 35) 48 = .ok (.aload_n 0, 1)) rfl
theorem t35_49 : rn 35 49 ls (.ref a :: r) M = if mK M a = (11, 0) then rn 35 52 ls (va_rf (mP M a 0) :: r) M else none := r_getP (ci := 1) (k := 0) (by decide +kernel : decode (mB 35) 49 = .ok (.getfield 12, 3)) (by decide +kernel) rfl
theorem t35_52 : rn 35 52 (a0 :: some (.int x) :: l) r M = rn 35 53 (a0 :: some (.int x) :: l) (.int x :: r) M := r_iload_n (by decide +kernel : decode (mB 35) 52 = .ok (.iload_n 1, 1)) rfl
theorem t35_53 : rn 35 53 ls [.int x, .ref a] M = if mK M a = (12, 0) then cbn (cl 26 [.ref a, .int x] M) 35 56 ls [] else none := r_callV (kd := 0) (by decide +kernel : decode (mB 35) 53 = .ok (.invokevirtual 54, 3)) (by decide +kernel) ((doV_n np_26).trans rfl)
theorem t35_56 : rn 35 56 (some (.ref a) :: l) r M = rn 35 57 (some (.ref a) :: l) (.ref a :: r) M := r_aload_n (by decide +kernel : decode (mB 35) 56 = .ok (.aload_n 0, 1)) rfl
theorem t35_57 : rn 35 57 ls (.ref a :: r) M = if mK M a = (11, 0) then rn 35 60 ls (va_rf (mP M a 1) :: r) M else none := r_getP (ci := 1) (k := 1) (by decide +kernel : decode (mB 35) 57 = .ok (.getfield 21, 3)) (by decide +kernel) rfl
theorem t35_60 : rn 35 60 ls [.ref a] M = if mK M a = (13, 0) then cbn (cl 7 [.ref a] M) 35 63 ls [] else none := r_callV (kd := 0) (by decide +kernel : decode (mB 35) 60 = .ok (.invokevirtual 58, 3)) (by decide +kernel) ((doV_n np_7).trans rfl)
theorem t35_63 : rn 35 63 (some (.ref a) :: l) r M = rn 35 64 (some (.ref a) :: l) (.ref a :: r) M := r_aload_n (by decide +kernel : decode (mB 35) 63 = .ok (.aload_n 0, 1)) rfl
theorem t35_64 : rn 35 64 ls (.ref a :: r) M = if mK M a = (11, 0) then rn 35 67 ls (va_rf (mP M a 0) :: r) M else none := r_getP (ci := 1) (k := 0) (by decide +kernel : decode (mB 35) 64 = .ok (.getfield 12, 3)) (by decide +kernel) rfl
theorem t35_67 : rn 35 67 ls (.ref a :: r) M = if mK M a = (12, 0) then rn 35 70 ls (va_rf (mP M a 5) :: r) M else none := r_getP (ci := 2) (k := 5) (by decide +kernel : decode (mB 35) 67 = .ok (.getfield 46, 3)) (by decide +kernel) rfl
theorem t35_70 : rn 35 70 (a0 :: some (.int x) :: l) r M = rn 35 71 (a0 :: some (.int x) :: l) (.int x :: r) M := r_iload_n (by decide +kernel : decode (mB 35) 70 = .ok (.iload_n 1, 1)) rfl
theorem t35_71 : rn 35 71 ls (.int x :: .ref a :: r) M = if (mK M a).1 = 2 ∧ inR x (mK M a).2 then rn 35 72 ls (.long (mJ M a x.toNatClampNeg) :: r) M else none := r_cnd (by decide +kernel : decode (mB 35) 71 = .ok (.laload, 1)) rfl rfl
theorem t35_72 : rn 35 72 ls [.long u] M = cbn (cl 37 [.long u] M) 35 75 ls [] := r_callS (kd := 2) (by decide +kernel : decode (mB 35) 72 = .ok (.invokestatic 61, 3)) (by decide +kernel) (by decide +kernel) ((doS_n np_37).trans rfl)
theorem t35_75 : rn 35 75 ls [.int x] M = some (some (.int x), M) := r_ireturn (by decide +kernel : decode (mB 35) 75 = .ok (.ireturn, 1)) rfl
-- 36 Log_has(I)Z
theorem t36_0 : rn 36 0 (a0 :: some (.int x) :: l) r M = rn 36 1 (a0 :: some (.int x) :: l) (.int x :: r) M := r_iload_n (by decide +kernel : decode (mB 36) 0 = .ok (.iload_n 1, 1)) rfl
theorem t36_1 : rn 36 1 ls (.int x :: r) M = if x < 0 then rn 36 16 ls r M else rn 36 4 ls r M := r_if (o := 15) (r := r) (c := x < 0) (by decide +kernel : decode (mB 36) 1 = .ok (.ifCond .lt 15, 3)) rfl (by decide) rfl
theorem t36_4 : rn 36 4 (a0 :: some (.int x) :: l) r M = rn 36 5 (a0 :: some (.int x) :: l) (.int x :: r) M := r_iload_n (by decide +kernel : decode (mB 36) 4 = .ok (.iload_n 1, 1)) rfl
theorem t36_5 : rn 36 5 (some (.ref a) :: l) r M = rn 36 6 (some (.ref a) :: l) (.ref a :: r) M := r_aload_n (by decide +kernel : decode (mB 36) 5 = .ok (.aload_n 0, 1)) rfl
theorem t36_6 : rn 36 6 ls (.ref a :: r) M = if mK M a = (12, 0) then rn 36 9 ls (.int (mI M a 0) :: r) M else none := r_getI (ci := 2) (k := 0) (by decide +kernel : decode (mB 36) 6 = .ok (.getfield 28, 3)) (by decide +kernel) (Or.inl rfl)
theorem t36_9 : rn 36 9 ls (.int y :: .int x :: r) M = if y ≤ x then rn 36 16 ls r M else rn 36 12 ls r M := r_if (o := 7) (r := r) (c := y ≤ x) (by decide +kernel : decode (mB 36) 9 = .ok (.if_icmp .ge 7, 3)) rfl (by decide) rfl
theorem t36_12 : rn 36 12 ls r M = rn 36 13 ls (.int 1 :: r) M := r_nx (by decide +kernel : decode (mB 36) 12 = .ok (.iconst 1, 1)) rfl rfl
theorem t36_13 : rn 36 13 ls r M = rn 36 17 ls r M := r_goto (o := 4) (by decide +kernel : decode (mB 36) 13 = .ok (.goto 4, 3)) (by decide)
theorem t36_16 : rn 36 16 ls r M = rn 36 17 ls (.int 0 :: r) M := r_nx (by decide +kernel : decode (mB 36) 16 = .ok (.iconst 0, 1)) rfl rfl
theorem t36_17 : rn 36 17 ls [.int x] M = if x = 0 ∨ x = 1 then some (some (.int x), M) else none := r_zreturn (by decide +kernel : decode (mB 36) 17 = .ok (.ireturn, 1)) rfl
-- 39 State_loseEntry(I)I
theorem t39_0 : rn 39 0 (some (.ref a) :: l) r M = rn 39 1 (some (.ref a) :: l) (.ref a :: r) M := r_aload_n (by decide +kernel : decode (mB 39) 0 = .ok (.aload_n 0, 1)) rfl
theorem t39_1 : rn 39 1 (a0 :: some (.int x) :: l) r M = rn 39 2 (a0 :: some (.int x) :: l) (.int x :: r) M := r_iload_n (by decide +kernel : decode (mB 39) 1 = .ok (.iload_n 1, 1)) rfl
theorem t39_2 : rn 39 2 ls r M = rn 39 3 ls (.int 0 :: r) M := r_nx (by decide +kernel : decode (mB 39) 2 = .ok (.iconst 0, 1)) rfl rfl
theorem t39_3 : rn 39 3 ls [.int x, .int y, .ref a] M = if mK M a = (11, 0) then cbn (cl 40 [.ref a, .int y, .int x] M) 39 6 ls [] else none := r_callV (kd := 0) (by decide +kernel : decode (mB 39) 3 = .ok (.invokevirtual 67, 3)) (by decide +kernel) ((doV_n np_40).trans rfl)
theorem t39_6 : rn 39 6 ls [.int x] M = some (some (.int x), M) := r_ireturn (by decide +kernel : decode (mB 39) 6 = .ok (.ireturn, 1)) rfl
-- 40 State_turnLost(IZ)I
theorem t40_0 : rn 40 0 (some (.ref a) :: l) r M = rn 40 1 (some (.ref a) :: l) (.ref a :: r) M := r_aload_n (by decide +kernel : decode (mB 40) 0 = .ok (.aload_n 0, 1)) rfl
theorem t40_1 : rn 40 1 ls (.ref a :: r) M = if mK M a = (11, 0) then rn 40 4 ls (va_rf (mP M a 0) :: r) M else none := r_getP (ci := 1) (k := 0) (by decide +kernel : decode (mB 40) 1 = .ok (.getfield 12, 3)) (by decide +kernel) rfl
theorem t40_4 : rn 40 4 (a0 :: some (.int x) :: l) r M = rn 40 5 (a0 :: some (.int x) :: l) (.int x :: r) M := r_iload_n (by decide +kernel : decode (mB 40) 4 = .ok (.iload_n 1, 1)) rfl
theorem t40_5 : rn 40 5 ls [.int x, .ref a] M = if mK M a = (12, 0) then cbn (cl 36 [.ref a, .int x] M) 40 8 ls [] else none := r_callV (kd := 0) (by decide +kernel : decode (mB 40) 5 = .ok (.invokevirtual 43, 3)) (by decide +kernel) ((doV_n np_36).trans rfl)
theorem t40_8 : rn 40 8 ls (.int x :: r) M = if ¬ x = 0 then rn 40 13 ls r M else rn 40 11 ls r M := r_if (o := 5) (r := r) (c := ¬ x = 0) (by decide +kernel : decode (mB 40) 8 = .ok (.ifCond .ne 5, 3)) rfl (by decide) rfl
theorem t40_11 : rn 40 11 ls r M = rn 40 12 ls (.int (-1) :: r) M := r_nx (by decide +kernel : decode (mB 40) 11 = .ok (.iconst (-1), 1)) rfl rfl
theorem t40_12 : rn 40 12 ls [.int x] M = some (some (.int x), M) := r_ireturn (by decide +kernel : decode (mB 40) 12 = .ok (.ireturn, 1)) rfl
theorem t40_13 : rn 40 13 (some (.ref a) :: l) r M = rn 40 14 (some (.ref a) :: l) (.ref a :: r) M := r_aload_n (by decide +kernel : decode (mB 40) 13 = .ok (.aload_n 0, 1)) rfl
theorem t40_14 : rn 40 14 ls (.ref a :: r) M = if mK M a = (11, 0) then rn 40 17 ls (va_rf (mP M a 0) :: r) M else none := r_getP (ci := 1) (k := 0) (by decide +kernel : decode (mB 40) 14 = .ok (.getfield 12, 3)) (by decide +kernel) rfl
theorem t40_17 : rn 40 17 ls (.ref a :: r) M = if mK M a = (12, 0) then rn 40 20 ls (.long (mJ M a 1) :: r) M else none := r_getJ (ci := 2) (k := 1) (by decide +kernel : decode (mB 40) 17 = .ok (.getfield 71, 3)) (by decide +kernel) rfl
theorem t40_20 : rn 40 20 (a0 :: some (.int x) :: l) r M = rn 40 21 (a0 :: some (.int x) :: l) (.int x :: r) M := r_iload_n (by decide +kernel : decode (mB 40) 20 = .ok (.iload_n 1, 1)) rfl
theorem t40_21 : rn 40 21 ls [.int x, .long u] M = cbn (cl 27 [.long u, .int x] M) 40 24 ls [] := r_callS (kd := 3) (by decide +kernel : decode (mB 40) 21 = .ok (.invokestatic 75, 3)) (by decide +kernel) (by decide +kernel) ((doS_n np_27).trans rfl)
theorem t40_24 : rn 40 24 (a0 :: a1 :: some (.int x) :: l) r M = rn 40 25 (a0 :: a1 :: some (.int x) :: l) (.int x :: r) M := r_iload_n (by decide +kernel : decode (mB 40) 24 = .ok (.iload_n 2, 1)) rfl
theorem t40_25 : rn 40 25 ls (.int y :: .int x :: r) M = if x = y then rn 40 31 ls r M else rn 40 28 ls r M := r_if (o := 6) (r := r) (c := x = y) (by decide +kernel : decode (mB 40) 25 = .ok (.if_icmp .eq 6, 3)) rfl (by decide) rfl
theorem t40_28 : rn 40 28 ls r M = rn 40 30 ls (.int (-5) :: r) M := r_nx (by decide +kernel : decode (mB 40) 28 = .ok (.bipush (-5), 2)) rfl rfl
theorem t40_30 : rn 40 30 ls [.int x] M = some (some (.int x), M) := r_ireturn (by decide +kernel : decode (mB 40) 30 = .ok (.ireturn, 1)) rfl
theorem t40_31 : rn 40 31 (some (.ref a) :: l) r M = rn 40 32 (some (.ref a) :: l) (.ref a :: r) M := r_aload_n (by decide +kernel : decode (mB 40) 31 = .ok (.aload_n 0, 1)) rfl
theorem t40_32 : rn 40 32 ls (.ref a :: r) M = if mK M a = (11, 0) then rn 40 35 ls (va_rf (mP M a 0) :: r) M else none := r_getP (ci := 1) (k := 0) (by decide +kernel : decode (mB 40) 32 = .ok (.getfield 12, 3)) (by decide +kernel) rfl
theorem t40_35 : rn 40 35 ls (.ref a :: r) M = rn 40 36 ls (.ref a :: .ref a :: r) M := r_nx (by decide +kernel : decode (mB 40) 35 = .ok (.dup, 1)) rfl rfl
theorem t40_36 : rn 40 36 ls (.ref a :: r) M = if mK M a = (12, 0) then rn 40 39 ls (.long (mJ M a 1) :: r) M else none := r_getJ (ci := 2) (k := 1) (by decide +kernel : decode (mB 40) 36 = .ok (.getfield 71, 3)) (by decide +kernel) rfl
theorem t40_39 : rn 40 39 (a0 :: some (.int x) :: l) r M = rn 40 40 (a0 :: some (.int x) :: l) (.int x :: r) M := r_iload_n (by decide +kernel : decode (mB 40) 39 = .ok (.iload_n 1, 1)) rfl
theorem t40_40 : rn 40 40 ls [.int x, .long u, .ref a] M = cbn (cl 24 [.int x] M) 40 43 ls [.long u, .ref a] := r_callS (kd := 3) (by decide +kernel : decode (mB 40) 40 = .ok (.invokestatic 50, 3)) (by decide +kernel) (by decide +kernel) ((doS_n np_24).trans rfl)
theorem t40_43 : rn 40 43 ls (.long v :: .long u :: r) M = rn 40 44 ls (.long (u ^^^ v) :: r) M := r_nx (by decide +kernel : decode (mB 40) 43 = .ok (.lxor, 1)) rfl rfl
theorem t40_44 : rn 40 44 ls (.long u :: .ref a :: r) M = if mK M a = (12, 0) then rn 40 47 ls r (sJ M a (va_up (mJ M a) 1 u)) else none := r_putJ (ci := 2) (k := 1) (by decide +kernel : decode (mB 40) 44 = .ok (.putfield 71, 3)) (by decide +kernel) rfl rfl
theorem t40_47 : rn 40 47 (some (.ref a) :: l) r M = rn 40 48 (some (.ref a) :: l) (.ref a :: r) M := r_aload_n (by decide +kernel : decode (mB 40) 47 = .ok (.aload_n 0, 1)) rfl
theorem t40_48 : rn 40 48 ls (.ref a :: r) M = if mK M a = (11, 0) then rn 40 51 ls (va_rf (mP M a 1) :: r) M else none := r_getP (ci := 1) (k := 1) (by decide +kernel : decode (mB 40) 48 = .ok (.getfield 21, 3)) (by decide +kernel) rfl
theorem t40_51 : rn 40 51 ls [.ref a] M = if mK M a = (13, 0) then cbn (cl 7 [.ref a] M) 40 54 ls [] else none := r_callV (kd := 0) (by decide +kernel : decode (mB 40) 51 = .ok (.invokevirtual 58, 3)) (by decide +kernel) ((doV_n np_7).trans rfl)
theorem t40_54 : rn 40 54 (some (.ref a) :: l) r M = rn 40 55 (some (.ref a) :: l) (.ref a :: r) M := r_aload_n (by decide +kernel : decode (mB 40) 54 = .ok (.aload_n 0, 1)) rfl
theorem t40_55 : rn 40 55 ls (.ref a :: r) M = if mK M a = (11, 0) then rn 40 58 ls (va_rf (mP M a 0) :: r) M else none := r_getP (ci := 1) (k := 0) (by decide +kernel : decode (mB 40) 55 = .ok (.getfield 12, 3)) (by decide +kernel) rfl
theorem t40_58 : rn 40 58 ls [.ref a] M = if mK M a = (12, 0) then cbn (cl 41 [.ref a] M) 40 61 ls [] else none := r_callV (kd := 0) (by decide +kernel : decode (mB 40) 58 = .ok (.invokevirtual 79, 3)) (by decide +kernel) ((doV_n np_41).trans rfl)
theorem t40_61 : rn 40 61 ls [.long u] M = cbn (cl 37 [.long u] M) 40 64 ls [] := r_callS (kd := 2) (by decide +kernel : decode (mB 40) 61 = .ok (.invokestatic 61, 3)) (by decide +kernel) (by decide +kernel) ((doS_n np_37).trans rfl)
theorem t40_64 : rn 40 64 ls [.int x] M = some (some (.int x), M) := r_ireturn (by decide +kernel : decode (mB 40) 64 = .ok (.ireturn, 1)) rfl
-- 41 Log_orphans()J
theorem t41_0 : rn 41 0 (some (.ref a) :: l) r M = rn 41 1 (some (.ref a) :: l) (.ref a :: r) M := r_aload_n (by decide +kernel : decode (mB 41) 0 = .ok (.aload_n 0, 1)) rfl
theorem t41_1 : rn 41 1 (some (.ref a) :: l) r M = rn 41 2 (some (.ref a) :: l) (.ref a :: r) M := r_aload_n (by decide +kernel : decode (mB 41) 1 = .ok (.aload_n 0, 1)) rfl
theorem t41_2 : rn 41 2 ls (.ref a :: r) M = if mK M a = (12, 0) then rn 41 5 ls (.long (mJ M a 1) :: r) M else none := r_getJ (ci := 2) (k := 1) (by decide +kernel : decode (mB 41) 2 = .ok (.getfield 32, 3)) (by decide +kernel) rfl
theorem t41_5 : rn 41 5 ls [.long u, .ref a] M = if mK M a = (12, 0) then cbn (cl 42 [.ref a, .long u] M) 41 8 ls [] else none := r_callV (kd := 0) (by decide +kernel : decode (mB 41) 5 = .ok (.invokevirtual 68, 3)) (by decide +kernel) ((doV_n np_42).trans rfl)
theorem t41_8 : rn 41 8 ls [.long u] M = some (some (.long u), M) := r_lreturn (by decide +kernel : decode (mB 41) 8 = .ok (.lreturn, 1)) rfl
-- 42 Log_orphansOf(J)J
theorem t42_0 : rn 42 0 ls r M = rn 42 1 ls (.long 0 :: r) M := r_nx (by decide +kernel : decode (mB 42) 0 = .ok (.lconst 0, 1)) rfl rfl
theorem t42_1 : rn 42 1 (a0 :: a1 :: a2 :: a3 :: a4 :: l) (.long u :: r) M = rn 42 2 (a0 :: a1 :: a2 :: some (.long u) :: none :: l) r M := r_lstore_n (by decide +kernel : decode (mB 42) 1 = .ok (.lstore_n 3, 1)) (Nat.le_add_left 5 l.length)
theorem t42_2 : rn 42 2 ls r M = rn 42 3 ls (.int 0 :: r) M := r_nx (by decide +kernel : decode (mB 42) 2 = .ok (.iconst 0, 1)) rfl rfl
theorem t42_3 : rn 42 3 (a0 :: a1 :: a2 :: a3 :: a4 :: a5 :: l) (.int x :: r) M = rn 42 5 (a0 :: a1 :: a2 :: a3 :: a4 :: some (.int x) :: l) r M := r_istore (by decide +kernel : decode (mB 42) 3 = .ok (.istore 5, 2)) (Nat.le_add_left 6 l.length)
theorem t42_5 : rn 42 5 (a0 :: a1 :: a2 :: a3 :: a4 :: some (.int x) :: l) r M = rn 42 7 (a0 :: a1 :: a2 :: a3 :: a4 :: some (.int x) :: l) (.int x :: r) M := r_iload (by decide +kernel : decode (mB 42) 5 = .ok (.iload 5, 2)) rfl
theorem t42_7 : rn 42 7 (some (.ref a) :: l) r M = rn 42 8 (some (.ref a) :: l) (.ref a :: r) M := r_aload_n (by decide +kernel : decode (mB 42) 7 = .ok (.aload_n 0, 1)) rfl
theorem t42_8 : rn 42 8 ls (.ref a :: r) M = if mK M a = (12, 0) then rn 42 11 ls (.int (mI M a 0) :: r) M else none := r_getI (ci := 2) (k := 0) (by decide +kernel : decode (mB 42) 8 = .ok (.getfield 28, 3)) (by decide +kernel) (Or.inl rfl)
theorem t42_11 : rn 42 11 ls (.int y :: .int x :: r) M = if y ≤ x then rn 42 42 ls r M else rn 42 14 ls r M := r_if (o := 31) (r := r) (c := y ≤ x) (by decide +kernel : decode (mB 42) 11 = .ok (.if_icmp .ge 31, 3)) rfl (by decide) rfl
theorem t42_14 : rn 42 14 (some (.ref a) :: l) r M = rn 42 15 (some (.ref a) :: l) (.ref a :: r) M := r_aload_n (by decide +kernel : decode (mB 42) 14 = .ok (.aload_n 0, 1)) rfl
theorem t42_15 : rn 42 15 ls (.ref a :: r) M = if mK M a = (12, 0) then rn 42 18 ls (va_rf (mP M a 6) :: r) M else none := r_getP (ci := 2) (k := 6) (by decide +kernel : decode (mB 42) 15 = .ok (.getfield 25, 3)) (by decide +kernel) rfl
theorem t42_18 : rn 42 18 (a0 :: a1 :: a2 :: a3 :: a4 :: some (.int x) :: l) r M = rn 42 20 (a0 :: a1 :: a2 :: a3 :: a4 :: some (.int x) :: l) (.int x :: r) M := r_iload (by decide +kernel : decode (mB 42) 18 = .ok (.iload 5, 2)) rfl
theorem t42_20 : rn 42 20 ls (.int x :: .ref a :: r) M = if (mK M a).1 = 2 ∧ inR x (mK M a).2 then rn 42 21 ls (.long (mJ M a x.toNatClampNeg) :: r) M else none := r_cnd (by decide +kernel : decode (mB 42) 20 = .ok (.laload, 1)) rfl rfl
theorem t42_21 : rn 42 21 (a0 :: some (.long u) :: none :: l) r M = rn 42 22 (a0 :: some (.long u) :: none :: l) (.long u :: r) M := r_lload_n (by decide +kernel : decode (mB 42) 21 = .ok (.lload_n 1, 1)) rfl rfl
theorem t42_22 : rn 42 22 ls (.long v :: .long u :: r) M = rn 42 23 ls (.long (u &&& v) :: r) M := r_nx (by decide +kernel : decode (mB 42) 22 = .ok (.land, 1)) rfl rfl
theorem t42_23 : rn 42 23 ls r M = rn 42 24 ls (.long 0 :: r) M := r_nx (by decide +kernel : decode (mB 42) 23 = .ok (.lconst 0, 1)) rfl rfl
theorem t42_24 : rn 42 24 ls (.long v :: .long u :: r) M = rn 42 25 ls (.int (lg_cmp u v) :: r) M := r_nx (by decide +kernel : decode (mB 42) 24 = .ok (.lcmp, 1)) rfl rfl
theorem t42_25 : rn 42 25 ls (.int x :: r) M = if x = 0 then rn 42 36 ls r M else rn 42 28 ls r M := r_if (o := 11) (r := r) (c := x = 0) (by decide +kernel : decode (mB 42) 25 = .ok (.ifCond .eq 11, 3)) rfl (by decide) rfl
theorem t42_28 : rn 42 28 (a0 :: a1 :: a2 :: some (.long u) :: none :: l) r M = rn 42 29 (a0 :: a1 :: a2 :: some (.long u) :: none :: l) (.long u :: r) M := r_lload_n (by decide +kernel : decode (mB 42) 28 = .ok (.lload_n 3, 1)) rfl rfl
theorem t42_29 : rn 42 29 (a0 :: a1 :: a2 :: a3 :: a4 :: some (.int x) :: l) r M = rn 42 31 (a0 :: a1 :: a2 :: a3 :: a4 :: some (.int x) :: l) (.int x :: r) M := r_iload (by decide +kernel : decode (mB 42) 29 = .ok (.iload 5, 2)) rfl
theorem t42_31 : rn 42 31 ls [.int x, .long u] M = cbn (cl 24 [.int x] M) 42 34 ls [.long u] := r_callS (kd := 3) (by decide +kernel : decode (mB 42) 31 = .ok (.invokestatic 61, 3)) (by decide +kernel) (by decide +kernel) ((doS_n np_24).trans rfl)
theorem t42_34 : rn 42 34 ls (.long v :: .long u :: r) M = rn 42 35 ls (.long (u ||| v) :: r) M := r_nx (by decide +kernel : decode (mB 42) 34 = .ok (.lor, 1)) rfl rfl
theorem t42_35 : rn 42 35 (a0 :: a1 :: a2 :: a3 :: a4 :: l) (.long u :: r) M = rn 42 36 (a0 :: a1 :: a2 :: some (.long u) :: none :: l) r M := r_lstore_n (by decide +kernel : decode (mB 42) 35 = .ok (.lstore_n 3, 1)) (Nat.le_add_left 5 l.length)
theorem t42_36 : rn 42 36 (a0 :: a1 :: a2 :: a3 :: a4 :: some (.int x) :: l) r M = rn 42 39 (a0 :: a1 :: a2 :: a3 :: a4 :: some (.int (x + 1)) :: l) r M := r_iinc (by decide +kernel : decode (mB 42) 36 = .ok (.iinc 5 1, 3)) rfl
theorem t42_39 : rn 42 39 ls r M = rn 42 5 ls r M := r_goto (o := (-34)) (by decide +kernel : decode (mB 42) 39 = .ok (.goto (-34), 3)) (by decide)
theorem t42_42 : rn 42 42 (a0 :: a1 :: a2 :: some (.long u) :: none :: l) r M = rn 42 43 (a0 :: a1 :: a2 :: some (.long u) :: none :: l) (.long u :: r) M := r_lload_n (by decide +kernel : decode (mB 42) 42 = .ok (.lload_n 3, 1)) rfl rfl
theorem t42_43 : rn 42 43 (a0 :: some (.long u) :: none :: l) r M = rn 42 44 (a0 :: some (.long u) :: none :: l) (.long u :: r) M := r_lload_n (by decide +kernel : decode (mB 42) 43 = .ok (.lload_n 1, 1)) rfl rfl
theorem t42_44 : rn 42 44 ls r M = rn 42 47 ls (.long (-1) :: r) M := r_nx (by decide +kernel : decode (mB 42) 44 = .ok (.ldc2_w 72, 3)) rfl rfl
theorem t42_47 : rn 42 47 ls (.long v :: .long u :: r) M = rn 42 48 ls (.long (u ^^^ v) :: r) M := r_nx (by decide +kernel : decode (mB 42) 47 = .ok (.lxor, 1)) rfl rfl
theorem t42_48 : rn 42 48 ls (.long v :: .long u :: r) M = rn 42 49 ls (.long (u &&& v) :: r) M := r_nx (by decide +kernel : decode (mB 42) 48 = .ok (.land, 1)) rfl rfl
theorem t42_49 : rn 42 49 ls [.long u] M = some (some (.long u), M) := r_lreturn (by decide +kernel : decode (mB 42) 49 = .ok (.lreturn, 1)) rfl
-- 44 State_findEntry(I)I
theorem t44_0 : rn 44 0 (some (.ref a) :: l) r M = rn 44 1 (some (.ref a) :: l) (.ref a :: r) M := r_aload_n (by decide +kernel : decode (mB 44) 0 = .ok (.aload_n 0, 1)) rfl
theorem t44_1 : rn 44 1 (a0 :: some (.int x) :: l) r M = rn 44 2 (a0 :: some (.int x) :: l) (.int x :: r) M := r_iload_n (by decide +kernel : decode (mB 44) 1 = .ok (.iload_n 1, 1)) rfl
theorem t44_2 : rn 44 2 ls r M = rn 44 3 ls (.int 1 :: r) M := r_nx (by decide +kernel : decode (mB 44) 2 = .ok (.iconst 1, 1)) rfl rfl
theorem t44_3 : rn 44 3 ls [.int x, .int y, .ref a] M = if mK M a = (11, 0) then cbn (cl 40 [.ref a, .int y, .int x] M) 44 6 ls [] else none := r_callV (kd := 0) (by decide +kernel : decode (mB 44) 3 = .ok (.invokevirtual 67, 3)) (by decide +kernel) ((doV_n np_40).trans rfl)
theorem t44_6 : rn 44 6 ls [.int x] M = some (some (.int x), M) := r_ireturn (by decide +kernel : decode (mB 44) 6 = .ok (.ireturn, 1)) rfl
-- 47 Replay_makeRound(LDependentReplay$Log;)I
theorem t47_0 : rn 47 0 (some (.ref a) :: l) r M = rn 47 1 (some (.ref a) :: l) (.ref a :: r) M := r_aload_n (by decide +kernel : decode (mB 47) 0 = .ok (.aload_n 0, 1)) rfl
theorem t47_1 : rn 47 1 (a0 :: some (.ref a) :: l) r M = rn 47 2 (a0 :: some (.ref a) :: l) (.ref a :: r) M := r_aload_n (by decide +kernel : decode (mB 47) 1 = .ok (.aload_n 1, 1)) rfl
theorem t47_2 : rn 47 2 (some (.ref a) :: l) r M = rn 47 3 (some (.ref a) :: l) (.ref a :: r) M := r_aload_n (by decide +kernel : decode (mB 47) 2 = .ok (.aload_n 0, 1)) rfl
theorem t47_3 : rn 47 3 (a0 :: some (.ref a) :: l) r M = rn 47 4 (a0 :: some (.ref a) :: l) (.ref a :: r) M := r_aload_n (by decide +kernel : decode (mB 47) 3 = .ok (.aload_n 1, 1)) rfl
theorem t47_4 : rn 47 4 ls [.ref a, .ref b, .ref c, .ref d] M = if mK M b = (13, 0) then cbn (cl 48 [.ref b, .ref a] M) 47 7 ls [.ref c, .ref d] else none := r_callV (kd := 0) (by decide +kernel : decode (mB 47) 4 = .ok (.invokevirtual 81, 3)) (by decide +kernel) ((doV_n np_48).trans rfl)
theorem t47_7 : rn 47 7 ls [.long u, .ref a, .ref b] M = if mK M b = (13, 0) then cbn (cl 49 [.ref b, .ref a, .long u] M) 47 10 ls [] else none := r_callV (kd := 0) (by decide +kernel : decode (mB 47) 7 = .ok (.invokevirtual 85, 3)) (by decide +kernel) ((doV_n np_49).trans rfl)
theorem t47_10 : rn 47 10 ls [.int x] M = some (some (.int x), M) := r_ireturn (by decide +kernel : decode (mB 47) 10 = .ok (.ireturn, 1)) rfl
-- 48 Replay_ready(LDependentReplay$Log;)J
theorem t48_0 : rn 48 0 (a0 :: some (.ref a) :: l) r M = rn 48 1 (a0 :: some (.ref a) :: l) (.ref a :: r) M := r_aload_n (by decide +kernel : decode (mB 48) 0 = .ok (.aload_n 1, 1)) rfl
theorem t48_1 : rn 48 1 ls (.ref a :: r) M = if mK M a = (12, 0) then rn 48 4 ls (.long (mJ M a 1) :: r) M else none := r_getJ (ci := 2) (k := 1) (by decide +kernel : decode (mB 48) 1 = .ok (.getfield 59, 3)) (by decide +kernel) rfl
theorem t48_4 : rn 48 4 (some (.ref a) :: l) r M = rn 48 5 (some (.ref a) :: l) (.ref a :: r) M := r_aload_n (by decide +kernel : decode (mB 48) 4 = .ok (.aload_n 0, 1)) rfl
theorem t48_5 : rn 48 5 ls (.ref a :: r) M = if mK M a = (13, 0) then rn 48 8 ls (.long (mJ M a 0) :: r) M else none := r_getJ (ci := 3) (k := 0) (by decide +kernel : decode (mB 48) 5 = .ok (.getfield 28, 3)) (by decide +kernel) rfl
theorem t48_8 : rn 48 8 ls (.long v :: .long u :: r) M = rn 48 9 ls (.long (u ||| v) :: r) M := r_nx (by decide +kernel : decode (mB 48) 8 = .ok (.lor, 1)) rfl rfl
theorem t48_9 : rn 48 9 (a0 :: a1 :: a2 :: a3 :: l) (.long u :: r) M = rn 48 10 (a0 :: a1 :: some (.long u) :: none :: l) r M := r_lstore_n (by decide +kernel : decode (mB 48) 9 = .ok (.lstore_n 2, 1)) (Nat.le_add_left 4 l.length)
theorem t48_10 : rn 48 10 ls r M = rn 48 11 ls (.long 0 :: r) M := r_nx (by decide +kernel : decode (mB 48) 10 = .ok (.lconst 0, 1)) rfl rfl
theorem t48_11 : rn 48 11 (a0 :: a1 :: a2 :: a3 :: a4 :: a5 :: l) (.long u :: r) M = rn 48 13 (a0 :: a1 :: a2 :: a3 :: some (.long u) :: none :: l) r M := r_lstore (by decide +kernel : decode (mB 48) 11 = .ok (.lstore 4, 2)) (Nat.le_add_left 6 l.length)
theorem t48_13 : rn 48 13 ls r M = rn 48 14 ls (.int 0 :: r) M := r_nx (by decide +kernel : decode (mB 48) 13 = .ok (.iconst 0, 1)) rfl rfl
theorem t48_14 : rn 48 14 (a0 :: a1 :: a2 :: a3 :: a4 :: a5 :: a6 :: l) (.int x :: r) M = rn 48 16 (a0 :: a1 :: a2 :: a3 :: a4 :: a5 :: some (.int x) :: l) r M := r_istore (by decide +kernel : decode (mB 48) 14 = .ok (.istore 6, 2)) (Nat.le_add_left 7 l.length)
theorem t48_16 : rn 48 16 (a0 :: a1 :: a2 :: a3 :: a4 :: a5 :: some (.int x) :: l) r M = rn 48 18 (a0 :: a1 :: a2 :: a3 :: a4 :: a5 :: some (.int x) :: l) (.int x :: r) M := r_iload (by decide +kernel : decode (mB 48) 16 = .ok (.iload 6, 2)) rfl
theorem t48_18 : rn 48 18 (a0 :: some (.ref a) :: l) r M = rn 48 19 (a0 :: some (.ref a) :: l) (.ref a :: r) M := r_aload_n (by decide +kernel : decode (mB 48) 18 = .ok (.aload_n 1, 1)) rfl
theorem t48_19 : rn 48 19 ls (.ref a :: r) M = if mK M a = (12, 0) then rn 48 22 ls (.int (mI M a 0) :: r) M else none := r_getI (ci := 2) (k := 0) (by decide +kernel : decode (mB 48) 19 = .ok (.getfield 64, 3)) (by decide +kernel) (Or.inl rfl)
theorem t48_22 : rn 48 22 ls (.int y :: .int x :: r) M = if y ≤ x then rn 48 71 ls r M else rn 48 25 ls r M := r_if (o := 49) (r := r) (c := y ≤ x) (by decide +kernel : decode (mB 48) 22 = .ok (.if_icmp .ge 49, 3)) rfl (by decide) rfl
theorem t48_25 : rn 48 25 (a0 :: a1 :: some (.long u) :: none :: l) r M = rn 48 26 (a0 :: a1 :: some (.long u) :: none :: l) (.long u :: r) M := r_lload_n (by decide +kernel : decode (mB 48) 25 = .ok (.lload_n 2, 1)) rfl rfl
theorem t48_26 : rn 48 26 (a0 :: a1 :: a2 :: a3 :: a4 :: a5 :: some (.int x) :: l) r M = rn 48 28 (a0 :: a1 :: a2 :: a3 :: a4 :: a5 :: some (.int x) :: l) (.int x :: r) M := r_iload (by decide +kernel : decode (mB 48) 26 = .ok (.iload 6, 2)) rfl
theorem t48_28 : rn 48 28 ls [.int x, .long u] M = cbn (cl 27 [.long u, .int x] M) 48 31 ls [] := r_callS (kd := 3) (by decide +kernel : decode (mB 48) 28 = .ok (.invokestatic 67, 3)) (by decide +kernel) (by decide +kernel) ((doS_n np_27).trans rfl)
theorem t48_31 : rn 48 31 ls (.int x :: r) M = if ¬ x = 0 then rn 48 65 ls r M else rn 48 34 ls r M := r_if (o := 34) (r := r) (c := ¬ x = 0) (by decide +kernel : decode (mB 48) 31 = .ok (.ifCond .ne 34, 3)) rfl (by decide) rfl
theorem t48_34 : rn 48 34 (a0 :: some (.ref a) :: l) r M = rn 48 35 (a0 :: some (.ref a) :: l) (.ref a :: r) M := r_aload_n (by decide +kernel : decode (mB 48) 34 = .ok (.aload_n 1, 1)) rfl
theorem t48_35 : rn 48 35 ls (.ref a :: r) M = if mK M a = (12, 0) then rn 48 38 ls (va_rf (mP M a 5) :: r) M else none := r_getP (ci := 2) (k := 5) (by decide +kernel : decode (mB 48) 35 = .ok (.getfield 71, 3)) (by decide +kernel) rfl
theorem t48_38 : rn 48 38 (a0 :: a1 :: a2 :: a3 :: a4 :: a5 :: some (.int x) :: l) r M = rn 48 40 (a0 :: a1 :: a2 :: a3 :: a4 :: a5 :: some (.int x) :: l) (.int x :: r) M := r_iload (by decide +kernel : decode (mB 48) 38 = .ok (.iload 6, 2)) rfl
theorem t48_40 : rn 48 40 ls (.int x :: .ref a :: r) M = if (mK M a).1 = 2 ∧ inR x (mK M a).2 then rn 48 41 ls (.long (mJ M a x.toNatClampNeg) :: r) M else none := r_cnd (by decide +kernel : decode (mB 48) 40 = .ok (.laload, 1)) rfl rfl
theorem t48_41 : rn 48 41 (some (.ref a) :: l) r M = rn 48 42 (some (.ref a) :: l) (.ref a :: r) M := r_aload_n (by decide +kernel : decode (mB 48) 41 = .ok (.aload_n 0, 1)) rfl
theorem t48_42 : rn 48 42 ls (.ref a :: r) M = if mK M a = (13, 0) then rn 48 45 ls (.long (mJ M a 0) :: r) M else none := r_getJ (ci := 3) (k := 0) (by decide +kernel : decode (mB 48) 42 = .ok (.getfield 28, 3)) (by decide +kernel) rfl
theorem t48_45 : rn 48 45 ls r M = rn 48 48 ls (.long (-1) :: r) M := r_nx (by decide +kernel : decode (mB 48) 45 = .ok (.ldc2_w 75, 3)) rfl rfl
theorem t48_48 : rn 48 48 ls (.long v :: .long u :: r) M = rn 48 49 ls (.long (u ^^^ v) :: r) M := r_nx (by decide +kernel : decode (mB 48) 48 = .ok (.lxor, 1)) rfl rfl
theorem t48_49 : rn 48 49 ls (.long v :: .long u :: r) M = rn 48 50 ls (.long (u &&& v) :: r) M := r_nx (by decide +kernel : decode (mB 48) 49 = .ok (.land, 1)) rfl rfl
theorem t48_50 : rn 48 50 ls r M = rn 48 51 ls (.long 0 :: r) M := r_nx (by decide +kernel : decode (mB 48) 50 = .ok (.lconst 0, 1)) rfl rfl
theorem t48_51 : rn 48 51 ls (.long v :: .long u :: r) M = rn 48 52 ls (.int (lg_cmp u v) :: r) M := r_nx (by decide +kernel : decode (mB 48) 51 = .ok (.lcmp, 1)) rfl rfl
theorem t48_52 : rn 48 52 ls (.int x :: r) M = if ¬ x = 0 then rn 48 65 ls r M else rn 48 55 ls r M := r_if (o := 13) (r := r) (c := ¬ x = 0) (by decide +kernel : decode (mB 48) 52 = .ok (.ifCond .ne 13, 3)) rfl (by decide) rfl
theorem t48_55 : rn 48 55 (a0 :: a1 :: a2 :: a3 :: some (.long u) :: none :: l) r M = rn 48 57 (a0 :: a1 :: a2 :: a3 :: some (.long u) :: none :: l) (.long u :: r) M := r_lload (by decide +kernel : decode (mB 48) 55 = .ok (.lload 4, 2)) rfl rfl
theorem t48_57 : rn 48 57 (a0 :: a1 :: a2 :: a3 :: a4 :: a5 :: some (.int x) :: l) r M = rn 48 59 (a0 :: a1 :: a2 :: a3 :: a4 :: a5 :: some (.int x) :: l) (.int x :: r) M := r_iload (by decide +kernel : decode (mB 48) 57 = .ok (.iload 6, 2)) rfl
theorem t48_59 : rn 48 59 ls [.int x, .long u] M = cbn (cl 24 [.int x] M) 48 62 ls [.long u] := r_callS (kd := 3) (by decide +kernel : decode (mB 48) 59 = .ok (.invokestatic 77, 3)) (by decide +kernel) (by decide +kernel) ((doS_n np_24).trans rfl)
theorem t48_62 : rn 48 62 ls (.long v :: .long u :: r) M = rn 48 63 ls (.long (u ||| v) :: r) M := r_nx (by decide +kernel : decode (mB 48) 62 = .ok (.lor, 1)) rfl rfl
theorem t48_63 : rn 48 63 (a0 :: a1 :: a2 :: a3 :: a4 :: a5 :: l) (.long u :: r) M = rn 48 65 (a0 :: a1 :: a2 :: a3 :: some (.long u) :: none :: l) r M := r_lstore (by decide +kernel : decode (mB 48) 63 = .ok (.lstore 4, 2)) (Nat.le_add_left 6 l.length)
theorem t48_65 : rn 48 65 (a0 :: a1 :: a2 :: a3 :: a4 :: a5 :: some (.int x) :: l) r M = rn 48 68 (a0 :: a1 :: a2 :: a3 :: a4 :: a5 :: some (.int (x + 1)) :: l) r M := r_iinc (by decide +kernel : decode (mB 48) 65 = .ok (.iinc 6 1, 3)) rfl
theorem t48_68 : rn 48 68 ls r M = rn 48 16 ls r M := r_goto (o := (-52)) (by decide +kernel : decode (mB 48) 68 = .ok (.goto (-52), 3)) (by decide)
theorem t48_71 : rn 48 71 (a0 :: a1 :: a2 :: a3 :: some (.long u) :: none :: l) r M = rn 48 73 (a0 :: a1 :: a2 :: a3 :: some (.long u) :: none :: l) (.long u :: r) M := r_lload (by decide +kernel : decode (mB 48) 71 = .ok (.lload 4, 2)) rfl rfl
theorem t48_73 : rn 48 73 ls [.long u] M = some (some (.long u), M) := r_lreturn (by decide +kernel : decode (mB 48) 73 = .ok (.lreturn, 1)) rfl
-- 49 Replay_replayReady(LDependentReplay$Log;J)I
theorem t49_0 : rn 49 0 ls r M = rn 49 1 ls (.int 0 :: r) M := r_nx (by decide +kernel : decode (mB 49) 0 = .ok (.iconst 0, 1)) rfl rfl
theorem t49_1 : rn 49 1 (a0 :: a1 :: a2 :: a3 :: a4 :: l) (.int x :: r) M = rn 49 3 (a0 :: a1 :: a2 :: a3 :: some (.int x) :: l) r M := r_istore (by decide +kernel : decode (mB 49) 1 = .ok (.istore 4, 2)) (Nat.le_add_left 5 l.length)
theorem t49_3 : rn 49 3 (a0 :: a1 :: a2 :: a3 :: some (.int x) :: l) r M = rn 49 5 (a0 :: a1 :: a2 :: a3 :: some (.int x) :: l) (.int x :: r) M := r_iload (by decide +kernel : decode (mB 49) 3 = .ok (.iload 4, 2)) rfl
theorem t49_5 : rn 49 5 (a0 :: some (.ref a) :: l) r M = rn 49 6 (a0 :: some (.ref a) :: l) (.ref a :: r) M := r_aload_n (by decide +kernel : decode (mB 49) 5 = .ok (.aload_n 1, 1)) rfl
theorem t49_6 : rn 49 6 ls (.ref a :: r) M = if mK M a = (12, 0) then rn 49 9 ls (.int (mI M a 0) :: r) M else none := r_getI (ci := 2) (k := 0) (by decide +kernel : decode (mB 49) 6 = .ok (.getfield 64, 3)) (by decide +kernel) (Or.inl rfl)
theorem t49_9 : rn 49 9 ls (.int y :: .int x :: r) M = if y ≤ x then rn 49 101 ls r M else rn 49 12 ls r M := r_if (o := 92) (r := r) (c := y ≤ x) (by decide +kernel : decode (mB 49) 9 = .ok (.if_icmp .ge 92, 3)) rfl (by decide) rfl
theorem t49_12 : rn 49 12 (a0 :: a1 :: some (.long u) :: none :: l) r M = rn 49 13 (a0 :: a1 :: some (.long u) :: none :: l) (.long u :: r) M := r_lload_n (by decide +kernel : decode (mB 49) 12 = .ok (.lload_n 2, 1)) rfl rfl
theorem t49_13 : rn 49 13 (a0 :: a1 :: a2 :: a3 :: some (.int x) :: l) r M = rn 49 15 (a0 :: a1 :: a2 :: a3 :: some (.int x) :: l) (.int x :: r) M := r_iload (by decide +kernel : decode (mB 49) 13 = .ok (.iload 4, 2)) rfl
theorem t49_15 : rn 49 15 ls [.int x, .long u] M = cbn (cl 27 [.long u, .int x] M) 49 18 ls [] := r_callS (kd := 3) (by decide +kernel : decode (mB 49) 15 = .ok (.invokestatic 67, 3)) (by decide +kernel) (by decide +kernel) ((doS_n np_27).trans rfl)
theorem t49_18 : rn 49 18 ls (.int x :: r) M = if x = 0 then rn 49 95 ls r M else rn 49 21 ls r M := r_if (o := 77) (r := r) (c := x = 0) (by decide +kernel : decode (mB 49) 18 = .ok (.ifCond .eq 77, 3)) rfl (by decide) rfl
theorem t49_21 : rn 49 21 (some (.ref a) :: l) r M = rn 49 22 (some (.ref a) :: l) (.ref a :: r) M := r_aload_n (by decide +kernel : decode (mB 49) 21 = .ok (.aload_n 0, 1)) rfl
theorem t49_22 : rn 49 22 ls (.ref a :: r) M = if mK M a = (13, 0) then rn 49 25 ls (va_rf (mP M a 5) :: r) M else none := r_getP (ci := 3) (k := 5) (by decide +kernel : decode (mB 49) 22 = .ok (.getfield 15, 3)) (by decide +kernel) rfl
theorem t49_25 : rn 49 25 (a0 :: a1 :: a2 :: a3 :: some (.int x) :: l) r M = rn 49 27 (a0 :: a1 :: a2 :: a3 :: some (.int x) :: l) (.int x :: r) M := r_iload (by decide +kernel : decode (mB 49) 25 = .ok (.iload 4, 2)) rfl
theorem t49_27 : rn 49 27 (some (.ref a) :: l) r M = rn 49 28 (some (.ref a) :: l) (.ref a :: r) M := r_aload_n (by decide +kernel : decode (mB 49) 27 = .ok (.aload_n 0, 1)) rfl
theorem t49_28 : rn 49 28 ls (.ref a :: r) M = if mK M a = (13, 0) then rn 49 31 ls (va_rf (mP M a 6) :: r) M else none := r_getP (ci := 3) (k := 6) (by decide +kernel : decode (mB 49) 28 = .ok (.getfield 21, 3)) (by decide +kernel) rfl
theorem t49_31 : rn 49 31 (a0 :: some (.ref a) :: l) r M = rn 49 32 (a0 :: some (.ref a) :: l) (.ref a :: r) M := r_aload_n (by decide +kernel : decode (mB 49) 31 = .ok (.aload_n 1, 1)) rfl
theorem t49_32 : rn 49 32 ls (.ref a :: r) M = if mK M a = (12, 0) then rn 49 35 ls (va_rf (mP M a 2) :: r) M else none := r_getP (ci := 2) (k := 2) (by decide +kernel : decode (mB 49) 32 = .ok (.getfield 89, 3)) (by decide +kernel) rfl
theorem t49_35 : rn 49 35 (a0 :: a1 :: a2 :: a3 :: some (.int x) :: l) r M = rn 49 37 (a0 :: a1 :: a2 :: a3 :: some (.int x) :: l) (.int x :: r) M := r_iload (by decide +kernel : decode (mB 49) 35 = .ok (.iload 4, 2)) rfl
theorem t49_37 : rn 49 37 ls (.int x :: .ref a :: r) M = if ((mK M a).1 = 1 ∨ (mK M a).1 = 5) ∧ inR x (mK M a).2 then rn 49 38 ls (.int (mI M a x.toNatClampNeg) :: r) M else none := r_cnd (by decide +kernel : decode (mB 49) 37 = .ok (.iaload, 1)) rfl rfl
theorem t49_38 : rn 49 38 (a0 :: some (.ref a) :: l) r M = rn 49 39 (a0 :: some (.ref a) :: l) (.ref a :: r) M := r_aload_n (by decide +kernel : decode (mB 49) 38 = .ok (.aload_n 1, 1)) rfl
theorem t49_39 : rn 49 39 ls (.ref a :: r) M = if mK M a = (12, 0) then rn 49 42 ls (va_rf (mP M a 3) :: r) M else none := r_getP (ci := 2) (k := 3) (by decide +kernel : decode (mB 49) 39 = .ok (.getfield 92, 3)) (by decide +kernel) rfl
theorem t49_42 : rn 49 42 (a0 :: a1 :: a2 :: a3 :: some (.int x) :: l) r M = rn 49 44 (a0 :: a1 :: a2 :: a3 :: some (.int x) :: l) (.int x :: r) M := r_iload (by decide +kernel : decode (mB 49) 42 = .ok (.iload 4, 2)) rfl
theorem t49_44 : rn 49 44 ls (.int x :: .ref a :: r) M = if ((mK M a).1 = 1 ∨ (mK M a).1 = 5) ∧ inR x (mK M a).2 then rn 49 45 ls (.int (mI M a x.toNatClampNeg) :: r) M else none := r_cnd (by decide +kernel : decode (mB 49) 44 = .ok (.iaload, 1)) rfl rfl
theorem t49_45 : rn 49 45 (a0 :: some (.ref a) :: l) r M = rn 49 46 (a0 :: some (.ref a) :: l) (.ref a :: r) M := r_aload_n (by decide +kernel : decode (mB 49) 45 = .ok (.aload_n 1, 1)) rfl
theorem t49_46 : rn 49 46 ls (.ref a :: r) M = if mK M a = (12, 0) then rn 49 49 ls (va_rf (mP M a 4) :: r) M else none := r_getP (ci := 2) (k := 4) (by decide +kernel : decode (mB 49) 46 = .ok (.getfield 95, 3)) (by decide +kernel) rfl
theorem t49_49 : rn 49 49 (a0 :: a1 :: a2 :: a3 :: some (.int x) :: l) r M = rn 49 51 (a0 :: a1 :: a2 :: a3 :: some (.int x) :: l) (.int x :: r) M := r_iload (by decide +kernel : decode (mB 49) 49 = .ok (.iload 4, 2)) rfl
theorem t49_51 : rn 49 51 ls (.int x :: .ref a :: r) M = if ((mK M a).1 = 1 ∨ (mK M a).1 = 5) ∧ inR x (mK M a).2 then rn 49 52 ls (.int (mI M a x.toNatClampNeg) :: r) M else none := r_cnd (by decide +kernel : decode (mB 49) 51 = .ok (.iaload, 1)) rfl rfl
theorem t49_52 : rn 49 52 ls [.int x, .int y, .int z, .ref a, .int w, .ref b] M = if mK M a = (14, 0) then cbn (cl 50 [.ref a, .int z, .int y, .int x] M) 49 55 ls [.int w, .ref b] else none := r_callV (kd := 0) (by decide +kernel : decode (mB 49) 52 = .ok (.invokevirtual 98, 3)) (by decide +kernel) ((doV_n np_50).trans rfl)
theorem t49_55 : rn 49 55 ls (.int y :: .int x :: .ref a :: r) M = if (mK M a).1 = 1 ∧ inR x (mK M a).2 then rn 49 56 ls r (sI M a (va_up (mI M a) x.toNatClampNeg y)) else none := r_cnd (by decide +kernel : decode (mB 49) 55 = .ok (.iastore, 1)) rfl rfl
theorem t49_56 : rn 49 56 (some (.ref a) :: l) r M = rn 49 57 (some (.ref a) :: l) (.ref a :: r) M := r_aload_n (by decide +kernel : decode (mB 49) 56 = .ok (.aload_n 0, 1)) rfl
theorem t49_57 : rn 49 57 ls (.ref a :: r) M = if mK M a = (13, 0) then rn 49 60 ls (va_rf (mP M a 4) :: r) M else none := r_getP (ci := 3) (k := 4) (by decide +kernel : decode (mB 49) 57 = .ok (.getfield 9, 3)) (by decide +kernel) rfl
theorem t49_60 : rn 49 60 (a0 :: a1 :: a2 :: a3 :: some (.int x) :: l) r M = rn 49 62 (a0 :: a1 :: a2 :: a3 :: some (.int x) :: l) (.int x :: r) M := r_iload (by decide +kernel : decode (mB 49) 60 = .ok (.iload 4, 2)) rfl
theorem t49_62 : rn 49 62 (some (.ref a) :: l) r M = rn 49 63 (some (.ref a) :: l) (.ref a :: r) M := r_aload_n (by decide +kernel : decode (mB 49) 62 = .ok (.aload_n 0, 1)) rfl
theorem t49_63 : rn 49 63 ls (.ref a :: r) M = if mK M a = (13, 0) then rn 49 66 ls (.int (mI M a 2) :: r) M else none := r_getI (ci := 3) (k := 2) (by decide +kernel : decode (mB 49) 63 = .ok (.getfield 35, 3)) (by decide +kernel) (Or.inl rfl)
theorem t49_66 : rn 49 66 ls (.int y :: .int x :: .ref a :: r) M = if (mK M a).1 = 1 ∧ inR x (mK M a).2 then rn 49 67 ls r (sI M a (va_up (mI M a) x.toNatClampNeg y)) else none := r_cnd (by decide +kernel : decode (mB 49) 66 = .ok (.iastore, 1)) rfl rfl
theorem t49_67 : rn 49 67 (some (.ref a) :: l) r M = rn 49 68 (some (.ref a) :: l) (.ref a :: r) M := r_aload_n (by decide +kernel : decode (mB 49) 67 = .ok (.aload_n 0, 1)) rfl
theorem t49_68 : rn 49 68 ls (.ref a :: r) M = rn 49 69 ls (.ref a :: .ref a :: r) M := r_nx (by decide +kernel : decode (mB 49) 68 = .ok (.dup, 1)) rfl rfl
theorem t49_69 : rn 49 69 ls (.ref a :: r) M = if mK M a = (13, 0) then rn 49 72 ls (.long (mJ M a 1) :: r) M else none := r_getJ (ci := 3) (k := 1) (by decide +kernel : decode (mB 49) 69 = .ok (.getfield 32, 3)) (by decide +kernel) rfl
theorem t49_72 : rn 49 72 (some (.ref a) :: l) r M = rn 49 73 (some (.ref a) :: l) (.ref a :: r) M := r_aload_n (by decide +kernel : decode (mB 49) 72 = .ok (.aload_n 0, 1)) rfl
theorem t49_73 : rn 49 73 ls (.ref a :: r) M = if mK M a = (13, 0) then rn 49 76 ls (va_rf (mP M a 5) :: r) M else none := r_getP (ci := 3) (k := 5) (by decide +kernel : decode (mB 49) 73 = .ok (.getfield 15, 3)) (by decide +kernel) rfl
theorem t49_76 : rn 49 76 (a0 :: a1 :: a2 :: a3 :: some (.int x) :: l) r M = rn 49 78 (a0 :: a1 :: a2 :: a3 :: some (.int x) :: l) (.int x :: r) M := r_iload (by decide +kernel : decode (mB 49) 76 = .ok (.iload 4, 2)) rfl
theorem t49_78 : rn 49 78 ls (.int x :: .ref a :: r) M = if ((mK M a).1 = 1 ∨ (mK M a).1 = 5) ∧ inR x (mK M a).2 then rn 49 79 ls (.int (mI M a x.toNatClampNeg) :: r) M else none := r_cnd (by decide +kernel : decode (mB 49) 78 = .ok (.iaload, 1)) rfl rfl
theorem t49_79 : rn 49 79 ls (.int x :: r) M = if ¬ x = 0 then rn 49 86 ls r M else rn 49 82 ls r M := r_if (o := 7) (r := r) (c := ¬ x = 0) (by decide +kernel : decode (mB 49) 79 = .ok (.ifCond .ne 7, 3)) rfl (by decide) rfl
theorem t49_82 : rn 49 82 ls r M = rn 49 83 ls (.long 0 :: r) M := r_nx (by decide +kernel : decode (mB 49) 82 = .ok (.lconst 0, 1)) rfl rfl
theorem t49_83 : rn 49 83 ls r M = rn 49 91 ls r M := r_goto (o := 8) (by decide +kernel : decode (mB 49) 83 = .ok (.goto 8, 3)) (by decide)
theorem t49_86 : rn 49 86 (a0 :: a1 :: a2 :: a3 :: some (.int x) :: l) r M = rn 49 88 (a0 :: a1 :: a2 :: a3 :: some (.int x) :: l) (.int x :: r) M := r_iload (by decide +kernel : decode (mB 49) 86 = .ok (.iload 4, 2)) rfl
theorem t49_88 : rn 49 88 ls [.int x, .long u, .ref a] M = cbn (cl 24 [.int x] M) 49 91 ls [.long u, .ref a] := r_callS (kd := 3) (by decide +kernel : decode (mB 49) 88 = .ok (.invokestatic 77, 3)) (by decide +kernel) (by decide +kernel) ((doS_n np_24).trans rfl)
theorem t49_91 : rn 49 91 ls (.long v :: .long u :: r) M = rn 49 92 ls (.long (u ||| v) :: r) M := r_nx (by decide +kernel : decode (mB 49) 91 = .ok (.lor, 1)) rfl rfl
theorem t49_92 : rn 49 92 ls (.long u :: .ref a :: r) M = if mK M a = (13, 0) then rn 49 95 ls r (sJ M a (va_up (mJ M a) 1 u)) else none := r_putJ (ci := 3) (k := 1) (by decide +kernel : decode (mB 49) 92 = .ok (.putfield 32, 3)) (by decide +kernel) rfl rfl
theorem t49_95 : rn 49 95 (a0 :: a1 :: a2 :: a3 :: some (.int x) :: l) r M = rn 49 98 (a0 :: a1 :: a2 :: a3 :: some (.int (x + 1)) :: l) r M := r_iinc (by decide +kernel : decode (mB 49) 95 = .ok (.iinc 4 1, 3)) rfl
theorem t49_98 : rn 49 98 ls r M = rn 49 3 ls r M := r_goto (o := (-95)) (by decide +kernel : decode (mB 49) 98 = .ok (.goto (-95), 3)) (by decide)
theorem t49_101 : rn 49 101 (some (.ref a) :: l) r M = rn 49 102 (some (.ref a) :: l) (.ref a :: r) M := r_aload_n (by decide +kernel : decode (mB 49) 101 = .ok (.aload_n 0, 1)) rfl
theorem t49_102 : rn 49 102 ls (.ref a :: r) M = rn 49 103 ls (.ref a :: .ref a :: r) M := r_nx (by decide +kernel : decode (mB 49) 102 = .ok (.dup, 1)) rfl rfl
theorem t49_103 : rn 49 103 ls (.ref a :: r) M = if mK M a = (13, 0) then rn 49 106 ls (.long (mJ M a 0) :: r) M else none := r_getJ (ci := 3) (k := 0) (by decide +kernel : decode (mB 49) 103 = .ok (.getfield 28, 3)) (by decide +kernel) rfl
theorem t49_106 : rn 49 106 (a0 :: a1 :: some (.long u) :: none :: l) r M = rn 49 107 (a0 :: a1 :: some (.long u) :: none :: l) (.long u :: r) M := r_lload_n (by decide +kernel : decode (mB 49) 106 = .ok (.lload_n 2, 1)) rfl rfl
theorem t49_107 : rn 49 107 ls (.long v :: .long u :: r) M = rn 49 108 ls (.long (u ||| v) :: r) M := r_nx (by decide +kernel : decode (mB 49) 107 = .ok (.lor, 1)) rfl rfl
theorem t49_108 : rn 49 108 ls (.long u :: .ref a :: r) M = if mK M a = (13, 0) then rn 49 111 ls r (sJ M a (va_up (mJ M a) 0 u)) else none := r_putJ (ci := 3) (k := 0) (by decide +kernel : decode (mB 49) 108 = .ok (.putfield 28, 3)) (by decide +kernel) rfl rfl
theorem t49_111 : rn 49 111 (a0 :: a1 :: some (.long u) :: none :: l) r M = rn 49 112 (a0 :: a1 :: some (.long u) :: none :: l) (.long u :: r) M := r_lload_n (by decide +kernel : decode (mB 49) 111 = .ok (.lload_n 2, 1)) rfl rfl
theorem t49_112 : rn 49 112 ls [.long u] M = cbn (cl 37 [.long u] M) 49 115 ls [] := r_callS (kd := 2) (by decide +kernel : decode (mB 49) 112 = .ok (.invokestatic 102, 3)) (by decide +kernel) (by decide +kernel) ((doS_n np_37).trans rfl)
theorem t49_115 : rn 49 115 (a0 :: a1 :: a2 :: a3 :: a4 :: l) (.int x :: r) M = rn 49 117 (a0 :: a1 :: a2 :: a3 :: some (.int x) :: l) r M := r_istore (by decide +kernel : decode (mB 49) 115 = .ok (.istore 4, 2)) (Nat.le_add_left 5 l.length)
theorem t49_117 : rn 49 117 (some (.ref a) :: l) r M = rn 49 118 (some (.ref a) :: l) (.ref a :: r) M := r_aload_n (by decide +kernel : decode (mB 49) 117 = .ok (.aload_n 0, 1)) rfl
theorem t49_118 : rn 49 118 (some (.ref a) :: l) r M = rn 49 119 (some (.ref a) :: l) (.ref a :: r) M := r_aload_n (by decide +kernel : decode (mB 49) 118 = .ok (.aload_n 0, 1)) rfl
theorem t49_119 : rn 49 119 ls (.ref a :: r) M = if mK M a = (13, 0) then rn 49 122 ls (.int (mI M a 3) :: r) M else none := r_getI (ci := 3) (k := 3) (by decide +kernel : decode (mB 49) 119 = .ok (.getfield 39, 3)) (by decide +kernel) (Or.inl rfl)
theorem t49_122 : rn 49 122 (a0 :: a1 :: a2 :: a3 :: some (.int x) :: l) r M = rn 49 124 (a0 :: a1 :: a2 :: a3 :: some (.int x) :: l) (.int x :: r) M := r_iload (by decide +kernel : decode (mB 49) 122 = .ok (.iload 4, 2)) rfl
theorem t49_124 : rn 49 124 ls [.int x, .int y, .ref a] M = cbn (cl 56 [.int y, .int x] M) 49 127 ls [.ref a] := r_callS (kd := 2) (by decide +kernel : decode (mB 49) 124 = .ok (.invokestatic 108, 3)) (by decide +kernel) (by decide +kernel) ((doS_n np_56).trans rfl)
theorem t49_127 : rn 49 127 ls (.int x :: .ref a :: r) M = if mK M a = (13, 0) then rn 49 130 ls r (sI M a (va_up (mI M a) 3 x)) else none := r_putI (ci := 3) (k := 3) (by decide +kernel : decode (mB 49) 127 = .ok (.putfield 39, 3)) (by decide +kernel) rfl rfl
theorem t49_130 : rn 49 130 (some (.ref a) :: l) r M = rn 49 131 (some (.ref a) :: l) (.ref a :: r) M := r_aload_n (by decide +kernel : decode (mB 49) 130 = .ok (.aload_n 0, 1)) rfl
theorem t49_131 : rn 49 131 ls (.ref a :: r) M = rn 49 132 ls (.ref a :: .ref a :: r) M := r_nx (by decide +kernel : decode (mB 49) 131 = .ok (.dup, 1)) rfl rfl
theorem t49_132 : rn 49 132 ls (.ref a :: r) M = if mK M a = (13, 0) then rn 49 135 ls (.int (mI M a 2) :: r) M else none := r_getI (ci := 3) (k := 2) (by decide +kernel : decode (mB 49) 132 = .ok (.getfield 35, 3)) (by decide +kernel) (Or.inl rfl)
theorem t49_135 : rn 49 135 ls r M = rn 49 136 ls (.int 1 :: r) M := r_nx (by decide +kernel : decode (mB 49) 135 = .ok (.iconst 1, 1)) rfl rfl
theorem t49_136 : rn 49 136 ls (.int y :: .int x :: r) M = rn 49 137 ls (.int (x + y) :: r) M := r_nx (by decide +kernel : decode (mB 49) 136 = .ok (.iadd, 1)) rfl rfl
theorem t49_137 : rn 49 137 ls (.int x :: .ref a :: r) M = if mK M a = (13, 0) then rn 49 140 ls r (sI M a (va_up (mI M a) 2 x)) else none := r_putI (ci := 3) (k := 2) (by decide +kernel : decode (mB 49) 137 = .ok (.putfield 35, 3)) (by decide +kernel) rfl rfl
theorem t49_140 : rn 49 140 (a0 :: a1 :: a2 :: a3 :: some (.int x) :: l) r M = rn 49 142 (a0 :: a1 :: a2 :: a3 :: some (.int x) :: l) (.int x :: r) M := r_iload (by decide +kernel : decode (mB 49) 140 = .ok (.iload 4, 2)) rfl
theorem t49_142 : rn 49 142 ls [.int x] M = some (some (.int x), M) := r_ireturn (by decide +kernel : decode (mB 49) 142 = .ok (.ireturn, 1)) rfl
-- 50 Tree_apply(III)I
theorem t50_0 : rn 50 0 (some (.ref a) :: l) r M = rn 50 1 (some (.ref a) :: l) (.ref a :: r) M := r_aload_n (by decide +kernel : decode (mB 50) 0 = .ok (.aload_n 0, 1)) rfl
theorem t50_1 : rn 50 1 (a0 :: some (.int x) :: l) r M = rn 50 2 (a0 :: some (.int x) :: l) (.int x :: r) M := r_iload_n (by decide +kernel : decode (mB 50) 1 = .ok (.iload_n 1, 1)) rfl
theorem t50_2 : rn 50 2 (a0 :: a1 :: some (.int x) :: l) r M = rn 50 3 (a0 :: a1 :: some (.int x) :: l) (.int x :: r) M := r_iload_n (by decide +kernel : decode (mB 50) 2 = .ok (.iload_n 2, 1)) rfl
theorem t50_3 : rn 50 3 (a0 :: a1 :: a2 :: some (.int x) :: l) r M = rn 50 4 (a0 :: a1 :: a2 :: some (.int x) :: l) (.int x :: r) M := r_iload_n (by decide +kernel : decode (mB 50) 3 = .ok (.iload_n 3, 1)) rfl
theorem t50_4 : rn 50 4 ls [.int x, .int y, .int z, .ref a] M = if mK M a = (14, 0) then cbn (cl 51 [.ref a, .int z, .int y, .int x] M) 50 7 ls [] else none := r_callV (kd := 0) (by decide +kernel : decode (mB 50) 4 = .ok (.invokevirtual 37, 3)) (by decide +kernel) ((doV_n np_51).trans rfl)
theorem t50_7 : rn 50 7 (a0 :: a1 :: a2 :: a3 :: a4 :: l) (.int x :: r) M = rn 50 9 (a0 :: a1 :: a2 :: a3 :: some (.int x) :: l) r M := r_istore (by decide +kernel : decode (mB 50) 7 = .ok (.istore 4, 2)) (Nat.le_add_left 5 l.length)
theorem t50_9 : rn 50 9 (a0 :: a1 :: a2 :: a3 :: some (.int x) :: l) r M = rn 50 11 (a0 :: a1 :: a2 :: a3 :: some (.int x) :: l) (.int x :: r) M := r_iload (by decide +kernel : decode (mB 50) 9 = .ok (.iload 4, 2)) rfl
theorem t50_11 : rn 50 11 ls (.int x :: r) M = if ¬ x = 0 then rn 50 28 ls r M else rn 50 14 ls r M := r_if (o := 17) (r := r) (c := ¬ x = 0) (by decide +kernel : decode (mB 50) 11 = .ok (.ifCond .ne 17, 3)) rfl (by decide) rfl
theorem t50_14 : rn 50 14 (a0 :: a1 :: some (.int x) :: l) r M = rn 50 15 (a0 :: a1 :: some (.int x) :: l) (.int x :: r) M := r_iload_n (by decide +kernel : decode (mB 50) 14 = .ok (.iload_n 2, 1)) rfl
theorem t50_15 : rn 50 15 ls [.int x] M = cbn (cl 19 [.int x] M) 50 18 ls [] := r_callS (kd := 3) (by decide +kernel : decode (mB 50) 15 = .ok (.invokestatic 41, 3)) (by decide +kernel) (by decide +kernel) ((doS_n np_19).trans rfl)
theorem t50_18 : rn 50 18 ls (.int x :: r) M = if x = 0 then rn 50 28 ls r M else rn 50 21 ls r M := r_if (o := 10) (r := r) (c := x = 0) (by decide +kernel : decode (mB 50) 18 = .ok (.ifCond .eq 10, 3)) rfl (by decide) rfl
theorem t50_21 : rn 50 21 (some (.ref a) :: l) r M = rn 50 22 (some (.ref a) :: l) (.ref a :: r) M := r_aload_n (by decide +kernel : decode (mB 50) 21 = .ok (.aload_n 0, 1)) rfl
theorem t50_22 : rn 50 22 (a0 :: some (.int x) :: l) r M = rn 50 23 (a0 :: some (.int x) :: l) (.int x :: r) M := r_iload_n (by decide +kernel : decode (mB 50) 22 = .ok (.iload_n 1, 1)) rfl
theorem t50_23 : rn 50 23 (a0 :: a1 :: some (.int x) :: l) r M = rn 50 24 (a0 :: a1 :: some (.int x) :: l) (.int x :: r) M := r_iload_n (by decide +kernel : decode (mB 50) 23 = .ok (.iload_n 2, 1)) rfl
theorem t50_24 : rn 50 24 (a0 :: a1 :: a2 :: some (.int x) :: l) r M = rn 50 25 (a0 :: a1 :: a2 :: some (.int x) :: l) (.int x :: r) M := r_iload_n (by decide +kernel : decode (mB 50) 24 = .ok (.iload_n 3, 1)) rfl
theorem t50_25 : rn 50 25 ls [.int x, .int y, .int z, .ref a] M = if mK M a = (14, 0) then cbn (cl 55 [.ref a, .int z, .int y, .int x] M) 50 28 ls [] else none := r_callV (kd := 0) (by decide +kernel : decode (mB 50) 25 = .ok (.invokevirtual 44, 3)) (by decide +kernel) ((doV_n np_55).trans rfl)
theorem t50_28 : rn 50 28 (a0 :: a1 :: a2 :: a3 :: some (.int x) :: l) r M = rn 50 30 (a0 :: a1 :: a2 :: a3 :: some (.int x) :: l) (.int x :: r) M := r_iload (by decide +kernel : decode (mB 50) 28 = .ok (.iload 4, 2)) rfl
theorem t50_30 : rn 50 30 ls [.int x] M = some (some (.int x), M) := r_ireturn (by decide +kernel : decode (mB 50) 30 = .ok (.ireturn, 1)) rfl
-- 51 Tree_refusal(III)I
theorem t51_0 : rn 51 0 (a0 :: some (.int x) :: l) r M = rn 51 1 (a0 :: some (.int x) :: l) (.int x :: r) M := r_iload_n (by decide +kernel : decode (mB 51) 0 = .ok (.iload_n 1, 1)) rfl
theorem t51_1 : rn 51 1 ls (.int x :: r) M = if ¬ x = 0 then rn 51 14 ls r M else rn 51 4 ls r M := r_if (o := 13) (r := r) (c := ¬ x = 0) (by decide +kernel : decode (mB 51) 1 = .ok (.ifCond .ne 13, 3)) rfl (by decide) rfl
theorem t51_4 : rn 51 4 (some (.ref a) :: l) r M = rn 51 5 (some (.ref a) :: l) (.ref a :: r) M := r_aload_n (by decide +kernel : decode (mB 51) 4 = .ok (.aload_n 0, 1)) rfl
theorem t51_5 : rn 51 5 (a0 :: a1 :: some (.int x) :: l) r M = rn 51 6 (a0 :: a1 :: some (.int x) :: l) (.int x :: r) M := r_iload_n (by decide +kernel : decode (mB 51) 5 = .ok (.iload_n 2, 1)) rfl
theorem t51_6 : rn 51 6 ls [.int x, .ref a] M = if mK M a = (14, 0) then cbn (cl 52 [.ref a, .int x] M) 51 9 ls [] else none := r_callV (kd := 0) (by decide +kernel : decode (mB 51) 6 = .ok (.invokevirtual 33, 3)) (by decide +kernel) ((doV_n np_52).trans rfl)
theorem t51_9 : rn 51 9 ls (.int x :: r) M = if x = 0 then rn 51 14 ls r M else rn 51 12 ls r M := r_if (o := 5) (r := r) (c := x = 0) (by decide +kernel : decode (mB 51) 9 = .ok (.ifCond .eq 5, 3)) rfl (by decide) rfl
theorem t51_12 : rn 51 12 ls r M = rn 51 13 ls (.int 1 :: r) M := r_nx (by decide +kernel : decode (mB 51) 12 = .ok (.iconst 1, 1)) rfl rfl
theorem t51_13 : rn 51 13 ls [.int x] M = some (some (.int x), M) := r_ireturn (by decide +kernel : decode (mB 51) 13 = .ok (.ireturn, 1)) rfl
theorem t51_14 : rn 51 14 (a0 :: some (.int x) :: l) r M = rn 51 15 (a0 :: some (.int x) :: l) (.int x :: r) M := r_iload_n (by decide +kernel : decode (mB 51) 14 = .ok (.iload_n 1, 1)) rfl
theorem t51_15 : rn 51 15 ls (.int x :: r) M = if x = 0 then rn 51 28 ls r M else rn 51 18 ls r M := r_if (o := 13) (r := r) (c := x = 0) (by decide +kernel : decode (mB 51) 15 = .ok (.ifCond .eq 13, 3)) rfl (by decide) rfl
theorem t51_18 : rn 51 18 (some (.ref a) :: l) r M = rn 51 19 (some (.ref a) :: l) (.ref a :: r) M := r_aload_n (by decide +kernel : decode (mB 51) 18 = .ok (.aload_n 0, 1)) rfl
theorem t51_19 : rn 51 19 (a0 :: a1 :: some (.int x) :: l) r M = rn 51 20 (a0 :: a1 :: some (.int x) :: l) (.int x :: r) M := r_iload_n (by decide +kernel : decode (mB 51) 19 = .ok (.iload_n 2, 1)) rfl
theorem t51_20 : rn 51 20 ls [.int x, .ref a] M = if mK M a = (14, 0) then cbn (cl 52 [.ref a, .int x] M) 51 23 ls [] else none := r_callV (kd := 0) (by decide +kernel : decode (mB 51) 20 = .ok (.invokevirtual 33, 3)) (by decide +kernel) ((doV_n np_52).trans rfl)
theorem t51_23 : rn 51 23 ls (.int x :: r) M = if ¬ x = 0 then rn 51 28 ls r M else rn 51 26 ls r M := r_if (o := 5) (r := r) (c := ¬ x = 0) (by decide +kernel : decode (mB 51) 23 = .ok (.ifCond .ne 5, 3)) rfl (by decide) rfl
theorem t51_26 : rn 51 26 ls r M = rn 51 27 ls (.int 2 :: r) M := r_nx (by decide +kernel : decode (mB 51) 26 = .ok (.iconst 2, 1)) rfl rfl
theorem t51_27 : rn 51 27 ls [.int x] M = some (some (.int x), M) := r_ireturn (by decide +kernel : decode (mB 51) 27 = .ok (.ireturn, 1)) rfl
theorem t51_28 : rn 51 28 (a0 :: some (.int x) :: l) r M = rn 51 29 (a0 :: some (.int x) :: l) (.int x :: r) M := r_iload_n (by decide +kernel : decode (mB 51) 28 = .ok (.iload_n 1, 1)) rfl
theorem t51_29 : rn 51 29 ls [.int x] M = cbn (cl 20 [.int x] M) 51 32 ls [] := r_callS (kd := 3) (by decide +kernel : decode (mB 51) 29 = .ok (.invokestatic 48, 3)) (by decide +kernel) (by decide +kernel) ((doS_n np_20).trans rfl)
theorem t51_32 : rn 51 32 ls (.int x :: r) M = if x = 0 then rn 51 45 ls r M else rn 51 35 ls r M := r_if (o := 13) (r := r) (c := x = 0) (by decide +kernel : decode (mB 51) 32 = .ok (.ifCond .eq 13, 3)) rfl (by decide) rfl
theorem t51_35 : rn 51 35 (some (.ref a) :: l) r M = rn 51 36 (some (.ref a) :: l) (.ref a :: r) M := r_aload_n (by decide +kernel : decode (mB 51) 35 = .ok (.aload_n 0, 1)) rfl
theorem t51_36 : rn 51 36 (a0 :: a1 :: a2 :: some (.int x) :: l) r M = rn 51 37 (a0 :: a1 :: a2 :: some (.int x) :: l) (.int x :: r) M := r_iload_n (by decide +kernel : decode (mB 51) 36 = .ok (.iload_n 3, 1)) rfl
theorem t51_37 : rn 51 37 ls [.int x, .ref a] M = if mK M a = (14, 0) then cbn (cl 52 [.ref a, .int x] M) 51 40 ls [] else none := r_callV (kd := 0) (by decide +kernel : decode (mB 51) 37 = .ok (.invokevirtual 33, 3)) (by decide +kernel) ((doV_n np_52).trans rfl)
theorem t51_40 : rn 51 40 ls (.int x :: r) M = if ¬ x = 0 then rn 51 45 ls r M else rn 51 43 ls r M := r_if (o := 5) (r := r) (c := ¬ x = 0) (by decide +kernel : decode (mB 51) 40 = .ok (.ifCond .ne 5, 3)) rfl (by decide) rfl
theorem t51_43 : rn 51 43 ls r M = rn 51 44 ls (.int 3 :: r) M := r_nx (by decide +kernel : decode (mB 51) 43 = .ok (.iconst 3, 1)) rfl rfl
theorem t51_44 : rn 51 44 ls [.int x] M = some (some (.int x), M) := r_ireturn (by decide +kernel : decode (mB 51) 44 = .ok (.ireturn, 1)) rfl
theorem t51_45 : rn 51 45 (a0 :: some (.int x) :: l) r M = rn 51 46 (a0 :: some (.int x) :: l) (.int x :: r) M := r_iload_n (by decide +kernel : decode (mB 51) 45 = .ok (.iload_n 1, 1)) rfl
theorem t51_46 : rn 51 46 ls r M = rn 51 47 ls (.int 2 :: r) M := r_nx (by decide +kernel : decode (mB 51) 46 = .ok (.iconst 2, 1)) rfl rfl
theorem t51_47 : rn 51 47 ls (.int y :: .int x :: r) M = if ¬ x = y then rn 51 61 ls r M else rn 51 50 ls r M := r_if (o := 14) (r := r) (c := ¬ x = y) (by decide +kernel : decode (mB 51) 47 = .ok (.if_icmp .ne 14, 3)) rfl (by decide) rfl
theorem t51_50 : rn 51 50 (some (.ref a) :: l) r M = rn 51 51 (some (.ref a) :: l) (.ref a :: r) M := r_aload_n (by decide +kernel : decode (mB 51) 50 = .ok (.aload_n 0, 1)) rfl
theorem t51_51 : rn 51 51 (a0 :: a1 :: a2 :: some (.int x) :: l) r M = rn 51 52 (a0 :: a1 :: a2 :: some (.int x) :: l) (.int x :: r) M := r_iload_n (by decide +kernel : decode (mB 51) 51 = .ok (.iload_n 3, 1)) rfl
theorem t51_52 : rn 51 52 (a0 :: a1 :: some (.int x) :: l) r M = rn 51 53 (a0 :: a1 :: some (.int x) :: l) (.int x :: r) M := r_iload_n (by decide +kernel : decode (mB 51) 52 = .ok (.iload_n 2, 1)) rfl
theorem t51_53 : rn 51 53 ls [.int x, .int y, .ref a] M = if mK M a = (14, 0) then cbn (cl 53 [.ref a, .int y, .int x] M) 51 56 ls [] else none := r_callV (kd := 0) (by decide +kernel : decode (mB 51) 53 = .ok (.invokevirtual 51, 3)) (by decide +kernel) ((doV_n np_53).trans rfl)
theorem t51_56 : rn 51 56 ls (.int x :: r) M = if x = 0 then rn 51 61 ls r M else rn 51 59 ls r M := r_if (o := 5) (r := r) (c := x = 0) (by decide +kernel : decode (mB 51) 56 = .ok (.ifCond .eq 5, 3)) rfl (by decide) rfl
theorem t51_59 : rn 51 59 ls r M = rn 51 60 ls (.int 4 :: r) M := r_nx (by decide +kernel : decode (mB 51) 59 = .ok (.iconst 4, 1)) rfl rfl
theorem t51_60 : rn 51 60 ls [.int x] M = some (some (.int x), M) := r_ireturn (by decide +kernel : decode (mB 51) 60 = .ok (.ireturn, 1)) rfl
theorem t51_61 : rn 51 61 (a0 :: some (.int x) :: l) r M = rn 51 62 (a0 :: some (.int x) :: l) (.int x :: r) M := r_iload_n (by decide +kernel : decode (mB 51) 61 = .ok (.iload_n 1, 1)) rfl
theorem t51_62 : rn 51 62 ls r M = rn 51 63 ls (.int 3 :: r) M := r_nx (by decide +kernel : decode (mB 51) 62 = .ok (.iconst 3, 1)) rfl rfl
theorem t51_63 : rn 51 63 ls (.int y :: .int x :: r) M = if ¬ x = y then rn 51 76 ls r M else rn 51 66 ls r M := r_if (o := 13) (r := r) (c := ¬ x = y) (by decide +kernel : decode (mB 51) 63 = .ok (.if_icmp .ne 13, 3)) rfl (by decide) rfl
theorem t51_66 : rn 51 66 (some (.ref a) :: l) r M = rn 51 67 (some (.ref a) :: l) (.ref a :: r) M := r_aload_n (by decide +kernel : decode (mB 51) 66 = .ok (.aload_n 0, 1)) rfl
theorem t51_67 : rn 51 67 (a0 :: a1 :: some (.int x) :: l) r M = rn 51 68 (a0 :: a1 :: some (.int x) :: l) (.int x :: r) M := r_iload_n (by decide +kernel : decode (mB 51) 67 = .ok (.iload_n 2, 1)) rfl
theorem t51_68 : rn 51 68 ls [.int x, .ref a] M = if mK M a = (14, 0) then cbn (cl 54 [.ref a, .int x] M) 51 71 ls [] else none := r_callV (kd := 0) (by decide +kernel : decode (mB 51) 68 = .ok (.invokevirtual 55, 3)) (by decide +kernel) ((doV_n np_54).trans rfl)
theorem t51_71 : rn 51 71 ls (.int x :: r) M = if x = 0 then rn 51 76 ls r M else rn 51 74 ls r M := r_if (o := 5) (r := r) (c := x = 0) (by decide +kernel : decode (mB 51) 71 = .ok (.ifCond .eq 5, 3)) rfl (by decide) rfl
theorem t51_74 : rn 51 74 ls r M = rn 51 75 ls (.int 5 :: r) M := r_nx (by decide +kernel : decode (mB 51) 74 = .ok (.iconst 5, 1)) rfl rfl
theorem t51_75 : rn 51 75 ls [.int x] M = some (some (.int x), M) := r_ireturn (by decide +kernel : decode (mB 51) 75 = .ok (.ireturn, 1)) rfl
theorem t51_76 : rn 51 76 ls r M = rn 51 77 ls (.int 0 :: r) M := r_nx (by decide +kernel : decode (mB 51) 76 = .ok (.iconst 0, 1)) rfl rfl
theorem t51_77 : rn 51 77 ls [.int x] M = some (some (.int x), M) := r_ireturn (by decide +kernel : decode (mB 51) 77 = .ok (.ireturn, 1)) rfl
-- 52 Tree_has(I)Z
theorem t52_0 : rn 52 0 (a0 :: some (.int x) :: l) r M = rn 52 1 (a0 :: some (.int x) :: l) (.int x :: r) M := r_iload_n (by decide +kernel : decode (mB 52) 0 = .ok (.iload_n 1, 1)) rfl
theorem t52_1 : rn 52 1 ls (.int x :: r) M = if x < 0 then rn 52 25 ls r M else rn 52 4 ls r M := r_if (o := 24) (r := r) (c := x < 0) (by decide +kernel : decode (mB 52) 1 = .ok (.ifCond .lt 24, 3)) rfl (by decide) rfl
theorem t52_4 : rn 52 4 (a0 :: some (.int x) :: l) r M = rn 52 5 (a0 :: some (.int x) :: l) (.int x :: r) M := r_iload_n (by decide +kernel : decode (mB 52) 4 = .ok (.iload_n 1, 1)) rfl
theorem t52_5 : rn 52 5 ls r M = rn 52 7 ls (.int 16 :: r) M := r_nx (by decide +kernel : decode (mB 52) 5 = .ok (.bipush 16, 2)) rfl rfl
theorem t52_7 : rn 52 7 ls (.int y :: .int x :: r) M = if y ≤ x then rn 52 25 ls r M else rn 52 10 ls r M := r_if (o := 18) (r := r) (c := y ≤ x) (by decide +kernel : decode (mB 52) 7 = .ok (.if_icmp .ge 18, 3)) rfl (by decide) rfl
theorem t52_10 : rn 52 10 (some (.ref a) :: l) r M = rn 52 11 (some (.ref a) :: l) (.ref a :: r) M := r_aload_n (by decide +kernel : decode (mB 52) 10 = .ok (.aload_n 0, 1)) rfl
theorem t52_11 : rn 52 11 ls (.ref a :: r) M = if mK M a = (14, 0) then rn 52 14 ls (va_rf (mP M a 1) :: r) M else none := r_getP (ci := 4) (k := 1) (by decide +kernel : decode (mB 52) 11 = .ok (.getfield 15, 3)) (by decide +kernel) rfl
theorem t52_14 : rn 52 14 (a0 :: some (.int x) :: l) r M = rn 52 15 (a0 :: some (.int x) :: l) (.int x :: r) M := r_iload_n (by decide +kernel : decode (mB 52) 14 = .ok (.iload_n 1, 1)) rfl
theorem t52_15 : rn 52 15 ls (.int x :: .ref a :: r) M = if ((mK M a).1 = 1 ∨ (mK M a).1 = 5) ∧ inR x (mK M a).2 then rn 52 16 ls (.int (mI M a x.toNatClampNeg) :: r) M else none := r_cnd (by decide +kernel : decode (mB 52) 15 = .ok (.iaload, 1)) rfl rfl
theorem t52_16 : rn 52 16 ls r M = rn 52 18 ls (.int (-6) :: r) M := r_nx (by decide +kernel : decode (mB 52) 16 = .ok (.bipush (-6), 2)) rfl rfl
theorem t52_18 : rn 52 18 ls (.int y :: .int x :: r) M = if x = y then rn 52 25 ls r M else rn 52 21 ls r M := r_if (o := 7) (r := r) (c := x = y) (by decide +kernel : decode (mB 52) 18 = .ok (.if_icmp .eq 7, 3)) rfl (by decide) rfl
theorem t52_21 : rn 52 21 ls r M = rn 52 22 ls (.int 1 :: r) M := r_nx (by decide +kernel : decode (mB 52) 21 = .ok (.iconst 1, 1)) rfl rfl
theorem t52_22 : rn 52 22 ls r M = rn 52 26 ls r M := r_goto (o := 4) (by decide +kernel : decode (mB 52) 22 = .ok (.goto 4, 3)) (by decide)
theorem t52_25 : rn 52 25 ls r M = rn 52 26 ls (.int 0 :: r) M := r_nx (by decide +kernel : decode (mB 52) 25 = .ok (.iconst 0, 1)) rfl rfl
theorem t52_26 : rn 52 26 ls [.int x] M = if x = 0 ∨ x = 1 then some (some (.int x), M) else none := r_zreturn (by decide +kernel : decode (mB 52) 26 = .ok (.ireturn, 1)) rfl
-- 53 Tree_isOrLiesIn(II)Z
theorem t53_0 : rn 53 0 (a0 :: some (.int x) :: l) r M = rn 53 1 (a0 :: some (.int x) :: l) (.int x :: r) M := r_iload_n (by decide +kernel : decode (mB 53) 0 = .ok (.iload_n 1, 1)) rfl
theorem t53_1 : rn 53 1 (a0 :: a1 :: a2 :: a3 :: l) (.int x :: r) M = rn 53 2 (a0 :: a1 :: a2 :: some (.int x) :: l) r M := r_istore_n (by decide +kernel : decode (mB 53) 1 = .ok (.istore_n 3, 1)) (Nat.le_add_left 4 l.length)
theorem t53_2 : rn 53 2 ls r M = rn 53 3 ls (.int 0 :: r) M := r_nx (by decide +kernel : decode (mB 53) 2 = .ok (.iconst 0, 1)) rfl rfl
theorem t53_3 : rn 53 3 (a0 :: a1 :: a2 :: a3 :: a4 :: l) (.int x :: r) M = rn 53 5 (a0 :: a1 :: a2 :: a3 :: some (.int x) :: l) r M := r_istore (by decide +kernel : decode (mB 53) 3 = .ok (.istore 4, 2)) (Nat.le_add_left 5 l.length)
theorem t53_5 : rn 53 5 (a0 :: a1 :: a2 :: a3 :: some (.int x) :: l) r M = rn 53 7 (a0 :: a1 :: a2 :: a3 :: some (.int x) :: l) (.int x :: r) M := r_iload (by decide +kernel : decode (mB 53) 5 = .ok (.iload 4, 2)) rfl
theorem t53_7 : rn 53 7 ls r M = rn 53 9 ls (.int 16 :: r) M := r_nx (by decide +kernel : decode (mB 53) 7 = .ok (.bipush 16, 2)) rfl rfl
theorem t53_9 : rn 53 9 ls (.int y :: .int x :: r) M = if y ≤ x then rn 53 39 ls r M else rn 53 12 ls r M := r_if (o := 30) (r := r) (c := y ≤ x) (by decide +kernel : decode (mB 53) 9 = .ok (.if_icmp .ge 30, 3)) rfl (by decide) rfl
theorem t53_12 : rn 53 12 (a0 :: a1 :: a2 :: some (.int x) :: l) r M = rn 53 13 (a0 :: a1 :: a2 :: some (.int x) :: l) (.int x :: r) M := r_iload_n (by decide +kernel : decode (mB 53) 12 = .ok (.iload_n 3, 1)) rfl
theorem t53_13 : rn 53 13 ls [.int x] M = cbn (cl 19 [.int x] M) 53 16 ls [] := r_callS (kd := 3) (by decide +kernel : decode (mB 53) 13 = .ok (.invokestatic 41, 3)) (by decide +kernel) (by decide +kernel) ((doS_n np_19).trans rfl)
theorem t53_16 : rn 53 16 ls (.int x :: r) M = if x = 0 then rn 53 39 ls r M else rn 53 19 ls r M := r_if (o := 23) (r := r) (c := x = 0) (by decide +kernel : decode (mB 53) 16 = .ok (.ifCond .eq 23, 3)) rfl (by decide) rfl
theorem t53_19 : rn 53 19 (a0 :: a1 :: a2 :: some (.int x) :: l) r M = rn 53 20 (a0 :: a1 :: a2 :: some (.int x) :: l) (.int x :: r) M := r_iload_n (by decide +kernel : decode (mB 53) 19 = .ok (.iload_n 3, 1)) rfl
theorem t53_20 : rn 53 20 (a0 :: a1 :: some (.int x) :: l) r M = rn 53 21 (a0 :: a1 :: some (.int x) :: l) (.int x :: r) M := r_iload_n (by decide +kernel : decode (mB 53) 20 = .ok (.iload_n 2, 1)) rfl
theorem t53_21 : rn 53 21 ls (.int y :: .int x :: r) M = if ¬ x = y then rn 53 26 ls r M else rn 53 24 ls r M := r_if (o := 5) (r := r) (c := ¬ x = y) (by decide +kernel : decode (mB 53) 21 = .ok (.if_icmp .ne 5, 3)) rfl (by decide) rfl
theorem t53_24 : rn 53 24 ls r M = rn 53 25 ls (.int 1 :: r) M := r_nx (by decide +kernel : decode (mB 53) 24 = .ok (.iconst 1, 1)) rfl rfl
theorem t53_25 : rn 53 25 ls [.int x] M = if x = 0 ∨ x = 1 then some (some (.int x), M) else none := r_zreturn (by decide +kernel : decode (mB 53) 25 = .ok (.ireturn, 1)) rfl
theorem t53_26 : rn 53 26 (some (.ref a) :: l) r M = rn 53 27 (some (.ref a) :: l) (.ref a :: r) M := r_aload_n (by decide +kernel : decode (mB 53) 26 = .ok (.aload_n 0, 1)) rfl
theorem t53_27 : rn 53 27 ls (.ref a :: r) M = if mK M a = (14, 0) then rn 53 30 ls (va_rf (mP M a 0) :: r) M else none := r_getP (ci := 4) (k := 0) (by decide +kernel : decode (mB 53) 27 = .ok (.getfield 9, 3)) (by decide +kernel) rfl
theorem t53_30 : rn 53 30 (a0 :: a1 :: a2 :: some (.int x) :: l) r M = rn 53 31 (a0 :: a1 :: a2 :: some (.int x) :: l) (.int x :: r) M := r_iload_n (by decide +kernel : decode (mB 53) 30 = .ok (.iload_n 3, 1)) rfl
theorem t53_31 : rn 53 31 ls (.int x :: .ref a :: r) M = if ((mK M a).1 = 1 ∨ (mK M a).1 = 5) ∧ inR x (mK M a).2 then rn 53 32 ls (.int (mI M a x.toNatClampNeg) :: r) M else none := r_cnd (by decide +kernel : decode (mB 53) 31 = .ok (.iaload, 1)) rfl rfl
theorem t53_32 : rn 53 32 (a0 :: a1 :: a2 :: a3 :: l) (.int x :: r) M = rn 53 33 (a0 :: a1 :: a2 :: some (.int x) :: l) r M := r_istore_n (by decide +kernel : decode (mB 53) 32 = .ok (.istore_n 3, 1)) (Nat.le_add_left 4 l.length)
theorem t53_33 : rn 53 33 (a0 :: a1 :: a2 :: a3 :: some (.int x) :: l) r M = rn 53 36 (a0 :: a1 :: a2 :: a3 :: some (.int (x + 1)) :: l) r M := r_iinc (by decide +kernel : decode (mB 53) 33 = .ok (.iinc 4 1, 3)) rfl
theorem t53_36 : rn 53 36 ls r M = rn 53 5 ls r M := r_goto (o := (-31)) (by decide +kernel : decode (mB 53) 36 = .ok (.goto (-31), 3)) (by decide)
theorem t53_39 : rn 53 39 ls r M = rn 53 40 ls (.int 0 :: r) M := r_nx (by decide +kernel : decode (mB 53) 39 = .ok (.iconst 0, 1)) rfl rfl
theorem t53_40 : rn 53 40 ls [.int x] M = if x = 0 ∨ x = 1 then some (some (.int x), M) else none := r_zreturn (by decide +kernel : decode (mB 53) 40 = .ok (.ireturn, 1)) rfl
-- 54 Tree_filesIn(I)I
theorem t54_0 : rn 54 0 ls r M = rn 54 1 ls (.int 0 :: r) M := r_nx (by decide +kernel : decode (mB 54) 0 = .ok (.iconst 0, 1)) rfl rfl
theorem t54_1 : rn 54 1 (a0 :: a1 :: a2 :: l) (.int x :: r) M = rn 54 2 (a0 :: a1 :: some (.int x) :: l) r M := r_istore_n (by decide +kernel : decode (mB 54) 1 = .ok (.istore_n 2, 1)) (Nat.le_add_left 3 l.length)
theorem t54_2 : rn 54 2 ls r M = rn 54 3 ls (.int 0 :: r) M := r_nx (by decide +kernel : decode (mB 54) 2 = .ok (.iconst 0, 1)) rfl rfl
theorem t54_3 : rn 54 3 (a0 :: a1 :: a2 :: a3 :: l) (.int x :: r) M = rn 54 4 (a0 :: a1 :: a2 :: some (.int x) :: l) r M := r_istore_n (by decide +kernel : decode (mB 54) 3 = .ok (.istore_n 3, 1)) (Nat.le_add_left 4 l.length)
theorem t54_4 : rn 54 4 (a0 :: a1 :: a2 :: some (.int x) :: l) r M = rn 54 5 (a0 :: a1 :: a2 :: some (.int x) :: l) (.int x :: r) M := r_iload_n (by decide +kernel : decode (mB 54) 4 = .ok (.iload_n 3, 1)) rfl
theorem t54_5 : rn 54 5 ls r M = rn 54 7 ls (.int 16 :: r) M := r_nx (by decide +kernel : decode (mB 54) 5 = .ok (.bipush 16, 2)) rfl rfl
theorem t54_7 : rn 54 7 ls (.int y :: .int x :: r) M = if y ≤ x then rn 54 32 ls r M else rn 54 10 ls r M := r_if (o := 25) (r := r) (c := y ≤ x) (by decide +kernel : decode (mB 54) 7 = .ok (.if_icmp .ge 25, 3)) rfl (by decide) rfl
theorem t54_10 : rn 54 10 (some (.ref a) :: l) r M = rn 54 11 (some (.ref a) :: l) (.ref a :: r) M := r_aload_n (by decide +kernel : decode (mB 54) 10 = .ok (.aload_n 0, 1)) rfl
theorem t54_11 : rn 54 11 ls (.ref a :: r) M = if mK M a = (14, 0) then rn 54 14 ls (va_rf (mP M a 0) :: r) M else none := r_getP (ci := 4) (k := 0) (by decide +kernel : decode (mB 54) 11 = .ok (.getfield 9, 3)) (by decide +kernel) rfl
theorem t54_14 : rn 54 14 (a0 :: a1 :: a2 :: some (.int x) :: l) r M = rn 54 15 (a0 :: a1 :: a2 :: some (.int x) :: l) (.int x :: r) M := r_iload_n (by decide +kernel : decode (mB 54) 14 = .ok (.iload_n 3, 1)) rfl
theorem t54_15 : rn 54 15 ls (.int x :: .ref a :: r) M = if ((mK M a).1 = 1 ∨ (mK M a).1 = 5) ∧ inR x (mK M a).2 then rn 54 16 ls (.int (mI M a x.toNatClampNeg) :: r) M else none := r_cnd (by decide +kernel : decode (mB 54) 15 = .ok (.iaload, 1)) rfl rfl
theorem t54_16 : rn 54 16 (a0 :: some (.int x) :: l) r M = rn 54 17 (a0 :: some (.int x) :: l) (.int x :: r) M := r_iload_n (by decide +kernel : decode (mB 54) 16 = .ok (.iload_n 1, 1)) rfl
theorem t54_17 : rn 54 17 ls (.int y :: .int x :: r) M = if ¬ x = y then rn 54 26 ls r M else rn 54 20 ls r M := r_if (o := 9) (r := r) (c := ¬ x = y) (by decide +kernel : decode (mB 54) 17 = .ok (.if_icmp .ne 9, 3)) rfl (by decide) rfl
theorem t54_20 : rn 54 20 (a0 :: a1 :: some (.int x) :: l) r M = rn 54 21 (a0 :: a1 :: some (.int x) :: l) (.int x :: r) M := r_iload_n (by decide +kernel : decode (mB 54) 20 = .ok (.iload_n 2, 1)) rfl
theorem t54_21 : rn 54 21 ls r M = rn 54 22 ls (.int 1 :: r) M := r_nx (by decide +kernel : decode (mB 54) 21 = .ok (.iconst 1, 1)) rfl rfl
theorem t54_22 : rn 54 22 (a0 :: a1 :: a2 :: some (.int x) :: l) r M = rn 54 23 (a0 :: a1 :: a2 :: some (.int x) :: l) (.int x :: r) M := r_iload_n (by decide +kernel : decode (mB 54) 22 = .ok (.iload_n 3, 1)) rfl
theorem t54_23 : rn 54 23 ls (.int y :: .int x :: r) M = rn 54 24 ls (.int (x <<< (y &&& 31)) :: r) M := r_nx (by decide +kernel : decode (mB 54) 23 = .ok (.ishl, 1)) rfl rfl
theorem t54_24 : rn 54 24 ls (.int y :: .int x :: r) M = rn 54 25 ls (.int (x ||| y) :: r) M := r_nx (by decide +kernel : decode (mB 54) 24 = .ok (.ior, 1)) rfl rfl
theorem t54_25 : rn 54 25 (a0 :: a1 :: a2 :: l) (.int x :: r) M = rn 54 26 (a0 :: a1 :: some (.int x) :: l) r M := r_istore_n (by decide +kernel : decode (mB 54) 25 = .ok (.istore_n 2, 1)) (Nat.le_add_left 3 l.length)
theorem t54_26 : rn 54 26 (a0 :: a1 :: a2 :: some (.int x) :: l) r M = rn 54 29 (a0 :: a1 :: a2 :: some (.int (x + 1)) :: l) r M := r_iinc (by decide +kernel : decode (mB 54) 26 = .ok (.iinc 3 1, 3)) rfl
theorem t54_29 : rn 54 29 ls r M = rn 54 4 ls r M := r_goto (o := (-25)) (by decide +kernel : decode (mB 54) 29 = .ok (.goto (-25), 3)) (by decide)
theorem t54_32 : rn 54 32 (a0 :: a1 :: some (.int x) :: l) r M = rn 54 33 (a0 :: a1 :: some (.int x) :: l) (.int x :: r) M := r_iload_n (by decide +kernel : decode (mB 54) 32 = .ok (.iload_n 2, 1)) rfl
theorem t54_33 : rn 54 33 ls [.int x] M = some (some (.int x), M) := r_ireturn (by decide +kernel : decode (mB 54) 33 = .ok (.ireturn, 1)) rfl
-- 55 Tree_carry(III)V
theorem t55_0 : rn 55 0 (a0 :: some (.int x) :: l) r M = rn 55 1 (a0 :: some (.int x) :: l) (.int x :: r) M := r_iload_n (by decide +kernel : decode (mB 55) 0 = .ok (.iload_n 1, 1)) rfl
theorem t55_1 : rn 55 1 ls [.int x] M = cbn (cl 20 [.int x] M) 55 4 ls [] := r_callS (kd := 3) (by decide +kernel : decode (mB 55) 1 = .ok (.invokestatic 48, 3)) (by decide +kernel) (by decide +kernel) ((doS_n np_20).trans rfl)
theorem t55_4 : rn 55 4 ls (.int x :: r) M = if x = 0 then rn 55 14 ls r M else rn 55 7 ls r M := r_if (o := 10) (r := r) (c := x = 0) (by decide +kernel : decode (mB 55) 4 = .ok (.ifCond .eq 10, 3)) rfl (by decide) rfl
theorem t55_7 : rn 55 7 (some (.ref a) :: l) r M = rn 55 8 (some (.ref a) :: l) (.ref a :: r) M := r_aload_n (by decide +kernel : decode (mB 55) 7 = .ok (.aload_n 0, 1)) rfl
theorem t55_8 : rn 55 8 ls (.ref a :: r) M = if mK M a = (14, 0) then rn 55 11 ls (va_rf (mP M a 0) :: r) M else none := r_getP (ci := 4) (k := 0) (by decide +kernel : decode (mB 55) 8 = .ok (.getfield 9, 3)) (by decide +kernel) rfl
theorem t55_11 : rn 55 11 (a0 :: a1 :: some (.int x) :: l) r M = rn 55 12 (a0 :: a1 :: some (.int x) :: l) (.int x :: r) M := r_iload_n (by decide +kernel : decode (mB 55) 11 = .ok (.iload_n 2, 1)) rfl
theorem t55_12 : rn 55 12 (a0 :: a1 :: a2 :: some (.int x) :: l) r M = rn 55 13 (a0 :: a1 :: a2 :: some (.int x) :: l) (.int x :: r) M := r_iload_n (by decide +kernel : decode (mB 55) 12 = .ok (.iload_n 3, 1)) rfl
theorem t55_13 : rn 55 13 ls (.int y :: .int x :: .ref a :: r) M = if (mK M a).1 = 1 ∧ inR x (mK M a).2 then rn 55 14 ls r (sI M a (va_up (mI M a) x.toNatClampNeg y)) else none := r_cnd (by decide +kernel : decode (mB 55) 13 = .ok (.iastore, 1)) rfl rfl
theorem t55_14 : rn 55 14 (a0 :: some (.int x) :: l) r M = rn 55 15 (a0 :: some (.int x) :: l) (.int x :: r) M := r_iload_n (by decide +kernel : decode (mB 55) 14 = .ok (.iload_n 1, 1)) rfl
theorem t55_15 : rn 55 15 ls (.int x :: r) M = if ¬ x = 0 then rn 55 25 ls r M else rn 55 18 ls r M := r_if (o := 10) (r := r) (c := ¬ x = 0) (by decide +kernel : decode (mB 55) 15 = .ok (.ifCond .ne 10, 3)) rfl (by decide) rfl
theorem t55_18 : rn 55 18 (some (.ref a) :: l) r M = rn 55 19 (some (.ref a) :: l) (.ref a :: r) M := r_aload_n (by decide +kernel : decode (mB 55) 18 = .ok (.aload_n 0, 1)) rfl
theorem t55_19 : rn 55 19 ls (.ref a :: r) M = if mK M a = (14, 0) then rn 55 22 ls (va_rf (mP M a 1) :: r) M else none := r_getP (ci := 4) (k := 1) (by decide +kernel : decode (mB 55) 19 = .ok (.getfield 15, 3)) (by decide +kernel) rfl
theorem t55_22 : rn 55 22 (a0 :: a1 :: some (.int x) :: l) r M = rn 55 23 (a0 :: a1 :: some (.int x) :: l) (.int x :: r) M := r_iload_n (by decide +kernel : decode (mB 55) 22 = .ok (.iload_n 2, 1)) rfl
theorem t55_23 : rn 55 23 ls r M = rn 55 24 ls (.int 0 :: r) M := r_nx (by decide +kernel : decode (mB 55) 23 = .ok (.iconst 0, 1)) rfl rfl
theorem t55_24 : rn 55 24 ls (.int y :: .int x :: .ref a :: r) M = if (mK M a).1 = 1 ∧ inR x (mK M a).2 then rn 55 25 ls r (sI M a (va_up (mI M a) x.toNatClampNeg y)) else none := r_cnd (by decide +kernel : decode (mB 55) 24 = .ok (.iastore, 1)) rfl rfl
theorem t55_25 : rn 55 25 (a0 :: some (.int x) :: l) r M = rn 55 26 (a0 :: some (.int x) :: l) (.int x :: r) M := r_iload_n (by decide +kernel : decode (mB 55) 25 = .ok (.iload_n 1, 1)) rfl
theorem t55_26 : rn 55 26 ls r M = rn 55 27 ls (.int 1 :: r) M := r_nx (by decide +kernel : decode (mB 55) 26 = .ok (.iconst 1, 1)) rfl rfl
theorem t55_27 : rn 55 27 ls (.int y :: .int x :: r) M = if ¬ x = y then rn 55 37 ls r M else rn 55 30 ls r M := r_if (o := 10) (r := r) (c := ¬ x = y) (by decide +kernel : decode (mB 55) 27 = .ok (.if_icmp .ne 10, 3)) rfl (by decide) rfl
theorem t55_30 : rn 55 30 (some (.ref a) :: l) r M = rn 55 31 (some (.ref a) :: l) (.ref a :: r) M := r_aload_n (by decide +kernel : decode (mB 55) 30 = .ok (.aload_n 0, 1)) rfl
theorem t55_31 : rn 55 31 ls (.ref a :: r) M = if mK M a = (14, 0) then rn 55 34 ls (va_rf (mP M a 1) :: r) M else none := r_getP (ci := 4) (k := 1) (by decide +kernel : decode (mB 55) 31 = .ok (.getfield 15, 3)) (by decide +kernel) rfl
theorem t55_34 : rn 55 34 (a0 :: a1 :: some (.int x) :: l) r M = rn 55 35 (a0 :: a1 :: some (.int x) :: l) (.int x :: r) M := r_iload_n (by decide +kernel : decode (mB 55) 34 = .ok (.iload_n 2, 1)) rfl
theorem t55_35 : rn 55 35 (a0 :: a1 :: a2 :: some (.int x) :: l) r M = rn 55 36 (a0 :: a1 :: a2 :: some (.int x) :: l) (.int x :: r) M := r_iload_n (by decide +kernel : decode (mB 55) 35 = .ok (.iload_n 3, 1)) rfl
theorem t55_36 : rn 55 36 ls (.int y :: .int x :: .ref a :: r) M = if (mK M a).1 = 1 ∧ inR x (mK M a).2 then rn 55 37 ls r (sI M a (va_up (mI M a) x.toNatClampNeg y)) else none := r_cnd (by decide +kernel : decode (mB 55) 36 = .ok (.iastore, 1)) rfl rfl
theorem t55_37 : rn 55 37 (a0 :: some (.int x) :: l) r M = rn 55 38 (a0 :: some (.int x) :: l) (.int x :: r) M := r_iload_n (by decide +kernel : decode (mB 55) 37 = .ok (.iload_n 1, 1)) rfl
theorem t55_38 : rn 55 38 ls r M = rn 55 39 ls (.int 3 :: r) M := r_nx (by decide +kernel : decode (mB 55) 38 = .ok (.iconst 3, 1)) rfl rfl
theorem t55_39 : rn 55 39 ls (.int y :: .int x :: r) M = if ¬ x = y then rn 55 58 ls r M else rn 55 42 ls r M := r_if (o := 19) (r := r) (c := ¬ x = y) (by decide +kernel : decode (mB 55) 39 = .ok (.if_icmp .ne 19, 3)) rfl (by decide) rfl
theorem t55_42 : rn 55 42 (some (.ref a) :: l) r M = rn 55 43 (some (.ref a) :: l) (.ref a :: r) M := r_aload_n (by decide +kernel : decode (mB 55) 42 = .ok (.aload_n 0, 1)) rfl
theorem t55_43 : rn 55 43 ls (.ref a :: r) M = if mK M a = (14, 0) then rn 55 46 ls (va_rf (mP M a 0) :: r) M else none := r_getP (ci := 4) (k := 0) (by decide +kernel : decode (mB 55) 43 = .ok (.getfield 9, 3)) (by decide +kernel) rfl
theorem t55_46 : rn 55 46 (a0 :: a1 :: some (.int x) :: l) r M = rn 55 47 (a0 :: a1 :: some (.int x) :: l) (.int x :: r) M := r_iload_n (by decide +kernel : decode (mB 55) 46 = .ok (.iload_n 2, 1)) rfl
theorem t55_47 : rn 55 47 ls r M = rn 55 49 ls (.int (-6) :: r) M := r_nx (by decide +kernel : decode (mB 55) 47 = .ok (.bipush (-6), 2)) rfl rfl
theorem t55_49 : rn 55 49 ls (.int y :: .int x :: .ref a :: r) M = if (mK M a).1 = 1 ∧ inR x (mK M a).2 then rn 55 50 ls r (sI M a (va_up (mI M a) x.toNatClampNeg y)) else none := r_cnd (by decide +kernel : decode (mB 55) 49 = .ok (.iastore, 1)) rfl rfl
theorem t55_50 : rn 55 50 (some (.ref a) :: l) r M = rn 55 51 (some (.ref a) :: l) (.ref a :: r) M := r_aload_n (by decide +kernel : decode (mB 55) 50 = .ok (.aload_n 0, 1)) rfl
theorem t55_51 : rn 55 51 ls (.ref a :: r) M = if mK M a = (14, 0) then rn 55 54 ls (va_rf (mP M a 1) :: r) M else none := r_getP (ci := 4) (k := 1) (by decide +kernel : decode (mB 55) 51 = .ok (.getfield 15, 3)) (by decide +kernel) rfl
theorem t55_54 : rn 55 54 (a0 :: a1 :: some (.int x) :: l) r M = rn 55 55 (a0 :: a1 :: some (.int x) :: l) (.int x :: r) M := r_iload_n (by decide +kernel : decode (mB 55) 54 = .ok (.iload_n 2, 1)) rfl
theorem t55_55 : rn 55 55 ls r M = rn 55 57 ls (.int (-6) :: r) M := r_nx (by decide +kernel : decode (mB 55) 55 = .ok (.bipush (-6), 2)) rfl rfl
theorem t55_57 : rn 55 57 ls (.int y :: .int x :: .ref a :: r) M = if (mK M a).1 = 1 ∧ inR x (mK M a).2 then rn 55 58 ls r (sI M a (va_up (mI M a) x.toNatClampNeg y)) else none := r_cnd (by decide +kernel : decode (mB 55) 57 = .ok (.iastore, 1)) rfl rfl
theorem t55_58 : rn 55 58 ls [] M = some (none, M) := r_vreturn (by decide +kernel : decode (mB 55) 58 = .ok (.return_, 1)) rfl
-- 58 Replay_makeRounds(LDependentReplay$Log;)I
theorem t58_0 : rn 58 0 ls r M = rn 58 1 ls (.int 0 :: r) M := r_nx (by decide +kernel : decode (mB 58) 0 = .ok (.iconst 0, 1)) rfl rfl
theorem t58_1 : rn 58 1 (a0 :: a1 :: a2 :: l) (.int x :: r) M = rn 58 2 (a0 :: a1 :: some (.int x) :: l) r M := r_istore_n (by decide +kernel : decode (mB 58) 1 = .ok (.istore_n 2, 1)) (Nat.le_add_left 3 l.length)
theorem t58_2 : rn 58 2 (some (.ref a) :: l) r M = rn 58 3 (some (.ref a) :: l) (.ref a :: r) M := r_aload_n (by decide +kernel : decode (mB 58) 2 = .ok (.aload_n 0, 1)) rfl
theorem t58_3 : rn 58 3 (a0 :: some (.ref a) :: l) r M = rn 58 4 (a0 :: some (.ref a) :: l) (.ref a :: r) M := r_aload_n (by decide +kernel : decode (mB 58) 3 = .ok (.aload_n 1, 1)) rfl
theorem t58_4 : rn 58 4 ls [.ref a, .ref b] M = if mK M b = (13, 0) then cbn (cl 48 [.ref b, .ref a] M) 58 7 ls [] else none := r_callV (kd := 0) (by decide +kernel : decode (mB 58) 4 = .ok (.invokevirtual 81, 3)) (by decide +kernel) ((doV_n np_48).trans rfl)
theorem t58_7 : rn 58 7 (a0 :: a1 :: a2 :: a3 :: a4 :: l) (.long u :: r) M = rn 58 8 (a0 :: a1 :: a2 :: some (.long u) :: none :: l) r M := r_lstore_n (by decide +kernel : decode (mB 58) 7 = .ok (.lstore_n 3, 1)) (Nat.le_add_left 5 l.length)
theorem t58_8 : rn 58 8 (a0 :: a1 :: some (.int x) :: l) r M = rn 58 9 (a0 :: a1 :: some (.int x) :: l) (.int x :: r) M := r_iload_n (by decide +kernel : decode (mB 58) 8 = .ok (.iload_n 2, 1)) rfl
theorem t58_9 : rn 58 9 ls r M = rn 58 11 ls (.int 40 :: r) M := r_nx (by decide +kernel : decode (mB 58) 9 = .ok (.bipush 40, 2)) rfl rfl
theorem t58_11 : rn 58 11 ls (.int y :: .int x :: r) M = if y ≤ x then rn 58 39 ls r M else rn 58 14 ls r M := r_if (o := 28) (r := r) (c := y ≤ x) (by decide +kernel : decode (mB 58) 11 = .ok (.if_icmp .ge 28, 3)) rfl (by decide) rfl
theorem t58_14 : rn 58 14 (a0 :: a1 :: a2 :: some (.long u) :: none :: l) r M = rn 58 15 (a0 :: a1 :: a2 :: some (.long u) :: none :: l) (.long u :: r) M := r_lload_n (by decide +kernel : decode (mB 58) 14 = .ok (.lload_n 3, 1)) rfl rfl
theorem t58_15 : rn 58 15 ls r M = rn 58 16 ls (.long 0 :: r) M := r_nx (by decide +kernel : decode (mB 58) 15 = .ok (.lconst 0, 1)) rfl rfl
theorem t58_16 : rn 58 16 ls (.long v :: .long u :: r) M = rn 58 17 ls (.int (lg_cmp u v) :: r) M := r_nx (by decide +kernel : decode (mB 58) 16 = .ok (.lcmp, 1)) rfl rfl
theorem t58_17 : rn 58 17 ls (.int x :: r) M = if x = 0 then rn 58 39 ls r M else rn 58 20 ls r M := r_if (o := 22) (r := r) (c := x = 0) (by decide +kernel : decode (mB 58) 17 = .ok (.ifCond .eq 22, 3)) rfl (by decide) rfl
theorem t58_20 : rn 58 20 (some (.ref a) :: l) r M = rn 58 21 (some (.ref a) :: l) (.ref a :: r) M := r_aload_n (by decide +kernel : decode (mB 58) 20 = .ok (.aload_n 0, 1)) rfl
theorem t58_21 : rn 58 21 (a0 :: some (.ref a) :: l) r M = rn 58 22 (a0 :: some (.ref a) :: l) (.ref a :: r) M := r_aload_n (by decide +kernel : decode (mB 58) 21 = .ok (.aload_n 1, 1)) rfl
theorem t58_22 : rn 58 22 (a0 :: a1 :: a2 :: some (.long u) :: none :: l) r M = rn 58 23 (a0 :: a1 :: a2 :: some (.long u) :: none :: l) (.long u :: r) M := r_lload_n (by decide +kernel : decode (mB 58) 22 = .ok (.lload_n 3, 1)) rfl rfl
theorem t58_23 : rn 58 23 ls [.long u, .ref a, .ref b] M = if mK M b = (13, 0) then cbn (cl 49 [.ref b, .ref a, .long u] M) 58 26 ls [] else none := r_callV (kd := 0) (by decide +kernel : decode (mB 58) 23 = .ok (.invokevirtual 85, 3)) (by decide +kernel) ((doV_n np_49).trans rfl)
theorem t58_26 : rn 58 26 ls (.int x :: r) M = rn 58 27 ls r M := r_nx (by decide +kernel : decode (mB 58) 26 = .ok (.pop, 1)) rfl rfl
theorem t58_27 : rn 58 27 (a0 :: a1 :: some (.int x) :: l) r M = rn 58 30 (a0 :: a1 :: some (.int (x + 1)) :: l) r M := r_iinc (by decide +kernel : decode (mB 58) 27 = .ok (.iinc 2 1, 3)) rfl
theorem t58_30 : rn 58 30 (some (.ref a) :: l) r M = rn 58 31 (some (.ref a) :: l) (.ref a :: r) M := r_aload_n (by decide +kernel : decode (mB 58) 30 = .ok (.aload_n 0, 1)) rfl
theorem t58_31 : rn 58 31 (a0 :: some (.ref a) :: l) r M = rn 58 32 (a0 :: some (.ref a) :: l) (.ref a :: r) M := r_aload_n (by decide +kernel : decode (mB 58) 31 = .ok (.aload_n 1, 1)) rfl
theorem t58_32 : rn 58 32 ls [.ref a, .ref b] M = if mK M b = (13, 0) then cbn (cl 48 [.ref b, .ref a] M) 58 35 ls [] else none := r_callV (kd := 0) (by decide +kernel : decode (mB 58) 32 = .ok (.invokevirtual 81, 3)) (by decide +kernel) ((doV_n np_48).trans rfl)
theorem t58_35 : rn 58 35 (a0 :: a1 :: a2 :: a3 :: a4 :: l) (.long u :: r) M = rn 58 36 (a0 :: a1 :: a2 :: some (.long u) :: none :: l) r M := r_lstore_n (by decide +kernel : decode (mB 58) 35 = .ok (.lstore_n 3, 1)) (Nat.le_add_left 5 l.length)
theorem t58_36 : rn 58 36 ls r M = rn 58 8 ls r M := r_goto (o := (-28)) (by decide +kernel : decode (mB 58) 36 = .ok (.goto (-28), 3)) (by decide)
theorem t58_39 : rn 58 39 (a0 :: a1 :: some (.int x) :: l) r M = rn 58 40 (a0 :: a1 :: some (.int x) :: l) (.int x :: r) M := r_iload_n (by decide +kernel : decode (mB 58) 39 = .ok (.iload_n 2, 1)) rfl
theorem t58_40 : rn 58 40 ls [.int x] M = some (some (.int x), M) := r_ireturn (by decide +kernel : decode (mB 58) 40 = .ok (.ireturn, 1)) rfl
-- 60 Log_leaningOn(I)I
theorem t60_0 : rn 60 0 ls r M = rn 60 1 ls (.int 0 :: r) M := r_nx (by decide +kernel : decode (mB 60) 0 = .ok (.iconst 0, 1)) rfl rfl
theorem t60_1 : rn 60 1 (a0 :: a1 :: a2 :: l) (.int x :: r) M = rn 60 2 (a0 :: a1 :: some (.int x) :: l) r M := r_istore_n (by decide +kernel : decode (mB 60) 1 = .ok (.istore_n 2, 1)) (Nat.le_add_left 3 l.length)
theorem t60_2 : rn 60 2 (a0 :: some (.int x) :: l) r M = rn 60 3 (a0 :: some (.int x) :: l) (.int x :: r) M := r_iload_n (by decide +kernel : decode (mB 60) 2 = .ok (.iload_n 1, 1)) rfl
theorem t60_3 : rn 60 3 ls r M = rn 60 4 ls (.int 1 :: r) M := r_nx (by decide +kernel : decode (mB 60) 3 = .ok (.iconst 1, 1)) rfl rfl
theorem t60_4 : rn 60 4 ls (.int y :: .int x :: r) M = rn 60 5 ls (.int (x + y) :: r) M := r_nx (by decide +kernel : decode (mB 60) 4 = .ok (.iadd, 1)) rfl rfl
theorem t60_5 : rn 60 5 (a0 :: a1 :: a2 :: a3 :: l) (.int x :: r) M = rn 60 6 (a0 :: a1 :: a2 :: some (.int x) :: l) r M := r_istore_n (by decide +kernel : decode (mB 60) 5 = .ok (.istore_n 3, 1)) (Nat.le_add_left 4 l.length)
theorem t60_6 : rn 60 6 (a0 :: a1 :: a2 :: some (.int x) :: l) r M = rn 60 7 (a0 :: a1 :: a2 :: some (.int x) :: l) (.int x :: r) M := r_iload_n (by decide +kernel : decode (mB 60) 6 = .ok (.iload_n 3, 1)) rfl
theorem t60_7 : rn 60 7 (some (.ref a) :: l) r M = rn 60 8 (some (.ref a) :: l) (.ref a :: r) M := r_aload_n (by decide +kernel : decode (mB 60) 7 = .ok (.aload_n 0, 1)) rfl
theorem t60_8 : rn 60 8 ls (.ref a :: r) M = if mK M a = (12, 0) then rn 60 11 ls (.int (mI M a 0) :: r) M else none := r_getI (ci := 2) (k := 0) (by decide +kernel : decode (mB 60) 8 = .ok (.getfield 28, 3)) (by decide +kernel) (Or.inl rfl)
theorem t60_11 : rn 60 11 ls (.int y :: .int x :: r) M = if y ≤ x then rn 60 36 ls r M else rn 60 14 ls r M := r_if (o := 25) (r := r) (c := y ≤ x) (by decide +kernel : decode (mB 60) 11 = .ok (.if_icmp .ge 25, 3)) rfl (by decide) rfl
theorem t60_14 : rn 60 14 (some (.ref a) :: l) r M = rn 60 15 (some (.ref a) :: l) (.ref a :: r) M := r_aload_n (by decide +kernel : decode (mB 60) 14 = .ok (.aload_n 0, 1)) rfl
theorem t60_15 : rn 60 15 ls (.ref a :: r) M = if mK M a = (12, 0) then rn 60 18 ls (va_rf (mP M a 6) :: r) M else none := r_getP (ci := 2) (k := 6) (by decide +kernel : decode (mB 60) 15 = .ok (.getfield 25, 3)) (by decide +kernel) rfl
theorem t60_18 : rn 60 18 (a0 :: a1 :: a2 :: some (.int x) :: l) r M = rn 60 19 (a0 :: a1 :: a2 :: some (.int x) :: l) (.int x :: r) M := r_iload_n (by decide +kernel : decode (mB 60) 18 = .ok (.iload_n 3, 1)) rfl
theorem t60_19 : rn 60 19 ls (.int x :: .ref a :: r) M = if (mK M a).1 = 2 ∧ inR x (mK M a).2 then rn 60 20 ls (.long (mJ M a x.toNatClampNeg) :: r) M else none := r_cnd (by decide +kernel : decode (mB 60) 19 = .ok (.laload, 1)) rfl rfl
theorem t60_20 : rn 60 20 (a0 :: some (.int x) :: l) r M = rn 60 21 (a0 :: some (.int x) :: l) (.int x :: r) M := r_iload_n (by decide +kernel : decode (mB 60) 20 = .ok (.iload_n 1, 1)) rfl
theorem t60_21 : rn 60 21 ls [.int x, .long u] M = cbn (cl 27 [.long u, .int x] M) 60 24 ls [] := r_callS (kd := 3) (by decide +kernel : decode (mB 60) 21 = .ok (.invokestatic 64, 3)) (by decide +kernel) (by decide +kernel) ((doS_n np_27).trans rfl)
theorem t60_24 : rn 60 24 ls (.int x :: r) M = if x = 0 then rn 60 30 ls r M else rn 60 27 ls r M := r_if (o := 6) (r := r) (c := x = 0) (by decide +kernel : decode (mB 60) 24 = .ok (.ifCond .eq 6, 3)) rfl (by decide) rfl
theorem t60_27 : rn 60 27 (a0 :: a1 :: some (.int x) :: l) r M = rn 60 30 (a0 :: a1 :: some (.int (x + 1)) :: l) r M := r_iinc (by decide +kernel : decode (mB 60) 27 = .ok (.iinc 2 1, 3)) rfl
theorem t60_30 : rn 60 30 (a0 :: a1 :: a2 :: some (.int x) :: l) r M = rn 60 33 (a0 :: a1 :: a2 :: some (.int (x + 1)) :: l) r M := r_iinc (by decide +kernel : decode (mB 60) 30 = .ok (.iinc 3 1, 3)) rfl
theorem t60_33 : rn 60 33 ls r M = rn 60 6 ls r M := r_goto (o := (-27)) (by decide +kernel : decode (mB 60) 33 = .ok (.goto (-27), 3)) (by decide)
theorem t60_36 : rn 60 36 (a0 :: a1 :: some (.int x) :: l) r M = rn 60 37 (a0 :: a1 :: some (.int x) :: l) (.int x :: r) M := r_iload_n (by decide +kernel : decode (mB 60) 36 = .ok (.iload_n 2, 1)) rfl
theorem t60_37 : rn 60 37 ls [.int x] M = some (some (.int x), M) := r_ireturn (by decide +kernel : decode (mB 60) 37 = .ok (.ireturn, 1)) rfl
-- 63 Tree_directoriesAbove(I)I
theorem t63_0 : rn 63 0 (some (.ref a) :: l) r M = rn 63 1 (some (.ref a) :: l) (.ref a :: r) M := r_aload_n (by decide +kernel : decode (mB 63) 0 = .ok (.aload_n 0, 1)) rfl
theorem t63_1 : rn 63 1 (a0 :: some (.int x) :: l) r M = rn 63 2 (a0 :: some (.int x) :: l) (.int x :: r) M := r_iload_n (by decide +kernel : decode (mB 63) 1 = .ok (.iload_n 1, 1)) rfl
theorem t63_2 : rn 63 2 ls [.int x, .ref a] M = if mK M a = (14, 0) then cbn (cl 52 [.ref a, .int x] M) 63 5 ls [] else none := r_callV (kd := 0) (by decide +kernel : decode (mB 63) 2 = .ok (.invokevirtual 33, 3)) (by decide +kernel) ((doV_n np_52).trans rfl)
theorem t63_5 : rn 63 5 ls (.int x :: r) M = if ¬ x = 0 then rn 63 11 ls r M else rn 63 8 ls r M := r_if (o := 6) (r := r) (c := ¬ x = 0) (by decide +kernel : decode (mB 63) 5 = .ok (.ifCond .ne 6, 3)) rfl (by decide) rfl
theorem t63_8 : rn 63 8 ls r M = rn 63 10 ls (.int (-6) :: r) M := r_nx (by decide +kernel : decode (mB 63) 8 = .ok (.bipush (-6), 2)) rfl rfl
theorem t63_10 : rn 63 10 ls [.int x] M = some (some (.int x), M) := r_ireturn (by decide +kernel : decode (mB 63) 10 = .ok (.ireturn, 1)) rfl
theorem t63_11 : rn 63 11 ls r M = rn 63 12 ls (.int 0 :: r) M := r_nx (by decide +kernel : decode (mB 63) 11 = .ok (.iconst 0, 1)) rfl rfl
theorem t63_12 : rn 63 12 (a0 :: a1 :: a2 :: l) (.int x :: r) M = rn 63 13 (a0 :: a1 :: some (.int x) :: l) r M := r_istore_n (by decide +kernel : decode (mB 63) 12 = .ok (.istore_n 2, 1)) (Nat.le_add_left 3 l.length)
theorem t63_13 : rn 63 13 (some (.ref a) :: l) r M = rn 63 14 (some (.ref a) :: l) (.ref a :: r) M := r_aload_n (by decide +kernel : decode (mB 63) 13 = .ok (.aload_n 0, 1)) rfl
theorem t63_14 : rn 63 14 ls (.ref a :: r) M = if mK M a = (14, 0) then rn 63 17 ls (va_rf (mP M a 0) :: r) M else none := r_getP (ci := 4) (k := 0) (by decide +kernel : decode (mB 63) 14 = .ok (.getfield 9, 3)) (by decide +kernel) rfl
theorem t63_17 : rn 63 17 (a0 :: some (.int x) :: l) r M = rn 63 18 (a0 :: some (.int x) :: l) (.int x :: r) M := r_iload_n (by decide +kernel : decode (mB 63) 17 = .ok (.iload_n 1, 1)) rfl
theorem t63_18 : rn 63 18 ls (.int x :: .ref a :: r) M = if ((mK M a).1 = 1 ∨ (mK M a).1 = 5) ∧ inR x (mK M a).2 then rn 63 19 ls (.int (mI M a x.toNatClampNeg) :: r) M else none := r_cnd (by decide +kernel : decode (mB 63) 18 = .ok (.iaload, 1)) rfl rfl
theorem t63_19 : rn 63 19 (a0 :: a1 :: a2 :: a3 :: l) (.int x :: r) M = rn 63 20 (a0 :: a1 :: a2 :: some (.int x) :: l) r M := r_istore_n (by decide +kernel : decode (mB 63) 19 = .ok (.istore_n 3, 1)) (Nat.le_add_left 4 l.length)
theorem t63_20 : rn 63 20 (a0 :: a1 :: some (.int x) :: l) r M = rn 63 21 (a0 :: a1 :: some (.int x) :: l) (.int x :: r) M := r_iload_n (by decide +kernel : decode (mB 63) 20 = .ok (.iload_n 2, 1)) rfl
theorem t63_21 : rn 63 21 ls r M = rn 63 23 ls (.int 16 :: r) M := r_nx (by decide +kernel : decode (mB 63) 21 = .ok (.bipush 16, 2)) rfl rfl
theorem t63_23 : rn 63 23 ls (.int y :: .int x :: r) M = if y ≤ x then rn 63 46 ls r M else rn 63 26 ls r M := r_if (o := 23) (r := r) (c := y ≤ x) (by decide +kernel : decode (mB 63) 23 = .ok (.if_icmp .ge 23, 3)) rfl (by decide) rfl
theorem t63_26 : rn 63 26 (a0 :: a1 :: a2 :: some (.int x) :: l) r M = rn 63 27 (a0 :: a1 :: a2 :: some (.int x) :: l) (.int x :: r) M := r_iload_n (by decide +kernel : decode (mB 63) 26 = .ok (.iload_n 3, 1)) rfl
theorem t63_27 : rn 63 27 ls [.int x] M = cbn (cl 19 [.int x] M) 63 30 ls [] := r_callS (kd := 3) (by decide +kernel : decode (mB 63) 27 = .ok (.invokestatic 41, 3)) (by decide +kernel) (by decide +kernel) ((doS_n np_19).trans rfl)
theorem t63_30 : rn 63 30 ls (.int x :: r) M = if x = 0 then rn 63 46 ls r M else rn 63 33 ls r M := r_if (o := 16) (r := r) (c := x = 0) (by decide +kernel : decode (mB 63) 30 = .ok (.ifCond .eq 16, 3)) rfl (by decide) rfl
theorem t63_33 : rn 63 33 (a0 :: a1 :: some (.int x) :: l) r M = rn 63 36 (a0 :: a1 :: some (.int (x + 1)) :: l) r M := r_iinc (by decide +kernel : decode (mB 63) 33 = .ok (.iinc 2 1, 3)) rfl
theorem t63_36 : rn 63 36 (some (.ref a) :: l) r M = rn 63 37 (some (.ref a) :: l) (.ref a :: r) M := r_aload_n (by decide +kernel : decode (mB 63) 36 = .ok (.aload_n 0, 1)) rfl
theorem t63_37 : rn 63 37 ls (.ref a :: r) M = if mK M a = (14, 0) then rn 63 40 ls (va_rf (mP M a 0) :: r) M else none := r_getP (ci := 4) (k := 0) (by decide +kernel : decode (mB 63) 37 = .ok (.getfield 9, 3)) (by decide +kernel) rfl
theorem t63_40 : rn 63 40 (a0 :: a1 :: a2 :: some (.int x) :: l) r M = rn 63 41 (a0 :: a1 :: a2 :: some (.int x) :: l) (.int x :: r) M := r_iload_n (by decide +kernel : decode (mB 63) 40 = .ok (.iload_n 3, 1)) rfl
theorem t63_41 : rn 63 41 ls (.int x :: .ref a :: r) M = if ((mK M a).1 = 1 ∨ (mK M a).1 = 5) ∧ inR x (mK M a).2 then rn 63 42 ls (.int (mI M a x.toNatClampNeg) :: r) M else none := r_cnd (by decide +kernel : decode (mB 63) 41 = .ok (.iaload, 1)) rfl rfl
theorem t63_42 : rn 63 42 (a0 :: a1 :: a2 :: a3 :: l) (.int x :: r) M = rn 63 43 (a0 :: a1 :: a2 :: some (.int x) :: l) r M := r_istore_n (by decide +kernel : decode (mB 63) 42 = .ok (.istore_n 3, 1)) (Nat.le_add_left 4 l.length)
theorem t63_43 : rn 63 43 ls r M = rn 63 20 ls r M := r_goto (o := (-23)) (by decide +kernel : decode (mB 63) 43 = .ok (.goto (-23), 3)) (by decide)
theorem t63_46 : rn 63 46 (a0 :: a1 :: some (.int x) :: l) r M = rn 63 47 (a0 :: a1 :: some (.int x) :: l) (.int x :: r) M := r_iload_n (by decide +kernel : decode (mB 63) 46 = .ok (.iload_n 2, 1)) rfl
theorem t63_47 : rn 63 47 ls [.int x] M = some (some (.int x), M) := r_ireturn (by decide +kernel : decode (mB 63) 47 = .ok (.ireturn, 1)) rfl
-- 64 Tree_filesBelow(I)I
theorem t64_0 : rn 64 0 ls r M = rn 64 1 ls (.int 0 :: r) M := r_nx (by decide +kernel : decode (mB 64) 0 = .ok (.iconst 0, 1)) rfl rfl
theorem t64_1 : rn 64 1 (a0 :: a1 :: a2 :: l) (.int x :: r) M = rn 64 2 (a0 :: a1 :: some (.int x) :: l) r M := r_istore_n (by decide +kernel : decode (mB 64) 1 = .ok (.istore_n 2, 1)) (Nat.le_add_left 3 l.length)
theorem t64_2 : rn 64 2 ls r M = rn 64 3 ls (.int 0 :: r) M := r_nx (by decide +kernel : decode (mB 64) 2 = .ok (.iconst 0, 1)) rfl rfl
theorem t64_3 : rn 64 3 (a0 :: a1 :: a2 :: a3 :: l) (.int x :: r) M = rn 64 4 (a0 :: a1 :: a2 :: some (.int x) :: l) r M := r_istore_n (by decide +kernel : decode (mB 64) 3 = .ok (.istore_n 3, 1)) (Nat.le_add_left 4 l.length)
theorem t64_4 : rn 64 4 (a0 :: a1 :: a2 :: some (.int x) :: l) r M = rn 64 5 (a0 :: a1 :: a2 :: some (.int x) :: l) (.int x :: r) M := r_iload_n (by decide +kernel : decode (mB 64) 4 = .ok (.iload_n 3, 1)) rfl
theorem t64_5 : rn 64 5 ls r M = rn 64 7 ls (.int 16 :: r) M := r_nx (by decide +kernel : decode (mB 64) 5 = .ok (.bipush 16, 2)) rfl rfl
theorem t64_7 : rn 64 7 ls (.int y :: .int x :: r) M = if y ≤ x then rn 64 33 ls r M else rn 64 10 ls r M := r_if (o := 26) (r := r) (c := y ≤ x) (by decide +kernel : decode (mB 64) 7 = .ok (.if_icmp .ge 26, 3)) rfl (by decide) rfl
theorem t64_10 : rn 64 10 (a0 :: a1 :: a2 :: some (.int x) :: l) r M = rn 64 11 (a0 :: a1 :: a2 :: some (.int x) :: l) (.int x :: r) M := r_iload_n (by decide +kernel : decode (mB 64) 10 = .ok (.iload_n 3, 1)) rfl
theorem t64_11 : rn 64 11 (a0 :: some (.int x) :: l) r M = rn 64 12 (a0 :: some (.int x) :: l) (.int x :: r) M := r_iload_n (by decide +kernel : decode (mB 64) 11 = .ok (.iload_n 1, 1)) rfl
theorem t64_12 : rn 64 12 ls (.int y :: .int x :: r) M = if x = y then rn 64 27 ls r M else rn 64 15 ls r M := r_if (o := 15) (r := r) (c := x = y) (by decide +kernel : decode (mB 64) 12 = .ok (.if_icmp .eq 15, 3)) rfl (by decide) rfl
theorem t64_15 : rn 64 15 (some (.ref a) :: l) r M = rn 64 16 (some (.ref a) :: l) (.ref a :: r) M := r_aload_n (by decide +kernel : decode (mB 64) 15 = .ok (.aload_n 0, 1)) rfl
theorem t64_16 : rn 64 16 (a0 :: a1 :: a2 :: some (.int x) :: l) r M = rn 64 17 (a0 :: a1 :: a2 :: some (.int x) :: l) (.int x :: r) M := r_iload_n (by decide +kernel : decode (mB 64) 16 = .ok (.iload_n 3, 1)) rfl
theorem t64_17 : rn 64 17 (a0 :: some (.int x) :: l) r M = rn 64 18 (a0 :: some (.int x) :: l) (.int x :: r) M := r_iload_n (by decide +kernel : decode (mB 64) 17 = .ok (.iload_n 1, 1)) rfl
theorem t64_18 : rn 64 18 ls [.int x, .int y, .ref a] M = if mK M a = (14, 0) then cbn (cl 53 [.ref a, .int y, .int x] M) 64 21 ls [] else none := r_callV (kd := 0) (by decide +kernel : decode (mB 64) 18 = .ok (.invokevirtual 51, 3)) (by decide +kernel) ((doV_n np_53).trans rfl)
theorem t64_21 : rn 64 21 ls (.int x :: r) M = if x = 0 then rn 64 27 ls r M else rn 64 24 ls r M := r_if (o := 6) (r := r) (c := x = 0) (by decide +kernel : decode (mB 64) 21 = .ok (.ifCond .eq 6, 3)) rfl (by decide) rfl
theorem t64_24 : rn 64 24 (a0 :: a1 :: some (.int x) :: l) r M = rn 64 27 (a0 :: a1 :: some (.int (x + 1)) :: l) r M := r_iinc (by decide +kernel : decode (mB 64) 24 = .ok (.iinc 2 1, 3)) rfl
theorem t64_27 : rn 64 27 (a0 :: a1 :: a2 :: some (.int x) :: l) r M = rn 64 30 (a0 :: a1 :: a2 :: some (.int (x + 1)) :: l) r M := r_iinc (by decide +kernel : decode (mB 64) 27 = .ok (.iinc 3 1, 3)) rfl
theorem t64_30 : rn 64 30 ls r M = rn 64 4 ls r M := r_goto (o := (-26)) (by decide +kernel : decode (mB 64) 30 = .ok (.goto (-26), 3)) (by decide)
theorem t64_33 : rn 64 33 (a0 :: a1 :: some (.int x) :: l) r M = rn 64 34 (a0 :: a1 :: some (.int x) :: l) (.int x :: r) M := r_iload_n (by decide +kernel : decode (mB 64) 33 = .ok (.iload_n 2, 1)) rfl
theorem t64_34 : rn 64 34 ls [.int x] M = some (some (.int x), M) := r_ireturn (by decide +kernel : decode (mB 64) 34 = .ok (.ireturn, 1)) rfl
-- 66 Tree_size()I
theorem t66_0 : rn 66 0 ls r M = rn 66 1 ls (.int 0 :: r) M := r_nx (by decide +kernel : decode (mB 66) 0 = .ok (.iconst 0, 1)) rfl rfl
theorem t66_1 : rn 66 1 (a0 :: a1 :: l) (.int x :: r) M = rn 66 2 (a0 :: some (.int x) :: l) r M := r_istore_n (by decide +kernel : decode (mB 66) 1 = .ok (.istore_n 1, 1)) (Nat.le_add_left 2 l.length)
theorem t66_2 : rn 66 2 ls r M = rn 66 3 ls (.int 0 :: r) M := r_nx (by decide +kernel : decode (mB 66) 2 = .ok (.iconst 0, 1)) rfl rfl
theorem t66_3 : rn 66 3 (a0 :: a1 :: a2 :: l) (.int x :: r) M = rn 66 4 (a0 :: a1 :: some (.int x) :: l) r M := r_istore_n (by decide +kernel : decode (mB 66) 3 = .ok (.istore_n 2, 1)) (Nat.le_add_left 3 l.length)
theorem t66_4 : rn 66 4 (a0 :: a1 :: some (.int x) :: l) r M = rn 66 5 (a0 :: a1 :: some (.int x) :: l) (.int x :: r) M := r_iload_n (by decide +kernel : decode (mB 66) 4 = .ok (.iload_n 2, 1)) rfl
theorem t66_5 : rn 66 5 ls r M = rn 66 7 ls (.int 16 :: r) M := r_nx (by decide +kernel : decode (mB 66) 5 = .ok (.bipush 16, 2)) rfl rfl
theorem t66_7 : rn 66 7 ls (.int y :: .int x :: r) M = if y ≤ x then rn 66 27 ls r M else rn 66 10 ls r M := r_if (o := 20) (r := r) (c := y ≤ x) (by decide +kernel : decode (mB 66) 7 = .ok (.if_icmp .ge 20, 3)) rfl (by decide) rfl
theorem t66_10 : rn 66 10 (some (.ref a) :: l) r M = rn 66 11 (some (.ref a) :: l) (.ref a :: r) M := r_aload_n (by decide +kernel : decode (mB 66) 10 = .ok (.aload_n 0, 1)) rfl
theorem t66_11 : rn 66 11 (a0 :: a1 :: some (.int x) :: l) r M = rn 66 12 (a0 :: a1 :: some (.int x) :: l) (.int x :: r) M := r_iload_n (by decide +kernel : decode (mB 66) 11 = .ok (.iload_n 2, 1)) rfl
theorem t66_12 : rn 66 12 ls [.int x, .ref a] M = if mK M a = (14, 0) then cbn (cl 52 [.ref a, .int x] M) 66 15 ls [] else none := r_callV (kd := 0) (by decide +kernel : decode (mB 66) 12 = .ok (.invokevirtual 33, 3)) (by decide +kernel) ((doV_n np_52).trans rfl)
theorem t66_15 : rn 66 15 ls (.int x :: r) M = if x = 0 then rn 66 21 ls r M else rn 66 18 ls r M := r_if (o := 6) (r := r) (c := x = 0) (by decide +kernel : decode (mB 66) 15 = .ok (.ifCond .eq 6, 3)) rfl (by decide) rfl
theorem t66_18 : rn 66 18 (a0 :: some (.int x) :: l) r M = rn 66 21 (a0 :: some (.int (x + 1)) :: l) r M := r_iinc (by decide +kernel : decode (mB 66) 18 = .ok (.iinc 1 1, 3)) rfl
theorem t66_21 : rn 66 21 (a0 :: a1 :: some (.int x) :: l) r M = rn 66 24 (a0 :: a1 :: some (.int (x + 1)) :: l) r M := r_iinc (by decide +kernel : decode (mB 66) 21 = .ok (.iinc 2 1, 3)) rfl
theorem t66_24 : rn 66 24 ls r M = rn 66 4 ls r M := r_goto (o := (-20)) (by decide +kernel : decode (mB 66) 24 = .ok (.goto (-20), 3)) (by decide)
theorem t66_27 : rn 66 27 (a0 :: some (.int x) :: l) r M = rn 66 28 (a0 :: some (.int x) :: l) (.int x :: r) M := r_iload_n (by decide +kernel : decode (mB 66) 27 = .ok (.iload_n 1, 1)) rfl
theorem t66_28 : rn 66 28 ls [.int x] M = some (some (.int x), M) := r_ireturn (by decide +kernel : decode (mB 66) 28 = .ok (.ireturn, 1)) rfl
-- 73 Tree_otherwiseThan(LDependentReplay$Tree;)I
theorem t73_0 : rn 73 0 ls r M = rn 73 1 ls (.int 0 :: r) M := r_nx (by decide +kernel : decode (mB 73) 0 = .ok (.iconst 0, 1)) rfl rfl
theorem t73_1 : rn 73 1 (a0 :: a1 :: a2 :: l) (.int x :: r) M = rn 73 2 (a0 :: a1 :: some (.int x) :: l) r M := r_istore_n (by decide +kernel : decode (mB 73) 1 = .ok (.istore_n 2, 1)) (Nat.le_add_left 3 l.length)
theorem t73_2 : rn 73 2 ls r M = rn 73 3 ls (.int 0 :: r) M := r_nx (by decide +kernel : decode (mB 73) 2 = .ok (.iconst 0, 1)) rfl rfl
theorem t73_3 : rn 73 3 (a0 :: a1 :: a2 :: a3 :: l) (.int x :: r) M = rn 73 4 (a0 :: a1 :: a2 :: some (.int x) :: l) r M := r_istore_n (by decide +kernel : decode (mB 73) 3 = .ok (.istore_n 3, 1)) (Nat.le_add_left 4 l.length)
theorem t73_4 : rn 73 4 (a0 :: a1 :: a2 :: some (.int x) :: l) r M = rn 73 5 (a0 :: a1 :: a2 :: some (.int x) :: l) (.int x :: r) M := r_iload_n (by decide +kernel : decode (mB 73) 4 = .ok (.iload_n 3, 1)) rfl
theorem t73_5 : rn 73 5 ls r M = rn 73 7 ls (.int 16 :: r) M := r_nx (by decide +kernel : decode (mB 73) 5 = .ok (.bipush 16, 2)) rfl rfl
theorem t73_7 : rn 73 7 ls (.int y :: .int x :: r) M = if y ≤ x then rn 73 52 ls r M else rn 73 10 ls r M := r_if (o := 45) (r := r) (c := y ≤ x) (by decide +kernel : decode (mB 73) 7 = .ok (.if_icmp .ge 45, 3)) rfl (by decide) rfl
theorem t73_10 : rn 73 10 (some (.ref a) :: l) r M = rn 73 11 (some (.ref a) :: l) (.ref a :: r) M := r_aload_n (by decide +kernel : decode (mB 73) 10 = .ok (.aload_n 0, 1)) rfl
theorem t73_11 : rn 73 11 ls (.ref a :: r) M = if mK M a = (14, 0) then rn 73 14 ls (va_rf (mP M a 0) :: r) M else none := r_getP (ci := 4) (k := 0) (by decide +kernel : decode (mB 73) 11 = .ok (.getfield 9, 3)) (by decide +kernel) rfl
theorem t73_14 : rn 73 14 (a0 :: a1 :: a2 :: some (.int x) :: l) r M = rn 73 15 (a0 :: a1 :: a2 :: some (.int x) :: l) (.int x :: r) M := r_iload_n (by decide +kernel : decode (mB 73) 14 = .ok (.iload_n 3, 1)) rfl
theorem t73_15 : rn 73 15 ls (.int x :: .ref a :: r) M = if ((mK M a).1 = 1 ∨ (mK M a).1 = 5) ∧ inR x (mK M a).2 then rn 73 16 ls (.int (mI M a x.toNatClampNeg) :: r) M else none := r_cnd (by decide +kernel : decode (mB 73) 15 = .ok (.iaload, 1)) rfl rfl
theorem t73_16 : rn 73 16 (a0 :: some (.ref a) :: l) r M = rn 73 17 (a0 :: some (.ref a) :: l) (.ref a :: r) M := r_aload_n (by decide +kernel : decode (mB 73) 16 = .ok (.aload_n 1, 1)) rfl
theorem t73_17 : rn 73 17 ls (.ref a :: r) M = if mK M a = (14, 0) then rn 73 20 ls (va_rf (mP M a 0) :: r) M else none := r_getP (ci := 4) (k := 0) (by decide +kernel : decode (mB 73) 17 = .ok (.getfield 9, 3)) (by decide +kernel) rfl
theorem t73_20 : rn 73 20 (a0 :: a1 :: a2 :: some (.int x) :: l) r M = rn 73 21 (a0 :: a1 :: a2 :: some (.int x) :: l) (.int x :: r) M := r_iload_n (by decide +kernel : decode (mB 73) 20 = .ok (.iload_n 3, 1)) rfl
theorem t73_21 : rn 73 21 ls (.int x :: .ref a :: r) M = if ((mK M a).1 = 1 ∨ (mK M a).1 = 5) ∧ inR x (mK M a).2 then rn 73 22 ls (.int (mI M a x.toNatClampNeg) :: r) M else none := r_cnd (by decide +kernel : decode (mB 73) 21 = .ok (.iaload, 1)) rfl rfl
theorem t73_22 : rn 73 22 ls (.int y :: .int x :: r) M = if ¬ x = y then rn 73 40 ls r M else rn 73 25 ls r M := r_if (o := 18) (r := r) (c := ¬ x = y) (by decide +kernel : decode (mB 73) 22 = .ok (.if_icmp .ne 18, 3)) rfl (by decide) rfl
theorem t73_25 : rn 73 25 (some (.ref a) :: l) r M = rn 73 26 (some (.ref a) :: l) (.ref a :: r) M := r_aload_n (by decide +kernel : decode (mB 73) 25 = .ok (.aload_n 0, 1)) rfl
theorem t73_26 : rn 73 26 ls (.ref a :: r) M = if mK M a = (14, 0) then rn 73 29 ls (va_rf (mP M a 1) :: r) M else none := r_getP (ci := 4) (k := 1) (by decide +kernel : decode (mB 73) 26 = .ok (.getfield 15, 3)) (by decide +kernel) rfl
theorem t73_29 : rn 73 29 (a0 :: a1 :: a2 :: some (.int x) :: l) r M = rn 73 30 (a0 :: a1 :: a2 :: some (.int x) :: l) (.int x :: r) M := r_iload_n (by decide +kernel : decode (mB 73) 29 = .ok (.iload_n 3, 1)) rfl
theorem t73_30 : rn 73 30 ls (.int x :: .ref a :: r) M = if ((mK M a).1 = 1 ∨ (mK M a).1 = 5) ∧ inR x (mK M a).2 then rn 73 31 ls (.int (mI M a x.toNatClampNeg) :: r) M else none := r_cnd (by decide +kernel : decode (mB 73) 30 = .ok (.iaload, 1)) rfl rfl
theorem t73_31 : rn 73 31 (a0 :: some (.ref a) :: l) r M = rn 73 32 (a0 :: some (.ref a) :: l) (.ref a :: r) M := r_aload_n (by decide +kernel : decode (mB 73) 31 = .ok (.aload_n 1, 1)) rfl
theorem t73_32 : rn 73 32 ls (.ref a :: r) M = if mK M a = (14, 0) then rn 73 35 ls (va_rf (mP M a 1) :: r) M else none := r_getP (ci := 4) (k := 1) (by decide +kernel : decode (mB 73) 32 = .ok (.getfield 15, 3)) (by decide +kernel) rfl
theorem t73_35 : rn 73 35 (a0 :: a1 :: a2 :: some (.int x) :: l) r M = rn 73 36 (a0 :: a1 :: a2 :: some (.int x) :: l) (.int x :: r) M := r_iload_n (by decide +kernel : decode (mB 73) 35 = .ok (.iload_n 3, 1)) rfl
theorem t73_36 : rn 73 36 ls (.int x :: .ref a :: r) M = if ((mK M a).1 = 1 ∨ (mK M a).1 = 5) ∧ inR x (mK M a).2 then rn 73 37 ls (.int (mI M a x.toNatClampNeg) :: r) M else none := r_cnd (by decide +kernel : decode (mB 73) 36 = .ok (.iaload, 1)) rfl rfl
theorem t73_37 : rn 73 37 ls (.int y :: .int x :: r) M = if x = y then rn 73 46 ls r M else rn 73 40 ls r M := r_if (o := 9) (r := r) (c := x = y) (by decide +kernel : decode (mB 73) 37 = .ok (.if_icmp .eq 9, 3)) rfl (by decide) rfl
theorem t73_40 : rn 73 40 (a0 :: a1 :: some (.int x) :: l) r M = rn 73 41 (a0 :: a1 :: some (.int x) :: l) (.int x :: r) M := r_iload_n (by decide +kernel : decode (mB 73) 40 = .ok (.iload_n 2, 1)) rfl
theorem t73_41 : rn 73 41 ls r M = rn 73 42 ls (.int 1 :: r) M := r_nx (by decide +kernel : decode (mB 73) 41 = .ok (.iconst 1, 1)) rfl rfl
theorem t73_42 : rn 73 42 (a0 :: a1 :: a2 :: some (.int x) :: l) r M = rn 73 43 (a0 :: a1 :: a2 :: some (.int x) :: l) (.int x :: r) M := r_iload_n (by decide +kernel : decode (mB 73) 42 = .ok (.iload_n 3, 1)) rfl
theorem t73_43 : rn 73 43 ls (.int y :: .int x :: r) M = rn 73 44 ls (.int (x <<< (y &&& 31)) :: r) M := r_nx (by decide +kernel : decode (mB 73) 43 = .ok (.ishl, 1)) rfl rfl
theorem t73_44 : rn 73 44 ls (.int y :: .int x :: r) M = rn 73 45 ls (.int (x ||| y) :: r) M := r_nx (by decide +kernel : decode (mB 73) 44 = .ok (.ior, 1)) rfl rfl
theorem t73_45 : rn 73 45 (a0 :: a1 :: a2 :: l) (.int x :: r) M = rn 73 46 (a0 :: a1 :: some (.int x) :: l) r M := r_istore_n (by decide +kernel : decode (mB 73) 45 = .ok (.istore_n 2, 1)) (Nat.le_add_left 3 l.length)
theorem t73_46 : rn 73 46 (a0 :: a1 :: a2 :: some (.int x) :: l) r M = rn 73 49 (a0 :: a1 :: a2 :: some (.int (x + 1)) :: l) r M := r_iinc (by decide +kernel : decode (mB 73) 46 = .ok (.iinc 3 1, 3)) rfl
theorem t73_49 : rn 73 49 ls r M = rn 73 4 ls r M := r_goto (o := (-45)) (by decide +kernel : decode (mB 73) 49 = .ok (.goto (-45), 3)) (by decide)
theorem t73_52 : rn 73 52 (a0 :: a1 :: some (.int x) :: l) r M = rn 73 53 (a0 :: a1 :: some (.int x) :: l) (.int x :: r) M := r_iload_n (by decide +kernel : decode (mB 73) 52 = .ok (.iload_n 2, 1)) rfl
theorem t73_53 : rn 73 53 ls [.int x] M = some (some (.int x), M) := r_ireturn (by decide +kernel : decode (mB 73) 53 = .ok (.ireturn, 1)) rfl
-- 75 Pad_append(J)I
theorem t75_0 : rn 75 0 (a0 :: some (.long u) :: none :: l) r M = rn 75 1 (a0 :: some (.long u) :: none :: l) (.long u :: r) M := r_lload_n (by decide +kernel : decode (mB 75) 0 = .ok (.lload_n 1, 1)) rfl rfl
theorem t75_1 : rn 75 1 ls [.long u] M = cbn (cl 76 [.long u] M) 75 4 ls [] := r_callS (kd := 2) (by decide +kernel : decode (mB 75) 1 = .ok (.invokestatic 19, 3)) (by decide +kernel) (by decide +kernel) ((doS_n np_76).trans rfl)
theorem t75_4 : rn 75 4 (a0 :: a1 :: a2 :: a3 :: l) (.int x :: r) M = rn 75 5 (a0 :: a1 :: a2 :: some (.int x) :: l) r M := r_istore_n (by decide +kernel : decode (mB 75) 4 = .ok (.istore_n 3, 1)) (Nat.le_add_left 4 l.length)
theorem t75_5 : rn 75 5 (a0 :: a1 :: a2 :: some (.int x) :: l) r M = rn 75 6 (a0 :: a1 :: a2 :: some (.int x) :: l) (.int x :: r) M := r_iload_n (by decide +kernel : decode (mB 75) 5 = .ok (.iload_n 3, 1)) rfl
theorem t75_6 : rn 75 6 ls (.int x :: r) M = if ¬ x = 0 then rn 75 12 ls r M else rn 75 9 ls r M := r_if (o := 6) (r := r) (c := ¬ x = 0) (by decide +kernel : decode (mB 75) 6 = .ok (.ifCond .ne 6, 3)) rfl (by decide) rfl
theorem t75_9 : rn 75 9 ls r M = rn 75 11 ls (.int (-2) :: r) M := r_nx (by decide +kernel : decode (mB 75) 9 = .ok (.bipush (-2), 2)) rfl rfl
theorem t75_11 : rn 75 11 ls [.int x] M = some (some (.int x), M) := r_ireturn (by decide +kernel : decode (mB 75) 11 = .ok (.ireturn, 1)) rfl
theorem t75_12 : rn 75 12 (some (.ref a) :: l) r M = rn 75 13 (some (.ref a) :: l) (.ref a :: r) M := r_aload_n (by decide +kernel : decode (mB 75) 12 = .ok (.aload_n 0, 1)) rfl
theorem t75_13 : rn 75 13 ls (.ref a :: r) M = if mK M a = (16, 0) then rn 75 16 ls (.int (mI M a 1) :: r) M else none := r_getI (ci := 6) (k := 1) (by decide +kernel : decode (mB 75) 13 = .ok (.getfield 15, 3)) (by decide +kernel) (Or.inl rfl)
theorem t75_16 : rn 75 16 (a0 :: a1 :: a2 :: some (.int x) :: l) r M = rn 75 17 (a0 :: a1 :: a2 :: some (.int x) :: l) (.int x :: r) M := r_iload_n (by decide +kernel : decode (mB 75) 16 = .ok (.iload_n 3, 1)) rfl
theorem t75_17 : rn 75 17 ls (.int y :: .int x :: r) M = rn 75 18 ls (.int (x + y) :: r) M := r_nx (by decide +kernel : decode (mB 75) 17 = .ok (.iadd, 1)) rfl rfl
theorem t75_18 : rn 75 18 ls r M = rn 75 20 ls (.int 80 :: r) M := r_nx (by decide +kernel : decode (mB 75) 18 = .ok (.bipush 80, 2)) rfl rfl
theorem t75_20 : rn 75 20 ls (.int y :: .int x :: r) M = if x ≤ y then rn 75 26 ls r M else rn 75 23 ls r M := r_if (o := 6) (r := r) (c := x ≤ y) (by decide +kernel : decode (mB 75) 20 = .ok (.if_icmp .le 6, 3)) rfl (by decide) rfl
theorem t75_23 : rn 75 23 ls r M = rn 75 25 ls (.int (-4) :: r) M := r_nx (by decide +kernel : decode (mB 75) 23 = .ok (.bipush (-4), 2)) rfl rfl
theorem t75_25 : rn 75 25 ls [.int x] M = some (some (.int x), M) := r_ireturn (by decide +kernel : decode (mB 75) 25 = .ok (.ireturn, 1)) rfl
theorem t75_26 : rn 75 26 (a0 :: a1 :: a2 :: some (.int x) :: l) r M = rn 75 27 (a0 :: a1 :: a2 :: some (.int x) :: l) (.int x :: r) M := r_iload_n (by decide +kernel : decode (mB 75) 26 = .ok (.iload_n 3, 1)) rfl
theorem t75_27 : rn 75 27 ls r M = rn 75 28 ls (.int 1 :: r) M := r_nx (by decide +kernel : decode (mB 75) 27 = .ok (.iconst 1, 1)) rfl rfl
theorem t75_28 : rn 75 28 ls (.int y :: .int x :: r) M = rn 75 29 ls (.int (x - y) :: r) M := r_nx (by decide +kernel : decode (mB 75) 28 = .ok (.isub, 1)) rfl rfl
theorem t75_29 : rn 75 29 (a0 :: a1 :: a2 :: a3 :: a4 :: l) (.int x :: r) M = rn 75 31 (a0 :: a1 :: a2 :: a3 :: some (.int x) :: l) r M := r_istore (by decide +kernel : decode (mB 75) 29 = .ok (.istore 4, 2)) (Nat.le_add_left 5 l.length)
theorem t75_31 : rn 75 31 (a0 :: a1 :: a2 :: a3 :: some (.int x) :: l) r M = rn 75 33 (a0 :: a1 :: a2 :: a3 :: some (.int x) :: l) (.int x :: r) M := r_iload (by decide +kernel : decode (mB 75) 31 = .ok (.iload 4, 2)) rfl
theorem t75_33 : rn 75 33 ls (.int x :: r) M = if x < 0 then rn 75 73 ls r M else rn 75 36 ls r M := r_if (o := 40) (r := r) (c := x < 0) (by decide +kernel : decode (mB 75) 33 = .ok (.ifCond .lt 40, 3)) rfl (by decide) rfl
theorem t75_36 : rn 75 36 (some (.ref a) :: l) r M = rn 75 37 (some (.ref a) :: l) (.ref a :: r) M := r_aload_n (by decide +kernel : decode (mB 75) 36 = .ok (.aload_n 0, 1)) rfl
theorem t75_37 : rn 75 37 ls (.ref a :: r) M = if mK M a = (16, 0) then rn 75 40 ls (va_rf (mP M a 0) :: r) M else none := r_getP (ci := 6) (k := 0) (by decide +kernel : decode (mB 75) 37 = .ok (.getfield 9, 3)) (by decide +kernel) rfl
theorem t75_40 : rn 75 40 (some (.ref a) :: l) r M = rn 75 41 (some (.ref a) :: l) (.ref a :: r) M := r_aload_n (by decide +kernel : decode (mB 75) 40 = .ok (.aload_n 0, 1)) rfl
theorem t75_41 : rn 75 41 ls (.ref a :: r) M = if mK M a = (16, 0) then rn 75 44 ls (.int (mI M a 1) :: r) M else none := r_getI (ci := 6) (k := 1) (by decide +kernel : decode (mB 75) 41 = .ok (.getfield 15, 3)) (by decide +kernel) (Or.inl rfl)
theorem t75_44 : rn 75 44 (a0 :: some (.long u) :: none :: l) r M = rn 75 45 (a0 :: some (.long u) :: none :: l) (.long u :: r) M := r_lload_n (by decide +kernel : decode (mB 75) 44 = .ok (.lload_n 1, 1)) rfl rfl
theorem t75_45 : rn 75 45 (a0 :: a1 :: a2 :: a3 :: some (.int x) :: l) r M = rn 75 47 (a0 :: a1 :: a2 :: a3 :: some (.int x) :: l) (.int x :: r) M := r_iload (by decide +kernel : decode (mB 75) 45 = .ok (.iload 4, 2)) rfl
theorem t75_47 : rn 75 47 ls r M = rn 75 49 ls (.int 8 :: r) M := r_nx (by decide +kernel : decode (mB 75) 47 = .ok (.bipush 8, 2)) rfl rfl
theorem t75_49 : rn 75 49 ls (.int y :: .int x :: r) M = rn 75 50 ls (.int (x * y) :: r) M := r_nx (by decide +kernel : decode (mB 75) 49 = .ok (.imul, 1)) rfl rfl
theorem t75_50 : rn 75 50 ls (.int y :: .long u :: r) M = rn 75 51 ls (.long ((u.toUInt64 >>> (y.toInt64.toUInt64 &&& Int64.toUInt64 63)).toInt64) :: r) M := r_nx (by decide +kernel : decode (mB 75) 50 = .ok (.lushr, 1)) rfl rfl
theorem t75_51 : rn 75 51 ls (.long u :: r) M = rn 75 52 ls (.int u.toInt32 :: r) M := r_nx (by decide +kernel : decode (mB 75) 51 = .ok (.l2i, 1)) rfl rfl
theorem t75_52 : rn 75 52 ls r M = rn 75 55 ls (.int 255 :: r) M := r_nx (by decide +kernel : decode (mB 75) 52 = .ok (.sipush 255, 3)) rfl rfl
theorem t75_55 : rn 75 55 ls (.int y :: .int x :: r) M = rn 75 56 ls (.int (x &&& y) :: r) M := r_nx (by decide +kernel : decode (mB 75) 55 = .ok (.iand, 1)) rfl rfl
theorem t75_56 : rn 75 56 ls (.int y :: .int x :: .ref a :: r) M = if (mK M a).1 = 1 ∧ inR x (mK M a).2 then rn 75 57 ls r (sI M a (va_up (mI M a) x.toNatClampNeg y)) else none := r_cnd (by decide +kernel : decode (mB 75) 56 = .ok (.iastore, 1)) rfl rfl
theorem t75_57 : rn 75 57 (some (.ref a) :: l) r M = rn 75 58 (some (.ref a) :: l) (.ref a :: r) M := r_aload_n (by decide +kernel : decode (mB 75) 57 = .ok (.aload_n 0, 1)) rfl
theorem t75_58 : rn 75 58 ls (.ref a :: r) M = rn 75 59 ls (.ref a :: .ref a :: r) M := r_nx (by decide +kernel : decode (mB 75) 58 = .ok (.dup, 1)) rfl rfl
theorem t75_59 : rn 75 59 ls (.ref a :: r) M = if mK M a = (16, 0) then rn 75 62 ls (.int (mI M a 1) :: r) M else none := r_getI (ci := 6) (k := 1) (by decide +kernel : decode (mB 75) 59 = .ok (.getfield 15, 3)) (by decide +kernel) (Or.inl rfl)
theorem t75_62 : rn 75 62 ls r M = rn 75 63 ls (.int 1 :: r) M := r_nx (by decide +kernel : decode (mB 75) 62 = .ok (.iconst 1, 1)) rfl rfl
theorem t75_63 : rn 75 63 ls (.int y :: .int x :: r) M = rn 75 64 ls (.int (x + y) :: r) M := r_nx (by decide +kernel : decode (mB 75) 63 = .ok (.iadd, 1)) rfl rfl
theorem t75_64 : rn 75 64 ls (.int x :: .ref a :: r) M = if mK M a = (16, 0) then rn 75 67 ls r (sI M a (va_up (mI M a) 1 x)) else none := r_putI (ci := 6) (k := 1) (by decide +kernel : decode (mB 75) 64 = .ok (.putfield 15, 3)) (by decide +kernel) rfl rfl
theorem t75_67 : rn 75 67 (a0 :: a1 :: a2 :: a3 :: some (.int x) :: l) r M = rn 75 70 (a0 :: a1 :: a2 :: a3 :: some (.int (x + (-1))) :: l) r M := r_iinc (by decide +kernel : decode (mB 75) 67 = .ok (.iinc 4 (-1), 3)) rfl
theorem t75_70 : rn 75 70 ls r M = rn 75 31 ls r M := r_goto (o := (-39)) (by decide +kernel : decode (mB 75) 70 = .ok (.goto (-39), 3)) (by decide)
theorem t75_73 : rn 75 73 (some (.ref a) :: l) r M = rn 75 74 (some (.ref a) :: l) (.ref a :: r) M := r_aload_n (by decide +kernel : decode (mB 75) 73 = .ok (.aload_n 0, 1)) rfl
theorem t75_74 : rn 75 74 ls (.ref a :: r) M = if mK M a = (16, 0) then rn 75 77 ls (.int (mI M a 1) :: r) M else none := r_getI (ci := 6) (k := 1) (by decide +kernel : decode (mB 75) 74 = .ok (.getfield 15, 3)) (by decide +kernel) (Or.inl rfl)
theorem t75_77 : rn 75 77 ls [.int x] M = some (some (.int x), M) := r_ireturn (by decide +kernel : decode (mB 75) 77 = .ok (.ireturn, 1)) rfl
-- 76 Pad_numberOf(J)I
theorem t76_0 : rn 76 0 ls r M = rn 76 1 ls (.int 0 :: r) M := r_nx (by decide +kernel : decode (mB 76) 0 = .ok (.iconst 0, 1)) rfl rfl
theorem t76_1 : rn 76 1 (a0 :: a1 :: a2 :: l) (.int x :: r) M = rn 76 2 (a0 :: a1 :: some (.int x) :: l) r M := r_istore_n (by decide +kernel : decode (mB 76) 1 = .ok (.istore_n 2, 1)) (Nat.le_add_left 3 l.length)
theorem t76_2 : rn 76 2 (some (.long u) :: none :: l) r M = rn 76 3 (some (.long u) :: none :: l) (.long u :: r) M := r_lload_n (by decide +kernel : decode (mB 76) 2 = .ok (.lload_n 0, 1)) rfl rfl
theorem t76_3 : rn 76 3 (a0 :: a1 :: a2 :: a3 :: a4 :: l) (.long u :: r) M = rn 76 4 (a0 :: a1 :: a2 :: some (.long u) :: none :: l) r M := r_lstore_n (by decide +kernel : decode (mB 76) 3 = .ok (.lstore_n 3, 1)) (Nat.le_add_left 5 l.length)
theorem t76_4 : rn 76 4 (a0 :: a1 :: some (.int x) :: l) r M = rn 76 5 (a0 :: a1 :: some (.int x) :: l) (.int x :: r) M := r_iload_n (by decide +kernel : decode (mB 76) 4 = .ok (.iload_n 2, 1)) rfl
theorem t76_5 : rn 76 5 ls r M = rn 76 7 ls (.int 8 :: r) M := r_nx (by decide +kernel : decode (mB 76) 5 = .ok (.bipush 8, 2)) rfl rfl
theorem t76_7 : rn 76 7 ls (.int y :: .int x :: r) M = if y ≤ x then rn 76 51 ls r M else rn 76 10 ls r M := r_if (o := 44) (r := r) (c := y ≤ x) (by decide +kernel : decode (mB 76) 7 = .ok (.if_icmp .ge 44, 3)) rfl (by decide) rfl
theorem t76_10 : rn 76 10 (a0 :: a1 :: a2 :: some (.long u) :: none :: l) r M = rn 76 11 (a0 :: a1 :: a2 :: some (.long u) :: none :: l) (.long u :: r) M := r_lload_n (by decide +kernel : decode (mB 76) 10 = .ok (.lload_n 3, 1)) rfl rfl
theorem t76_11 : rn 76 11 ls r M = rn 76 12 ls (.long 0 :: r) M := r_nx (by decide +kernel : decode (mB 76) 11 = .ok (.lconst 0, 1)) rfl rfl
theorem t76_12 : rn 76 12 ls (.long v :: .long u :: r) M = rn 76 13 ls (.int (lg_cmp u v) :: r) M := r_nx (by decide +kernel : decode (mB 76) 12 = .ok (.lcmp, 1)) rfl rfl
theorem t76_13 : rn 76 13 ls (.int x :: r) M = if x = 0 then rn 76 51 ls r M else rn 76 16 ls r M := r_if (o := 38) (r := r) (c := x = 0) (by decide +kernel : decode (mB 76) 13 = .ok (.ifCond .eq 38, 3)) rfl (by decide) rfl
theorem t76_16 : rn 76 16 (a0 :: a1 :: a2 :: some (.long u) :: none :: l) r M = rn 76 17 (a0 :: a1 :: a2 :: some (.long u) :: none :: l) (.long u :: r) M := r_lload_n (by decide +kernel : decode (mB 76) 16 = .ok (.lload_n 3, 1)) rfl rfl
theorem t76_17 : rn 76 17 ls r M = rn 76 20 ls (.long 255 :: r) M := r_nx (by decide +kernel : decode (mB 76) 17 = .ok (.ldc2_w 23, 3)) rfl rfl
theorem t76_20 : rn 76 20 ls (.long v :: .long u :: r) M = rn 76 21 ls (.long (u &&& v) :: r) M := r_nx (by decide +kernel : decode (mB 76) 20 = .ok (.land, 1)) rfl rfl
theorem t76_21 : rn 76 21 ls (.long u :: r) M = rn 76 22 ls (.int u.toInt32 :: r) M := r_nx (by decide +kernel : decode (mB 76) 21 = .ok (.l2i, 1)) rfl rfl
theorem t76_22 : rn 76 22 (a0 :: a1 :: a2 :: a3 :: a4 :: a5 :: l) (.int x :: r) M = rn 76 24 (a0 :: a1 :: a2 :: a3 :: a4 :: some (.int x) :: l) r M := r_istore (by decide +kernel : decode (mB 76) 22 = .ok (.istore 5, 2)) (Nat.le_add_left 6 l.length)
theorem t76_24 : rn 76 24 (a0 :: a1 :: a2 :: a3 :: a4 :: some (.int x) :: l) r M = rn 76 26 (a0 :: a1 :: a2 :: a3 :: a4 :: some (.int x) :: l) (.int x :: r) M := r_iload (by decide +kernel : decode (mB 76) 24 = .ok (.iload 5, 2)) rfl
theorem t76_26 : rn 76 26 ls r M = rn 76 28 ls (.int 33 :: r) M := r_nx (by decide +kernel : decode (mB 76) 26 = .ok (.bipush 33, 2)) rfl rfl
theorem t76_28 : rn 76 28 ls (.int y :: .int x :: r) M = if x < y then rn 76 38 ls r M else rn 76 31 ls r M := r_if (o := 10) (r := r) (c := x < y) (by decide +kernel : decode (mB 76) 28 = .ok (.if_icmp .lt 10, 3)) rfl (by decide) rfl
theorem t76_31 : rn 76 31 (a0 :: a1 :: a2 :: a3 :: a4 :: some (.int x) :: l) r M = rn 76 33 (a0 :: a1 :: a2 :: a3 :: a4 :: some (.int x) :: l) (.int x :: r) M := r_iload (by decide +kernel : decode (mB 76) 31 = .ok (.iload 5, 2)) rfl
theorem t76_33 : rn 76 33 ls r M = rn 76 35 ls (.int 126 :: r) M := r_nx (by decide +kernel : decode (mB 76) 33 = .ok (.bipush 126, 2)) rfl rfl
theorem t76_35 : rn 76 35 ls (.int y :: .int x :: r) M = if x ≤ y then rn 76 40 ls r M else rn 76 38 ls r M := r_if (o := 5) (r := r) (c := x ≤ y) (by decide +kernel : decode (mB 76) 35 = .ok (.if_icmp .le 5, 3)) rfl (by decide) rfl
theorem t76_38 : rn 76 38 ls r M = rn 76 39 ls (.int 0 :: r) M := r_nx (by decide +kernel : decode (mB 76) 38 = .ok (.iconst 0, 1)) rfl rfl
theorem t76_39 : rn 76 39 ls [.int x] M = some (some (.int x), M) := r_ireturn (by decide +kernel : decode (mB 76) 39 = .ok (.ireturn, 1)) rfl
theorem t76_40 : rn 76 40 (a0 :: a1 :: a2 :: some (.long u) :: none :: l) r M = rn 76 41 (a0 :: a1 :: a2 :: some (.long u) :: none :: l) (.long u :: r) M := r_lload_n (by decide +kernel : decode (mB 76) 40 = .ok (.lload_n 3, 1)) rfl rfl
theorem t76_41 : rn 76 41 ls r M = rn 76 43 ls (.int 8 :: r) M := r_nx (by decide +kernel : decode (mB 76) 41 = .ok (.bipush 8, 2)) rfl rfl
theorem t76_43 : rn 76 43 ls (.int y :: .long u :: r) M = rn 76 44 ls (.long ((u.toUInt64 >>> (y.toInt64.toUInt64 &&& Int64.toUInt64 63)).toInt64) :: r) M := r_nx (by decide +kernel : decode (mB 76) 43 = .ok (.lushr, 1)) rfl rfl
theorem t76_44 : rn 76 44 (a0 :: a1 :: a2 :: a3 :: a4 :: l) (.long u :: r) M = rn 76 45 (a0 :: a1 :: a2 :: some (.long u) :: none :: l) r M := r_lstore_n (by decide +kernel : decode (mB 76) 44 = .ok (.lstore_n 3, 1)) (Nat.le_add_left 5 l.length)
theorem t76_45 : rn 76 45 (a0 :: a1 :: some (.int x) :: l) r M = rn 76 48 (a0 :: a1 :: some (.int (x + 1)) :: l) r M := r_iinc (by decide +kernel : decode (mB 76) 45 = .ok (.iinc 2 1, 3)) rfl
theorem t76_48 : rn 76 48 ls r M = rn 76 4 ls r M := r_goto (o := (-44)) (by decide +kernel : decode (mB 76) 48 = .ok (.goto (-44), 3)) (by decide)
theorem t76_51 : rn 76 51 (a0 :: a1 :: some (.int x) :: l) r M = rn 76 52 (a0 :: a1 :: some (.int x) :: l) (.int x :: r) M := r_iload_n (by decide +kernel : decode (mB 76) 51 = .ok (.iload_n 2, 1)) rfl
theorem t76_52 : rn 76 52 ls [.int x] M = some (some (.int x), M) := r_ireturn (by decide +kernel : decode (mB 76) 52 = .ok (.ireturn, 1)) rfl
-- 78 Pad_clear()I
theorem t78_0 : rn 78 0 (some (.ref a) :: l) r M = rn 78 1 (some (.ref a) :: l) (.ref a :: r) M := r_aload_n (by decide +kernel : decode (mB 78) 0 = .ok (.aload_n 0, 1)) rfl
theorem t78_1 : rn 78 1 ls (.ref a :: r) M = if mK M a = (16, 0) then rn 78 4 ls (.int (mI M a 1) :: r) M else none := r_getI (ci := 6) (k := 1) (by decide +kernel : decode (mB 78) 1 = .ok (.getfield 15, 3)) (by decide +kernel) (Or.inl rfl)
theorem t78_4 : rn 78 4 (a0 :: a1 :: l) (.int x :: r) M = rn 78 5 (a0 :: some (.int x) :: l) r M := r_istore_n (by decide +kernel : decode (mB 78) 4 = .ok (.istore_n 1, 1)) (Nat.le_add_left 2 l.length)
theorem t78_5 : rn 78 5 (some (.ref a) :: l) r M = rn 78 6 (some (.ref a) :: l) (.ref a :: r) M := r_aload_n (by decide +kernel : decode (mB 78) 5 = .ok (.aload_n 0, 1)) rfl
theorem t78_6 : rn 78 6 ls r M = rn 78 7 ls (.int 0 :: r) M := r_nx (by decide +kernel : decode (mB 78) 6 = .ok (.iconst 0, 1)) rfl rfl
theorem t78_7 : rn 78 7 ls (.int x :: .ref a :: r) M = if mK M a = (16, 0) then rn 78 10 ls r (sI M a (va_up (mI M a) 1 x)) else none := r_putI (ci := 6) (k := 1) (by decide +kernel : decode (mB 78) 7 = .ok (.putfield 15, 3)) (by decide +kernel) rfl rfl
theorem t78_10 : rn 78 10 (a0 :: some (.int x) :: l) r M = rn 78 11 (a0 :: some (.int x) :: l) (.int x :: r) M := r_iload_n (by decide +kernel : decode (mB 78) 10 = .ok (.iload_n 1, 1)) rfl
theorem t78_11 : rn 78 11 ls [.int x] M = some (some (.int x), M) := r_ireturn (by decide +kernel : decode (mB 78) 11 = .ok (.ireturn, 1)) rfl
-- 80 Reader_firstFault()I
theorem t80_0 : rn 80 0 (some (.ref a) :: l) r M = rn 80 1 (some (.ref a) :: l) (.ref a :: r) M := r_aload_n (by decide +kernel : decode (mB 80) 0 = .ok (.aload_n 0, 1)) rfl
theorem t80_1 : rn 80 1 ls [.ref a] M = if mK M a = (17, 0) then cbn (cl 81 [.ref a] M) 80 4 ls [] else none := r_callV (kd := 0) (by decide +kernel : decode (mB 80) 1 = .ok (.invokevirtual 19, 3)) (by decide +kernel) ((doV_n np_81).trans rfl)
theorem t80_4 : rn 80 4 ls r M = rn 80 5 ls (.int 1 :: r) M := r_nx (by decide +kernel : decode (mB 80) 4 = .ok (.iconst 1, 1)) rfl rfl
theorem t80_5 : rn 80 5 (a0 :: a1 :: l) (.int x :: r) M = rn 80 6 (a0 :: some (.int x) :: l) r M := r_istore_n (by decide +kernel : decode (mB 80) 5 = .ok (.istore_n 1, 1)) (Nat.le_add_left 2 l.length)
theorem t80_6 : rn 80 6 ls r M = rn 80 7 ls (.int 0 :: r) M := r_nx (by decide +kernel : decode (mB 80) 6 = .ok (.iconst 0, 1)) rfl rfl
theorem t80_7 : rn 80 7 (a0 :: a1 :: a2 :: l) (.int x :: r) M = rn 80 8 (a0 :: a1 :: some (.int x) :: l) r M := r_istore_n (by decide +kernel : decode (mB 80) 7 = .ok (.istore_n 2, 1)) (Nat.le_add_left 3 l.length)
theorem t80_8 : rn 80 8 (a0 :: a1 :: some (.int x) :: l) r M = rn 80 9 (a0 :: a1 :: some (.int x) :: l) (.int x :: r) M := r_iload_n (by decide +kernel : decode (mB 80) 8 = .ok (.iload_n 2, 1)) rfl
theorem t80_9 : rn 80 9 ls r M = rn 80 11 ls (.int 80 :: r) M := r_nx (by decide +kernel : decode (mB 80) 9 = .ok (.bipush 80, 2)) rfl rfl
theorem t80_11 : rn 80 11 ls (.int y :: .int x :: r) M = if y ≤ x then rn 80 43 ls r M else rn 80 14 ls r M := r_if (o := 32) (r := r) (c := y ≤ x) (by decide +kernel : decode (mB 80) 11 = .ok (.if_icmp .ge 32, 3)) rfl (by decide) rfl
theorem t80_14 : rn 80 14 (a0 :: some (.int x) :: l) r M = rn 80 15 (a0 :: some (.int x) :: l) (.int x :: r) M := r_iload_n (by decide +kernel : decode (mB 80) 14 = .ok (.iload_n 1, 1)) rfl
theorem t80_15 : rn 80 15 ls (.int x :: r) M = if x = 0 then rn 80 43 ls r M else rn 80 18 ls r M := r_if (o := 28) (r := r) (c := x = 0) (by decide +kernel : decode (mB 80) 15 = .ok (.ifCond .eq 28, 3)) rfl (by decide) rfl
theorem t80_18 : rn 80 18 (some (.ref a) :: l) r M = rn 80 19 (some (.ref a) :: l) (.ref a :: r) M := r_aload_n (by decide +kernel : decode (mB 80) 18 = .ok (.aload_n 0, 1)) rfl
theorem t80_19 : rn 80 19 ls [.ref a] M = if mK M a = (17, 0) then cbn (cl 82 [.ref a] M) 80 22 ls [] else none := r_callV (kd := 0) (by decide +kernel : decode (mB 80) 19 = .ok (.invokevirtual 22, 3)) (by decide +kernel) ((doV_n np_82).trans rfl)
theorem t80_22 : rn 80 22 ls (.int x :: r) M = if ¬ x = 0 then rn 80 30 ls r M else rn 80 25 ls r M := r_if (o := 8) (r := r) (c := ¬ x = 0) (by decide +kernel : decode (mB 80) 22 = .ok (.ifCond .ne 8, 3)) rfl (by decide) rfl
theorem t80_25 : rn 80 25 (some (.ref a) :: l) r M = rn 80 26 (some (.ref a) :: l) (.ref a :: r) M := r_aload_n (by decide +kernel : decode (mB 80) 25 = .ok (.aload_n 0, 1)) rfl
theorem t80_26 : rn 80 26 ls (.ref a :: r) M = if mK M a = (17, 0) then rn 80 29 ls (.int (mI M a 1) :: r) M else none := r_getI (ci := 7) (k := 1) (by decide +kernel : decode (mB 80) 26 = .ok (.getfield 15, 3)) (by decide +kernel) (Or.inl rfl)
theorem t80_29 : rn 80 29 ls [.int x] M = some (some (.int x), M) := r_ireturn (by decide +kernel : decode (mB 80) 29 = .ok (.ireturn, 1)) rfl
theorem t80_30 : rn 80 30 (some (.ref a) :: l) r M = rn 80 31 (some (.ref a) :: l) (.ref a :: r) M := r_aload_n (by decide +kernel : decode (mB 80) 30 = .ok (.aload_n 0, 1)) rfl
theorem t80_31 : rn 80 31 ls r M = rn 80 33 ls (.int 59 :: r) M := r_nx (by decide +kernel : decode (mB 80) 31 = .ok (.bipush 59, 2)) rfl rfl
theorem t80_33 : rn 80 33 ls [.int x, .ref a] M = if mK M a = (17, 0) then cbn (cl 84 [.ref a, .int x] M) 80 36 ls [] else none := r_callV (kd := 0) (by decide +kernel : decode (mB 80) 33 = .ok (.invokevirtual 26, 3)) (by decide +kernel) ((doV_n np_84).trans rfl)
theorem t80_36 : rn 80 36 (a0 :: a1 :: l) (.int x :: r) M = rn 80 37 (a0 :: some (.int x) :: l) r M := r_istore_n (by decide +kernel : decode (mB 80) 36 = .ok (.istore_n 1, 1)) (Nat.le_add_left 2 l.length)
theorem t80_37 : rn 80 37 (a0 :: a1 :: some (.int x) :: l) r M = rn 80 40 (a0 :: a1 :: some (.int (x + 1)) :: l) r M := r_iinc (by decide +kernel : decode (mB 80) 37 = .ok (.iinc 2 1, 3)) rfl
theorem t80_40 : rn 80 40 ls r M = rn 80 8 ls r M := r_goto (o := (-32)) (by decide +kernel : decode (mB 80) 40 = .ok (.goto (-32), 3)) (by decide)
theorem t80_43 : rn 80 43 (some (.ref a) :: l) r M = rn 80 44 (some (.ref a) :: l) (.ref a :: r) M := r_aload_n (by decide +kernel : decode (mB 80) 43 = .ok (.aload_n 0, 1)) rfl
theorem t80_44 : rn 80 44 ls (.ref a :: r) M = if mK M a = (17, 0) then rn 80 47 ls (.int (mI M a 1) :: r) M else none := r_getI (ci := 7) (k := 1) (by decide +kernel : decode (mB 80) 44 = .ok (.getfield 15, 3)) (by decide +kernel) (Or.inl rfl)
theorem t80_47 : rn 80 47 (some (.ref a) :: l) r M = rn 80 48 (some (.ref a) :: l) (.ref a :: r) M := r_aload_n (by decide +kernel : decode (mB 80) 47 = .ok (.aload_n 0, 1)) rfl
theorem t80_48 : rn 80 48 ls (.ref a :: r) M = if mK M a = (17, 0) then rn 80 51 ls (va_rf (mP M a 0) :: r) M else none := r_getP (ci := 7) (k := 0) (by decide +kernel : decode (mB 80) 48 = .ok (.getfield 9, 3)) (by decide +kernel) rfl
theorem t80_51 : rn 80 51 ls (.ref a :: r) M = if mK M a = (16, 0) then rn 80 54 ls (.int (mI M a 1) :: r) M else none := r_getI (ci := 6) (k := 1) (by decide +kernel : decode (mB 80) 51 = .ok (.getfield 30, 3)) (by decide +kernel) (Or.inl rfl)
theorem t80_54 : rn 80 54 ls (.int y :: .int x :: r) M = if ¬ x = y then rn 80 62 ls r M else rn 80 57 ls r M := r_if (o := 8) (r := r) (c := ¬ x = y) (by decide +kernel : decode (mB 80) 54 = .ok (.if_icmp .ne 8, 3)) rfl (by decide) rfl
theorem t80_57 : rn 80 57 ls r M = rn 80 59 ls (.int (-6) :: r) M := r_nx (by decide +kernel : decode (mB 80) 57 = .ok (.bipush (-6), 2)) rfl rfl
theorem t80_59 : rn 80 59 ls r M = rn 80 66 ls r M := r_goto (o := 7) (by decide +kernel : decode (mB 80) 59 = .ok (.goto 7, 3)) (by decide)
theorem t80_62 : rn 80 62 (some (.ref a) :: l) r M = rn 80 63 (some (.ref a) :: l) (.ref a :: r) M := r_aload_n (by decide +kernel : decode (mB 80) 62 = .ok (.aload_n 0, 1)) rfl
theorem t80_63 : rn 80 63 ls (.ref a :: r) M = if mK M a = (17, 0) then rn 80 66 ls (.int (mI M a 1) :: r) M else none := r_getI (ci := 7) (k := 1) (by decide +kernel : decode (mB 80) 63 = .ok (.getfield 15, 3)) (by decide +kernel) (Or.inl rfl)
theorem t80_66 : rn 80 66 ls [.int x] M = some (some (.int x), M) := r_ireturn (by decide +kernel : decode (mB 80) 66 = .ok (.ireturn, 1)) rfl
-- 81 Reader_begin()V
theorem t81_0 : rn 81 0 (some (.ref a) :: l) r M = rn 81 1 (some (.ref a) :: l) (.ref a :: r) M := r_aload_n (by decide +kernel : decode (mB 81) 0 = .ok (.aload_n 0, 1)) rfl
theorem t81_1 : rn 81 1 ls r M = rn 81 2 ls (.int 0 :: r) M := r_nx (by decide +kernel : decode (mB 81) 1 = .ok (.iconst 0, 1)) rfl rfl
theorem t81_2 : rn 81 2 ls (.int x :: .ref a :: r) M = if mK M a = (17, 0) then rn 81 5 ls r (sI M a (va_up (mI M a) 1 x)) else none := r_putI (ci := 7) (k := 1) (by decide +kernel : decode (mB 81) 2 = .ok (.putfield 15, 3)) (by decide +kernel) rfl rfl
theorem t81_5 : rn 81 5 ls [] M = some (none, M) := r_vreturn (by decide +kernel : decode (mB 81) 5 = .ok (.return_, 1)) rfl
-- 82 Reader_readOrder()Z
theorem t82_0 : rn 82 0 (some (.ref a) :: l) r M = rn 82 1 (some (.ref a) :: l) (.ref a :: r) M := r_aload_n (by decide +kernel : decode (mB 82) 0 = .ok (.aload_n 0, 1)) rfl
theorem t82_1 : rn 82 1 (some (.ref a) :: l) r M = rn 82 2 (some (.ref a) :: l) (.ref a :: r) M := r_aload_n (by decide +kernel : decode (mB 82) 1 = .ok (.aload_n 0, 1)) rfl
theorem t82_2 : rn 82 2 ls (.ref a :: r) M = if mK M a = (17, 0) then rn 82 5 ls (va_rf (mP M a 0) :: r) M else none := r_getP (ci := 7) (k := 0) (by decide +kernel : decode (mB 82) 2 = .ok (.getfield 9, 3)) (by decide +kernel) rfl
theorem t82_5 : rn 82 5 (some (.ref a) :: l) r M = rn 82 6 (some (.ref a) :: l) (.ref a :: r) M := r_aload_n (by decide +kernel : decode (mB 82) 5 = .ok (.aload_n 0, 1)) rfl
theorem t82_6 : rn 82 6 ls (.ref a :: r) M = if mK M a = (17, 0) then rn 82 9 ls (.int (mI M a 1) :: r) M else none := r_getI (ci := 7) (k := 1) (by decide +kernel : decode (mB 82) 6 = .ok (.getfield 15, 3)) (by decide +kernel) (Or.inl rfl)
theorem t82_9 : rn 82 9 ls [.int x, .ref a, .ref b] M = if mK M a = (16, 0) then cbn (cl 83 [.ref a, .int x] M) 82 12 ls [.ref b] else none := r_callV (kd := 0) (by decide +kernel : decode (mB 82) 9 = .ok (.invokevirtual 35, 3)) (by decide +kernel) ((doV_n np_83).trans rfl)
theorem t82_12 : rn 82 12 ls (.int x :: .ref a :: r) M = if mK M a = (17, 0) then rn 82 15 ls r (sI M a (va_up (mI M a) 2 x)) else none := r_putI (ci := 7) (k := 2) (by decide +kernel : decode (mB 82) 12 = .ok (.putfield 39, 3)) (by decide +kernel) rfl rfl
theorem t82_15 : rn 82 15 (some (.ref a) :: l) r M = rn 82 16 (some (.ref a) :: l) (.ref a :: r) M := r_aload_n (by decide +kernel : decode (mB 82) 15 = .ok (.aload_n 0, 1)) rfl
theorem t82_16 : rn 82 16 ls (.ref a :: r) M = if mK M a = (17, 0) then rn 82 19 ls (.int (mI M a 2) :: r) M else none := r_getI (ci := 7) (k := 2) (by decide +kernel : decode (mB 82) 16 = .ok (.getfield 39, 3)) (by decide +kernel) (Or.inl rfl)
theorem t82_19 : rn 82 19 ls (.int x :: r) M = if x = 100 then rn 82 192 ls r M else if x = 102 then rn 82 216 ls r M else if x = 108 then rn 82 216 ls r M else if x = 109 then rn 82 112 ls r M else if x = 110 then rn 82 240 ls r M else if x = 114 then rn 82 280 ls r M else if x = 118 then rn 82 112 ls r M else if x = 119 then rn 82 152 ls r M else rn 82 289 ls r M := by
  have D := (by decide +kernel : decode (mB 82) 19 = .ok (.tableswitch 270 100 119 #[173, 270, 197, 270, 270, 270, 270, 270, 197, 93, 221, 270, 270, 270, 261, 270, 270, 270, 93, 133], 93))
  by_cases h0 : x = 100
  · rw [h0, r_tab D]; rfl
  by_cases h1 : x = 101
  · rw [h1, r_tab D]; rfl
  by_cases h2 : x = 102
  · rw [h2, r_tab D]; rfl
  by_cases h3 : x = 103
  · rw [h3, r_tab D]; rfl
  by_cases h4 : x = 104
  · rw [h4, r_tab D]; rfl
  by_cases h5 : x = 105
  · rw [h5, r_tab D]; rfl
  by_cases h6 : x = 106
  · rw [h6, r_tab D]; rfl
  by_cases h7 : x = 107
  · rw [h7, r_tab D]; rfl
  by_cases h8 : x = 108
  · rw [h8, r_tab D]; rfl
  by_cases h9 : x = 109
  · rw [h9, r_tab D]; rfl
  by_cases h10 : x = 110
  · rw [h10, r_tab D]; rfl
  by_cases h11 : x = 111
  · rw [h11, r_tab D]; rfl
  by_cases h12 : x = 112
  · rw [h12, r_tab D]; rfl
  by_cases h13 : x = 113
  · rw [h13, r_tab D]; rfl
  by_cases h14 : x = 114
  · rw [h14, r_tab D]; rfl
  by_cases h15 : x = 115
  · rw [h15, r_tab D]; rfl
  by_cases h16 : x = 116
  · rw [h16, r_tab D]; rfl
  by_cases h17 : x = 117
  · rw [h17, r_tab D]; rfl
  by_cases h18 : x = 118
  · rw [h18, r_tab D]; rfl
  by_cases h19 : x = 119
  · rw [h19, r_tab D]; rfl
  rw [r_tabO D (by have e0 : x.toInt ≠ 100 := ti_ne h0; have e1 : x.toInt ≠ 101 := ti_ne h1; have e2 : x.toInt ≠ 102 := ti_ne h2; have e3 : x.toInt ≠ 103 := ti_ne h3; have e4 : x.toInt ≠ 104 := ti_ne h4; have e5 : x.toInt ≠ 105 := ti_ne h5; have e6 : x.toInt ≠ 106 := ti_ne h6; have e7 : x.toInt ≠ 107 := ti_ne h7; have e8 : x.toInt ≠ 108 := ti_ne h8; have e9 : x.toInt ≠ 109 := ti_ne h9; have e10 : x.toInt ≠ 110 := ti_ne h10; have e11 : x.toInt ≠ 111 := ti_ne h11; have e12 : x.toInt ≠ 112 := ti_ne h12; have e13 : x.toInt ≠ 113 := ti_ne h13; have e14 : x.toInt ≠ 114 := ti_ne h14; have e15 : x.toInt ≠ 115 := ti_ne h15; have e16 : x.toInt ≠ 116 := ti_ne h16; have e17 : x.toInt ≠ 117 := ti_ne h17; have e18 : x.toInt ≠ 118 := ti_ne h18; have e19 : x.toInt ≠ 119 := ti_ne h19; omega) (by decide), if_neg h0, if_neg h2, if_neg h8, if_neg h9, if_neg h10, if_neg h14, if_neg h18, if_neg h19]
  rfl
theorem t82_112 : rn 82 112 (some (.ref a) :: l) r M = rn 82 113 (some (.ref a) :: l) (.ref a :: r) M := r_aload_n (by decide +kernel : decode (mB 82) 112 = .ok (.aload_n 0, 1)) rfl
theorem t82_113 : rn 82 113 (some (.ref a) :: l) r M = rn 82 114 (some (.ref a) :: l) (.ref a :: r) M := r_aload_n (by decide +kernel : decode (mB 82) 113 = .ok (.aload_n 0, 1)) rfl
theorem t82_114 : rn 82 114 ls (.ref a :: r) M = if mK M a = (17, 0) then rn 82 117 ls (.int (mI M a 2) :: r) M else none := r_getI (ci := 7) (k := 2) (by decide +kernel : decode (mB 82) 114 = .ok (.getfield 39, 3)) (by decide +kernel) (Or.inl rfl)
theorem t82_117 : rn 82 117 ls [.int x, .ref a] M = if mK M a = (17, 0) then cbn (cl 84 [.ref a, .int x] M) 82 120 ls [] else none := r_callV (kd := 0) (by decide +kernel : decode (mB 82) 117 = .ok (.invokevirtual 26, 3)) (by decide +kernel) ((doV_n np_84).trans rfl)
theorem t82_120 : rn 82 120 ls (.int x :: r) M = if x = 0 then rn 82 150 ls r M else rn 82 123 ls r M := r_if (o := 30) (r := r) (c := x = 0) (by decide +kernel : decode (mB 82) 120 = .ok (.ifCond .eq 30, 3)) rfl (by decide) rfl
theorem t82_123 : rn 82 123 (some (.ref a) :: l) r M = rn 82 124 (some (.ref a) :: l) (.ref a :: r) M := r_aload_n (by decide +kernel : decode (mB 82) 123 = .ok (.aload_n 0, 1)) rfl
theorem t82_124 : rn 82 124 ls [.ref a] M = if mK M a = (17, 0) then cbn (cl 85 [.ref a] M) 82 127 ls [] else none := r_callV (kd := 0) (by decide +kernel : decode (mB 82) 124 = .ok (.invokevirtual 42, 3)) (by decide +kernel) ((doV_n np_85).trans rfl)
theorem t82_127 : rn 82 127 ls (.int x :: r) M = if x = 0 then rn 82 150 ls r M else rn 82 130 ls r M := r_if (o := 23) (r := r) (c := x = 0) (by decide +kernel : decode (mB 82) 127 = .ok (.ifCond .eq 23, 3)) rfl (by decide) rfl
theorem t82_130 : rn 82 130 (some (.ref a) :: l) r M = rn 82 131 (some (.ref a) :: l) (.ref a :: r) M := r_aload_n (by decide +kernel : decode (mB 82) 130 = .ok (.aload_n 0, 1)) rfl
theorem t82_131 : rn 82 131 ls r M = rn 82 133 ls (.int 47 :: r) M := r_nx (by decide +kernel : decode (mB 82) 131 = .ok (.bipush 47, 2)) rfl rfl
theorem t82_133 : rn 82 133 ls [.int x, .ref a] M = if mK M a = (17, 0) then cbn (cl 84 [.ref a, .int x] M) 82 136 ls [] else none := r_callV (kd := 0) (by decide +kernel : decode (mB 82) 133 = .ok (.invokevirtual 26, 3)) (by decide +kernel) ((doV_n np_84).trans rfl)
theorem t82_136 : rn 82 136 ls (.int x :: r) M = if x = 0 then rn 82 150 ls r M else rn 82 139 ls r M := r_if (o := 14) (r := r) (c := x = 0) (by decide +kernel : decode (mB 82) 136 = .ok (.ifCond .eq 14, 3)) rfl (by decide) rfl
theorem t82_139 : rn 82 139 (some (.ref a) :: l) r M = rn 82 140 (some (.ref a) :: l) (.ref a :: r) M := r_aload_n (by decide +kernel : decode (mB 82) 139 = .ok (.aload_n 0, 1)) rfl
theorem t82_140 : rn 82 140 ls [.ref a] M = if mK M a = (17, 0) then cbn (cl 87 [.ref a] M) 82 143 ls [] else none := r_callV (kd := 0) (by decide +kernel : decode (mB 82) 140 = .ok (.invokevirtual 45, 3)) (by decide +kernel) ((doV_n np_87).trans rfl)
theorem t82_143 : rn 82 143 ls (.int x :: r) M = if x = 0 then rn 82 150 ls r M else rn 82 146 ls r M := r_if (o := 7) (r := r) (c := x = 0) (by decide +kernel : decode (mB 82) 143 = .ok (.ifCond .eq 7, 3)) rfl (by decide) rfl
theorem t82_146 : rn 82 146 ls r M = rn 82 147 ls (.int 1 :: r) M := r_nx (by decide +kernel : decode (mB 82) 146 = .ok (.iconst 1, 1)) rfl rfl
theorem t82_147 : rn 82 147 ls r M = rn 82 151 ls r M := r_goto (o := 4) (by decide +kernel : decode (mB 82) 147 = .ok (.goto 4, 3)) (by decide)
theorem t82_150 : rn 82 150 ls r M = rn 82 151 ls (.int 0 :: r) M := r_nx (by decide +kernel : decode (mB 82) 150 = .ok (.iconst 0, 1)) rfl rfl
theorem t82_151 : rn 82 151 ls [.int x] M = if x = 0 ∨ x = 1 then some (some (.int x), M) else none := r_zreturn (by decide +kernel : decode (mB 82) 151 = .ok (.ireturn, 1)) rfl
theorem t82_152 : rn 82 152 (some (.ref a) :: l) r M = rn 82 153 (some (.ref a) :: l) (.ref a :: r) M := r_aload_n (by decide +kernel : decode (mB 82) 152 = .ok (.aload_n 0, 1)) rfl
theorem t82_153 : rn 82 153 (some (.ref a) :: l) r M = rn 82 154 (some (.ref a) :: l) (.ref a :: r) M := r_aload_n (by decide +kernel : decode (mB 82) 153 = .ok (.aload_n 0, 1)) rfl
theorem t82_154 : rn 82 154 ls (.ref a :: r) M = if mK M a = (17, 0) then rn 82 157 ls (.int (mI M a 2) :: r) M else none := r_getI (ci := 7) (k := 2) (by decide +kernel : decode (mB 82) 154 = .ok (.getfield 39, 3)) (by decide +kernel) (Or.inl rfl)
theorem t82_157 : rn 82 157 ls [.int x, .ref a] M = if mK M a = (17, 0) then cbn (cl 84 [.ref a, .int x] M) 82 160 ls [] else none := r_callV (kd := 0) (by decide +kernel : decode (mB 82) 157 = .ok (.invokevirtual 26, 3)) (by decide +kernel) ((doV_n np_84).trans rfl)
theorem t82_160 : rn 82 160 ls (.int x :: r) M = if x = 0 then rn 82 190 ls r M else rn 82 163 ls r M := r_if (o := 30) (r := r) (c := x = 0) (by decide +kernel : decode (mB 82) 160 = .ok (.ifCond .eq 30, 3)) rfl (by decide) rfl
theorem t82_163 : rn 82 163 (some (.ref a) :: l) r M = rn 82 164 (some (.ref a) :: l) (.ref a :: r) M := r_aload_n (by decide +kernel : decode (mB 82) 163 = .ok (.aload_n 0, 1)) rfl
theorem t82_164 : rn 82 164 ls [.ref a] M = if mK M a = (17, 0) then cbn (cl 85 [.ref a] M) 82 167 ls [] else none := r_callV (kd := 0) (by decide +kernel : decode (mB 82) 164 = .ok (.invokevirtual 42, 3)) (by decide +kernel) ((doV_n np_85).trans rfl)
theorem t82_167 : rn 82 167 ls (.int x :: r) M = if x = 0 then rn 82 190 ls r M else rn 82 170 ls r M := r_if (o := 23) (r := r) (c := x = 0) (by decide +kernel : decode (mB 82) 167 = .ok (.ifCond .eq 23, 3)) rfl (by decide) rfl
theorem t82_170 : rn 82 170 (some (.ref a) :: l) r M = rn 82 171 (some (.ref a) :: l) (.ref a :: r) M := r_aload_n (by decide +kernel : decode (mB 82) 170 = .ok (.aload_n 0, 1)) rfl
theorem t82_171 : rn 82 171 ls r M = rn 82 173 ls (.int 61 :: r) M := r_nx (by decide +kernel : decode (mB 82) 171 = .ok (.bipush 61, 2)) rfl rfl
theorem t82_173 : rn 82 173 ls [.int x, .ref a] M = if mK M a = (17, 0) then cbn (cl 84 [.ref a, .int x] M) 82 176 ls [] else none := r_callV (kd := 0) (by decide +kernel : decode (mB 82) 173 = .ok (.invokevirtual 26, 3)) (by decide +kernel) ((doV_n np_84).trans rfl)
theorem t82_176 : rn 82 176 ls (.int x :: r) M = if x = 0 then rn 82 190 ls r M else rn 82 179 ls r M := r_if (o := 14) (r := r) (c := x = 0) (by decide +kernel : decode (mB 82) 176 = .ok (.ifCond .eq 14, 3)) rfl (by decide) rfl
theorem t82_179 : rn 82 179 (some (.ref a) :: l) r M = rn 82 180 (some (.ref a) :: l) (.ref a :: r) M := r_aload_n (by decide +kernel : decode (mB 82) 179 = .ok (.aload_n 0, 1)) rfl
theorem t82_180 : rn 82 180 ls [.ref a] M = if mK M a = (17, 0) then cbn (cl 88 [.ref a] M) 82 183 ls [] else none := r_callV (kd := 0) (by decide +kernel : decode (mB 82) 180 = .ok (.invokevirtual 48, 3)) (by decide +kernel) ((doV_n np_88).trans rfl)
theorem t82_183 : rn 82 183 ls (.int x :: r) M = if x = 0 then rn 82 190 ls r M else rn 82 186 ls r M := r_if (o := 7) (r := r) (c := x = 0) (by decide +kernel : decode (mB 82) 183 = .ok (.ifCond .eq 7, 3)) rfl (by decide) rfl
theorem t82_186 : rn 82 186 ls r M = rn 82 187 ls (.int 1 :: r) M := r_nx (by decide +kernel : decode (mB 82) 186 = .ok (.iconst 1, 1)) rfl rfl
theorem t82_187 : rn 82 187 ls r M = rn 82 191 ls r M := r_goto (o := 4) (by decide +kernel : decode (mB 82) 187 = .ok (.goto 4, 3)) (by decide)
theorem t82_190 : rn 82 190 ls r M = rn 82 191 ls (.int 0 :: r) M := r_nx (by decide +kernel : decode (mB 82) 190 = .ok (.iconst 0, 1)) rfl rfl
theorem t82_191 : rn 82 191 ls [.int x] M = if x = 0 ∨ x = 1 then some (some (.int x), M) else none := r_zreturn (by decide +kernel : decode (mB 82) 191 = .ok (.ireturn, 1)) rfl
theorem t82_192 : rn 82 192 (some (.ref a) :: l) r M = rn 82 193 (some (.ref a) :: l) (.ref a :: r) M := r_aload_n (by decide +kernel : decode (mB 82) 192 = .ok (.aload_n 0, 1)) rfl
theorem t82_193 : rn 82 193 (some (.ref a) :: l) r M = rn 82 194 (some (.ref a) :: l) (.ref a :: r) M := r_aload_n (by decide +kernel : decode (mB 82) 193 = .ok (.aload_n 0, 1)) rfl
theorem t82_194 : rn 82 194 ls (.ref a :: r) M = if mK M a = (17, 0) then rn 82 197 ls (.int (mI M a 2) :: r) M else none := r_getI (ci := 7) (k := 2) (by decide +kernel : decode (mB 82) 194 = .ok (.getfield 39, 3)) (by decide +kernel) (Or.inl rfl)
theorem t82_197 : rn 82 197 ls [.int x, .ref a] M = if mK M a = (17, 0) then cbn (cl 84 [.ref a, .int x] M) 82 200 ls [] else none := r_callV (kd := 0) (by decide +kernel : decode (mB 82) 197 = .ok (.invokevirtual 26, 3)) (by decide +kernel) ((doV_n np_84).trans rfl)
theorem t82_200 : rn 82 200 ls (.int x :: r) M = if x = 0 then rn 82 214 ls r M else rn 82 203 ls r M := r_if (o := 14) (r := r) (c := x = 0) (by decide +kernel : decode (mB 82) 200 = .ok (.ifCond .eq 14, 3)) rfl (by decide) rfl
theorem t82_203 : rn 82 203 (some (.ref a) :: l) r M = rn 82 204 (some (.ref a) :: l) (.ref a :: r) M := r_aload_n (by decide +kernel : decode (mB 82) 203 = .ok (.aload_n 0, 1)) rfl
theorem t82_204 : rn 82 204 ls [.ref a] M = if mK M a = (17, 0) then cbn (cl 85 [.ref a] M) 82 207 ls [] else none := r_callV (kd := 0) (by decide +kernel : decode (mB 82) 204 = .ok (.invokevirtual 42, 3)) (by decide +kernel) ((doV_n np_85).trans rfl)
theorem t82_207 : rn 82 207 ls (.int x :: r) M = if x = 0 then rn 82 214 ls r M else rn 82 210 ls r M := r_if (o := 7) (r := r) (c := x = 0) (by decide +kernel : decode (mB 82) 207 = .ok (.ifCond .eq 7, 3)) rfl (by decide) rfl
theorem t82_210 : rn 82 210 ls r M = rn 82 211 ls (.int 1 :: r) M := r_nx (by decide +kernel : decode (mB 82) 210 = .ok (.iconst 1, 1)) rfl rfl
theorem t82_211 : rn 82 211 ls r M = rn 82 215 ls r M := r_goto (o := 4) (by decide +kernel : decode (mB 82) 211 = .ok (.goto 4, 3)) (by decide)
theorem t82_214 : rn 82 214 ls r M = rn 82 215 ls (.int 0 :: r) M := r_nx (by decide +kernel : decode (mB 82) 214 = .ok (.iconst 0, 1)) rfl rfl
theorem t82_215 : rn 82 215 ls [.int x] M = if x = 0 ∨ x = 1 then some (some (.int x), M) else none := r_zreturn (by decide +kernel : decode (mB 82) 215 = .ok (.ireturn, 1)) rfl
theorem t82_216 : rn 82 216 (some (.ref a) :: l) r M = rn 82 217 (some (.ref a) :: l) (.ref a :: r) M := r_aload_n (by decide +kernel : decode (mB 82) 216 = .ok (.aload_n 0, 1)) rfl
theorem t82_217 : rn 82 217 (some (.ref a) :: l) r M = rn 82 218 (some (.ref a) :: l) (.ref a :: r) M := r_aload_n (by decide +kernel : decode (mB 82) 217 = .ok (.aload_n 0, 1)) rfl
theorem t82_218 : rn 82 218 ls (.ref a :: r) M = if mK M a = (17, 0) then rn 82 221 ls (.int (mI M a 2) :: r) M else none := r_getI (ci := 7) (k := 2) (by decide +kernel : decode (mB 82) 218 = .ok (.getfield 39, 3)) (by decide +kernel) (Or.inl rfl)
theorem t82_221 : rn 82 221 ls [.int x, .ref a] M = if mK M a = (17, 0) then cbn (cl 84 [.ref a, .int x] M) 82 224 ls [] else none := r_callV (kd := 0) (by decide +kernel : decode (mB 82) 221 = .ok (.invokevirtual 26, 3)) (by decide +kernel) ((doV_n np_84).trans rfl)
theorem t82_224 : rn 82 224 ls (.int x :: r) M = if x = 0 then rn 82 238 ls r M else rn 82 227 ls r M := r_if (o := 14) (r := r) (c := x = 0) (by decide +kernel : decode (mB 82) 224 = .ok (.ifCond .eq 14, 3)) rfl (by decide) rfl
theorem t82_227 : rn 82 227 (some (.ref a) :: l) r M = rn 82 228 (some (.ref a) :: l) (.ref a :: r) M := r_aload_n (by decide +kernel : decode (mB 82) 227 = .ok (.aload_n 0, 1)) rfl
theorem t82_228 : rn 82 228 ls [.ref a] M = if mK M a = (17, 0) then cbn (cl 91 [.ref a] M) 82 231 ls [] else none := r_callV (kd := 0) (by decide +kernel : decode (mB 82) 228 = .ok (.invokevirtual 51, 3)) (by decide +kernel) ((doV_n np_91).trans rfl)
theorem t82_231 : rn 82 231 ls (.int x :: r) M = if x = 0 then rn 82 238 ls r M else rn 82 234 ls r M := r_if (o := 7) (r := r) (c := x = 0) (by decide +kernel : decode (mB 82) 231 = .ok (.ifCond .eq 7, 3)) rfl (by decide) rfl
theorem t82_234 : rn 82 234 ls r M = rn 82 235 ls (.int 1 :: r) M := r_nx (by decide +kernel : decode (mB 82) 234 = .ok (.iconst 1, 1)) rfl rfl
theorem t82_235 : rn 82 235 ls r M = rn 82 239 ls r M := r_goto (o := 4) (by decide +kernel : decode (mB 82) 235 = .ok (.goto 4, 3)) (by decide)
theorem t82_238 : rn 82 238 ls r M = rn 82 239 ls (.int 0 :: r) M := r_nx (by decide +kernel : decode (mB 82) 238 = .ok (.iconst 0, 1)) rfl rfl
theorem t82_239 : rn 82 239 ls [.int x] M = if x = 0 ∨ x = 1 then some (some (.int x), M) else none := r_zreturn (by decide +kernel : decode (mB 82) 239 = .ok (.ireturn, 1)) rfl
theorem t82_240 : rn 82 240 (some (.ref a) :: l) r M = rn 82 241 (some (.ref a) :: l) (.ref a :: r) M := r_aload_n (by decide +kernel : decode (mB 82) 240 = .ok (.aload_n 0, 1)) rfl
theorem t82_241 : rn 82 241 (some (.ref a) :: l) r M = rn 82 242 (some (.ref a) :: l) (.ref a :: r) M := r_aload_n (by decide +kernel : decode (mB 82) 241 = .ok (.aload_n 0, 1)) rfl
theorem t82_242 : rn 82 242 ls (.ref a :: r) M = if mK M a = (17, 0) then rn 82 245 ls (.int (mI M a 2) :: r) M else none := r_getI (ci := 7) (k := 2) (by decide +kernel : decode (mB 82) 242 = .ok (.getfield 39, 3)) (by decide +kernel) (Or.inl rfl)
theorem t82_245 : rn 82 245 ls [.int x, .ref a] M = if mK M a = (17, 0) then cbn (cl 84 [.ref a, .int x] M) 82 248 ls [] else none := r_callV (kd := 0) (by decide +kernel : decode (mB 82) 245 = .ok (.invokevirtual 26, 3)) (by decide +kernel) ((doV_n np_84).trans rfl)
theorem t82_248 : rn 82 248 ls (.int x :: r) M = if x = 0 then rn 82 278 ls r M else rn 82 251 ls r M := r_if (o := 30) (r := r) (c := x = 0) (by decide +kernel : decode (mB 82) 248 = .ok (.ifCond .eq 30, 3)) rfl (by decide) rfl
theorem t82_251 : rn 82 251 (some (.ref a) :: l) r M = rn 82 252 (some (.ref a) :: l) (.ref a :: r) M := r_aload_n (by decide +kernel : decode (mB 82) 251 = .ok (.aload_n 0, 1)) rfl
theorem t82_252 : rn 82 252 ls [.ref a] M = if mK M a = (17, 0) then cbn (cl 91 [.ref a] M) 82 255 ls [] else none := r_callV (kd := 0) (by decide +kernel : decode (mB 82) 252 = .ok (.invokevirtual 51, 3)) (by decide +kernel) ((doV_n np_91).trans rfl)
theorem t82_255 : rn 82 255 ls (.int x :: r) M = if x = 0 then rn 82 278 ls r M else rn 82 258 ls r M := r_if (o := 23) (r := r) (c := x = 0) (by decide +kernel : decode (mB 82) 255 = .ok (.ifCond .eq 23, 3)) rfl (by decide) rfl
theorem t82_258 : rn 82 258 (some (.ref a) :: l) r M = rn 82 259 (some (.ref a) :: l) (.ref a :: r) M := r_aload_n (by decide +kernel : decode (mB 82) 258 = .ok (.aload_n 0, 1)) rfl
theorem t82_259 : rn 82 259 ls r M = rn 82 261 ls (.int 60 :: r) M := r_nx (by decide +kernel : decode (mB 82) 259 = .ok (.bipush 60, 2)) rfl rfl
theorem t82_261 : rn 82 261 ls [.int x, .ref a] M = if mK M a = (17, 0) then cbn (cl 84 [.ref a, .int x] M) 82 264 ls [] else none := r_callV (kd := 0) (by decide +kernel : decode (mB 82) 261 = .ok (.invokevirtual 26, 3)) (by decide +kernel) ((doV_n np_84).trans rfl)
theorem t82_264 : rn 82 264 ls (.int x :: r) M = if x = 0 then rn 82 278 ls r M else rn 82 267 ls r M := r_if (o := 14) (r := r) (c := x = 0) (by decide +kernel : decode (mB 82) 264 = .ok (.ifCond .eq 14, 3)) rfl (by decide) rfl
theorem t82_267 : rn 82 267 (some (.ref a) :: l) r M = rn 82 268 (some (.ref a) :: l) (.ref a :: r) M := r_aload_n (by decide +kernel : decode (mB 82) 267 = .ok (.aload_n 0, 1)) rfl
theorem t82_268 : rn 82 268 ls [.ref a] M = if mK M a = (17, 0) then cbn (cl 88 [.ref a] M) 82 271 ls [] else none := r_callV (kd := 0) (by decide +kernel : decode (mB 82) 268 = .ok (.invokevirtual 48, 3)) (by decide +kernel) ((doV_n np_88).trans rfl)
theorem t82_271 : rn 82 271 ls (.int x :: r) M = if x = 0 then rn 82 278 ls r M else rn 82 274 ls r M := r_if (o := 7) (r := r) (c := x = 0) (by decide +kernel : decode (mB 82) 271 = .ok (.ifCond .eq 7, 3)) rfl (by decide) rfl
theorem t82_274 : rn 82 274 ls r M = rn 82 275 ls (.int 1 :: r) M := r_nx (by decide +kernel : decode (mB 82) 274 = .ok (.iconst 1, 1)) rfl rfl
theorem t82_275 : rn 82 275 ls r M = rn 82 279 ls r M := r_goto (o := 4) (by decide +kernel : decode (mB 82) 275 = .ok (.goto 4, 3)) (by decide)
theorem t82_278 : rn 82 278 ls r M = rn 82 279 ls (.int 0 :: r) M := r_nx (by decide +kernel : decode (mB 82) 278 = .ok (.iconst 0, 1)) rfl rfl
theorem t82_279 : rn 82 279 ls [.int x] M = if x = 0 ∨ x = 1 then some (some (.int x), M) else none := r_zreturn (by decide +kernel : decode (mB 82) 279 = .ok (.ireturn, 1)) rfl
theorem t82_280 : rn 82 280 (some (.ref a) :: l) r M = rn 82 281 (some (.ref a) :: l) (.ref a :: r) M := r_aload_n (by decide +kernel : decode (mB 82) 280 = .ok (.aload_n 0, 1)) rfl
theorem t82_281 : rn 82 281 (some (.ref a) :: l) r M = rn 82 282 (some (.ref a) :: l) (.ref a :: r) M := r_aload_n (by decide +kernel : decode (mB 82) 281 = .ok (.aload_n 0, 1)) rfl
theorem t82_282 : rn 82 282 ls (.ref a :: r) M = if mK M a = (17, 0) then rn 82 285 ls (.int (mI M a 2) :: r) M else none := r_getI (ci := 7) (k := 2) (by decide +kernel : decode (mB 82) 282 = .ok (.getfield 39, 3)) (by decide +kernel) (Or.inl rfl)
theorem t82_285 : rn 82 285 ls [.int x, .ref a] M = if mK M a = (17, 0) then cbn (cl 84 [.ref a, .int x] M) 82 288 ls [] else none := r_callV (kd := 0) (by decide +kernel : decode (mB 82) 285 = .ok (.invokevirtual 26, 3)) (by decide +kernel) ((doV_n np_84).trans rfl)
theorem t82_288 : rn 82 288 ls [.int x] M = if x = 0 ∨ x = 1 then some (some (.int x), M) else none := r_zreturn (by decide +kernel : decode (mB 82) 288 = .ok (.ireturn, 1)) rfl
theorem t82_289 : rn 82 289 ls r M = rn 82 290 ls (.int 0 :: r) M := r_nx (by decide +kernel : decode (mB 82) 289 = .ok (.iconst 0, 1)) rfl rfl
theorem t82_290 : rn 82 290 ls [.int x] M = if x = 0 ∨ x = 1 then some (some (.int x), M) else none := r_zreturn (by decide +kernel : decode (mB 82) 290 = .ok (.ireturn, 1)) rfl
-- 83 Pad_codeAt(I)I
theorem t83_0 : rn 83 0 (a0 :: some (.int x) :: l) r M = rn 83 1 (a0 :: some (.int x) :: l) (.int x :: r) M := r_iload_n (by decide +kernel : decode (mB 83) 0 = .ok (.iload_n 1, 1)) rfl
theorem t83_1 : rn 83 1 ls (.int x :: r) M = if x < 0 then rn 83 21 ls r M else rn 83 4 ls r M := r_if (o := 20) (r := r) (c := x < 0) (by decide +kernel : decode (mB 83) 1 = .ok (.ifCond .lt 20, 3)) rfl (by decide) rfl
theorem t83_4 : rn 83 4 (a0 :: some (.int x) :: l) r M = rn 83 5 (a0 :: some (.int x) :: l) (.int x :: r) M := r_iload_n (by decide +kernel : decode (mB 83) 4 = .ok (.iload_n 1, 1)) rfl
theorem t83_5 : rn 83 5 (some (.ref a) :: l) r M = rn 83 6 (some (.ref a) :: l) (.ref a :: r) M := r_aload_n (by decide +kernel : decode (mB 83) 5 = .ok (.aload_n 0, 1)) rfl
theorem t83_6 : rn 83 6 ls (.ref a :: r) M = if mK M a = (16, 0) then rn 83 9 ls (.int (mI M a 1) :: r) M else none := r_getI (ci := 6) (k := 1) (by decide +kernel : decode (mB 83) 6 = .ok (.getfield 15, 3)) (by decide +kernel) (Or.inl rfl)
theorem t83_9 : rn 83 9 ls (.int y :: .int x :: r) M = if y ≤ x then rn 83 21 ls r M else rn 83 12 ls r M := r_if (o := 12) (r := r) (c := y ≤ x) (by decide +kernel : decode (mB 83) 9 = .ok (.if_icmp .ge 12, 3)) rfl (by decide) rfl
theorem t83_12 : rn 83 12 (some (.ref a) :: l) r M = rn 83 13 (some (.ref a) :: l) (.ref a :: r) M := r_aload_n (by decide +kernel : decode (mB 83) 12 = .ok (.aload_n 0, 1)) rfl
theorem t83_13 : rn 83 13 ls (.ref a :: r) M = if mK M a = (16, 0) then rn 83 16 ls (va_rf (mP M a 0) :: r) M else none := r_getP (ci := 6) (k := 0) (by decide +kernel : decode (mB 83) 13 = .ok (.getfield 9, 3)) (by decide +kernel) rfl
theorem t83_16 : rn 83 16 (a0 :: some (.int x) :: l) r M = rn 83 17 (a0 :: some (.int x) :: l) (.int x :: r) M := r_iload_n (by decide +kernel : decode (mB 83) 16 = .ok (.iload_n 1, 1)) rfl
theorem t83_17 : rn 83 17 ls (.int x :: .ref a :: r) M = if ((mK M a).1 = 1 ∨ (mK M a).1 = 5) ∧ inR x (mK M a).2 then rn 83 18 ls (.int (mI M a x.toNatClampNeg) :: r) M else none := r_cnd (by decide +kernel : decode (mB 83) 17 = .ok (.iaload, 1)) rfl rfl
theorem t83_18 : rn 83 18 ls r M = rn 83 22 ls r M := r_goto (o := 4) (by decide +kernel : decode (mB 83) 18 = .ok (.goto 4, 3)) (by decide)
theorem t83_21 : rn 83 21 ls r M = rn 83 22 ls (.int 0 :: r) M := r_nx (by decide +kernel : decode (mB 83) 21 = .ok (.iconst 0, 1)) rfl rfl
theorem t83_22 : rn 83 22 ls [.int x] M = some (some (.int x), M) := r_ireturn (by decide +kernel : decode (mB 83) 22 = .ok (.ireturn, 1)) rfl
-- 84 Reader_readSign(I)Z
theorem t84_0 : rn 84 0 (some (.ref a) :: l) r M = rn 84 1 (some (.ref a) :: l) (.ref a :: r) M := r_aload_n (by decide +kernel : decode (mB 84) 0 = .ok (.aload_n 0, 1)) rfl
theorem t84_1 : rn 84 1 ls (.ref a :: r) M = if mK M a = (17, 0) then rn 84 4 ls (va_rf (mP M a 0) :: r) M else none := r_getP (ci := 7) (k := 0) (by decide +kernel : decode (mB 84) 1 = .ok (.getfield 9, 3)) (by decide +kernel) rfl
theorem t84_4 : rn 84 4 (some (.ref a) :: l) r M = rn 84 5 (some (.ref a) :: l) (.ref a :: r) M := r_aload_n (by decide +kernel : decode (mB 84) 4 = .ok (.aload_n 0, 1)) rfl
theorem t84_5 : rn 84 5 ls (.ref a :: r) M = if mK M a = (17, 0) then rn 84 8 ls (.int (mI M a 1) :: r) M else none := r_getI (ci := 7) (k := 1) (by decide +kernel : decode (mB 84) 5 = .ok (.getfield 15, 3)) (by decide +kernel) (Or.inl rfl)
theorem t84_8 : rn 84 8 ls [.int x, .ref a] M = if mK M a = (16, 0) then cbn (cl 83 [.ref a, .int x] M) 84 11 ls [] else none := r_callV (kd := 0) (by decide +kernel : decode (mB 84) 8 = .ok (.invokevirtual 35, 3)) (by decide +kernel) ((doV_n np_83).trans rfl)
theorem t84_11 : rn 84 11 (a0 :: some (.int x) :: l) r M = rn 84 12 (a0 :: some (.int x) :: l) (.int x :: r) M := r_iload_n (by decide +kernel : decode (mB 84) 11 = .ok (.iload_n 1, 1)) rfl
theorem t84_12 : rn 84 12 ls (.int y :: .int x :: r) M = if x = y then rn 84 17 ls r M else rn 84 15 ls r M := r_if (o := 5) (r := r) (c := x = y) (by decide +kernel : decode (mB 84) 12 = .ok (.if_icmp .eq 5, 3)) rfl (by decide) rfl
theorem t84_15 : rn 84 15 ls r M = rn 84 16 ls (.int 0 :: r) M := r_nx (by decide +kernel : decode (mB 84) 15 = .ok (.iconst 0, 1)) rfl rfl
theorem t84_16 : rn 84 16 ls [.int x] M = if x = 0 ∨ x = 1 then some (some (.int x), M) else none := r_zreturn (by decide +kernel : decode (mB 84) 16 = .ok (.ireturn, 1)) rfl
theorem t84_17 : rn 84 17 (some (.ref a) :: l) r M = rn 84 18 (some (.ref a) :: l) (.ref a :: r) M := r_aload_n (by decide +kernel : decode (mB 84) 17 = .ok (.aload_n 0, 1)) rfl
theorem t84_18 : rn 84 18 ls (.ref a :: r) M = rn 84 19 ls (.ref a :: .ref a :: r) M := r_nx (by decide +kernel : decode (mB 84) 18 = .ok (.dup, 1)) rfl rfl
theorem t84_19 : rn 84 19 ls (.ref a :: r) M = if mK M a = (17, 0) then rn 84 22 ls (.int (mI M a 1) :: r) M else none := r_getI (ci := 7) (k := 1) (by decide +kernel : decode (mB 84) 19 = .ok (.getfield 15, 3)) (by decide +kernel) (Or.inl rfl)
theorem t84_22 : rn 84 22 ls r M = rn 84 23 ls (.int 1 :: r) M := r_nx (by decide +kernel : decode (mB 84) 22 = .ok (.iconst 1, 1)) rfl rfl
theorem t84_23 : rn 84 23 ls (.int y :: .int x :: r) M = rn 84 24 ls (.int (x + y) :: r) M := r_nx (by decide +kernel : decode (mB 84) 23 = .ok (.iadd, 1)) rfl rfl
theorem t84_24 : rn 84 24 ls (.int x :: .ref a :: r) M = if mK M a = (17, 0) then rn 84 27 ls r (sI M a (va_up (mI M a) 1 x)) else none := r_putI (ci := 7) (k := 1) (by decide +kernel : decode (mB 84) 24 = .ok (.putfield 15, 3)) (by decide +kernel) rfl rfl
theorem t84_27 : rn 84 27 ls r M = rn 84 28 ls (.int 1 :: r) M := r_nx (by decide +kernel : decode (mB 84) 27 = .ok (.iconst 1, 1)) rfl rfl
theorem t84_28 : rn 84 28 ls [.int x] M = if x = 0 ∨ x = 1 then some (some (.int x), M) else none := r_zreturn (by decide +kernel : decode (mB 84) 28 = .ok (.ireturn, 1)) rfl
-- 85 Reader_readFirstFile()Z
theorem t85_0 : rn 85 0 (some (.ref a) :: l) r M = rn 85 1 (some (.ref a) :: l) (.ref a :: r) M := r_aload_n (by decide +kernel : decode (mB 85) 0 = .ok (.aload_n 0, 1)) rfl
theorem t85_1 : rn 85 1 (some (.ref a) :: l) r M = rn 85 2 (some (.ref a) :: l) (.ref a :: r) M := r_aload_n (by decide +kernel : decode (mB 85) 1 = .ok (.aload_n 0, 1)) rfl
theorem t85_2 : rn 85 2 ls [.ref a, .ref b] M = if mK M a = (17, 0) then cbn (cl 86 [.ref a] M) 85 5 ls [.ref b] else none := r_callV (kd := 0) (by decide +kernel : decode (mB 85) 2 = .ok (.invokevirtual 54, 3)) (by decide +kernel) ((doV_n np_86).trans rfl)
theorem t85_5 : rn 85 5 ls (.int x :: .ref a :: r) M = if mK M a = (17, 0) then rn 85 8 ls r (sI M a (va_up (mI M a) 3 x)) else none := r_putI (ci := 7) (k := 3) (by decide +kernel : decode (mB 85) 5 = .ok (.putfield 58, 3)) (by decide +kernel) rfl rfl
theorem t85_8 : rn 85 8 (some (.ref a) :: l) r M = rn 85 9 (some (.ref a) :: l) (.ref a :: r) M := r_aload_n (by decide +kernel : decode (mB 85) 8 = .ok (.aload_n 0, 1)) rfl
theorem t85_9 : rn 85 9 ls (.ref a :: r) M = if mK M a = (17, 0) then rn 85 12 ls (.int (mI M a 3) :: r) M else none := r_getI (ci := 7) (k := 3) (by decide +kernel : decode (mB 85) 9 = .ok (.getfield 58, 3)) (by decide +kernel) (Or.inl rfl)
theorem t85_12 : rn 85 12 ls r M = rn 85 14 ls (.int (-6) :: r) M := r_nx (by decide +kernel : decode (mB 85) 12 = .ok (.bipush (-6), 2)) rfl rfl
theorem t85_14 : rn 85 14 ls (.int y :: .int x :: r) M = if x = y then rn 85 21 ls r M else rn 85 17 ls r M := r_if (o := 7) (r := r) (c := x = y) (by decide +kernel : decode (mB 85) 14 = .ok (.if_icmp .eq 7, 3)) rfl (by decide) rfl
theorem t85_17 : rn 85 17 ls r M = rn 85 18 ls (.int 1 :: r) M := r_nx (by decide +kernel : decode (mB 85) 17 = .ok (.iconst 1, 1)) rfl rfl
theorem t85_18 : rn 85 18 ls r M = rn 85 22 ls r M := r_goto (o := 4) (by decide +kernel : decode (mB 85) 18 = .ok (.goto 4, 3)) (by decide)
theorem t85_21 : rn 85 21 ls r M = rn 85 22 ls (.int 0 :: r) M := r_nx (by decide +kernel : decode (mB 85) 21 = .ok (.iconst 0, 1)) rfl rfl
theorem t85_22 : rn 85 22 ls [.int x] M = if x = 0 ∨ x = 1 then some (some (.int x), M) else none := r_zreturn (by decide +kernel : decode (mB 85) 22 = .ok (.ireturn, 1)) rfl
-- 86 Reader_readFile()I
theorem t86_0 : rn 86 0 (some (.ref a) :: l) r M = rn 86 1 (some (.ref a) :: l) (.ref a :: r) M := r_aload_n (by decide +kernel : decode (mB 86) 0 = .ok (.aload_n 0, 1)) rfl
theorem t86_1 : rn 86 1 ls (.ref a :: r) M = if mK M a = (17, 0) then rn 86 4 ls (va_rf (mP M a 0) :: r) M else none := r_getP (ci := 7) (k := 0) (by decide +kernel : decode (mB 86) 1 = .ok (.getfield 9, 3)) (by decide +kernel) rfl
theorem t86_4 : rn 86 4 (some (.ref a) :: l) r M = rn 86 5 (some (.ref a) :: l) (.ref a :: r) M := r_aload_n (by decide +kernel : decode (mB 86) 4 = .ok (.aload_n 0, 1)) rfl
theorem t86_5 : rn 86 5 ls (.ref a :: r) M = if mK M a = (17, 0) then rn 86 8 ls (.int (mI M a 1) :: r) M else none := r_getI (ci := 7) (k := 1) (by decide +kernel : decode (mB 86) 5 = .ok (.getfield 15, 3)) (by decide +kernel) (Or.inl rfl)
theorem t86_8 : rn 86 8 ls [.int x, .ref a] M = if mK M a = (16, 0) then cbn (cl 83 [.ref a, .int x] M) 86 11 ls [] else none := r_callV (kd := 0) (by decide +kernel : decode (mB 86) 8 = .ok (.invokevirtual 35, 3)) (by decide +kernel) ((doV_n np_83).trans rfl)
theorem t86_11 : rn 86 11 ls r M = rn 86 13 ls (.int 97 :: r) M := r_nx (by decide +kernel : decode (mB 86) 11 = .ok (.bipush 97, 2)) rfl rfl
theorem t86_13 : rn 86 13 ls (.int y :: .int x :: r) M = rn 86 14 ls (.int (x - y) :: r) M := r_nx (by decide +kernel : decode (mB 86) 13 = .ok (.isub, 1)) rfl rfl
theorem t86_14 : rn 86 14 (a0 :: a1 :: l) (.int x :: r) M = rn 86 15 (a0 :: some (.int x) :: l) r M := r_istore_n (by decide +kernel : decode (mB 86) 14 = .ok (.istore_n 1, 1)) (Nat.le_add_left 2 l.length)
theorem t86_15 : rn 86 15 (a0 :: some (.int x) :: l) r M = rn 86 16 (a0 :: some (.int x) :: l) (.int x :: r) M := r_iload_n (by decide +kernel : decode (mB 86) 15 = .ok (.iload_n 1, 1)) rfl
theorem t86_16 : rn 86 16 ls [.int x] M = cbn (cl 19 [.int x] M) 86 19 ls [] := r_callS (kd := 3) (by decide +kernel : decode (mB 86) 16 = .ok (.invokestatic 67, 3)) (by decide +kernel) (by decide +kernel) ((doS_n np_19).trans rfl)
theorem t86_19 : rn 86 19 ls (.int x :: r) M = if ¬ x = 0 then rn 86 25 ls r M else rn 86 22 ls r M := r_if (o := 6) (r := r) (c := ¬ x = 0) (by decide +kernel : decode (mB 86) 19 = .ok (.ifCond .ne 6, 3)) rfl (by decide) rfl
theorem t86_22 : rn 86 22 ls r M = rn 86 24 ls (.int (-6) :: r) M := r_nx (by decide +kernel : decode (mB 86) 22 = .ok (.bipush (-6), 2)) rfl rfl
theorem t86_24 : rn 86 24 ls [.int x] M = some (some (.int x), M) := r_ireturn (by decide +kernel : decode (mB 86) 24 = .ok (.ireturn, 1)) rfl
theorem t86_25 : rn 86 25 (some (.ref a) :: l) r M = rn 86 26 (some (.ref a) :: l) (.ref a :: r) M := r_aload_n (by decide +kernel : decode (mB 86) 25 = .ok (.aload_n 0, 1)) rfl
theorem t86_26 : rn 86 26 ls (.ref a :: r) M = rn 86 27 ls (.ref a :: .ref a :: r) M := r_nx (by decide +kernel : decode (mB 86) 26 = .ok (.dup, 1)) rfl rfl
theorem t86_27 : rn 86 27 ls (.ref a :: r) M = if mK M a = (17, 0) then rn 86 30 ls (.int (mI M a 1) :: r) M else none := r_getI (ci := 7) (k := 1) (by decide +kernel : decode (mB 86) 27 = .ok (.getfield 15, 3)) (by decide +kernel) (Or.inl rfl)
theorem t86_30 : rn 86 30 ls r M = rn 86 31 ls (.int 1 :: r) M := r_nx (by decide +kernel : decode (mB 86) 30 = .ok (.iconst 1, 1)) rfl rfl
theorem t86_31 : rn 86 31 ls (.int y :: .int x :: r) M = rn 86 32 ls (.int (x + y) :: r) M := r_nx (by decide +kernel : decode (mB 86) 31 = .ok (.iadd, 1)) rfl rfl
theorem t86_32 : rn 86 32 ls (.int x :: .ref a :: r) M = if mK M a = (17, 0) then rn 86 35 ls r (sI M a (va_up (mI M a) 1 x)) else none := r_putI (ci := 7) (k := 1) (by decide +kernel : decode (mB 86) 32 = .ok (.putfield 15, 3)) (by decide +kernel) rfl rfl
theorem t86_35 : rn 86 35 (a0 :: some (.int x) :: l) r M = rn 86 36 (a0 :: some (.int x) :: l) (.int x :: r) M := r_iload_n (by decide +kernel : decode (mB 86) 35 = .ok (.iload_n 1, 1)) rfl
theorem t86_36 : rn 86 36 ls [.int x] M = some (some (.int x), M) := r_ireturn (by decide +kernel : decode (mB 86) 36 = .ok (.ireturn, 1)) rfl
-- 87 Reader_readSecondFile()Z
theorem t87_0 : rn 87 0 (some (.ref a) :: l) r M = rn 87 1 (some (.ref a) :: l) (.ref a :: r) M := r_aload_n (by decide +kernel : decode (mB 87) 0 = .ok (.aload_n 0, 1)) rfl
theorem t87_1 : rn 87 1 (some (.ref a) :: l) r M = rn 87 2 (some (.ref a) :: l) (.ref a :: r) M := r_aload_n (by decide +kernel : decode (mB 87) 1 = .ok (.aload_n 0, 1)) rfl
theorem t87_2 : rn 87 2 ls [.ref a, .ref b] M = if mK M a = (17, 0) then cbn (cl 86 [.ref a] M) 87 5 ls [.ref b] else none := r_callV (kd := 0) (by decide +kernel : decode (mB 87) 2 = .ok (.invokevirtual 54, 3)) (by decide +kernel) ((doV_n np_86).trans rfl)
theorem t87_5 : rn 87 5 ls (.int x :: .ref a :: r) M = if mK M a = (17, 0) then rn 87 8 ls r (sI M a (va_up (mI M a) 4 x)) else none := r_putI (ci := 7) (k := 4) (by decide +kernel : decode (mB 87) 5 = .ok (.putfield 61, 3)) (by decide +kernel) rfl rfl
theorem t87_8 : rn 87 8 (some (.ref a) :: l) r M = rn 87 9 (some (.ref a) :: l) (.ref a :: r) M := r_aload_n (by decide +kernel : decode (mB 87) 8 = .ok (.aload_n 0, 1)) rfl
theorem t87_9 : rn 87 9 ls (.ref a :: r) M = if mK M a = (17, 0) then rn 87 12 ls (.int (mI M a 4) :: r) M else none := r_getI (ci := 7) (k := 4) (by decide +kernel : decode (mB 87) 9 = .ok (.getfield 61, 3)) (by decide +kernel) (Or.inl rfl)
theorem t87_12 : rn 87 12 ls r M = rn 87 14 ls (.int (-6) :: r) M := r_nx (by decide +kernel : decode (mB 87) 12 = .ok (.bipush (-6), 2)) rfl rfl
theorem t87_14 : rn 87 14 ls (.int y :: .int x :: r) M = if x = y then rn 87 21 ls r M else rn 87 17 ls r M := r_if (o := 7) (r := r) (c := x = y) (by decide +kernel : decode (mB 87) 14 = .ok (.if_icmp .eq 7, 3)) rfl (by decide) rfl
theorem t87_17 : rn 87 17 ls r M = rn 87 18 ls (.int 1 :: r) M := r_nx (by decide +kernel : decode (mB 87) 17 = .ok (.iconst 1, 1)) rfl rfl
theorem t87_18 : rn 87 18 ls r M = rn 87 22 ls r M := r_goto (o := 4) (by decide +kernel : decode (mB 87) 18 = .ok (.goto 4, 3)) (by decide)
theorem t87_21 : rn 87 21 ls r M = rn 87 22 ls (.int 0 :: r) M := r_nx (by decide +kernel : decode (mB 87) 21 = .ok (.iconst 0, 1)) rfl rfl
theorem t87_22 : rn 87 22 ls [.int x] M = if x = 0 ∨ x = 1 then some (some (.int x), M) else none := r_zreturn (by decide +kernel : decode (mB 87) 22 = .ok (.ireturn, 1)) rfl
-- 88 Reader_readSecondNumber()Z
theorem t88_0 : rn 88 0 (some (.ref a) :: l) r M = rn 88 1 (some (.ref a) :: l) (.ref a :: r) M := r_aload_n (by decide +kernel : decode (mB 88) 0 = .ok (.aload_n 0, 1)) rfl
theorem t88_1 : rn 88 1 (some (.ref a) :: l) r M = rn 88 2 (some (.ref a) :: l) (.ref a :: r) M := r_aload_n (by decide +kernel : decode (mB 88) 1 = .ok (.aload_n 0, 1)) rfl
theorem t88_2 : rn 88 2 ls [.ref a, .ref b] M = if mK M a = (17, 0) then cbn (cl 89 [.ref a] M) 88 5 ls [.ref b] else none := r_callV (kd := 0) (by decide +kernel : decode (mB 88) 2 = .ok (.invokevirtual 64, 3)) (by decide +kernel) ((doV_n np_89).trans rfl)
theorem t88_5 : rn 88 5 ls (.int x :: .ref a :: r) M = if mK M a = (17, 0) then rn 88 8 ls r (sI M a (va_up (mI M a) 4 x)) else none := r_putI (ci := 7) (k := 4) (by decide +kernel : decode (mB 88) 5 = .ok (.putfield 61, 3)) (by decide +kernel) rfl rfl
theorem t88_8 : rn 88 8 (some (.ref a) :: l) r M = rn 88 9 (some (.ref a) :: l) (.ref a :: r) M := r_aload_n (by decide +kernel : decode (mB 88) 8 = .ok (.aload_n 0, 1)) rfl
theorem t88_9 : rn 88 9 ls (.ref a :: r) M = if mK M a = (17, 0) then rn 88 12 ls (.int (mI M a 4) :: r) M else none := r_getI (ci := 7) (k := 4) (by decide +kernel : decode (mB 88) 9 = .ok (.getfield 61, 3)) (by decide +kernel) (Or.inl rfl)
theorem t88_12 : rn 88 12 ls r M = rn 88 14 ls (.int (-6) :: r) M := r_nx (by decide +kernel : decode (mB 88) 12 = .ok (.bipush (-6), 2)) rfl rfl
theorem t88_14 : rn 88 14 ls (.int y :: .int x :: r) M = if x = y then rn 88 21 ls r M else rn 88 17 ls r M := r_if (o := 7) (r := r) (c := x = y) (by decide +kernel : decode (mB 88) 14 = .ok (.if_icmp .eq 7, 3)) rfl (by decide) rfl
theorem t88_17 : rn 88 17 ls r M = rn 88 18 ls (.int 1 :: r) M := r_nx (by decide +kernel : decode (mB 88) 17 = .ok (.iconst 1, 1)) rfl rfl
theorem t88_18 : rn 88 18 ls r M = rn 88 22 ls r M := r_goto (o := 4) (by decide +kernel : decode (mB 88) 18 = .ok (.goto 4, 3)) (by decide)
theorem t88_21 : rn 88 21 ls r M = rn 88 22 ls (.int 0 :: r) M := r_nx (by decide +kernel : decode (mB 88) 21 = .ok (.iconst 0, 1)) rfl rfl
theorem t88_22 : rn 88 22 ls [.int x] M = if x = 0 ∨ x = 1 then some (some (.int x), M) else none := r_zreturn (by decide +kernel : decode (mB 88) 22 = .ok (.ireturn, 1)) rfl
-- 89 Reader_readNumber()I
theorem t89_0 : rn 89 0 (some (.ref a) :: l) r M = rn 89 1 (some (.ref a) :: l) (.ref a :: r) M := r_aload_n (by decide +kernel : decode (mB 89) 0 = .ok (.aload_n 0, 1)) rfl
theorem t89_1 : rn 89 1 ls r M = rn 89 3 ls (.int 48 :: r) M := r_nx (by decide +kernel : decode (mB 89) 1 = .ok (.bipush 48, 2)) rfl rfl
theorem t89_3 : rn 89 3 ls [.int x, .ref a] M = if mK M a = (17, 0) then cbn (cl 84 [.ref a, .int x] M) 89 6 ls [] else none := r_callV (kd := 0) (by decide +kernel : decode (mB 89) 3 = .ok (.invokevirtual 26, 3)) (by decide +kernel) ((doV_n np_84).trans rfl)
theorem t89_6 : rn 89 6 ls (.int x :: r) M = if x = 0 then rn 89 11 ls r M else rn 89 9 ls r M := r_if (o := 5) (r := r) (c := x = 0) (by decide +kernel : decode (mB 89) 6 = .ok (.ifCond .eq 5, 3)) rfl (by decide) rfl
theorem t89_9 : rn 89 9 ls r M = rn 89 10 ls (.int 0 :: r) M := r_nx (by decide +kernel : decode (mB 89) 9 = .ok (.iconst 0, 1)) rfl rfl
theorem t89_10 : rn 89 10 ls [.int x] M = some (some (.int x), M) := r_ireturn (by decide +kernel : decode (mB 89) 10 = .ok (.ireturn, 1)) rfl
theorem t89_11 : rn 89 11 ls r M = rn 89 13 ls (.int (-6) :: r) M := r_nx (by decide +kernel : decode (mB 89) 11 = .ok (.bipush (-6), 2)) rfl rfl
theorem t89_13 : rn 89 13 (a0 :: a1 :: l) (.int x :: r) M = rn 89 14 (a0 :: some (.int x) :: l) r M := r_istore_n (by decide +kernel : decode (mB 89) 13 = .ok (.istore_n 1, 1)) (Nat.le_add_left 2 l.length)
theorem t89_14 : rn 89 14 ls r M = rn 89 15 ls (.int 0 :: r) M := r_nx (by decide +kernel : decode (mB 89) 14 = .ok (.iconst 0, 1)) rfl rfl
theorem t89_15 : rn 89 15 (a0 :: a1 :: a2 :: l) (.int x :: r) M = rn 89 16 (a0 :: a1 :: some (.int x) :: l) r M := r_istore_n (by decide +kernel : decode (mB 89) 15 = .ok (.istore_n 2, 1)) (Nat.le_add_left 3 l.length)
theorem t89_16 : rn 89 16 (a0 :: a1 :: some (.int x) :: l) r M = rn 89 17 (a0 :: a1 :: some (.int x) :: l) (.int x :: r) M := r_iload_n (by decide +kernel : decode (mB 89) 16 = .ok (.iload_n 2, 1)) rfl
theorem t89_17 : rn 89 17 ls r M = rn 89 18 ls (.int 3 :: r) M := r_nx (by decide +kernel : decode (mB 89) 17 = .ok (.iconst 3, 1)) rfl rfl
theorem t89_18 : rn 89 18 ls (.int y :: .int x :: r) M = if y ≤ x then rn 89 78 ls r M else rn 89 21 ls r M := r_if (o := 60) (r := r) (c := y ≤ x) (by decide +kernel : decode (mB 89) 18 = .ok (.if_icmp .ge 60, 3)) rfl (by decide) rfl
theorem t89_21 : rn 89 21 (some (.ref a) :: l) r M = rn 89 22 (some (.ref a) :: l) (.ref a :: r) M := r_aload_n (by decide +kernel : decode (mB 89) 21 = .ok (.aload_n 0, 1)) rfl
theorem t89_22 : rn 89 22 ls (.ref a :: r) M = if mK M a = (17, 0) then rn 89 25 ls (va_rf (mP M a 0) :: r) M else none := r_getP (ci := 7) (k := 0) (by decide +kernel : decode (mB 89) 22 = .ok (.getfield 9, 3)) (by decide +kernel) rfl
theorem t89_25 : rn 89 25 (some (.ref a) :: l) r M = rn 89 26 (some (.ref a) :: l) (.ref a :: r) M := r_aload_n (by decide +kernel : decode (mB 89) 25 = .ok (.aload_n 0, 1)) rfl
theorem t89_26 : rn 89 26 ls (.ref a :: r) M = if mK M a = (17, 0) then rn 89 29 ls (.int (mI M a 1) :: r) M else none := r_getI (ci := 7) (k := 1) (by decide +kernel : decode (mB 89) 26 = .ok (.getfield 15, 3)) (by decide +kernel) (Or.inl rfl)
theorem t89_29 : rn 89 29 ls [.int x, .ref a] M = if mK M a = (16, 0) then cbn (cl 83 [.ref a, .int x] M) 89 32 ls [] else none := r_callV (kd := 0) (by decide +kernel : decode (mB 89) 29 = .ok (.invokevirtual 35, 3)) (by decide +kernel) ((doV_n np_83).trans rfl)
theorem t89_32 : rn 89 32 ls [.int x] M = cbn (cl 90 [.int x] M) 89 35 ls [] := r_callS (kd := 2) (by decide +kernel : decode (mB 89) 32 = .ok (.invokestatic 70, 3)) (by decide +kernel) (by decide +kernel) ((doS_n np_90).trans rfl)
theorem t89_35 : rn 89 35 ls (.int x :: r) M = if x = 0 then rn 89 78 ls r M else rn 89 38 ls r M := r_if (o := 43) (r := r) (c := x = 0) (by decide +kernel : decode (mB 89) 35 = .ok (.ifCond .eq 43, 3)) rfl (by decide) rfl
theorem t89_38 : rn 89 38 (a0 :: some (.int x) :: l) r M = rn 89 39 (a0 :: some (.int x) :: l) (.int x :: r) M := r_iload_n (by decide +kernel : decode (mB 89) 38 = .ok (.iload_n 1, 1)) rfl
theorem t89_39 : rn 89 39 ls r M = rn 89 40 ls (.int 0 :: r) M := r_nx (by decide +kernel : decode (mB 89) 39 = .ok (.iconst 0, 1)) rfl rfl
theorem t89_40 : rn 89 40 ls [.int x, .int y] M = cbn (cl 56 [.int y, .int x] M) 89 43 ls [] := r_callS (kd := 2) (by decide +kernel : decode (mB 89) 40 = .ok (.invokestatic 73, 3)) (by decide +kernel) (by decide +kernel) ((doS_n np_56).trans rfl)
theorem t89_43 : rn 89 43 ls r M = rn 89 45 ls (.int 10 :: r) M := r_nx (by decide +kernel : decode (mB 89) 43 = .ok (.bipush 10, 2)) rfl rfl
theorem t89_45 : rn 89 45 ls (.int y :: .int x :: r) M = rn 89 46 ls (.int (x * y) :: r) M := r_nx (by decide +kernel : decode (mB 89) 45 = .ok (.imul, 1)) rfl rfl
theorem t89_46 : rn 89 46 (some (.ref a) :: l) r M = rn 89 47 (some (.ref a) :: l) (.ref a :: r) M := r_aload_n (by decide +kernel : decode (mB 89) 46 = .ok (.aload_n 0, 1)) rfl
theorem t89_47 : rn 89 47 ls (.ref a :: r) M = if mK M a = (17, 0) then rn 89 50 ls (va_rf (mP M a 0) :: r) M else none := r_getP (ci := 7) (k := 0) (by decide +kernel : decode (mB 89) 47 = .ok (.getfield 9, 3)) (by decide +kernel) rfl
theorem t89_50 : rn 89 50 (some (.ref a) :: l) r M = rn 89 51 (some (.ref a) :: l) (.ref a :: r) M := r_aload_n (by decide +kernel : decode (mB 89) 50 = .ok (.aload_n 0, 1)) rfl
theorem t89_51 : rn 89 51 ls (.ref a :: r) M = if mK M a = (17, 0) then rn 89 54 ls (.int (mI M a 1) :: r) M else none := r_getI (ci := 7) (k := 1) (by decide +kernel : decode (mB 89) 51 = .ok (.getfield 15, 3)) (by decide +kernel) (Or.inl rfl)
theorem t89_54 : rn 89 54 ls [.int x, .ref a, .int y] M = if mK M a = (16, 0) then cbn (cl 83 [.ref a, .int x] M) 89 57 ls [.int y] else none := r_callV (kd := 0) (by decide +kernel : decode (mB 89) 54 = .ok (.invokevirtual 35, 3)) (by decide +kernel) ((doV_n np_83).trans rfl)
theorem t89_57 : rn 89 57 ls (.int y :: .int x :: r) M = rn 89 58 ls (.int (x + y) :: r) M := r_nx (by decide +kernel : decode (mB 89) 57 = .ok (.iadd, 1)) rfl rfl
theorem t89_58 : rn 89 58 ls r M = rn 89 60 ls (.int 48 :: r) M := r_nx (by decide +kernel : decode (mB 89) 58 = .ok (.bipush 48, 2)) rfl rfl
theorem t89_60 : rn 89 60 ls (.int y :: .int x :: r) M = rn 89 61 ls (.int (x - y) :: r) M := r_nx (by decide +kernel : decode (mB 89) 60 = .ok (.isub, 1)) rfl rfl
theorem t89_61 : rn 89 61 (a0 :: a1 :: l) (.int x :: r) M = rn 89 62 (a0 :: some (.int x) :: l) r M := r_istore_n (by decide +kernel : decode (mB 89) 61 = .ok (.istore_n 1, 1)) (Nat.le_add_left 2 l.length)
theorem t89_62 : rn 89 62 (some (.ref a) :: l) r M = rn 89 63 (some (.ref a) :: l) (.ref a :: r) M := r_aload_n (by decide +kernel : decode (mB 89) 62 = .ok (.aload_n 0, 1)) rfl
theorem t89_63 : rn 89 63 ls (.ref a :: r) M = rn 89 64 ls (.ref a :: .ref a :: r) M := r_nx (by decide +kernel : decode (mB 89) 63 = .ok (.dup, 1)) rfl rfl
theorem t89_64 : rn 89 64 ls (.ref a :: r) M = if mK M a = (17, 0) then rn 89 67 ls (.int (mI M a 1) :: r) M else none := r_getI (ci := 7) (k := 1) (by decide +kernel : decode (mB 89) 64 = .ok (.getfield 15, 3)) (by decide +kernel) (Or.inl rfl)
theorem t89_67 : rn 89 67 ls r M = rn 89 68 ls (.int 1 :: r) M := r_nx (by decide +kernel : decode (mB 89) 67 = .ok (.iconst 1, 1)) rfl rfl
theorem t89_68 : rn 89 68 ls (.int y :: .int x :: r) M = rn 89 69 ls (.int (x + y) :: r) M := r_nx (by decide +kernel : decode (mB 89) 68 = .ok (.iadd, 1)) rfl rfl
theorem t89_69 : rn 89 69 ls (.int x :: .ref a :: r) M = if mK M a = (17, 0) then rn 89 72 ls r (sI M a (va_up (mI M a) 1 x)) else none := r_putI (ci := 7) (k := 1) (by decide +kernel : decode (mB 89) 69 = .ok (.putfield 15, 3)) (by decide +kernel) rfl rfl
theorem t89_72 : rn 89 72 (a0 :: a1 :: some (.int x) :: l) r M = rn 89 75 (a0 :: a1 :: some (.int (x + 1)) :: l) r M := r_iinc (by decide +kernel : decode (mB 89) 72 = .ok (.iinc 2 1, 3)) rfl
theorem t89_75 : rn 89 75 ls r M = rn 89 16 ls r M := r_goto (o := (-59)) (by decide +kernel : decode (mB 89) 75 = .ok (.goto (-59), 3)) (by decide)
theorem t89_78 : rn 89 78 (a0 :: some (.int x) :: l) r M = rn 89 79 (a0 :: some (.int x) :: l) (.int x :: r) M := r_iload_n (by decide +kernel : decode (mB 89) 78 = .ok (.iload_n 1, 1)) rfl
theorem t89_79 : rn 89 79 ls [.int x] M = some (some (.int x), M) := r_ireturn (by decide +kernel : decode (mB 89) 79 = .ok (.ireturn, 1)) rfl
-- 90 Reader_isDigit(I)Z
theorem t90_0 : rn 90 0 (some (.int x) :: l) r M = rn 90 1 (some (.int x) :: l) (.int x :: r) M := r_iload_n (by decide +kernel : decode (mB 90) 0 = .ok (.iload_n 0, 1)) rfl
theorem t90_1 : rn 90 1 ls r M = rn 90 3 ls (.int 48 :: r) M := r_nx (by decide +kernel : decode (mB 90) 1 = .ok (.bipush 48, 2)) rfl rfl
theorem t90_3 : rn 90 3 ls (.int y :: .int x :: r) M = if x < y then rn 90 16 ls r M else rn 90 6 ls r M := r_if (o := 13) (r := r) (c := x < y) (by decide +kernel : decode (mB 90) 3 = .ok (.if_icmp .lt 13, 3)) rfl (by decide) rfl
theorem t90_6 : rn 90 6 (some (.int x) :: l) r M = rn 90 7 (some (.int x) :: l) (.int x :: r) M := r_iload_n (by decide +kernel : decode (mB 90) 6 = .ok (.iload_n 0, 1)) rfl
theorem t90_7 : rn 90 7 ls r M = rn 90 9 ls (.int 57 :: r) M := r_nx (by decide +kernel : decode (mB 90) 7 = .ok (.bipush 57, 2)) rfl rfl
theorem t90_9 : rn 90 9 ls (.int y :: .int x :: r) M = if y < x then rn 90 16 ls r M else rn 90 12 ls r M := r_if (o := 7) (r := r) (c := y < x) (by decide +kernel : decode (mB 90) 9 = .ok (.if_icmp .gt 7, 3)) rfl (by decide) rfl
theorem t90_12 : rn 90 12 ls r M = rn 90 13 ls (.int 1 :: r) M := r_nx (by decide +kernel : decode (mB 90) 12 = .ok (.iconst 1, 1)) rfl rfl
theorem t90_13 : rn 90 13 ls r M = rn 90 17 ls r M := r_goto (o := 4) (by decide +kernel : decode (mB 90) 13 = .ok (.goto 4, 3)) (by decide)
theorem t90_16 : rn 90 16 ls r M = rn 90 17 ls (.int 0 :: r) M := r_nx (by decide +kernel : decode (mB 90) 16 = .ok (.iconst 0, 1)) rfl rfl
theorem t90_17 : rn 90 17 ls [.int x] M = if x = 0 ∨ x = 1 then some (some (.int x), M) else none := r_zreturn (by decide +kernel : decode (mB 90) 17 = .ok (.ireturn, 1)) rfl
-- 91 Reader_readFirstNumber()Z
theorem t91_0 : rn 91 0 (some (.ref a) :: l) r M = rn 91 1 (some (.ref a) :: l) (.ref a :: r) M := r_aload_n (by decide +kernel : decode (mB 91) 0 = .ok (.aload_n 0, 1)) rfl
theorem t91_1 : rn 91 1 (some (.ref a) :: l) r M = rn 91 2 (some (.ref a) :: l) (.ref a :: r) M := r_aload_n (by decide +kernel : decode (mB 91) 1 = .ok (.aload_n 0, 1)) rfl
theorem t91_2 : rn 91 2 ls [.ref a, .ref b] M = if mK M a = (17, 0) then cbn (cl 89 [.ref a] M) 91 5 ls [.ref b] else none := r_callV (kd := 0) (by decide +kernel : decode (mB 91) 2 = .ok (.invokevirtual 64, 3)) (by decide +kernel) ((doV_n np_89).trans rfl)
theorem t91_5 : rn 91 5 ls (.int x :: .ref a :: r) M = if mK M a = (17, 0) then rn 91 8 ls r (sI M a (va_up (mI M a) 3 x)) else none := r_putI (ci := 7) (k := 3) (by decide +kernel : decode (mB 91) 5 = .ok (.putfield 58, 3)) (by decide +kernel) rfl rfl
theorem t91_8 : rn 91 8 (some (.ref a) :: l) r M = rn 91 9 (some (.ref a) :: l) (.ref a :: r) M := r_aload_n (by decide +kernel : decode (mB 91) 8 = .ok (.aload_n 0, 1)) rfl
theorem t91_9 : rn 91 9 ls (.ref a :: r) M = if mK M a = (17, 0) then rn 91 12 ls (.int (mI M a 3) :: r) M else none := r_getI (ci := 7) (k := 3) (by decide +kernel : decode (mB 91) 9 = .ok (.getfield 58, 3)) (by decide +kernel) (Or.inl rfl)
theorem t91_12 : rn 91 12 ls r M = rn 91 14 ls (.int (-6) :: r) M := r_nx (by decide +kernel : decode (mB 91) 12 = .ok (.bipush (-6), 2)) rfl rfl
theorem t91_14 : rn 91 14 ls (.int y :: .int x :: r) M = if x = y then rn 91 21 ls r M else rn 91 17 ls r M := r_if (o := 7) (r := r) (c := x = y) (by decide +kernel : decode (mB 91) 14 = .ok (.if_icmp .eq 7, 3)) rfl (by decide) rfl
theorem t91_17 : rn 91 17 ls r M = rn 91 18 ls (.int 1 :: r) M := r_nx (by decide +kernel : decode (mB 91) 17 = .ok (.iconst 1, 1)) rfl rfl
theorem t91_18 : rn 91 18 ls r M = rn 91 22 ls r M := r_goto (o := 4) (by decide +kernel : decode (mB 91) 18 = .ok (.goto 4, 3)) (by decide)
theorem t91_21 : rn 91 21 ls r M = rn 91 22 ls (.int 0 :: r) M := r_nx (by decide +kernel : decode (mB 91) 21 = .ok (.iconst 0, 1)) rfl rfl
theorem t91_22 : rn 91 22 ls [.int x] M = if x = 0 ∨ x = 1 then some (some (.int x), M) else none := r_zreturn (by decide +kernel : decode (mB 91) 22 = .ok (.ireturn, 1)) rfl
-- 95 History_takeBack(LDependentReplay$State;)I
theorem t95_0 : rn 95 0 (some (.ref a) :: l) r M = rn 95 1 (some (.ref a) :: l) (.ref a :: r) M := r_aload_n (by decide +kernel : decode (mB 95) 0 = .ok (.aload_n 0, 1)) rfl
theorem t95_1 : rn 95 1 ls (.ref a :: r) M = if mK M a = (15, 0) then rn 95 4 ls (.int (mI M a 2) :: r) M else none := r_getI (ci := 5) (k := 2) (by decide +kernel : decode (mB 95) 1 = .ok (.getfield 26, 3)) (by decide +kernel) (Or.inl rfl)
theorem t95_4 : rn 95 4 ls (.int x :: r) M = if ¬ x = 0 then rn 95 10 ls r M else rn 95 7 ls r M := r_if (o := 6) (r := r) (c := ¬ x = 0) (by decide +kernel : decode (mB 95) 4 = .ok (.ifCond .ne 6, 3)) rfl (by decide) rfl
theorem t95_7 : rn 95 7 ls r M = rn 95 9 ls (.int (-5) :: r) M := r_nx (by decide +kernel : decode (mB 95) 7 = .ok (.bipush (-5), 2)) rfl rfl
theorem t95_9 : rn 95 9 ls [.int x] M = some (some (.int x), M) := r_ireturn (by decide +kernel : decode (mB 95) 9 = .ok (.ireturn, 1)) rfl
theorem t95_10 : rn 95 10 (some (.ref a) :: l) r M = rn 95 11 (some (.ref a) :: l) (.ref a :: r) M := r_aload_n (by decide +kernel : decode (mB 95) 10 = .ok (.aload_n 0, 1)) rfl
theorem t95_11 : rn 95 11 (some (.ref a) :: l) r M = rn 95 12 (some (.ref a) :: l) (.ref a :: r) M := r_aload_n (by decide +kernel : decode (mB 95) 11 = .ok (.aload_n 0, 1)) rfl
theorem t95_12 : rn 95 12 ls (.ref a :: r) M = if mK M a = (15, 0) then rn 95 15 ls (.int (mI M a 1) :: r) M else none := r_getI (ci := 5) (k := 1) (by decide +kernel : decode (mB 95) 12 = .ok (.getfield 18, 3)) (by decide +kernel) (Or.inl rfl)
theorem t95_15 : rn 95 15 ls (.int x :: r) M = if ¬ x = 0 then rn 95 23 ls r M else rn 95 18 ls r M := r_if (o := 8) (r := r) (c := ¬ x = 0) (by decide +kernel : decode (mB 95) 15 = .ok (.ifCond .ne 8, 3)) rfl (by decide) rfl
theorem t95_18 : rn 95 18 ls r M = rn 95 20 ls (.int 6 :: r) M := r_nx (by decide +kernel : decode (mB 95) 18 = .ok (.bipush 6, 2)) rfl rfl
theorem t95_20 : rn 95 20 ls r M = rn 95 29 ls r M := r_goto (o := 9) (by decide +kernel : decode (mB 95) 20 = .ok (.goto 9, 3)) (by decide)
theorem t95_23 : rn 95 23 (some (.ref a) :: l) r M = rn 95 24 (some (.ref a) :: l) (.ref a :: r) M := r_aload_n (by decide +kernel : decode (mB 95) 23 = .ok (.aload_n 0, 1)) rfl
theorem t95_24 : rn 95 24 ls (.ref a :: r) M = if mK M a = (15, 0) then rn 95 27 ls (.int (mI M a 1) :: r) M else none := r_getI (ci := 5) (k := 1) (by decide +kernel : decode (mB 95) 24 = .ok (.getfield 18, 3)) (by decide +kernel) (Or.inl rfl)
theorem t95_27 : rn 95 27 ls r M = rn 95 28 ls (.int 1 :: r) M := r_nx (by decide +kernel : decode (mB 95) 27 = .ok (.iconst 1, 1)) rfl rfl
theorem t95_28 : rn 95 28 ls (.int y :: .int x :: r) M = rn 95 29 ls (.int (x - y) :: r) M := r_nx (by decide +kernel : decode (mB 95) 28 = .ok (.isub, 1)) rfl rfl
theorem t95_29 : rn 95 29 ls (.int x :: .ref a :: r) M = if mK M a = (15, 0) then rn 95 32 ls r (sI M a (va_up (mI M a) 1 x)) else none := r_putI (ci := 5) (k := 1) (by decide +kernel : decode (mB 95) 29 = .ok (.putfield 18, 3)) (by decide +kernel) rfl rfl
theorem t95_32 : rn 95 32 (some (.ref a) :: l) r M = rn 95 33 (some (.ref a) :: l) (.ref a :: r) M := r_aload_n (by decide +kernel : decode (mB 95) 32 = .ok (.aload_n 0, 1)) rfl
theorem t95_33 : rn 95 33 ls (.ref a :: r) M = rn 95 34 ls (.ref a :: .ref a :: r) M := r_nx (by decide +kernel : decode (mB 95) 33 = .ok (.dup, 1)) rfl rfl
theorem t95_34 : rn 95 34 ls (.ref a :: r) M = if mK M a = (15, 0) then rn 95 37 ls (.int (mI M a 2) :: r) M else none := r_getI (ci := 5) (k := 2) (by decide +kernel : decode (mB 95) 34 = .ok (.getfield 26, 3)) (by decide +kernel) (Or.inl rfl)
theorem t95_37 : rn 95 37 ls r M = rn 95 38 ls (.int 1 :: r) M := r_nx (by decide +kernel : decode (mB 95) 37 = .ok (.iconst 1, 1)) rfl rfl
theorem t95_38 : rn 95 38 ls (.int y :: .int x :: r) M = rn 95 39 ls (.int (x - y) :: r) M := r_nx (by decide +kernel : decode (mB 95) 38 = .ok (.isub, 1)) rfl rfl
theorem t95_39 : rn 95 39 ls (.int x :: .ref a :: r) M = if mK M a = (15, 0) then rn 95 42 ls r (sI M a (va_up (mI M a) 2 x)) else none := r_putI (ci := 5) (k := 2) (by decide +kernel : decode (mB 95) 39 = .ok (.putfield 26, 3)) (by decide +kernel) rfl rfl
theorem t95_42 : rn 95 42 (a0 :: some (.ref a) :: l) r M = rn 95 43 (a0 :: some (.ref a) :: l) (.ref a :: r) M := r_aload_n (by decide +kernel : decode (mB 95) 42 = .ok (.aload_n 1, 1)) rfl
theorem t95_43 : rn 95 43 (some (.ref a) :: l) r M = rn 95 44 (some (.ref a) :: l) (.ref a :: r) M := r_aload_n (by decide +kernel : decode (mB 95) 43 = .ok (.aload_n 0, 1)) rfl
theorem t95_44 : rn 95 44 ls (.ref a :: r) M = if mK M a = (15, 0) then rn 95 47 ls (va_rf (mP M a 0) :: r) M else none := r_getP (ci := 5) (k := 0) (by decide +kernel : decode (mB 95) 44 = .ok (.getfield 13, 3)) (by decide +kernel) rfl
theorem t95_47 : rn 95 47 (some (.ref a) :: l) r M = rn 95 48 (some (.ref a) :: l) (.ref a :: r) M := r_aload_n (by decide +kernel : decode (mB 95) 47 = .ok (.aload_n 0, 1)) rfl
theorem t95_48 : rn 95 48 ls (.ref a :: r) M = if mK M a = (15, 0) then rn 95 51 ls (.int (mI M a 1) :: r) M else none := r_getI (ci := 5) (k := 1) (by decide +kernel : decode (mB 95) 48 = .ok (.getfield 18, 3)) (by decide +kernel) (Or.inl rfl)
theorem t95_51 : rn 95 51 ls (.int x :: .ref a :: r) M = if ((mK M a).1 = 3 ∨ (mK M a).1 = 4) ∧ inR x (mK M a).2 then rn 95 52 ls (va_rf (mP M a x.toNatClampNeg) :: r) M else none := r_cnd (by decide +kernel : decode (mB 95) 51 = .ok (.aaload, 1)) rfl rfl
theorem t95_52 : rn 95 52 ls [.ref a, .ref b] M = if mK M b = (11, 0) then cbn (cl 14 [.ref b, .ref a] M) 95 55 ls [] else none := r_callV (kd := 0) (by decide +kernel : decode (mB 95) 52 = .ok (.invokevirtual 22, 3)) (by decide +kernel) ((doV_n np_14).trans rfl)
theorem t95_55 : rn 95 55 (some (.ref a) :: l) r M = rn 95 56 (some (.ref a) :: l) (.ref a :: r) M := r_aload_n (by decide +kernel : decode (mB 95) 55 = .ok (.aload_n 0, 1)) rfl
theorem t95_56 : rn 95 56 ls (.ref a :: r) M = if mK M a = (15, 0) then rn 95 59 ls (.int (mI M a 2) :: r) M else none := r_getI (ci := 5) (k := 2) (by decide +kernel : decode (mB 95) 56 = .ok (.getfield 26, 3)) (by decide +kernel) (Or.inl rfl)
theorem t95_59 : rn 95 59 ls [.int x] M = some (some (.int x), M) := r_ireturn (by decide +kernel : decode (mB 95) 59 = .ok (.ireturn, 1)) rfl
end S1
end
