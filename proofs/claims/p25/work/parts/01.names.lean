-- ===== PART A: goes FIRST, ahead of the names: the tables' words, and 'selects' of the private methods out of them =====
/-- a private method of a class that the tables say can be made, by its rows of tables_1 -/
def lw_okq (q : MethodName × Nat) : Prop := (q.1.cls ≠ "java/lang/invoke/MethodHandle" ∧ q.1.cls ≠ "java/lang/invoke/VarHandle") ∧ Cond.instantiable q.1.cls q.2 ∈ tables_1 ∧ Cond.privateMethod q.1 ∈ tables_1 ∧ Cond.instanceMethod q.1 ∈ tables_1
theorem lw_p0 : lw_okq (⟨"HeardTunes", "begin", "()V"⟩, 15) := ⟨⟨by decide +kernel, by decide +kernel⟩, List.mem_of_getElem? (i := 19) (by decide +kernel), List.mem_of_getElem? (i := 386) (by decide +kernel), List.mem_of_getElem? (i := 387) (by decide +kernel)⟩
theorem lw_p1 : lw_okq (⟨"HeardTunes$Ground", "layCell", "(II)V"⟩, 9) := ⟨⟨by decide +kernel, by decide +kernel⟩, List.mem_of_getElem? (i := 149) (by decide +kernel), List.mem_of_getElem? (i := 397) (by decide +kernel), List.mem_of_getElem? (i := 398) (by decide +kernel)⟩
theorem lw_p2 : lw_okq (⟨"HeardTunes$Ground", "forgetWays", "()V"⟩, 9) := ⟨⟨by decide +kernel, by decide +kernel⟩, List.mem_of_getElem? (i := 149) (by decide +kernel), List.mem_of_getElem? (i := 405) (by decide +kernel), List.mem_of_getElem? (i := 406) (by decide +kernel)⟩
theorem lw_p3 : lw_okq (⟨"HeardTunes$Reader", "skipBlanks", "()V"⟩, 6) := ⟨⟨by decide +kernel, by decide +kernel⟩, List.mem_of_getElem? (i := 27) (by decide +kernel), List.mem_of_getElem? (i := 485) (by decide +kernel), List.mem_of_getElem? (i := 486) (by decide +kernel)⟩
theorem lw_p4 : lw_okq (⟨"HeardTunes$Reader", "readSentence", "(LHeardTunes$Town;)V"⟩, 6) := ⟨⟨by decide +kernel, by decide +kernel⟩, List.mem_of_getElem? (i := 27) (by decide +kernel), List.mem_of_getElem? (i := 489) (by decide +kernel), List.mem_of_getElem? (i := 490) (by decide +kernel)⟩
theorem lw_p5 : lw_okq (⟨"HeardTunes$Reader", "readWord", "()I"⟩, 6) := ⟨⟨by decide +kernel, by decide +kernel⟩, List.mem_of_getElem? (i := 27) (by decide +kernel), List.mem_of_getElem? (i := 493) (by decide +kernel), List.mem_of_getElem? (i := 494) (by decide +kernel)⟩
theorem lw_p6 : lw_okq (⟨"HeardTunes$Reader", "isWord", "(ILjava/lang/String;)Z"⟩, 6) := ⟨⟨by decide +kernel, by decide +kernel⟩, List.mem_of_getElem? (i := 27) (by decide +kernel), List.mem_of_getElem? (i := 498) (by decide +kernel), List.mem_of_getElem? (i := 499) (by decide +kernel)⟩
theorem lw_p7 : lw_okq (⟨"HeardTunes$Reader", "blame", "(II)V"⟩, 6) := ⟨⟨by decide +kernel, by decide +kernel⟩, List.mem_of_getElem? (i := 27) (by decide +kernel), List.mem_of_getElem? (i := 557) (by decide +kernel), List.mem_of_getElem? (i := 558) (by decide +kernel)⟩
theorem lw_p8 : lw_okq (⟨"HeardTunes$Reader", "readSize", "(LHeardTunes$Town;)V"⟩, 6) := ⟨⟨by decide +kernel, by decide +kernel⟩, List.mem_of_getElem? (i := 27) (by decide +kernel), List.mem_of_getElem? (i := 564) (by decide +kernel), List.mem_of_getElem? (i := 565) (by decide +kernel)⟩
theorem lw_p9 : lw_okq (⟨"HeardTunes$Reader", "readNumber", "(II)I"⟩, 6) := ⟨⟨by decide +kernel, by decide +kernel⟩, List.mem_of_getElem? (i := 27) (by decide +kernel), List.mem_of_getElem? (i := 568) (by decide +kernel), List.mem_of_getElem? (i := 569) (by decide +kernel)⟩
theorem lw_p10 : lw_okq (⟨"HeardTunes$Reader", "readCrowd", "(LHeardTunes$Town;)V"⟩, 6) := ⟨⟨by decide +kernel, by decide +kernel⟩, List.mem_of_getElem? (i := 27) (by decide +kernel), List.mem_of_getElem? (i := 573) (by decide +kernel), List.mem_of_getElem? (i := 574) (by decide +kernel)⟩
theorem lw_p11 : lw_okq (⟨"HeardTunes$Reader", "readCell", "(LHeardTunes$Town;)I"⟩, 6) := ⟨⟨by decide +kernel, by decide +kernel⟩, List.mem_of_getElem? (i := 27) (by decide +kernel), List.mem_of_getElem? (i := 577) (by decide +kernel), List.mem_of_getElem? (i := 578) (by decide +kernel)⟩
theorem lw_p12 : lw_okq (⟨"HeardTunes$Reader", "blameIfSpot", "(LHeardTunes$Town;I)V"⟩, 6) := ⟨⟨by decide +kernel, by decide +kernel⟩, List.mem_of_getElem? (i := 27) (by decide +kernel), List.mem_of_getElem? (i := 581) (by decide +kernel), List.mem_of_getElem? (i := 582) (by decide +kernel)⟩
theorem lw_p13 : lw_okq (⟨"HeardTunes$Reader", "readTune", "(LHeardTunes$Town;)V"⟩, 6) := ⟨⟨by decide +kernel, by decide +kernel⟩, List.mem_of_getElem? (i := 27) (by decide +kernel), List.mem_of_getElem? (i := 596) (by decide +kernel), List.mem_of_getElem? (i := 597) (by decide +kernel)⟩
theorem lw_p14 : lw_okq (⟨"HeardTunes$Reader", "readPiper", "(LHeardTunes$Town;)V"⟩, 6) := ⟨⟨by decide +kernel, by decide +kernel⟩, List.mem_of_getElem? (i := 27) (by decide +kernel), List.mem_of_getElem? (i := 604) (by decide +kernel), List.mem_of_getElem? (i := 605) (by decide +kernel)⟩
theorem lw_p15 : lw_okq (⟨"HeardTunes$Reader", "readPay", "(LHeardTunes$Town;)V"⟩, 6) := ⟨⟨by decide +kernel, by decide +kernel⟩, List.mem_of_getElem? (i := 27) (by decide +kernel), List.mem_of_getElem? (i := 608) (by decide +kernel), List.mem_of_getElem? (i := 609) (by decide +kernel)⟩
def lw_privs_1 : List (MethodName × Nat) := [(⟨"HeardTunes", "begin", "()V"⟩, 15), (⟨"HeardTunes$Ground", "layCell", "(II)V"⟩, 9), (⟨"HeardTunes$Ground", "forgetWays", "()V"⟩, 9), (⟨"HeardTunes$Reader", "skipBlanks", "()V"⟩, 6), (⟨"HeardTunes$Reader", "readSentence", "(LHeardTunes$Town;)V"⟩, 6), (⟨"HeardTunes$Reader", "readWord", "()I"⟩, 6), (⟨"HeardTunes$Reader", "isWord", "(ILjava/lang/String;)Z"⟩, 6), (⟨"HeardTunes$Reader", "blame", "(II)V"⟩, 6), (⟨"HeardTunes$Reader", "readSize", "(LHeardTunes$Town;)V"⟩, 6), (⟨"HeardTunes$Reader", "readNumber", "(II)I"⟩, 6), (⟨"HeardTunes$Reader", "readCrowd", "(LHeardTunes$Town;)V"⟩, 6), (⟨"HeardTunes$Reader", "readCell", "(LHeardTunes$Town;)I"⟩, 6), (⟨"HeardTunes$Reader", "blameIfSpot", "(LHeardTunes$Town;I)V"⟩, 6), (⟨"HeardTunes$Reader", "readTune", "(LHeardTunes$Town;)V"⟩, 6), (⟨"HeardTunes$Reader", "readPiper", "(LHeardTunes$Town;)V"⟩, 6), (⟨"HeardTunes$Reader", "readPay", "(LHeardTunes$Town;)V"⟩, 6)]
theorem lw_r1 : ∀ q ∈ lw_privs_1, lw_okq q := List.forall_mem_cons.mpr ⟨lw_p0, List.forall_mem_cons.mpr ⟨lw_p1, List.forall_mem_cons.mpr ⟨lw_p2, List.forall_mem_cons.mpr ⟨lw_p3, List.forall_mem_cons.mpr ⟨lw_p4, List.forall_mem_cons.mpr ⟨lw_p5, List.forall_mem_cons.mpr ⟨lw_p6, List.forall_mem_cons.mpr ⟨lw_p7, List.forall_mem_cons.mpr ⟨lw_p8, List.forall_mem_cons.mpr ⟨lw_p9, List.forall_mem_cons.mpr ⟨lw_p10, List.forall_mem_cons.mpr ⟨lw_p11, List.forall_mem_cons.mpr ⟨lw_p12, List.forall_mem_cons.mpr ⟨lw_p13, List.forall_mem_cons.mpr ⟨lw_p14, List.forall_mem_cons.mpr ⟨lw_p15, fun _ h => absurd h List.not_mem_nil⟩⟩⟩⟩⟩⟩⟩⟩⟩⟩⟩⟩⟩⟩⟩⟩
theorem lw_p16 : lw_okq (⟨"HeardTunes$Reader", "readSpot", "(LHeardTunes$Town;I)V"⟩, 6) := ⟨⟨by decide +kernel, by decide +kernel⟩, List.mem_of_getElem? (i := 27) (by decide +kernel), List.mem_of_getElem? (i := 612) (by decide +kernel), List.mem_of_getElem? (i := 613) (by decide +kernel)⟩
theorem lw_p17 : lw_okq (⟨"HeardTunes$Reader", "readEnd", "()V"⟩, 6) := ⟨⟨by decide +kernel, by decide +kernel⟩, List.mem_of_getElem? (i := 27) (by decide +kernel), List.mem_of_getElem? (i := 625) (by decide +kernel), List.mem_of_getElem? (i := 626) (by decide +kernel)⟩
theorem lw_p18 : lw_okq (⟨"HeardTunes", "isCrowd", "(I)Z"⟩, 15) := ⟨⟨by decide +kernel, by decide +kernel⟩, List.mem_of_getElem? (i := 19) (by decide +kernel), List.mem_of_getElem? (i := 688) (by decide +kernel), List.mem_of_getElem? (i := 689) (by decide +kernel)⟩
theorem lw_p19 : lw_okq (⟨"HeardTunes", "isTune", "(I)Z"⟩, 15) := ⟨⟨by decide +kernel, by decide +kernel⟩, List.mem_of_getElem? (i := 19) (by decide +kernel), List.mem_of_getElem? (i := 697) (by decide +kernel), List.mem_of_getElem? (i := 698) (by decide +kernel)⟩
theorem lw_p20 : lw_okq (⟨"HeardTunes$Scene", "hears", "(II)Z"⟩, 6) := ⟨⟨by decide +kernel, by decide +kernel⟩, List.mem_of_getElem? (i := 189) (by decide +kernel), List.mem_of_getElem? (i := 705) (by decide +kernel), List.mem_of_getElem? (i := 706) (by decide +kernel)⟩
theorem lw_p21 : lw_okq (⟨"HeardTunes$Ground", "findWays", "(I)V"⟩, 9) := ⟨⟨by decide +kernel, by decide +kernel⟩, List.mem_of_getElem? (i := 149) (by decide +kernel), List.mem_of_getElem? (i := 721) (by decide +kernel), List.mem_of_getElem? (i := 722) (by decide +kernel)⟩
theorem lw_p22 : lw_okq (⟨"HeardTunes", "isTuneOrNone", "(I)Z"⟩, 15) := ⟨⟨by decide +kernel, by decide +kernel⟩, List.mem_of_getElem? (i := 19) (by decide +kernel), List.mem_of_getElem? (i := 734) (by decide +kernel), List.mem_of_getElem? (i := 735) (by decide +kernel)⟩
theorem lw_p23 : lw_okq (⟨"HeardTunes$Scene", "lead", "(I)V"⟩, 6) := ⟨⟨by decide +kernel, by decide +kernel⟩, List.mem_of_getElem? (i := 189) (by decide +kernel), List.mem_of_getElem? (i := 755) (by decide +kernel), List.mem_of_getElem? (i := 756) (by decide +kernel)⟩
theorem lw_p24 : lw_okq (⟨"HeardTunes", "draw", "(I)I"⟩, 15) := ⟨⟨by decide +kernel, by decide +kernel⟩, List.mem_of_getElem? (i := 19) (by decide +kernel), List.mem_of_getElem? (i := 783) (by decide +kernel), List.mem_of_getElem? (i := 784) (by decide +kernel)⟩
theorem lw_p25 : lw_okq (⟨"HeardTunes", "tryPlan", "(I)I"⟩, 15) := ⟨⟨by decide +kernel, by decide +kernel⟩, List.mem_of_getElem? (i := 19) (by decide +kernel), List.mem_of_getElem? (i := 807) (by decide +kernel), List.mem_of_getElem? (i := 808) (by decide +kernel)⟩
theorem lw_p26 : lw_okq (⟨"HeardTunes$Soonest", "findGates", "()V"⟩, 10) := ⟨⟨by decide +kernel, by decide +kernel⟩, List.mem_of_getElem? (i := 275) (by decide +kernel), List.mem_of_getElem? (i := 845) (by decide +kernel), List.mem_of_getElem? (i := 846) (by decide +kernel)⟩
theorem lw_p27 : lw_okq (⟨"HeardTunes$Soonest", "leads", "(II)Z"⟩, 10) := ⟨⟨by decide +kernel, by decide +kernel⟩, List.mem_of_getElem? (i := 275) (by decide +kernel), List.mem_of_getElem? (i := 851) (by decide +kernel), List.mem_of_getElem? (i := 852) (by decide +kernel)⟩
theorem lw_p28 : lw_okq (⟨"HeardTunes$Soonest", "outlook", "(LHeardTunes$Scene;I)I"⟩, 10) := ⟨⟨by decide +kernel, by decide +kernel⟩, List.mem_of_getElem? (i := 275) (by decide +kernel), List.mem_of_getElem? (i := 855) (by decide +kernel), List.mem_of_getElem? (i := 856) (by decide +kernel)⟩
theorem lw_p29 : lw_okq (⟨"HeardTunes$Soonest", "canLeave", "(LHeardTunes$Scene;II)Z"⟩, 10) := ⟨⟨by decide +kernel, by decide +kernel⟩, List.mem_of_getElem? (i := 275) (by decide +kernel), List.mem_of_getElem? (i := 861) (by decide +kernel), List.mem_of_getElem? (i := 862) (by decide +kernel)⟩
theorem lw_p30 : lw_okq (⟨"HeardTunes$Soonest", "stepLeads", "(II)Z"⟩, 10) := ⟨⟨by decide +kernel, by decide +kernel⟩, List.mem_of_getElem? (i := 275) (by decide +kernel), List.mem_of_getElem? (i := 884) (by decide +kernel), List.mem_of_getElem? (i := 885) (by decide +kernel)⟩
theorem lw_p31 : lw_okq (⟨"HeardTunes", "outBehindWall", "(II)I"⟩, 15) := ⟨⟨by decide +kernel, by decide +kernel⟩, List.mem_of_getElem? (i := 19) (by decide +kernel), List.mem_of_getElem? (i := 906) (by decide +kernel), List.mem_of_getElem? (i := 907) (by decide +kernel)⟩
def lw_privs_2 : List (MethodName × Nat) := [(⟨"HeardTunes$Reader", "readSpot", "(LHeardTunes$Town;I)V"⟩, 6), (⟨"HeardTunes$Reader", "readEnd", "()V"⟩, 6), (⟨"HeardTunes", "isCrowd", "(I)Z"⟩, 15), (⟨"HeardTunes", "isTune", "(I)Z"⟩, 15), (⟨"HeardTunes$Scene", "hears", "(II)Z"⟩, 6), (⟨"HeardTunes$Ground", "findWays", "(I)V"⟩, 9), (⟨"HeardTunes", "isTuneOrNone", "(I)Z"⟩, 15), (⟨"HeardTunes$Scene", "lead", "(I)V"⟩, 6), (⟨"HeardTunes", "draw", "(I)I"⟩, 15), (⟨"HeardTunes", "tryPlan", "(I)I"⟩, 15), (⟨"HeardTunes$Soonest", "findGates", "()V"⟩, 10), (⟨"HeardTunes$Soonest", "leads", "(II)Z"⟩, 10), (⟨"HeardTunes$Soonest", "outlook", "(LHeardTunes$Scene;I)I"⟩, 10), (⟨"HeardTunes$Soonest", "canLeave", "(LHeardTunes$Scene;II)Z"⟩, 10), (⟨"HeardTunes$Soonest", "stepLeads", "(II)Z"⟩, 10), (⟨"HeardTunes", "outBehindWall", "(II)I"⟩, 15)]
theorem lw_r2 : ∀ q ∈ lw_privs_2, lw_okq q := List.forall_mem_cons.mpr ⟨lw_p16, List.forall_mem_cons.mpr ⟨lw_p17, List.forall_mem_cons.mpr ⟨lw_p18, List.forall_mem_cons.mpr ⟨lw_p19, List.forall_mem_cons.mpr ⟨lw_p20, List.forall_mem_cons.mpr ⟨lw_p21, List.forall_mem_cons.mpr ⟨lw_p22, List.forall_mem_cons.mpr ⟨lw_p23, List.forall_mem_cons.mpr ⟨lw_p24, List.forall_mem_cons.mpr ⟨lw_p25, List.forall_mem_cons.mpr ⟨lw_p26, List.forall_mem_cons.mpr ⟨lw_p27, List.forall_mem_cons.mpr ⟨lw_p28, List.forall_mem_cons.mpr ⟨lw_p29, List.forall_mem_cons.mpr ⟨lw_p30, List.forall_mem_cons.mpr ⟨lw_p31, fun _ h => absurd h List.not_mem_nil⟩⟩⟩⟩⟩⟩⟩⟩⟩⟩⟩⟩⟩⟩⟩⟩
theorem lw_p32 : lw_okq (⟨"HeardTunes$Fitting", "countFree", "()V"⟩, 12) := ⟨⟨by decide +kernel, by decide +kernel⟩, List.mem_of_getElem? (i := 316) (by decide +kernel), List.mem_of_getElem? (i := 937) (by decide +kernel), List.mem_of_getElem? (i := 938) (by decide +kernel)⟩
theorem lw_p33 : lw_okq (⟨"HeardTunes$Fitting", "countFreeFrom", "(LHeardTunes$Scene;I)I"⟩, 12) := ⟨⟨by decide +kernel, by decide +kernel⟩, List.mem_of_getElem? (i := 316) (by decide +kernel), List.mem_of_getElem? (i := 941) (by decide +kernel), List.mem_of_getElem? (i := 942) (by decide +kernel)⟩
theorem lw_p34 : lw_okq (⟨"HeardTunes$Fitting", "freeFrom", "(II)I"⟩, 12) := ⟨⟨by decide +kernel, by decide +kernel⟩, List.mem_of_getElem? (i := 316) (by decide +kernel), List.mem_of_getElem? (i := 945) (by decide +kernel), List.mem_of_getElem? (i := 946) (by decide +kernel)⟩
theorem lw_p35 : lw_okq (⟨"HeardTunes$Fitting", "fit", "(I)I"⟩, 12) := ⟨⟨by decide +kernel, by decide +kernel⟩, List.mem_of_getElem? (i := 316) (by decide +kernel), List.mem_of_getElem? (i := 952) (by decide +kernel), List.mem_of_getElem? (i := 953) (by decide +kernel)⟩
theorem lw_p36 : lw_okq (⟨"HeardTunes$Fitting", "keepFirst", "()V"⟩, 12) := ⟨⟨by decide +kernel, by decide +kernel⟩, List.mem_of_getElem? (i := 316) (by decide +kernel), List.mem_of_getElem? (i := 956) (by decide +kernel), List.mem_of_getElem? (i := 957) (by decide +kernel)⟩
theorem lw_p37 : lw_okq (⟨"HeardTunes$Fitting", "fitSteps", "(I)I"⟩, 12) := ⟨⟨by decide +kernel, by decide +kernel⟩, List.mem_of_getElem? (i := 316) (by decide +kernel), List.mem_of_getElem? (i := 963) (by decide +kernel), List.mem_of_getElem? (i := 964) (by decide +kernel)⟩
theorem lw_p38 : lw_okq (⟨"HeardTunesModel", "clear", "()V"⟩, 58) := ⟨⟨by decide +kernel, by decide +kernel⟩, List.mem_of_getElem? (i := 1011) (by decide +kernel), List.mem_of_getElem? (i := 1207) (by decide +kernel), List.mem_of_getElem? (i := 1208) (by decide +kernel)⟩
theorem lw_p39 : lw_okq (⟨"HeardTunesModel", "here", "()I"⟩, 58) := ⟨⟨by decide +kernel, by decide +kernel⟩, List.mem_of_getElem? (i := 1011) (by decide +kernel), List.mem_of_getElem? (i := 1211) (by decide +kernel), List.mem_of_getElem? (i := 1212) (by decide +kernel)⟩
theorem lw_p40 : lw_okq (⟨"HeardTunesModel", "takeClause", "()I"⟩, 58) := ⟨⟨by decide +kernel, by decide +kernel⟩, List.mem_of_getElem? (i := 1011) (by decide +kernel), List.mem_of_getElem? (i := 1215) (by decide +kernel), List.mem_of_getElem? (i := 1216) (by decide +kernel)⟩
theorem lw_p41 : lw_okq (⟨"HeardTunesModel", "readWord", "()V"⟩, 58) := ⟨⟨by decide +kernel, by decide +kernel⟩, List.mem_of_getElem? (i := 1011) (by decide +kernel), List.mem_of_getElem? (i := 1219) (by decide +kernel), List.mem_of_getElem? (i := 1220) (by decide +kernel)⟩
theorem lw_p42 : lw_okq (⟨"HeardTunesModel", "kindOfWord", "()I"⟩, 58) := ⟨⟨by decide +kernel, by decide +kernel⟩, List.mem_of_getElem? (i := 1011) (by decide +kernel), List.mem_of_getElem? (i := 1229) (by decide +kernel), List.mem_of_getElem? (i := 1230) (by decide +kernel)⟩
theorem lw_p43 : lw_okq (⟨"HeardTunesModel", "fails", "(II)I"⟩, 58) := ⟨⟨by decide +kernel, by decide +kernel⟩, List.mem_of_getElem? (i := 1011) (by decide +kernel), List.mem_of_getElem? (i := 1239) (by decide +kernel), List.mem_of_getElem? (i := 1240) (by decide +kernel)⟩
theorem lw_p44 : lw_okq (⟨"HeardTunesModel", "takeTown", "()I"⟩, 58) := ⟨⟨by decide +kernel, by decide +kernel⟩, List.mem_of_getElem? (i := 1011) (by decide +kernel), List.mem_of_getElem? (i := 1243) (by decide +kernel), List.mem_of_getElem? (i := 1244) (by decide +kernel)⟩
theorem lw_p45 : lw_okq (⟨"HeardTunesModel", "takeNumber", "(II)I"⟩, 58) := ⟨⟨by decide +kernel, by decide +kernel⟩, List.mem_of_getElem? (i := 1011) (by decide +kernel), List.mem_of_getElem? (i := 1247) (by decide +kernel), List.mem_of_getElem? (i := 1248) (by decide +kernel)⟩
theorem lw_p46 : lw_okq (⟨"HeardTunesModel", "takeMark", "(I)I"⟩, 58) := ⟨⟨by decide +kernel, by decide +kernel⟩, List.mem_of_getElem? (i := 1011) (by decide +kernel), List.mem_of_getElem? (i := 1253) (by decide +kernel), List.mem_of_getElem? (i := 1254) (by decide +kernel)⟩
theorem lw_p47 : lw_okq (⟨"HeardTunesModel", "takeCell", "()I"⟩, 58) := ⟨⟨by decide +kernel, by decide +kernel⟩, List.mem_of_getElem? (i := 1011) (by decide +kernel), List.mem_of_getElem? (i := 1257) (by decide +kernel), List.mem_of_getElem? (i := 1258) (by decide +kernel)⟩
def lw_privs_3 : List (MethodName × Nat) := [(⟨"HeardTunes$Fitting", "countFree", "()V"⟩, 12), (⟨"HeardTunes$Fitting", "countFreeFrom", "(LHeardTunes$Scene;I)I"⟩, 12), (⟨"HeardTunes$Fitting", "freeFrom", "(II)I"⟩, 12), (⟨"HeardTunes$Fitting", "fit", "(I)I"⟩, 12), (⟨"HeardTunes$Fitting", "keepFirst", "()V"⟩, 12), (⟨"HeardTunes$Fitting", "fitSteps", "(I)I"⟩, 12), (⟨"HeardTunesModel", "clear", "()V"⟩, 58), (⟨"HeardTunesModel", "here", "()I"⟩, 58), (⟨"HeardTunesModel", "takeClause", "()I"⟩, 58), (⟨"HeardTunesModel", "readWord", "()V"⟩, 58), (⟨"HeardTunesModel", "kindOfWord", "()I"⟩, 58), (⟨"HeardTunesModel", "fails", "(II)I"⟩, 58), (⟨"HeardTunesModel", "takeTown", "()I"⟩, 58), (⟨"HeardTunesModel", "takeNumber", "(II)I"⟩, 58), (⟨"HeardTunesModel", "takeMark", "(I)I"⟩, 58), (⟨"HeardTunesModel", "takeCell", "()I"⟩, 58)]
theorem lw_r3 : ∀ q ∈ lw_privs_3, lw_okq q := List.forall_mem_cons.mpr ⟨lw_p32, List.forall_mem_cons.mpr ⟨lw_p33, List.forall_mem_cons.mpr ⟨lw_p34, List.forall_mem_cons.mpr ⟨lw_p35, List.forall_mem_cons.mpr ⟨lw_p36, List.forall_mem_cons.mpr ⟨lw_p37, List.forall_mem_cons.mpr ⟨lw_p38, List.forall_mem_cons.mpr ⟨lw_p39, List.forall_mem_cons.mpr ⟨lw_p40, List.forall_mem_cons.mpr ⟨lw_p41, List.forall_mem_cons.mpr ⟨lw_p42, List.forall_mem_cons.mpr ⟨lw_p43, List.forall_mem_cons.mpr ⟨lw_p44, List.forall_mem_cons.mpr ⟨lw_p45, List.forall_mem_cons.mpr ⟨lw_p46, List.forall_mem_cons.mpr ⟨lw_p47, fun _ h => absurd h List.not_mem_nil⟩⟩⟩⟩⟩⟩⟩⟩⟩⟩⟩⟩⟩⟩⟩⟩
theorem lw_p48 : lw_okq (⟨"HeardTunesModel", "isTakenUp", "(I)Z"⟩, 58) := ⟨⟨by decide +kernel, by decide +kernel⟩, List.mem_of_getElem? (i := 1011) (by decide +kernel), List.mem_of_getElem? (i := 1261) (by decide +kernel), List.mem_of_getElem? (i := 1262) (by decide +kernel)⟩
theorem lw_p49 : lw_okq (⟨"HeardTunesModel", "takeCrowd", "()I"⟩, 58) := ⟨⟨by decide +kernel, by decide +kernel⟩, List.mem_of_getElem? (i := 1011) (by decide +kernel), List.mem_of_getElem? (i := 1265) (by decide +kernel), List.mem_of_getElem? (i := 1266) (by decide +kernel)⟩
theorem lw_p50 : lw_okq (⟨"HeardTunesModel", "into", "([IIII)I"⟩, 58) := ⟨⟨by decide +kernel, by decide +kernel⟩, List.mem_of_getElem? (i := 1011) (by decide +kernel), List.mem_of_getElem? (i := 1269) (by decide +kernel), List.mem_of_getElem? (i := 1270) (by decide +kernel)⟩
theorem lw_p51 : lw_okq (⟨"HeardTunesModel", "takeTune", "()I"⟩, 58) := ⟨⟨by decide +kernel, by decide +kernel⟩, List.mem_of_getElem? (i := 1011) (by decide +kernel), List.mem_of_getElem? (i := 1273) (by decide +kernel), List.mem_of_getElem? (i := 1274) (by decide +kernel)⟩
theorem lw_p52 : lw_okq (⟨"HeardTunesModel", "takePiper", "()I"⟩, 58) := ⟨⟨by decide +kernel, by decide +kernel⟩, List.mem_of_getElem? (i := 1011) (by decide +kernel), List.mem_of_getElem? (i := 1277) (by decide +kernel), List.mem_of_getElem? (i := 1278) (by decide +kernel)⟩
theorem lw_p53 : lw_okq (⟨"HeardTunesModel", "takePay", "()I"⟩, 58) := ⟨⟨by decide +kernel, by decide +kernel⟩, List.mem_of_getElem? (i := 1011) (by decide +kernel), List.mem_of_getElem? (i := 1281) (by decide +kernel), List.mem_of_getElem? (i := 1282) (by decide +kernel)⟩
theorem lw_p54 : lw_okq (⟨"HeardTunesModel", "firstFree", "()I"⟩, 58) := ⟨⟨by decide +kernel, by decide +kernel⟩, List.mem_of_getElem? (i := 1011) (by decide +kernel), List.mem_of_getElem? (i := 1285) (by decide +kernel), List.mem_of_getElem? (i := 1286) (by decide +kernel)⟩
theorem lw_p55 : lw_okq (⟨"HeardTunesModel", "findFar", "()V"⟩, 58) := ⟨⟨by decide +kernel, by decide +kernel⟩, List.mem_of_getElem? (i := 1011) (by decide +kernel), List.mem_of_getElem? (i := 1289) (by decide +kernel), List.mem_of_getElem? (i := 1290) (by decide +kernel)⟩
theorem lw_p56 : lw_okq (⟨"HeardTunesModel", "findFarTo", "(I)V"⟩, 58) := ⟨⟨by decide +kernel, by decide +kernel⟩, List.mem_of_getElem? (i := 1011) (by decide +kernel), List.mem_of_getElem? (i := 1293) (by decide +kernel), List.mem_of_getElem? (i := 1294) (by decide +kernel)⟩
theorem lw_p57 : lw_okq (⟨"HeardTunesModel", "beside", "(II)I"⟩, 58) := ⟨⟨by decide +kernel, by decide +kernel⟩, List.mem_of_getElem? (i := 1011) (by decide +kernel), List.mem_of_getElem? (i := 1297) (by decide +kernel), List.mem_of_getElem? (i := 1298) (by decide +kernel)⟩
theorem lw_p58 : lw_okq (⟨"HeardTunesModel", "isCell", "(II)Z"⟩, 58) := ⟨⟨by decide +kernel, by decide +kernel⟩, List.mem_of_getElem? (i := 1011) (by decide +kernel), List.mem_of_getElem? (i := 1301) (by decide +kernel), List.mem_of_getElem? (i := 1302) (by decide +kernel)⟩
theorem lw_p59 : lw_okq (⟨"HeardTunesModel", "told10", "(I)I"⟩, 58) := ⟨⟨by decide +kernel, by decide +kernel⟩, List.mem_of_getElem? (i := 1011) (by decide +kernel), List.mem_of_getElem? (i := 1318) (by decide +kernel), List.mem_of_getElem? (i := 1319) (by decide +kernel)⟩
theorem lw_p60 : lw_okq (⟨"HeardTunesModel", "headsBy", "(II)I"⟩, 58) := ⟨⟨by decide +kernel, by decide +kernel⟩, List.mem_of_getElem? (i := 1011) (by decide +kernel), List.mem_of_getElem? (i := 1322) (by decide +kernel), List.mem_of_getElem? (i := 1323) (by decide +kernel)⟩
theorem lw_p61 : lw_okq (⟨"HeardTunesModel", "followers", "(I)I"⟩, 58) := ⟨⟨by decide +kernel, by decide +kernel⟩, List.mem_of_getElem? (i := 1011) (by decide +kernel), List.mem_of_getElem? (i := 1326) (by decide +kernel), List.mem_of_getElem? (i := 1327) (by decide +kernel)⟩
theorem lw_p62 : lw_okq (⟨"HeardTunesModel", "allHeads", "()I"⟩, 58) := ⟨⟨by decide +kernel, by decide +kernel⟩, List.mem_of_getElem? (i := 1011) (by decide +kernel), List.mem_of_getElem? (i := 1330) (by decide +kernel), List.mem_of_getElem? (i := 1331) (by decide +kernel)⟩
theorem lw_p63 : lw_okq (⟨"HeardTunesModel", "worth", "()I"⟩, 58) := ⟨⟨by decide +kernel, by decide +kernel⟩, List.mem_of_getElem? (i := 1011) (by decide +kernel), List.mem_of_getElem? (i := 1334) (by decide +kernel), List.mem_of_getElem? (i := 1335) (by decide +kernel)⟩
def lw_privs_4 : List (MethodName × Nat) := [(⟨"HeardTunesModel", "isTakenUp", "(I)Z"⟩, 58), (⟨"HeardTunesModel", "takeCrowd", "()I"⟩, 58), (⟨"HeardTunesModel", "into", "([IIII)I"⟩, 58), (⟨"HeardTunesModel", "takeTune", "()I"⟩, 58), (⟨"HeardTunesModel", "takePiper", "()I"⟩, 58), (⟨"HeardTunesModel", "takePay", "()I"⟩, 58), (⟨"HeardTunesModel", "firstFree", "()I"⟩, 58), (⟨"HeardTunesModel", "findFar", "()V"⟩, 58), (⟨"HeardTunesModel", "findFarTo", "(I)V"⟩, 58), (⟨"HeardTunesModel", "beside", "(II)I"⟩, 58), (⟨"HeardTunesModel", "isCell", "(II)Z"⟩, 58), (⟨"HeardTunesModel", "told10", "(I)I"⟩, 58), (⟨"HeardTunesModel", "headsBy", "(II)I"⟩, 58), (⟨"HeardTunesModel", "followers", "(I)I"⟩, 58), (⟨"HeardTunesModel", "allHeads", "()I"⟩, 58), (⟨"HeardTunesModel", "worth", "()I"⟩, 58)]
theorem lw_r4 : ∀ q ∈ lw_privs_4, lw_okq q := List.forall_mem_cons.mpr ⟨lw_p48, List.forall_mem_cons.mpr ⟨lw_p49, List.forall_mem_cons.mpr ⟨lw_p50, List.forall_mem_cons.mpr ⟨lw_p51, List.forall_mem_cons.mpr ⟨lw_p52, List.forall_mem_cons.mpr ⟨lw_p53, List.forall_mem_cons.mpr ⟨lw_p54, List.forall_mem_cons.mpr ⟨lw_p55, List.forall_mem_cons.mpr ⟨lw_p56, List.forall_mem_cons.mpr ⟨lw_p57, List.forall_mem_cons.mpr ⟨lw_p58, List.forall_mem_cons.mpr ⟨lw_p59, List.forall_mem_cons.mpr ⟨lw_p60, List.forall_mem_cons.mpr ⟨lw_p61, List.forall_mem_cons.mpr ⟨lw_p62, List.forall_mem_cons.mpr ⟨lw_p63, fun _ h => absurd h List.not_mem_nil⟩⟩⟩⟩⟩⟩⟩⟩⟩⟩⟩⟩⟩⟩⟩⟩
theorem lw_p64 : lw_okq (⟨"HeardTunesModel", "isCrowd", "(I)Z"⟩, 58) := ⟨⟨by decide +kernel, by decide +kernel⟩, List.mem_of_getElem? (i := 1011) (by decide +kernel), List.mem_of_getElem? (i := 1346) (by decide +kernel), List.mem_of_getElem? (i := 1347) (by decide +kernel)⟩
theorem lw_p65 : lw_okq (⟨"HeardTunesModel", "isTune", "(I)Z"⟩, 58) := ⟨⟨by decide +kernel, by decide +kernel⟩, List.mem_of_getElem? (i := 1011) (by decide +kernel), List.mem_of_getElem? (i := 1354) (by decide +kernel), List.mem_of_getElem? (i := 1355) (by decide +kernel)⟩
theorem lw_p66 : lw_okq (⟨"HeardTunesModel", "hears", "(II)Z"⟩, 58) := ⟨⟨by decide +kernel, by decide +kernel⟩, List.mem_of_getElem? (i := 1011) (by decide +kernel), List.mem_of_getElem? (i := 1358) (by decide +kernel), List.mem_of_getElem? (i := 1359) (by decide +kernel)⟩
theorem lw_p67 : lw_okq (⟨"HeardTunesModel", "isHere", "(I)Z"⟩, 58) := ⟨⟨by decide +kernel, by decide +kernel⟩, List.mem_of_getElem? (i := 1011) (by decide +kernel), List.mem_of_getElem? (i := 1362) (by decide +kernel), List.mem_of_getElem? (i := 1363) (by decide +kernel)⟩
theorem lw_p68 : lw_okq (⟨"HeardTunesModel", "minuteBy", "(II)Z"⟩, 58) := ⟨⟨by decide +kernel, by decide +kernel⟩, List.mem_of_getElem? (i := 1011) (by decide +kernel), List.mem_of_getElem? (i := 1374) (by decide +kernel), List.mem_of_getElem? (i := 1375) (by decide +kernel)⟩
theorem lw_p69 : lw_okq (⟨"HeardTunesModel", "stepTo", "(I)I"⟩, 58) := ⟨⟨by decide +kernel, by decide +kernel⟩, List.mem_of_getElem? (i := 1011) (by decide +kernel), List.mem_of_getElem? (i := 1378) (by decide +kernel), List.mem_of_getElem? (i := 1379) (by decide +kernel)⟩
theorem lw_p70 : lw_okq (⟨"HeardTunesModel", "walkOn", "(I)V"⟩, 58) := ⟨⟨by decide +kernel, by decide +kernel⟩, List.mem_of_getElem? (i := 1011) (by decide +kernel), List.mem_of_getElem? (i := 1382) (by decide +kernel), List.mem_of_getElem? (i := 1383) (by decide +kernel)⟩
theorem lw_p71 : lw_okq (⟨"HeardTunesModel", "stepOn", "(I)V"⟩, 58) := ⟨⟨by decide +kernel, by decide +kernel⟩, List.mem_of_getElem? (i := 1011) (by decide +kernel), List.mem_of_getElem? (i := 1386) (by decide +kernel), List.mem_of_getElem? (i := 1387) (by decide +kernel)⟩
theorem lw_p72 : lw_okq (⟨"HeardTunesModel", "isSomebody", "(I)Z"⟩, 58) := ⟨⟨by decide +kernel, by decide +kernel⟩, List.mem_of_getElem? (i := 1011) (by decide +kernel), List.mem_of_getElem? (i := 1395) (by decide +kernel), List.mem_of_getElem? (i := 1396) (by decide +kernel)⟩
theorem lw_p73 : lw_okq (⟨"HeardTunesModel", "draw", "(I)I"⟩, 58) := ⟨⟨by decide +kernel, by decide +kernel⟩, List.mem_of_getElem? (i := 1011) (by decide +kernel), List.mem_of_getElem? (i := 1404) (by decide +kernel), List.mem_of_getElem? (i := 1405) (by decide +kernel)⟩
theorem lw_p74 : lw_okq (⟨"HeardTunesModel", "save", "()V"⟩, 58) := ⟨⟨by decide +kernel, by decide +kernel⟩, List.mem_of_getElem? (i := 1011) (by decide +kernel), List.mem_of_getElem? (i := 1425) (by decide +kernel), List.mem_of_getElem? (i := 1426) (by decide +kernel)⟩
theorem lw_p75 : lw_okq (⟨"HeardTunesModel", "follow", "(I)I"⟩, 58) := ⟨⟨by decide +kernel, by decide +kernel⟩, List.mem_of_getElem? (i := 1011) (by decide +kernel), List.mem_of_getElem? (i := 1429) (by decide +kernel), List.mem_of_getElem? (i := 1430) (by decide +kernel)⟩
theorem lw_p76 : lw_okq (⟨"HeardTunesModel", "putBack", "()V"⟩, 58) := ⟨⟨by decide +kernel, by decide +kernel⟩, List.mem_of_getElem? (i := 1011) (by decide +kernel), List.mem_of_getElem? (i := 1433) (by decide +kernel), List.mem_of_getElem? (i := 1434) (by decide +kernel)⟩
theorem lw_p77 : lw_okq (⟨"HeardTunesModel", "leadsOut", "(IIII)Z"⟩, 58) := ⟨⟨by decide +kernel, by decide +kernel⟩, List.mem_of_getElem? (i := 1011) (by decide +kernel), List.mem_of_getElem? (i := 1455) (by decide +kernel), List.mem_of_getElem? (i := 1456) (by decide +kernel)⟩
theorem lw_p78 : lw_okq (⟨"HeardTunesModel", "isLedOut", "(I)Z"⟩, 58) := ⟨⟨by decide +kernel, by decide +kernel⟩, List.mem_of_getElem? (i := 1011) (by decide +kernel), List.mem_of_getElem? (i := 1462) (by decide +kernel), List.mem_of_getElem? (i := 1463) (by decide +kernel)⟩
theorem lw_p79 : lw_okq (⟨"HeardTunesModel", "isWalk", "(III)Z"⟩, 58) := ⟨⟨by decide +kernel, by decide +kernel⟩, List.mem_of_getElem? (i := 1011) (by decide +kernel), List.mem_of_getElem? (i := 1483) (by decide +kernel), List.mem_of_getElem? (i := 1484) (by decide +kernel)⟩
def lw_privs_5 : List (MethodName × Nat) := [(⟨"HeardTunesModel", "isCrowd", "(I)Z"⟩, 58), (⟨"HeardTunesModel", "isTune", "(I)Z"⟩, 58), (⟨"HeardTunesModel", "hears", "(II)Z"⟩, 58), (⟨"HeardTunesModel", "isHere", "(I)Z"⟩, 58), (⟨"HeardTunesModel", "minuteBy", "(II)Z"⟩, 58), (⟨"HeardTunesModel", "stepTo", "(I)I"⟩, 58), (⟨"HeardTunesModel", "walkOn", "(I)V"⟩, 58), (⟨"HeardTunesModel", "stepOn", "(I)V"⟩, 58), (⟨"HeardTunesModel", "isSomebody", "(I)Z"⟩, 58), (⟨"HeardTunesModel", "draw", "(I)I"⟩, 58), (⟨"HeardTunesModel", "save", "()V"⟩, 58), (⟨"HeardTunesModel", "follow", "(I)I"⟩, 58), (⟨"HeardTunesModel", "putBack", "()V"⟩, 58), (⟨"HeardTunesModel", "leadsOut", "(IIII)Z"⟩, 58), (⟨"HeardTunesModel", "isLedOut", "(I)Z"⟩, 58), (⟨"HeardTunesModel", "isWalk", "(III)Z"⟩, 58)]
theorem lw_r5 : ∀ q ∈ lw_privs_5, lw_okq q := List.forall_mem_cons.mpr ⟨lw_p64, List.forall_mem_cons.mpr ⟨lw_p65, List.forall_mem_cons.mpr ⟨lw_p66, List.forall_mem_cons.mpr ⟨lw_p67, List.forall_mem_cons.mpr ⟨lw_p68, List.forall_mem_cons.mpr ⟨lw_p69, List.forall_mem_cons.mpr ⟨lw_p70, List.forall_mem_cons.mpr ⟨lw_p71, List.forall_mem_cons.mpr ⟨lw_p72, List.forall_mem_cons.mpr ⟨lw_p73, List.forall_mem_cons.mpr ⟨lw_p74, List.forall_mem_cons.mpr ⟨lw_p75, List.forall_mem_cons.mpr ⟨lw_p76, List.forall_mem_cons.mpr ⟨lw_p77, List.forall_mem_cons.mpr ⟨lw_p78, List.forall_mem_cons.mpr ⟨lw_p79, fun _ h => absurd h List.not_mem_nil⟩⟩⟩⟩⟩⟩⟩⟩⟩⟩⟩⟩⟩⟩⟩⟩
theorem lw_p80 : lw_okq (⟨"HeardTunesModel", "isAsSeen", "(I)Z"⟩, 58) := ⟨⟨by decide +kernel, by decide +kernel⟩, List.mem_of_getElem? (i := 1011) (by decide +kernel), List.mem_of_getElem? (i := 1487) (by decide +kernel), List.mem_of_getElem? (i := 1488) (by decide +kernel)⟩
def lw_privs_6 : List (MethodName × Nat) := [(⟨"HeardTunesModel", "isAsSeen", "(I)Z"⟩, 58)]
theorem lw_r6 : ∀ q ∈ lw_privs_6, lw_okq q := List.forall_mem_cons.mpr ⟨lw_p80, fun _ h => absurd h List.not_mem_nil⟩
def lw_privs : List (MethodName × Nat) := lw_privs_1 ++ (lw_privs_2 ++ (lw_privs_3 ++ (lw_privs_4 ++ (lw_privs_5 ++ (lw_privs_6)))))
def lw_tbl : List Cond := k2_sels lw_privs ++ tables_1
theorem lw_privs_ok : ∀ q ∈ lw_privs, lw_okq q := by
  show ∀ q ∈ lw_privs_1 ++ (lw_privs_2 ++ (lw_privs_3 ++ (lw_privs_4 ++ (lw_privs_5 ++ (lw_privs_6))))), lw_okq q
  exact List.forall_mem_append.mpr ⟨lw_r1, List.forall_mem_append.mpr ⟨lw_r2, List.forall_mem_append.mpr ⟨lw_r3, List.forall_mem_append.mpr ⟨lw_r4, List.forall_mem_append.mpr ⟨lw_r5, lw_r6⟩⟩⟩⟩⟩
/-! ===== BEGIN words of one list among another's, by their places ===== -/
theorem goodIn_r {big : List Cond} (ws : List Cond) (ps : List Nat) (hp : ws = ps.filterMap (fun i => big[i]?)) (h : ws.all goodWord = true) : GoodIn big ws := by
  intro w hw
  have h1 := List.all_eq_true.mp h w hw
  rw [hp] at hw
  obtain ⟨i, -, hi⟩ := List.mem_filterMap.mp hw
  have hm : w ∈ big := by first | exact List.mem_of_getElem? hi | exact List.getElem?_mem hi
  exact ⟨hm, good_of_word h1⟩
theorem goodIn_app {big a b : List Cond} (ha : GoodIn big a) (hb : GoodIn big b) : GoodIn big (a ++ b) := fun w h => (List.mem_append.mp h).elim (ha w) (hb w)
theorem goodIn_ca {big a b : List Cond} {c : Cond} (ha : GoodIn big (c :: a)) (hb : GoodIn big b) : GoodIn big (c :: (a ++ b)) := fun w h => (List.mem_cons.mp h).elim (fun e => ha w (List.mem_cons.mpr (Or.inl e))) (fun h => (List.mem_append.mp h).elim (fun h => ha w (List.mem_cons.mpr (Or.inr h))) (hb w))
theorem goodIn_sub {big ws : List Cond} (hm : ∀ w ∈ ws, w ∈ big) (h : ws.all goodWord = true) : GoodIn big ws := fun w hw => ⟨hm w hw, good_of_word (List.all_eq_true.mp h w hw)⟩
/-! ===== END ===== -/

/-! ===== BEGIN printed: names, fields, word lists, decode rows ===== -/
def RX0 : String := "HeardTunes$Fitting"
def TX0 : u_T := fun k => match k with
  | 0 => ("HeardTunes$Fitting", "count", "I", false)
  | 1 => ("HeardTunes$Fitting", "seen", "LHeardTunes$Seen;", true)
  | 2 => ("HeardTunes$Fitting", "ground", "LHeardTunes$Ground;", true)
  | 3 => ("HeardTunes$Fitting", "levels", "[LHeardTunes$Scene;", true)
  | 4 => ("HeardTunes$Fitting", "steps", "[I", true)
  | 5 => ("HeardTunes$Fitting", "first", "[I", true)
  | 6 => ("HeardTunes$Fitting", "free", "[I", true)
  | 7 => ("HeardTunes$Fitting", "memo", "LHeardTunes$Memo;", true)
  | 8 => ("HeardTunes$Fitting", "isFound", "Z", false)
  | 9 => ("HeardTunes$Fitting", "length", "I", false)
  | 10 => ("HeardTunes$Fitting", "latest", "I", false)
  | _ => ("HeardTunes$Fitting", "tune", "I", false)
def tyX0 : Nat → FieldType := fun k => match k with
  | 0 => .int
  | 1 => .object "HeardTunes$Seen"
  | 2 => .object "HeardTunes$Ground"
  | 3 => .array (.object "HeardTunes$Scene")
  | 4 => .array .int
  | 5 => .array .int
  | 6 => .array .int
  | 7 => .object "HeardTunes$Memo"
  | 8 => .boolean
  | 9 => .int
  | 10 => .int
  | _ => .int
abbrev wsX00 : List Cond := u_ws RX0 TX0 12
theorem nmX0 : ∀ a, a < 12 → ∀ b, b < 12 → a ≠ b → (TX0 a).2.1 ≠ (TX0 b).2.1 := by decide +kernel
theorem tyX0_ok : ∀ k, k < 12 → parseFieldDescriptor (TX0 k).2.2.1 = some (tyX0 k) := by decide +kernel
abbrev cX0_init : ByteArray := prog_2_method_1_code
def yX0_init : MethodName := ⟨RX0, "<init>", "(LHeardTunes$Town;LHeardTunes$Ground;LHeardTunes$Seen;LHeardTunes$Memo;)V"⟩
abbrev cX0_stepAt : ByteArray := prog_2_method_2_code
def yX0_stepAt : MethodName := ⟨RX0, "stepAt", "(I)I"⟩
abbrev cX0_search : ByteArray := prog_2_method_3_code
def yX0_search : MethodName := ⟨RX0, "search", "(LHeardTunes$Scene;II)V"⟩
abbrev cX0_countFree : ByteArray := prog_2_method_4_code
def yX0_countFree : MethodName := ⟨RX0, "countFree", "()V"⟩
abbrev cX0_countFreeFrom : ByteArray := prog_2_method_5_code
def yX0_countFreeFrom : MethodName := ⟨RX0, "countFreeFrom", "(LHeardTunes$Scene;I)I"⟩
abbrev cX0_freeFrom : ByteArray := prog_2_method_6_code
def yX0_freeFrom : MethodName := ⟨RX0, "freeFrom", "(II)I"⟩
abbrev cX0_fit : ByteArray := prog_2_method_7_code
def yX0_fit : MethodName := ⟨RX0, "fit", "(I)I"⟩
abbrev cX0_fitSteps : ByteArray := prog_2_method_8_code
def yX0_fitSteps : MethodName := ⟨RX0, "fitSteps", "(I)I"⟩
abbrev cX0_keepFirst : ByteArray := prog_2_method_9_code
def yX0_keepFirst : MethodName := ⟨RX0, "keepFirst", "()V"⟩
def RX1 : String := "HeardTunes$Ground"
def TX1 : u_T := fun k => match k with
  | 0 => ("HeardTunes$Ground", "count", "I", false)
  | 1 => ("HeardTunes$Ground", "whats", "[I", true)
  | 2 => ("HeardTunes$Ground", "width", "I", false)
  | 3 => ("HeardTunes$Ground", "height", "I", false)
  | 4 => ("HeardTunes$Ground", "codes", "[I", true)
  | 5 => ("HeardTunes$Ground", "besides", "[I", true)
  | 6 => ("HeardTunes$Ground", "ways", "[I", true)
  | 7 => ("HeardTunes$Ground", "isFound", "[Z", true)
  | _ => ("HeardTunes$Ground", "queue", "[I", true)
def tyX1 : Nat → FieldType := fun k => match k with
  | 0 => .int
  | 1 => .array .int
  | 2 => .int
  | 3 => .int
  | 4 => .array .int
  | 5 => .array .int
  | 6 => .array .int
  | 7 => .array .boolean
  | _ => .array .int
abbrev wsX10 : List Cond := u_ws RX1 TX1 9
theorem nmX1 : ∀ a, a < 9 → ∀ b, b < 9 → a ≠ b → (TX1 a).2.1 ≠ (TX1 b).2.1 := by decide +kernel
theorem tyX1_ok : ∀ k, k < 9 → parseFieldDescriptor (TX1 k).2.2.1 = some (tyX1 k) := by decide +kernel
abbrev cX1_init : ByteArray := prog_3_method_1_code
def yX1_init : MethodName := ⟨RX1, "<init>", "()V"⟩
abbrev cX1_isCell : ByteArray := prog_3_method_2_code
def yX1_isCell : MethodName := ⟨RX1, "isCell", "(I)Z"⟩
abbrev cX1_lay : ByteArray := prog_3_method_3_code
def yX1_lay : MethodName := ⟨RX1, "lay", "(LHeardTunes$Town;)V"⟩
abbrev cX1_layCell : ByteArray := prog_3_method_4_code
def yX1_layCell : MethodName := ⟨RX1, "layCell", "(II)V"⟩
abbrev cX1_takeWhats : ByteArray := prog_3_method_5_code
def yX1_takeWhats : MethodName := ⟨RX1, "takeWhats", "([I)V"⟩
abbrev cX1_giveWhats : ByteArray := prog_3_method_6_code
def yX1_giveWhats : MethodName := ⟨RX1, "giveWhats", "([I)V"⟩
abbrev cX1_copy : ByteArray := prog_3_method_7_code
def yX1_copy : MethodName := ⟨RX1, "copy", "(LHeardTunes$Ground;)V"⟩
abbrev cX1_put : ByteArray := prog_3_method_8_code
def yX1_put : MethodName := ⟨RX1, "put", "(II)V"⟩
abbrev cX1_forgetWays : ByteArray := prog_3_method_9_code
def yX1_forgetWays : MethodName := ⟨RX1, "forgetWays", "()V"⟩
abbrev cX1_cellAt : ByteArray := prog_3_method_10_code
def yX1_cellAt : MethodName := ⟨RX1, "cellAt", "(II)I"⟩
abbrev cX1_what : ByteArray := prog_3_method_11_code
def yX1_what : MethodName := ⟨RX1, "what", "(I)I"⟩
abbrev cX1_code : ByteArray := prog_3_method_12_code
def yX1_code : MethodName := ⟨RX1, "code", "(I)I"⟩
abbrev cX1_beside : ByteArray := prog_3_method_13_code
def yX1_beside : MethodName := ⟨RX1, "beside", "(II)I"⟩
abbrev cX1_steps : ByteArray := prog_3_method_14_code
def yX1_steps : MethodName := ⟨RX1, "steps", "(II)I"⟩
abbrev cX1_onward : ByteArray := prog_3_method_15_code
def yX1_onward : MethodName := ⟨RX1, "onward", "(II)I"⟩
abbrev cX1_findWays : ByteArray := prog_3_method_16_code
def yX1_findWays : MethodName := ⟨RX1, "findWays", "(I)V"⟩
def RX2 : String := "HeardTunes$Image"
def TX2 : u_T := fun k => match k with
  | 0 => ("HeardTunes$Image", "isKept", "Z", false)
  | 1 => ("HeardTunes$Image", "theSeed", "I", false)
  | 2 => ("HeardTunes$Image", "scene", "LHeardTunes$Scene;", true)
  | _ => ("HeardTunes$Image", "whats", "[I", true)
def tyX2 : Nat → FieldType := fun k => match k with
  | 0 => .boolean
  | 1 => .int
  | 2 => .object "HeardTunes$Scene"
  | _ => .array .int
abbrev wsX20 : List Cond := u_ws RX2 TX2 4
theorem nmX2 : ∀ a, a < 4 → ∀ b, b < 4 → a ≠ b → (TX2 a).2.1 ≠ (TX2 b).2.1 := by decide +kernel
theorem tyX2_ok : ∀ k, k < 4 → parseFieldDescriptor (TX2 k).2.2.1 = some (tyX2 k) := by decide +kernel
abbrev cX2_init : ByteArray := prog_4_method_1_code
def yX2_init : MethodName := ⟨RX2, "<init>", "(LHeardTunes$Town;LHeardTunes$Ground;)V"⟩
abbrev cX2_take : ByteArray := prog_4_method_2_code
def yX2_take : MethodName := ⟨RX2, "take", "(LHeardTunes$Scene;LHeardTunes$Ground;I)V"⟩
abbrev cX2_give : ByteArray := prog_4_method_3_code
def yX2_give : MethodName := ⟨RX2, "give", "(LHeardTunes$Scene;LHeardTunes$Ground;)V"⟩
def RX3 : String := "HeardTunes$Memo"
def TX3 : u_T := fun k => match k with
  | 0 => ("HeardTunes$Memo", "places", "[J", true)
  | 1 => ("HeardTunes$Memo", "goals", "[J", true)
  | _ => ("HeardTunes$Memo", "values", "[I", true)
def tyX3 : Nat → FieldType := fun k => match k with
  | 0 => .array .long
  | 1 => .array .long
  | _ => .array .int
abbrev wsX30 : List Cond := u_ws RX3 TX3 3
theorem nmX3 : ∀ a, a < 3 → ∀ b, b < 3 → a ≠ b → (TX3 a).2.1 ≠ (TX3 b).2.1 := by decide +kernel
theorem tyX3_ok : ∀ k, k < 3 → parseFieldDescriptor (TX3 k).2.2.1 = some (tyX3 k) := by decide +kernel
abbrev cX3_init : ByteArray := prog_5_method_1_code
def yX3_init : MethodName := ⟨RX3, "<init>", "()V"⟩
abbrev cX3_clear : ByteArray := prog_5_method_2_code
def yX3_clear : MethodName := ⟨RX3, "clear", "()V"⟩
abbrev cX3_slot : ByteArray := prog_5_method_3_code
def yX3_slot : MethodName := ⟨RX3, "slot", "(JJ)I"⟩
abbrev cX3_value : ByteArray := prog_5_method_4_code
def yX3_value : MethodName := ⟨RX3, "value", "(JJ)I"⟩
abbrev cX3_put : ByteArray := prog_5_method_5_code
def yX3_put : MethodName := ⟨RX3, "put", "(JJI)V"⟩
def RX4 : String := "HeardTunes$Plan"
def TX4 : u_T := fun k => match k with
  | 0 => ("HeardTunes$Plan", "count", "I", false)
  | 1 => ("HeardTunes$Plan", "steps", "[I", true)
  | _ => ("HeardTunes$Plan", "tunes", "[I", true)
def tyX4 : Nat → FieldType := fun k => match k with
  | 0 => .int
  | 1 => .array .int
  | _ => .array .int
abbrev wsX40 : List Cond := u_ws RX4 TX4 3
theorem nmX4 : ∀ a, a < 3 → ∀ b, b < 3 → a ≠ b → (TX4 a).2.1 ≠ (TX4 b).2.1 := by decide +kernel
theorem tyX4_ok : ∀ k, k < 3 → parseFieldDescriptor (TX4 k).2.2.1 = some (tyX4 k) := by decide +kernel
abbrev cX4_init : ByteArray := prog_6_method_1_code
def yX4_init : MethodName := ⟨RX4, "<init>", "()V"⟩
abbrev cX4_add : ByteArray := prog_6_method_2_code
def yX4_add : MethodName := ⟨RX4, "add", "(II)V"⟩
abbrev cX4_run : ByteArray := prog_6_method_3_code
def yX4_run : MethodName := ⟨RX4, "run", "(LHeardTunes$Scene;I)I"⟩
def RX5 : String := "HeardTunes$Reader"
def TX5 : u_T := fun k => match k with
  | 0 => ("HeardTunes$Reader", "length", "I", false)
  | 1 => ("HeardTunes$Reader", "fault", "I", false)
  | 2 => ("HeardTunes$Reader", "faultAt", "I", false)
  | 3 => ("HeardTunes$Reader", "text", "[I", true)
  | 4 => ("HeardTunes$Reader", "next", "I", false)
  | _ => ("HeardTunes$Reader", "numberAt", "I", false)
def tyX5 : Nat → FieldType := fun k => match k with
  | 0 => .int
  | 1 => .int
  | 2 => .int
  | 3 => .array .int
  | 4 => .int
  | _ => .int
abbrev wsX50 : List Cond := u_ws RX5 TX5 6
theorem nmX5 : ∀ a, a < 6 → ∀ b, b < 6 → a ≠ b → (TX5 a).2.1 ≠ (TX5 b).2.1 := by decide +kernel
theorem tyX5_ok : ∀ k, k < 6 → parseFieldDescriptor (TX5 k).2.2.1 = some (tyX5 k) := by decide +kernel
abbrev cX5_init : ByteArray := prog_7_method_1_code
def yX5_init : MethodName := ⟨RX5, "<init>", "()V"⟩
abbrev cX5_add : ByteArray := prog_7_method_2_code
def yX5_add : MethodName := ⟨RX5, "add", "(I)V"⟩
abbrev cX5_read : ByteArray := prog_7_method_3_code
def yX5_read : MethodName := ⟨RX5, "read", "(LHeardTunes$Town;)Z"⟩
abbrev cX5_blame : ByteArray := prog_7_method_4_code
def yX5_blame : MethodName := ⟨RX5, "blame", "(II)V"⟩
abbrev cX5_readSentence : ByteArray := prog_7_method_5_code
def yX5_readSentence : MethodName := ⟨RX5, "readSentence", "(LHeardTunes$Town;)V"⟩
abbrev cX5_isTooMany : ByteArray := prog_7_method_6_code
def yX5_isTooMany : MethodName := ⟨RX5, "isTooMany", "(LHeardTunes$Town;I)Z"⟩
abbrev cX5_readSize : ByteArray := prog_7_method_7_code
def yX5_readSize : MethodName := ⟨RX5, "readSize", "(LHeardTunes$Town;)V"⟩
abbrev cX5_readSpot : ByteArray := prog_7_method_8_code
def yX5_readSpot : MethodName := ⟨RX5, "readSpot", "(LHeardTunes$Town;I)V"⟩
abbrev cX5_readCrowd : ByteArray := prog_7_method_9_code
def yX5_readCrowd : MethodName := ⟨RX5, "readCrowd", "(LHeardTunes$Town;)V"⟩
abbrev cX5_readTune : ByteArray := prog_7_method_10_code
def yX5_readTune : MethodName := ⟨RX5, "readTune", "(LHeardTunes$Town;)V"⟩
abbrev cX5_readPiper : ByteArray := prog_7_method_11_code
def yX5_readPiper : MethodName := ⟨RX5, "readPiper", "(LHeardTunes$Town;)V"⟩
abbrev cX5_readPay : ByteArray := prog_7_method_12_code
def yX5_readPay : MethodName := ⟨RX5, "readPay", "(LHeardTunes$Town;)V"⟩
abbrev cX5_readCell : ByteArray := prog_7_method_13_code
def yX5_readCell : MethodName := ⟨RX5, "readCell", "(LHeardTunes$Town;)I"⟩
abbrev cX5_blameIfSpot : ByteArray := prog_7_method_14_code
def yX5_blameIfSpot : MethodName := ⟨RX5, "blameIfSpot", "(LHeardTunes$Town;I)V"⟩
abbrev cX5_readNumber : ByteArray := prog_7_method_15_code
def yX5_readNumber : MethodName := ⟨RX5, "readNumber", "(II)I"⟩
abbrev cX5_readEnd : ByteArray := prog_7_method_16_code
def yX5_readEnd : MethodName := ⟨RX5, "readEnd", "()V"⟩
abbrev cX5_readWord : ByteArray := prog_7_method_17_code
def yX5_readWord : MethodName := ⟨RX5, "readWord", "()I"⟩
abbrev cX5_isWord : ByteArray := prog_7_method_18_code
def yX5_isWord : MethodName := ⟨RX5, "isWord", "(ILjava/lang/String;)Z"⟩
abbrev cX5_skipBlanks : ByteArray := prog_7_method_19_code
def yX5_skipBlanks : MethodName := ⟨RX5, "skipBlanks", "()V"⟩
def RX6 : String := "HeardTunes$Scene"
def TX6 : u_T := fun k => match k with
  | 0 => ("HeardTunes$Scene", "piper", "I", false)
  | 1 => ("HeardTunes$Scene", "minutes", "I", false)
  | 2 => ("HeardTunes$Scene", "at", "[I", true)
  | 3 => ("HeardTunes$Scene", "goal", "[I", true)
  | 4 => ("HeardTunes$Scene", "town", "LHeardTunes$Town;", true)
  | _ => ("HeardTunes$Scene", "ground", "LHeardTunes$Ground;", true)
def tyX6 : Nat → FieldType := fun k => match k with
  | 0 => .int
  | 1 => .int
  | 2 => .array .int
  | 3 => .array .int
  | 4 => .object "HeardTunes$Town"
  | _ => .object "HeardTunes$Ground"
abbrev wsX60 : List Cond := u_ws RX6 TX6 6
theorem nmX6 : ∀ a, a < 6 → ∀ b, b < 6 → a ≠ b → (TX6 a).2.1 ≠ (TX6 b).2.1 := by decide +kernel
theorem tyX6_ok : ∀ k, k < 6 → parseFieldDescriptor (TX6 k).2.2.1 = some (tyX6 k) := by decide +kernel
abbrev cX6_init : ByteArray := prog_8_method_1_code
def yX6_init : MethodName := ⟨RX6, "<init>", "(LHeardTunes$Town;LHeardTunes$Ground;)V"⟩
abbrev cX6_begin : ByteArray := prog_8_method_2_code
def yX6_begin : MethodName := ⟨RX6, "begin", "()V"⟩
abbrev cX6_copy : ByteArray := prog_8_method_3_code
def yX6_copy : MethodName := ⟨RX6, "copy", "(LHeardTunes$Scene;)V"⟩
abbrev cX6_may : ByteArray := prog_8_method_4_code
def yX6_may : MethodName := ⟨RX6, "may", "(I)Z"⟩
abbrev cX6_pass : ByteArray := prog_8_method_5_code
def yX6_pass : MethodName := ⟨RX6, "pass", "(II)V"⟩
abbrev cX6_hears : ByteArray := prog_8_method_6_code
def yX6_hears : MethodName := ⟨RX6, "hears", "(II)Z"⟩
abbrev cX6_lead : ByteArray := prog_8_method_7_code
def yX6_lead : MethodName := ⟨RX6, "lead", "(I)V"⟩
abbrev cX6_hearers : ByteArray := prog_8_method_8_code
def yX6_hearers : MethodName := ⟨RX6, "hearers", "(I)I"⟩
abbrev cX6_fate : ByteArray := prog_8_method_9_code
def yX6_fate : MethodName := ⟨RX6, "fate", "(I)I"⟩
abbrev cX6_isHere : ByteArray := prog_8_method_10_code
def yX6_isHere : MethodName := ⟨RX6, "isHere", "(I)Z"⟩
abbrev cX6_isAt : ByteArray := prog_8_method_11_code
def yX6_isAt : MethodName := ⟨RX6, "isAt", "(II)Z"⟩
abbrev cX6_holds : ByteArray := prog_8_method_12_code
def yX6_holds : MethodName := ⟨RX6, "holds", "(I)Z"⟩
abbrev cX6_heads : ByteArray := prog_8_method_13_code
def yX6_heads : MethodName := ⟨RX6, "heads", "(II)I"⟩
abbrev cX6_left : ByteArray := prog_8_method_14_code
def yX6_left : MethodName := ⟨RX6, "left", "()I"⟩
abbrev cX6_worth : ByteArray := prog_8_method_15_code
def yX6_worth : MethodName := ⟨RX6, "worth", "()I"⟩
abbrev cX6_places : ByteArray := prog_8_method_16_code
def yX6_places : MethodName := ⟨RX6, "places", "()J"⟩
abbrev cX6_goals : ByteArray := prog_8_method_17_code
def yX6_goals : MethodName := ⟨RX6, "goals", "()J"⟩
def RX7 : String := "HeardTunes$Seen"
def TX7 : u_T := fun k => match k with
  | 0 => ("HeardTunes$Seen", "count", "I", false)
  | 1 => ("HeardTunes$Seen", "crowds", "[I", true)
  | 2 => ("HeardTunes$Seen", "minutes", "[I", true)
  | _ => ("HeardTunes$Seen", "cells", "[I", true)
def tyX7 : Nat → FieldType := fun k => match k with
  | 0 => .int
  | 1 => .array .int
  | 2 => .array .int
  | _ => .array .int
abbrev wsX70 : List Cond := u_ws RX7 TX7 4
theorem nmX7 : ∀ a, a < 4 → ∀ b, b < 4 → a ≠ b → (TX7 a).2.1 ≠ (TX7 b).2.1 := by decide +kernel
theorem tyX7_ok : ∀ k, k < 4 → parseFieldDescriptor (TX7 k).2.2.1 = some (tyX7 k) := by decide +kernel
abbrev cX7_init : ByteArray := prog_9_method_1_code
def yX7_init : MethodName := ⟨RX7, "<init>", "()V"⟩
abbrev cX7_add : ByteArray := prog_9_method_2_code
def yX7_add : MethodName := ⟨RX7, "add", "(III)V"⟩
abbrev cX7_fits : ByteArray := prog_9_method_3_code
def yX7_fits : MethodName := ⟨RX7, "fits", "(LHeardTunes$Scene;I)Z"⟩
abbrev cX7_latest : ByteArray := prog_9_method_4_code
def yX7_latest : MethodName := ⟨RX7, "latest", "(I)I"⟩
def RX8 : String := "HeardTunes$Soonest"
def TX8 : u_T := fun k => match k with
  | 0 => ("HeardTunes$Soonest", "minutes", "I", false)
  | 1 => ("HeardTunes$Soonest", "town", "LHeardTunes$Town;", true)
  | 2 => ("HeardTunes$Soonest", "ground", "LHeardTunes$Ground;", true)
  | 3 => ("HeardTunes$Soonest", "levels", "[LHeardTunes$Scene;", true)
  | 4 => ("HeardTunes$Soonest", "steps", "[I", true)
  | 5 => ("HeardTunes$Soonest", "toGate", "[I", true)
  | 6 => ("HeardTunes$Soonest", "memo", "LHeardTunes$Memo;", true)
  | 7 => ("HeardTunes$Soonest", "isKnown", "Z", false)
  | 8 => ("HeardTunes$Soonest", "kind", "I", false)
  | _ => ("HeardTunes$Soonest", "tune", "I", false)
def tyX8 : Nat → FieldType := fun k => match k with
  | 0 => .int
  | 1 => .object "HeardTunes$Town"
  | 2 => .object "HeardTunes$Ground"
  | 3 => .array (.object "HeardTunes$Scene")
  | 4 => .array .int
  | 5 => .array .int
  | 6 => .object "HeardTunes$Memo"
  | 7 => .boolean
  | 8 => .int
  | _ => .int
abbrev wsX80 : List Cond := u_ws RX8 TX8 10
theorem nmX8 : ∀ a, a < 10 → ∀ b, b < 10 → a ≠ b → (TX8 a).2.1 ≠ (TX8 b).2.1 := by decide +kernel
theorem tyX8_ok : ∀ k, k < 10 → parseFieldDescriptor (TX8 k).2.2.1 = some (tyX8 k) := by decide +kernel
abbrev cX8_init : ByteArray := prog_10_method_1_code
def yX8_init : MethodName := ⟨RX8, "<init>", "(LHeardTunes$Town;LHeardTunes$Ground;LHeardTunes$Memo;)V"⟩
abbrev cX8_forget : ByteArray := prog_10_method_2_code
def yX8_forget : MethodName := ⟨RX8, "forget", "()V"⟩
abbrev cX8_stepAt : ByteArray := prog_10_method_3_code
def yX8_stepAt : MethodName := ⟨RX8, "stepAt", "(I)I"⟩
abbrev cX8_search : ByteArray := prog_10_method_4_code
def yX8_search : MethodName := ⟨RX8, "search", "(LHeardTunes$Scene;II)V"⟩
abbrev cX8_findGates : ByteArray := prog_10_method_5_code
def yX8_findGates : MethodName := ⟨RX8, "findGates", "()V"⟩
abbrev cX8_leads : ByteArray := prog_10_method_6_code
def yX8_leads : MethodName := ⟨RX8, "leads", "(II)Z"⟩
abbrev cX8_stepLeads : ByteArray := prog_10_method_7_code
def yX8_stepLeads : MethodName := ⟨RX8, "stepLeads", "(II)Z"⟩
abbrev cX8_outlook : ByteArray := prog_10_method_8_code
def yX8_outlook : MethodName := ⟨RX8, "outlook", "(LHeardTunes$Scene;I)I"⟩
abbrev cX8_canLeave : ByteArray := prog_10_method_9_code
def yX8_canLeave : MethodName := ⟨RX8, "canLeave", "(LHeardTunes$Scene;II)Z"⟩
def RX9 : String := "HeardTunes$Town"
def TX9 : u_T := fun k => match k with
  | 0 => ("HeardTunes$Town", "width", "I", false)
  | 1 => ("HeardTunes$Town", "height", "I", false)
  | 2 => ("HeardTunes$Town", "spots", "I", false)
  | 3 => ("HeardTunes$Town", "crowds", "I", false)
  | 4 => ("HeardTunes$Town", "tunes", "I", false)
  | 5 => ("HeardTunes$Town", "piper", "I", false)
  | 6 => ("HeardTunes$Town", "hasPay", "Z", false)
  | 7 => ("HeardTunes$Town", "forOut", "I", false)
  | 8 => ("HeardTunes$Town", "forDrowned", "I", false)
  | 9 => ("HeardTunes$Town", "what", "[I", true)
  | 10 => ("HeardTunes$Town", "kind", "[I", true)
  | 11 => ("HeardTunes$Town", "start", "[I", true)
  | 12 => ("HeardTunes$Town", "heads", "[I", true)
  | 13 => ("HeardTunes$Town", "pace", "[I", true)
  | 14 => ("HeardTunes$Town", "deaf", "[I", true)
  | 15 => ("HeardTunes$Town", "follows", "[I", true)
  | _ => ("HeardTunes$Town", "reach", "[I", true)
def tyX9 : Nat → FieldType := fun k => match k with
  | 0 => .int
  | 1 => .int
  | 2 => .int
  | 3 => .int
  | 4 => .int
  | 5 => .int
  | 6 => .boolean
  | 7 => .int
  | 8 => .int
  | 9 => .array .int
  | 10 => .array .int
  | 11 => .array .int
  | 12 => .array .int
  | 13 => .array .int
  | 14 => .array .int
  | 15 => .array .int
  | _ => .array .int
abbrev wsX90 : List Cond := u_ws RX9 TX9 17
theorem nmX9 : ∀ a, a < 17 → ∀ b, b < 17 → a ≠ b → (TX9 a).2.1 ≠ (TX9 b).2.1 := by decide +kernel
theorem tyX9_ok : ∀ k, k < 17 → parseFieldDescriptor (TX9 k).2.2.1 = some (tyX9 k) := by decide +kernel
abbrev cX9_init : ByteArray := prog_11_method_1_code
def yX9_init : MethodName := ⟨RX9, "<init>", "()V"⟩
abbrev cX9_clear : ByteArray := prog_11_method_2_code
def yX9_clear : MethodName := ⟨RX9, "clear", "()V"⟩
abbrev cX9_followers : ByteArray := prog_11_method_3_code
def yX9_followers : MethodName := ⟨RX9, "followers", "(I)I"⟩
abbrev cX9_isFollower : ByteArray := prog_11_method_4_code
def yX9_isFollower : MethodName := ⟨RX9, "isFollower", "(II)Z"⟩
abbrev cX9_isSpot : ByteArray := prog_11_method_5_code
def yX9_isSpot : MethodName := ⟨RX9, "isSpot", "(I)Z"⟩
abbrev cX9_isTaken : ByteArray := prog_11_method_6_code
def yX9_isTaken : MethodName := ⟨RX9, "isTaken", "(I)Z"⟩
abbrev cX9_addSpot : ByteArray := prog_11_method_7_code
def yX9_addSpot : MethodName := ⟨RX9, "addSpot", "(II)V"⟩
abbrev cX9_addCrowd : ByteArray := prog_11_method_8_code
def yX9_addCrowd : MethodName := ⟨RX9, "addCrowd", "(IIIII)V"⟩
abbrev cX9_addTune : ByteArray := prog_11_method_9_code
def yX9_addTune : MethodName := ⟨RX9, "addTune", "(II)V"⟩
abbrev cX9_placePiperIfUntold : ByteArray := prog_11_method_10_code
def yX9_placePiperIfUntold : MethodName := ⟨RX9, "placePiperIfUntold", "()V"⟩
def RX10 : String := "HeardTunes"
def TX10 : u_T := fun k => match k with
  | 0 => ("HeardTunes", "reader", "LHeardTunes$Reader;", true)
  | 1 => ("HeardTunes", "tale", "LHeardTunes$Town;", true)
  | 2 => ("HeardTunes", "draft", "LHeardTunes$Town;", true)
  | 3 => ("HeardTunes", "ground", "LHeardTunes$Ground;", true)
  | 4 => ("HeardTunes", "walledGround", "LHeardTunes$Ground;", true)
  | 5 => ("HeardTunes", "now", "LHeardTunes$Scene;", true)
  | 6 => ("HeardTunes", "trial", "LHeardTunes$Scene;", true)
  | 7 => ("HeardTunes", "walledTrial", "LHeardTunes$Scene;", true)
  | 8 => ("HeardTunes", "row", "LHeardTunes$Plan;", true)
  | 9 => ("HeardTunes", "seen", "LHeardTunes$Seen;", true)
  | 10 => ("HeardTunes", "memo", "LHeardTunes$Memo;", true)
  | 11 => ("HeardTunes", "leading", "LHeardTunes$Soonest;", true)
  | 12 => ("HeardTunes", "fitting", "LHeardTunes$Fitting;", true)
  | 13 => ("HeardTunes", "images", "[LHeardTunes$Image;", true)
  | _ => ("HeardTunes", "theSeed", "I", false)
def tyX10 : Nat → FieldType := fun k => match k with
  | 0 => .object "HeardTunes$Reader"
  | 1 => .object "HeardTunes$Town"
  | 2 => .object "HeardTunes$Town"
  | 3 => .object "HeardTunes$Ground"
  | 4 => .object "HeardTunes$Ground"
  | 5 => .object "HeardTunes$Scene"
  | 6 => .object "HeardTunes$Scene"
  | 7 => .object "HeardTunes$Scene"
  | 8 => .object "HeardTunes$Plan"
  | 9 => .object "HeardTunes$Seen"
  | 10 => .object "HeardTunes$Memo"
  | 11 => .object "HeardTunes$Soonest"
  | 12 => .object "HeardTunes$Fitting"
  | 13 => .array (.object "HeardTunes$Image")
  | _ => .int
abbrev wsX100 : List Cond := u_ws RX10 TX10 15
theorem nmX10 : ∀ a, a < 15 → ∀ b, b < 15 → a ≠ b → (TX10 a).2.1 ≠ (TX10 b).2.1 := by decide +kernel
theorem tyX10_ok : ∀ k, k < 15 → parseFieldDescriptor (TX10 k).2.2.1 = some (tyX10 k) := by decide +kernel
abbrev cX10_init : ByteArray := prog_1_method_1_code
def yX10_init : MethodName := ⟨RX10, "<init>", "()V"⟩
abbrev cX10_feed : ByteArray := prog_1_method_2_code
def yX10_feed : MethodName := ⟨RX10, "feed", "(IJ)I"⟩
abbrev cX10_town : ByteArray := prog_1_method_3_code
def yX10_town : MethodName := ⟨RX10, "town", "()I"⟩
abbrev cX10_fault : ByteArray := prog_1_method_4_code
def yX10_fault : MethodName := ⟨RX10, "fault", "()I"⟩
abbrev cX10_told : ByteArray := prog_1_method_5_code
def yX10_told : MethodName := ⟨RX10, "told", "(I)I"⟩
abbrev cX10_cell : ByteArray := prog_1_method_6_code
def yX10_cell : MethodName := ⟨RX10, "cell", "(II)I"⟩
abbrev cX10_crowd : ByteArray := prog_1_method_7_code
def yX10_crowd : MethodName := ⟨RX10, "crowd", "(II)I"⟩
abbrev cX10_tune : ByteArray := prog_1_method_8_code
def yX10_tune : MethodName := ⟨RX10, "tune", "(II)I"⟩
abbrev cX10_far : ByteArray := prog_1_method_9_code
def yX10_far : MethodName := ⟨RX10, "far", "(IIII)I"⟩
abbrev cX10_minute : ByteArray := prog_1_method_10_code
def yX10_minute : MethodName := ⟨RX10, "minute", "(II)I"⟩
abbrev cX10_wall : ByteArray := prog_1_method_11_code
def yX10_wall : MethodName := ⟨RX10, "wall", "(IIZ)I"⟩
abbrev cX10_drift : ByteArray := prog_1_method_12_code
def yX10_drift : MethodName := ⟨RX10, "drift", "(I)I"⟩
abbrev cX10_plan : ByteArray := prog_1_method_13_code
def yX10_plan : MethodName := ⟨RX10, "plan", "(II)I"⟩
abbrev cX10_drop : ByteArray := prog_1_method_14_code
def yX10_drop : MethodName := ⟨RX10, "drop", "()I"⟩
abbrev cX10_judge : ByteArray := prog_1_method_15_code
def yX10_judge : MethodName := ⟨RX10, "judge", "()I"⟩
abbrev cX10_tried : ByteArray := prog_1_method_16_code
def yX10_tried : MethodName := ⟨RX10, "tried", "(II)I"⟩
abbrev cX10_where : ByteArray := prog_1_method_17_code
def yX10_where : MethodName := ⟨RX10, "where", "(II)I"⟩
abbrev cX10_soonest : ByteArray := prog_1_method_18_code
def yX10_soonest : MethodName := ⟨RX10, "soonest", "(III)I"⟩
abbrev cX10_bestWall : ByteArray := prog_1_method_19_code
def yX10_bestWall : MethodName := ⟨RX10, "bestWall", "(II)I"⟩
abbrev cX10_wax : ByteArray := prog_1_method_20_code
def yX10_wax : MethodName := ⟨RX10, "wax", "(I)I"⟩
abbrev cX10_see : ByteArray := prog_1_method_21_code
def yX10_see : MethodName := ⟨RX10, "see", "(IIII)I"⟩
abbrev cX10_walks : ByteArray := prog_1_method_22_code
def yX10_walks : MethodName := ⟨RX10, "walks", "(III)I"⟩
abbrev cX10_tear : ByteArray := prog_1_method_23_code
def yX10_tear : MethodName := ⟨RX10, "tear", "()I"⟩
abbrev cX10_seed : ByteArray := prog_1_method_24_code
def yX10_seed : MethodName := ⟨RX10, "seed", "(I)I"⟩
abbrev cX10_keep : ByteArray := prog_1_method_25_code
def yX10_keep : MethodName := ⟨RX10, "keep", "(I)I"⟩
abbrev cX10_goBack : ByteArray := prog_1_method_26_code
def yX10_goBack : MethodName := ⟨RX10, "goBack", "(I)I"⟩
abbrev cX10_isKind : ByteArray := prog_1_method_27_code
def yX10_isKind : MethodName := ⟨RX10, "isKind", "(I)Z"⟩
abbrev cX10_isStep : ByteArray := prog_1_method_28_code
def yX10_isStep : MethodName := ⟨RX10, "isStep", "(I)Z"⟩
abbrev cX10_isImage : ByteArray := prog_1_method_29_code
def yX10_isImage : MethodName := ⟨RX10, "isImage", "(I)Z"⟩
abbrev cX10_isCrowd : ByteArray := prog_1_method_30_code
def yX10_isCrowd : MethodName := ⟨RX10, "isCrowd", "(I)Z"⟩
abbrev cX10_isTune : ByteArray := prog_1_method_31_code
def yX10_isTune : MethodName := ⟨RX10, "isTune", "(I)Z"⟩
abbrev cX10_isTuneOrNone : ByteArray := prog_1_method_32_code
def yX10_isTuneOrNone : MethodName := ⟨RX10, "isTuneOrNone", "(I)Z"⟩
abbrev cX10_begin : ByteArray := prog_1_method_33_code
def yX10_begin : MethodName := ⟨RX10, "begin", "()V"⟩
abbrev cX10_draw : ByteArray := prog_1_method_34_code
def yX10_draw : MethodName := ⟨RX10, "draw", "(I)I"⟩
abbrev cX10_tryPlan : ByteArray := prog_1_method_35_code
def yX10_tryPlan : MethodName := ⟨RX10, "tryPlan", "(I)I"⟩
abbrev cX10_outBehindWall : ByteArray := prog_1_method_36_code
def yX10_outBehindWall : MethodName := ⟨RX10, "outBehindWall", "(II)I"⟩
def RX11 : String := "HeardTunesModel"
def TX11 : u_T := fun k => match k with
  | 0 => ("HeardTunesModel", "wide", "I", false)
  | 1 => ("HeardTunesModel", "deep", "I", false)
  | 2 => ("HeardTunesModel", "cell", "[I", true)
  | 3 => ("HeardTunesModel", "crowds", "I", false)
  | 4 => ("HeardTunesModel", "kind", "[I", true)
  | 5 => ("HeardTunesModel", "heads", "[I", true)
  | 6 => ("HeardTunesModel", "pace", "[I", true)
  | 7 => ("HeardTunesModel", "deaf", "[I", true)
  | 8 => ("HeardTunesModel", "tunes", "I", false)
  | 9 => ("HeardTunesModel", "follows", "[I", true)
  | 10 => ("HeardTunesModel", "heard", "[I", true)
  | 11 => ("HeardTunesModel", "pay", "I", false)
  | 12 => ("HeardTunesModel", "fine", "I", false)
  | 13 => ("HeardTunesModel", "piper", "I", false)
  | 14 => ("HeardTunesModel", "at", "[I", true)
  | 15 => ("HeardTunesModel", "goal", "[I", true)
  | 16 => ("HeardTunesModel", "fate", "[I", true)
  | 17 => ("HeardTunesModel", "minutes", "I", false)
  | 18 => ("HeardTunesModel", "seed", "I", false)
  | 19 => ("HeardTunesModel", "text", "[I", true)
  | 20 => ("HeardTunesModel", "texted", "I", false)
  | 21 => ("HeardTunesModel", "faultPlace", "I", false)
  | 22 => ("HeardTunesModel", "at0", "I", false)
  | 23 => ("HeardTunesModel", "said", "J", false)
  | 24 => ("HeardTunesModel", "wordEnd", "I", false)
  | 25 => ("HeardTunesModel", "number", "I", false)
  | 26 => ("HeardTunesModel", "numberAt", "I", false)
  | 27 => ("HeardTunesModel", "readWide", "I", false)
  | 28 => ("HeardTunesModel", "readDeep", "I", false)
  | 29 => ("HeardTunesModel", "readCell", "[I", true)
  | 30 => ("HeardTunesModel", "readMarks", "I", false)
  | 31 => ("HeardTunesModel", "readCrowds", "I", false)
  | 32 => ("HeardTunesModel", "readKind", "[I", true)
  | 33 => ("HeardTunesModel", "readAt", "[I", true)
  | 34 => ("HeardTunesModel", "readHeads", "[I", true)
  | 35 => ("HeardTunesModel", "readPace", "[I", true)
  | 36 => ("HeardTunesModel", "readDeaf", "[I", true)
  | 37 => ("HeardTunesModel", "readTunes", "I", false)
  | 38 => ("HeardTunesModel", "readFollows", "[I", true)
  | 39 => ("HeardTunesModel", "readHeard", "[I", true)
  | 40 => ("HeardTunesModel", "readPiper", "I", false)
  | 41 => ("HeardTunesModel", "readPay", "I", false)
  | 42 => ("HeardTunesModel", "readFine", "I", false)
  | 43 => ("HeardTunesModel", "cellRead", "I", false)
  | 44 => ("HeardTunesModel", "far", "[I", true)
  | 45 => ("HeardTunesModel", "wasPiper", "I", false)
  | 46 => ("HeardTunesModel", "wasAt", "[I", true)
  | 47 => ("HeardTunesModel", "wasGoal", "[I", true)
  | 48 => ("HeardTunesModel", "wasFate", "[I", true)
  | 49 => ("HeardTunesModel", "planned", "I", false)
  | 50 => ("HeardTunesModel", "planStep", "[I", true)
  | 51 => ("HeardTunesModel", "planTune", "[I", true)
  | 52 => ("HeardTunesModel", "sights", "I", false)
  | 53 => ("HeardTunesModel", "seenCrowd", "[I", true)
  | 54 => ("HeardTunesModel", "seenMinute", "[I", true)
  | 55 => ("HeardTunesModel", "seenAt", "[I", true)
  | 56 => ("HeardTunesModel", "images", "[I", true)
  | _ => ("HeardTunesModel", "isKept", "[Z", true)
def tyX11 : Nat → FieldType := fun k => match k with
  | 0 => .int
  | 1 => .int
  | 2 => .array .int
  | 3 => .int
  | 4 => .array .int
  | 5 => .array .int
  | 6 => .array .int
  | 7 => .array .int
  | 8 => .int
  | 9 => .array .int
  | 10 => .array .int
  | 11 => .int
  | 12 => .int
  | 13 => .int
  | 14 => .array .int
  | 15 => .array .int
  | 16 => .array .int
  | 17 => .int
  | 18 => .int
  | 19 => .array .int
  | 20 => .int
  | 21 => .int
  | 22 => .int
  | 23 => .long
  | 24 => .int
  | 25 => .int
  | 26 => .int
  | 27 => .int
  | 28 => .int
  | 29 => .array .int
  | 30 => .int
  | 31 => .int
  | 32 => .array .int
  | 33 => .array .int
  | 34 => .array .int
  | 35 => .array .int
  | 36 => .array .int
  | 37 => .int
  | 38 => .array .int
  | 39 => .array .int
  | 40 => .int
  | 41 => .int
  | 42 => .int
  | 43 => .int
  | 44 => .array .int
  | 45 => .int
  | 46 => .array .int
  | 47 => .array .int
  | 48 => .array .int
  | 49 => .int
  | 50 => .array .int
  | 51 => .array .int
  | 52 => .int
  | 53 => .array .int
  | 54 => .array .int
  | 55 => .array .int
  | 56 => .array .int
  | _ => .array .boolean
abbrev wsX110 : List Cond := u_ws RX11 TX11 58
theorem nmX11 : ∀ a, a < 58 → ∀ b, b < 58 → a ≠ b → (TX11 a).2.1 ≠ (TX11 b).2.1 := by decide +kernel
theorem tyX11_ok : ∀ k, k < 58 → parseFieldDescriptor (TX11 k).2.2.1 = some (tyX11 k) := by decide +kernel
abbrev cX11_init : ByteArray := prog_13_method_1_code
def yX11_init : MethodName := ⟨RX11, "<init>", "()V"⟩
abbrev cX11_in : ByteArray := prog_13_method_3_code
def yX11_in : MethodName := ⟨RX11, "in", "(JJJ)Z"⟩
abbrev cX11_has : ByteArray := prog_13_method_4_code
def yX11_has : MethodName := ⟨RX11, "has", "(II)Z"⟩
abbrev cX11_isCell : ByteArray := prog_13_method_5_code
def yX11_isCell : MethodName := ⟨RX11, "isCell", "(II)Z"⟩
abbrev cX11_isCrowd : ByteArray := prog_13_method_6_code
def yX11_isCrowd : MethodName := ⟨RX11, "isCrowd", "(I)Z"⟩
abbrev cX11_isTune : ByteArray := prog_13_method_7_code
def yX11_isTune : MethodName := ⟨RX11, "isTune", "(I)Z"⟩
abbrev cX11_told10 : ByteArray := prog_13_method_8_code
def yX11_told10 : MethodName := ⟨RX11, "told10", "(I)I"⟩
abbrev cX11_feed : ByteArray := prog_13_method_9_code
def yX11_feed : MethodName := ⟨RX11, "feed", "(IJ)I"⟩
abbrev cX11_here : ByteArray := prog_13_method_10_code
def yX11_here : MethodName := ⟨RX11, "here", "()I"⟩
abbrev cX11_fails : ByteArray := prog_13_method_11_code
def yX11_fails : MethodName := ⟨RX11, "fails", "(II)I"⟩
abbrev cX11_readWord : ByteArray := prog_13_method_12_code
def yX11_readWord : MethodName := ⟨RX11, "readWord", "()V"⟩
abbrev cX11_code : ByteArray := prog_13_method_13_code
def yX11_code : MethodName := ⟨RX11, "code", "(III)J"⟩
abbrev cX11_more : ByteArray := prog_13_method_14_code
def yX11_more : MethodName := ⟨RX11, "more", "(JI)J"⟩
abbrev cX11_takeNumber : ByteArray := prog_13_method_15_code
def yX11_takeNumber : MethodName := ⟨RX11, "takeNumber", "(II)I"⟩
abbrev cX11_into : ByteArray := prog_13_method_16_code
def yX11_into : MethodName := ⟨RX11, "into", "([IIII)I"⟩
abbrev cX11_takeTown : ByteArray := prog_13_method_17_code
def yX11_takeTown : MethodName := ⟨RX11, "takeTown", "()I"⟩
abbrev cX11_takeCell : ByteArray := prog_13_method_18_code
def yX11_takeCell : MethodName := ⟨RX11, "takeCell", "()I"⟩
abbrev cX11_isTakenUp : ByteArray := prog_13_method_19_code
def yX11_isTakenUp : MethodName := ⟨RX11, "isTakenUp", "(I)Z"⟩
abbrev cX11_takeMark : ByteArray := prog_13_method_20_code
def yX11_takeMark : MethodName := ⟨RX11, "takeMark", "(I)I"⟩
abbrev cX11_takeCrowd : ByteArray := prog_13_method_21_code
def yX11_takeCrowd : MethodName := ⟨RX11, "takeCrowd", "()I"⟩
abbrev cX11_takeTune : ByteArray := prog_13_method_22_code
def yX11_takeTune : MethodName := ⟨RX11, "takeTune", "()I"⟩
abbrev cX11_takePiper : ByteArray := prog_13_method_23_code
def yX11_takePiper : MethodName := ⟨RX11, "takePiper", "()I"⟩
abbrev cX11_takePay : ByteArray := prog_13_method_24_code
def yX11_takePay : MethodName := ⟨RX11, "takePay", "()I"⟩
abbrev cX11_kindOfWord : ByteArray := prog_13_method_25_code
def yX11_kindOfWord : MethodName := ⟨RX11, "kindOfWord", "()I"⟩
abbrev cX11_takeClause : ByteArray := prog_13_method_26_code
def yX11_takeClause : MethodName := ⟨RX11, "takeClause", "()I"⟩
abbrev cX11_clear : ByteArray := prog_13_method_27_code
def yX11_clear : MethodName := ⟨RX11, "clear", "()V"⟩
abbrev cX11_town : ByteArray := prog_13_method_28_code
def yX11_town : MethodName := ⟨RX11, "town", "()I"⟩
abbrev cX11_firstFree : ByteArray := prog_13_method_29_code
def yX11_firstFree : MethodName := ⟨RX11, "firstFree", "()I"⟩
abbrev cX11_fault : ByteArray := prog_13_method_30_code
def yX11_fault : MethodName := ⟨RX11, "fault", "()I"⟩
abbrev cX11_beside : ByteArray := prog_13_method_31_code
def yX11_beside : MethodName := ⟨RX11, "beside", "(II)I"⟩
abbrev cX11_findFarTo : ByteArray := prog_13_method_32_code
def yX11_findFarTo : MethodName := ⟨RX11, "findFarTo", "(I)V"⟩
abbrev cX11_findFar : ByteArray := prog_13_method_33_code
def yX11_findFar : MethodName := ⟨RX11, "findFar", "()V"⟩
abbrev cX11_far : ByteArray := prog_13_method_34_code
def yX11_far : MethodName := ⟨RX11, "far", "(IIII)I"⟩
abbrev cX11_followers : ByteArray := prog_13_method_35_code
def yX11_followers : MethodName := ⟨RX11, "followers", "(I)I"⟩
abbrev cX11_isHere : ByteArray := prog_13_method_36_code
def yX11_isHere : MethodName := ⟨RX11, "isHere", "(I)Z"⟩
abbrev cX11_headsBy : ByteArray := prog_13_method_37_code
def yX11_headsBy : MethodName := ⟨RX11, "headsBy", "(II)I"⟩
abbrev cX11_allHeads : ByteArray := prog_13_method_38_code
def yX11_allHeads : MethodName := ⟨RX11, "allHeads", "()I"⟩
abbrev cX11_worth : ByteArray := prog_13_method_39_code
def yX11_worth : MethodName := ⟨RX11, "worth", "()I"⟩
abbrev cX11_told : ByteArray := prog_13_method_40_code
def yX11_told : MethodName := ⟨RX11, "told", "(I)I"⟩
abbrev cX11_cell : ByteArray := prog_13_method_41_code
def yX11_cell : MethodName := ⟨RX11, "cell", "(II)I"⟩
abbrev cX11_crowd : ByteArray := prog_13_method_42_code
def yX11_crowd : MethodName := ⟨RX11, "crowd", "(II)I"⟩
abbrev cX11_hears : ByteArray := prog_13_method_43_code
def yX11_hears : MethodName := ⟨RX11, "hears", "(II)Z"⟩
abbrev cX11_tune : ByteArray := prog_13_method_44_code
def yX11_tune : MethodName := ⟨RX11, "tune", "(II)I"⟩
abbrev cX11_stepTo : ByteArray := prog_13_method_45_code
def yX11_stepTo : MethodName := ⟨RX11, "stepTo", "(I)I"⟩
abbrev cX11_stepOn : ByteArray := prog_13_method_46_code
def yX11_stepOn : MethodName := ⟨RX11, "stepOn", "(I)V"⟩
abbrev cX11_walkOn : ByteArray := prog_13_method_47_code
def yX11_walkOn : MethodName := ⟨RX11, "walkOn", "(I)V"⟩
abbrev cX11_minuteBy : ByteArray := prog_13_method_48_code
def yX11_minuteBy : MethodName := ⟨RX11, "minuteBy", "(II)Z"⟩
abbrev cX11_minute : ByteArray := prog_13_method_49_code
def yX11_minute : MethodName := ⟨RX11, "minute", "(II)I"⟩
abbrev cX11_isSomebody : ByteArray := prog_13_method_50_code
def yX11_isSomebody : MethodName := ⟨RX11, "isSomebody", "(I)Z"⟩
abbrev cX11_wall : ByteArray := prog_13_method_51_code
def yX11_wall : MethodName := ⟨RX11, "wall", "(IIZ)I"⟩
abbrev cX11_draw : ByteArray := prog_13_method_52_code
def yX11_draw : MethodName := ⟨RX11, "draw", "(I)I"⟩
abbrev cX11_drift : ByteArray := prog_13_method_53_code
def yX11_drift : MethodName := ⟨RX11, "drift", "(I)I"⟩
abbrev cX11_save : ByteArray := prog_13_method_54_code
def yX11_save : MethodName := ⟨RX11, "save", "()V"⟩
abbrev cX11_putBack : ByteArray := prog_13_method_55_code
def yX11_putBack : MethodName := ⟨RX11, "putBack", "()V"⟩
abbrev cX11_plan : ByteArray := prog_13_method_56_code
def yX11_plan : MethodName := ⟨RX11, "plan", "(II)I"⟩
abbrev cX11_drop : ByteArray := prog_13_method_57_code
def yX11_drop : MethodName := ⟨RX11, "drop", "()I"⟩
abbrev cX11_follow : ByteArray := prog_13_method_58_code
def yX11_follow : MethodName := ⟨RX11, "follow", "(I)I"⟩
abbrev cX11_judge : ByteArray := prog_13_method_59_code
def yX11_judge : MethodName := ⟨RX11, "judge", "()I"⟩
abbrev cX11_tried : ByteArray := prog_13_method_60_code
def yX11_tried : MethodName := ⟨RX11, "tried", "(II)I"⟩
abbrev cX11_where : ByteArray := prog_13_method_61_code
def yX11_where : MethodName := ⟨RX11, "where", "(II)I"⟩
abbrev cX11_power : ByteArray := prog_13_method_62_code
def yX11_power : MethodName := ⟨RX11, "power", "(I)I"⟩
abbrev cX11_stepIn : ByteArray := prog_13_method_63_code
def yX11_stepIn : MethodName := ⟨RX11, "stepIn", "(III)I"⟩
abbrev cX11_isLedOut : ByteArray := prog_13_method_64_code
def yX11_isLedOut : MethodName := ⟨RX11, "isLedOut", "(I)Z"⟩
abbrev cX11_leadsOut : ByteArray := prog_13_method_65_code
def yX11_leadsOut : MethodName := ⟨RX11, "leadsOut", "(IIII)Z"⟩
abbrev cX11_soonest : ByteArray := prog_13_method_66_code
def yX11_soonest : MethodName := ⟨RX11, "soonest", "(III)I"⟩
abbrev cX11_bestWall : ByteArray := prog_13_method_67_code
def yX11_bestWall : MethodName := ⟨RX11, "bestWall", "(II)I"⟩
abbrev cX11_wax : ByteArray := prog_13_method_68_code
def yX11_wax : MethodName := ⟨RX11, "wax", "(I)I"⟩
abbrev cX11_see : ByteArray := prog_13_method_69_code
def yX11_see : MethodName := ⟨RX11, "see", "(IIII)I"⟩
abbrev cX11_isAsSeen : ByteArray := prog_13_method_70_code
def yX11_isAsSeen : MethodName := ⟨RX11, "isAsSeen", "(I)Z"⟩
abbrev cX11_isWalk : ByteArray := prog_13_method_71_code
def yX11_isWalk : MethodName := ⟨RX11, "isWalk", "(III)Z"⟩
abbrev cX11_walks : ByteArray := prog_13_method_72_code
def yX11_walks : MethodName := ⟨RX11, "walks", "(III)I"⟩
abbrev cX11_tear : ByteArray := prog_13_method_73_code
def yX11_tear : MethodName := ⟨RX11, "tear", "()I"⟩
abbrev cX11_seed : ByteArray := prog_13_method_74_code
def yX11_seed : MethodName := ⟨RX11, "seed", "(I)I"⟩
abbrev cX11_keep : ByteArray := prog_13_method_75_code
def yX11_keep : MethodName := ⟨RX11, "keep", "(I)I"⟩
abbrev cX11_goBack : ByteArray := prog_13_method_76_code
def yX11_goBack : MethodName := ⟨RX11, "goBack", "(I)I"⟩
def RJ9 : String := "java/lang/Math"
def TJ9 : u_T := fun k => match k with
  | _ => ("", "", "", false)
def tyJ9 : Nat → FieldType := fun k => match k with
  | _ => .int
abbrev wsJ90 : List Cond := u_ws RJ9 TJ9 0
theorem nmJ9 : ∀ a, a < 0 → ∀ b, b < 0 → a ≠ b → (TJ9 a).2.1 ≠ (TJ9 b).2.1 := by decide +kernel
theorem tyJ9_ok : ∀ k, k < 0 → parseFieldDescriptor (TJ9 k).2.2.1 = some (tyJ9 k) := by decide +kernel
abbrev cJ9_max_7cf53 : ByteArray := prog_14_method_65_code
def yJ9_max_7cf53 : MethodName := ⟨RJ9, "max", "(II)I"⟩
abbrev cJ9_min_7cf53 : ByteArray := prog_14_method_69_code
def yJ9_min_7cf53 : MethodName := ⟨RJ9, "min", "(II)I"⟩
def RJ0 : String := "java/lang/String"
def TJ0 : u_T := fun k => match k with
  | _ => ("", "", "", false)
def tyJ0 : Nat → FieldType := fun k => match k with
  | _ => .int
abbrev wsJ00 : List Cond := u_ws RJ0 TJ0 0
theorem nmJ0 : ∀ a, a < 0 → ∀ b, b < 0 → a ≠ b → (TJ0 a).2.1 ≠ (TJ0 b).2.1 := by decide +kernel
theorem tyJ0_ok : ∀ k, k < 0 → parseFieldDescriptor (TJ0 k).2.2.1 = some (tyJ0 k) := by decide +kernel
abbrev cJ0_length_8abf5 : ByteArray := prog_15_method_54_code
def yJ0_length_8abf5 : MethodName := ⟨RJ0, "length", "()I"⟩
abbrev cJ0_charAt_5068e : ByteArray := prog_15_method_56_code
def yJ0_charAt_5068e : MethodName := ⟨RJ0, "charAt", "(I)C"⟩
abbrev cJ0_coder_7d493 : ByteArray := prog_15_method_152_code
def yJ0_coder_7d493 : MethodName := ⟨RJ0, "coder", "()B"⟩
abbrev cJ0_isLatin1_aae02 : ByteArray := prog_15_method_154_code
def yJ0_isLatin1_aae02 : MethodName := ⟨RJ0, "isLatin1", "()Z"⟩
abbrev cJ0_checkIndex_df160 : ByteArray := prog_15_method_155_code
def yJ0_checkIndex_df160 : MethodName := ⟨RJ0, "checkIndex", "(II)V"⟩
def RJ1 : String := "java/lang/StringLatin1"
def TJ1 : u_T := fun k => match k with
  | _ => ("", "", "", false)
def tyJ1 : Nat → FieldType := fun k => match k with
  | _ => .int
abbrev wsJ10 : List Cond := u_ws RJ1 TJ1 0
theorem nmJ1 : ∀ a, a < 0 → ∀ b, b < 0 → a ≠ b → (TJ1 a).2.1 ≠ (TJ1 b).2.1 := by decide +kernel
theorem tyJ1_ok : ∀ k, k < 0 → parseFieldDescriptor (TJ1 k).2.2.1 = some (tyJ1 k) := by decide +kernel
abbrev cJ1_charAt_3b067 : ByteArray := prog_16_method_2_code
def yJ1_charAt_3b067 : MethodName := ⟨RJ1, "charAt", "([BI)C"⟩
def RJ2 : String := "java/lang/StringUTF16"
def TJ2 : u_T := fun k => match k with
  | _ => ("", "", "", false)
def tyJ2 : Nat → FieldType := fun k => match k with
  | _ => .int
abbrev wsJ20 : List Cond := u_ws RJ2 TJ2 0
theorem nmJ2 : ∀ a, a < 0 → ∀ b, b < 0 → a ≠ b → (TJ2 a).2.1 ≠ (TJ2 b).2.1 := by decide +kernel
theorem tyJ2_ok : ∀ k, k < 0 → parseFieldDescriptor (TJ2 k).2.2.1 = some (tyJ2 k) := by decide +kernel
abbrev cJ2_getChar_3b067 : ByteArray := prog_17_method_5_code
def yJ2_getChar_3b067 : MethodName := ⟨RJ2, "getChar", "([BI)C"⟩
abbrev cJ2_length_9d52b : ByteArray := prog_17_method_6_code
def yJ2_length_9d52b : MethodName := ⟨RJ2, "length", "([B)I"⟩
abbrev cJ2_charAt_3b067 : ByteArray := prog_17_method_83_code
def yJ2_charAt_3b067 : MethodName := ⟨RJ2, "charAt", "([BI)C"⟩
abbrev cJ2_checkIndex_2214a : ByteArray := prog_17_method_91_code
def yJ2_checkIndex_2214a : MethodName := ⟨RJ2, "checkIndex", "(I[B)V"⟩
def RJ3 : String := "jdk/internal/util/Preconditions"
def TJ3 : u_T := fun k => match k with
  | _ => ("", "", "", false)
def tyJ3 : Nat → FieldType := fun k => match k with
  | _ => .int
abbrev wsJ30 : List Cond := u_ws RJ3 TJ3 0
theorem nmJ3 : ∀ a, a < 0 → ∀ b, b < 0 → a ≠ b → (TJ3 a).2.1 ≠ (TJ3 b).2.1 := by decide +kernel
theorem tyJ3_ok : ∀ k, k < 0 → parseFieldDescriptor (TJ3 k).2.2.1 = some (tyJ3 k) := by decide +kernel
abbrev cJ3_checkIndex_8e157 : ByteArray := prog_18_method_11_code
def yJ3_checkIndex_8e157 : MethodName := ⟨RJ3, "checkIndex", "(IILjava/util/function/BiFunction;)I"⟩
def RL : String := "HeardTunesLaw"
abbrev cL_law : ByteArray := code
def yL_law : MethodName := ⟨RL, "law", "([I)Z"⟩
abbrev vwCl : List vw_C := [(RX0, TX0, 12), (RX1, TX1, 9), (RX2, TX2, 4), (RX3, TX3, 3), (RX4, TX4, 3), (RX5, TX5, 6), (RX6, TX6, 6), (RX7, TX7, 4), (RX8, TX8, 10), (RX9, TX9, 17), (RX10, TX10, 15), (RX11, TX11, 58)]
def TT : List Cond := lw_tbl.filter goodWord
theorem tt_in {w : Cond} (h : w ∈ tables_1) (g : goodWord w = true) : w ∈ TT := List.mem_filter.mpr ⟨List.mem_append_right _ h, g⟩
theorem tt_1 {w : Cond} (h : w ∈ tables_1_1) (g : goodWord w = true) : w ∈ TT := tt_in (List.mem_append_left _ h) g
theorem tt_2 {w : Cond} (h : w ∈ tables_1_2) (g : goodWord w = true) : w ∈ TT := tt_in (List.mem_append_right _ (List.mem_append_left _ h)) g
theorem tt_3 {w : Cond} (h : w ∈ tables_1_3) (g : goodWord w = true) : w ∈ TT := tt_in (List.mem_append_right _ (List.mem_append_right _ (List.mem_append_left _ h))) g
theorem tt_4 {w : Cond} (h : w ∈ tables_1_4) (g : goodWord w = true) : w ∈ TT := tt_in (List.mem_append_right _ (List.mem_append_right _ (List.mem_append_right _ (List.mem_append_left _ h)))) g
theorem tt_5 {w : Cond} (h : w ∈ tables_1_5) (g : goodWord w = true) : w ∈ TT := tt_in (List.mem_append_right _ (List.mem_append_right _ (List.mem_append_right _ (List.mem_append_right _ (List.mem_append_left _ h))))) g
theorem tt_6 {w : Cond} (h : w ∈ tables_1_6) (g : goodWord w = true) : w ∈ TT := tt_in (List.mem_append_right _ (List.mem_append_right _ (List.mem_append_right _ (List.mem_append_right _ (List.mem_append_right _ (List.mem_append_left _ h)))))) g
theorem tt_7 {w : Cond} (h : w ∈ tables_1_7) (g : goodWord w = true) : w ∈ TT := tt_in (List.mem_append_right _ (List.mem_append_right _ (List.mem_append_right _ (List.mem_append_right _ (List.mem_append_right _ (List.mem_append_right _ (h))))))) g
theorem tt_good : GoodIn TT TT := fun w h => ⟨h, good_of_word (List.mem_filter.mp h).2⟩
theorem tt_lw {w : Cond} (h : w ∈ TT) : w ∈ lw_tbl := (List.mem_filter.mp h).1
theorem tp_1 {q : MethodName × Nat} (h : q ∈ lw_privs_1) : q ∈ lw_privs := List.mem_append_left _ h
theorem tp_2 {q : MethodName × Nat} (h : q ∈ lw_privs_2) : q ∈ lw_privs := List.mem_append_right _ (List.mem_append_left _ h)
theorem tp_3 {q : MethodName × Nat} (h : q ∈ lw_privs_3) : q ∈ lw_privs := List.mem_append_right _ (List.mem_append_right _ (List.mem_append_left _ h))
theorem tp_4 {q : MethodName × Nat} (h : q ∈ lw_privs_4) : q ∈ lw_privs := List.mem_append_right _ (List.mem_append_right _ (List.mem_append_right _ (List.mem_append_left _ h)))
theorem tp_5 {q : MethodName × Nat} (h : q ∈ lw_privs_5) : q ∈ lw_privs := List.mem_append_right _ (List.mem_append_right _ (List.mem_append_right _ (List.mem_append_right _ (List.mem_append_left _ h))))
theorem tp_6 {q : MethodName × Nat} (h : q ∈ lw_privs_6) : q ∈ lw_privs := List.mem_append_right _ (List.mem_append_right _ (List.mem_append_right _ (List.mem_append_right _ (List.mem_append_right _ (h)))))
