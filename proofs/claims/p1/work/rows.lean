section
-- ===== PART A: goes FIRST, ahead of the names: the tables' words, and 'selects' of the private methods out of them =====
/-- a private method of a class that the tables say can be made, by its rows of tables_1 -/
def lw_okq (q : MethodName × Nat) : Prop := (q.1.cls ≠ "java/lang/invoke/MethodHandle" ∧ q.1.cls ≠ "java/lang/invoke/VarHandle") ∧ Cond.instantiable q.1.cls q.2 ∈ tables_1 ∧ Cond.privateMethod q.1 ∈ tables_1 ∧ Cond.instanceMethod q.1 ∈ tables_1
theorem lw_p0 : lw_okq (⟨"HeardTunes", "begin", "()V"⟩, 15) := ⟨⟨by decide +kernel, by decide +kernel⟩, List.mem_of_getElem? (i := 19) (by decide +kernel), List.mem_of_getElem? (i := 386) (by decide +kernel), List.mem_of_getElem? (i := 387) (by decide +kernel)⟩
theorem lw_p1 : lw_okq (⟨"HeardTunes$Ground", "layCell", "(II)V"⟩, 9) := ⟨⟨by decide +kernel, by decide +kernel⟩, List.mem_of_getElem? (i := 149) (by decide +kernel), List.mem_of_getElem? (i := 397) (by decide +kernel), List.mem_of_getElem? (i := 398) (by decide +kernel)⟩
theorem lw_p2 : lw_okq (⟨"HeardTunes$Ground", "forgetWays", "()V"⟩, 9) := ⟨⟨by decide +kernel, by decide +kernel⟩, List.mem_of_getElem? (i := 149) (by decide +kernel), List.mem_of_getElem? (i := 405) (by decide +kernel), List.mem_of_getElem? (i := 406) (by decide +kernel)⟩
theorem lw_p3 : lw_okq (⟨"HeardTunes$Reader", "skipBlanks", "()V"⟩, 6) := ⟨⟨by decide +kernel, by decide +kernel⟩, List.mem_of_getElem? (i := 27) (by decide +kernel), List.mem_of_getElem? (i := 485) (by decide +kernel), List.mem_of_getElem? (i := 486) (by decide +kernel)⟩
theorem lw_p4 : lw_okq (⟨"HeardTunes$Reader", "readSentence", "(LHeardTunes$Town;)V"⟩, 6) := ⟨⟨by decide +kernel, by decide +kernel⟩, List.mem_of_getElem? (i := 27) (by decide +kernel), List.mem_of_getElem? (i := 489) (by decide +kernel), List.mem_of_getElem? (i := 490) (by decide +kernel)⟩
theorem lw_p5 : lw_okq (⟨"HeardTunes$Reader", "readWord", "()I"⟩, 6) := ⟨⟨by decide +kernel, by decide +kernel⟩, List.mem_of_getElem? (i := 27) (by decide +kernel), List.mem_of_getElem? (i := 493) (by decide +kernel), List.mem_of_getElem? (i := 494) (by decide +kernel)⟩
theorem lw_p6 : lw_okq (⟨"HeardTunes$Reader", "isWord", "(ILjava/lang/String;)Z"⟩, 6) := ⟨⟨by decide +kernel, by decide +kernel⟩, List.mem_of_getElem? (i := 27) (by decide +kernel), List.mem_of_getElem? (i := 498) (by decide +kernel), List.mem_of_getElem? (i := 499) (by decide +kernel)⟩
theorem lw_p7 : lw_okq (⟨"HeardTunes$Reader", "blame", "(II)V"⟩, 6) := ⟨⟨by decide +kernel, by decide +kernel⟩, List.mem_of_getElem? (i := 27) (by decide +kernel), List.mem_of_getElem? (i := 557) (by decide +kernel), List.mem_of_getElem? (i := 558) (by decide +kernel)⟩
theorem lw_p8 : lw_okq (⟨"HeardTunes$Reader", "readSize", "(LHeardTunes$Town;)V"⟩, 6) := ⟨⟨by decide +kernel, by decide +kernel⟩, List.mem_of_getElem? (i := 27) (by decide +kernel), List.mem_of_getElem? (i := 564) (by decide +kernel), List.mem_of_getElem? (i := 565) (by decide +kernel)⟩
theorem lw_p9 : lw_okq (⟨"HeardTunes$Reader", "readNumber", "(II)I"⟩, 6) := ⟨⟨by decide +kernel, by decide +kernel⟩, List.mem_of_getElem? (i := 27) (by decide +kernel), List.mem_of_getElem? (i := 568) (by decide +kernel), List.mem_of_getElem? (i := 569) (by decide +kernel)⟩
theorem lw_p10 : lw_okq (⟨"HeardTunes$Reader", "readCrowd", "(LHeardTunes$Town;)V"⟩, 6) := ⟨⟨by decide +kernel, by decide +kernel⟩, List.mem_of_getElem? (i := 27) (by decide +kernel), List.mem_of_getElem? (i := 573) (by decide +kernel), List.mem_of_getElem? (i := 574) (by decide +kernel)⟩
theorem lw_p11 : lw_okq (⟨"HeardTunes$Reader", "readCell", "(LHeardTunes$Town;)I"⟩, 6) := ⟨⟨by decide +kernel, by decide +kernel⟩, List.mem_of_getElem? (i := 27) (by decide +kernel), List.mem_of_getElem? (i := 577) (by decide +kernel), List.mem_of_getElem? (i := 578) (by decide +kernel)⟩
theorem lw_p12 : lw_okq (⟨"HeardTunes$Reader", "blameIfSpot", "(LHeardTunes$Town;I)V"⟩, 6) := ⟨⟨by decide +kernel, by decide +kernel⟩, List.mem_of_getElem? (i := 27) (by decide +kernel), List.mem_of_getElem? (i := 581) (by decide +kernel), List.mem_of_getElem? (i := 582) (by decide +kernel)⟩
theorem lw_p13 : lw_okq (⟨"HeardTunes$Reader", "readTune", "(LHeardTunes$Town;)V"⟩, 6) := ⟨⟨by decide +kernel, by decide +kernel⟩, List.mem_of_getElem? (i := 27) (by decide +kernel), List.mem_of_getElem? (i := 596) (by decide +kernel), List.mem_of_getElem? (i := 597) (by decide +kernel)⟩
theorem lw_p14 : lw_okq (⟨"HeardTunes$Reader", "readPiper", "(LHeardTunes$Town;)V"⟩, 6) := ⟨⟨by decide +kernel, by decide +kernel⟩, List.mem_of_getElem? (i := 27) (by decide +kernel), List.mem_of_getElem? (i := 604) (by decide +kernel), List.mem_of_getElem? (i := 605) (by decide +kernel)⟩
theorem lw_p15 : lw_okq (⟨"HeardTunes$Reader", "readPay", "(LHeardTunes$Town;)V"⟩, 6) := ⟨⟨by decide +kernel, by decide +kernel⟩, List.mem_of_getElem? (i := 27) (by decide +kernel), List.mem_of_getElem? (i := 608) (by decide +kernel), List.mem_of_getElem? (i := 609) (by decide +kernel)⟩
def lw_privs_1 : List (MethodName × Nat) := [(⟨"HeardTunes", "begin", "()V"⟩, 15), (⟨"HeardTunes$Ground", "layCell", "(II)V"⟩, 9), (⟨"HeardTunes$Ground", "forgetWays", "()V"⟩, 9), (⟨"HeardTunes$Reader", "skipBlanks", "()V"⟩, 6), (⟨"HeardTunes$Reader", "readSentence", "(LHeardTunes$Town;)V"⟩, 6), (⟨"HeardTunes$Reader", "readWord", "()I"⟩, 6), (⟨"HeardTunes$Reader", "isWord", "(ILjava/lang/String;)Z"⟩, 6), (⟨"HeardTunes$Reader", "blame", "(II)V"⟩, 6), (⟨"HeardTunes$Reader", "readSize", "(LHeardTunes$Town;)V"⟩, 6), (⟨"HeardTunes$Reader", "readNumber", "(II)I"⟩, 6), (⟨"HeardTunes$Reader", "readCrowd", "(LHeardTunes$Town;)V"⟩, 6), (⟨"HeardTunes$Reader", "readCell", "(LHeardTunes$Town;)I"⟩, 6), (⟨"HeardTunes$Reader", "blameIfSpot", "(LHeardTunes$Town;I)V"⟩, 6), (⟨"HeardTunes$Reader", "readTune", "(LHeardTunes$Town;)V"⟩, 6), (⟨"HeardTunes$Reader", "readPiper", "(LHeardTunes$Town;)V"⟩, 6), (⟨"HeardTunes$Reader", "readPay", "(LHeardTunes$Town;)V"⟩, 6)]
theorem lw_r1 : ∀ q ∈ lw_privs_1, lw_okq q := List.forall_mem_cons.mpr ⟨lw_p0, List.forall_mem_cons.mpr ⟨lw_p1, List.forall_mem_cons.mpr ⟨lw_p2, List.forall_mem_cons.mpr ⟨lw_p3, List.forall_mem_cons.mpr ⟨lw_p4, List.forall_mem_cons.mpr ⟨lw_p5, List.forall_mem_cons.mpr ⟨lw_p6, List.forall_mem_cons.mpr ⟨lw_p7, List.forall_mem_cons.mpr ⟨lw_p8, List.forall_mem_cons.mpr ⟨lw_p9, List.forall_mem_cons.mpr ⟨lw_p10, List.forall_mem_cons.mpr ⟨lw_p11, List.forall_mem_cons.mpr ⟨lw_p12, List.forall_mem_cons.mpr ⟨lw_p13, List.forall_mem_cons.mpr ⟨lw_p14, List.forall_mem_cons.mpr ⟨lw_p15, fun _ h => absurd h List.not_mem_nil⟩⟩⟩⟩⟩⟩⟩⟩⟩⟩⟩⟩⟩⟩⟩⟩
theorem lw_p16 : lw_okq (⟨"HeardTunes$Reader", "readSpot", "(LHeardTunes$Town;I)V"⟩, 6) := ⟨⟨by decide +kernel, by decide +kernel⟩, List.mem_of_getElem? (i := 27) (by decide +kernel), List.mem_of_getElem? (i := 612) (by decide +kernel), List.mem_of_getElem? (i := 613) (by decide +kernel)⟩
theorem lw_p17 : lw_okq (⟨"HeardTunes$Reader", "readEnd", "()V"⟩, 6) := ⟨⟨by decide +kernel, by decide +kernel⟩, List.mem_of_getElem? (i := 27) (by decide +kernel), List.mem_of_getElem? (i := 625) (by decide +kernel), List.mem_of_getElem? (i := 626) (by decide +kernel)⟩
theorem lw_p18 : lw_okq (⟨"HeardTunes", "isCrowd", "(I)Z"⟩, 15) := ⟨⟨by decide +kernel, by decide +kernel⟩, List.mem_of_getElem? (i := 19) (by decide +kernel), List.mem_of_getElem? (i := 688) (by decide +kernel), List.mem_of_getElem? (i := 689) (by decide +kernel)⟩
theorem lw_p19 : lw_okq (⟨"HeardTunes", "isTune", "(I)Z"⟩, 15) := ⟨⟨by decide +kernel, by decide +kernel⟩, List.mem_of_getElem? (i := 19) (by decide +kernel), List.mem_of_getElem? (i := 697) (by decide +kernel), List.mem_of_getElem? (i := 698) (by decide +kernel)⟩
theorem lw_p20 : lw_okq (⟨"HeardTunes$Scene", "hears", "(II)Z"⟩, 6) := ⟨⟨by decide +kernel, by decide +kernel⟩, List.mem_of_getElem? (i := 189) (by decide +kernel), List.mem_of_getElem? (i := 705) (by decide +kernel), List.mem_of_getElem? (i := 706) (by decide +kernel)⟩
theorem lw_p21 : lw_okq (⟨"HeardTunes$Ground", "findWays", "(I)V"⟩, 9) := ⟨⟨by decide +kernel, by decide +kernel⟩, List.mem_of_getElem? (i := 149) (by decide +kernel), List.mem_of_getElem? (i := 721) (by decide +kernel), List.mem_of_getElem? (i := 722) (by decide +kernel)⟩
theorem lw_p22 : lw_okq (⟨"HeardTunes", "isTuneOrNone", "(I)Z"⟩, 15) := ⟨⟨by decide +kernel, by decide +kernel⟩, List.mem_of_getElem? (i := 19) (by decide +kernel), List.mem_of_getElem? (i := 734) (by decide +kernel), List.mem_of_getElem? (i := 735) (by decide +kernel)⟩
theorem lw_p23 : lw_okq (⟨"HeardTunes$Scene", "lead", "(I)V"⟩, 6) := ⟨⟨by decide +kernel, by decide +kernel⟩, List.mem_of_getElem? (i := 189) (by decide +kernel), List.mem_of_getElem? (i := 755) (by decide +kernel), List.mem_of_getElem? (i := 756) (by decide +kernel)⟩
theorem lw_p24 : lw_okq (⟨"HeardTunes", "draw", "(I)I"⟩, 15) := ⟨⟨by decide +kernel, by decide +kernel⟩, List.mem_of_getElem? (i := 19) (by decide +kernel), List.mem_of_getElem? (i := 783) (by decide +kernel), List.mem_of_getElem? (i := 784) (by decide +kernel)⟩
theorem lw_p25 : lw_okq (⟨"HeardTunes", "tryPlan", "(I)I"⟩, 15) := ⟨⟨by decide +kernel, by decide +kernel⟩, List.mem_of_getElem? (i := 19) (by decide +kernel), List.mem_of_getElem? (i := 807) (by decide +kernel), List.mem_of_getElem? (i := 808) (by decide +kernel)⟩
theorem lw_p26 : lw_okq (⟨"HeardTunes$Soonest", "findGates", "()V"⟩, 10) := ⟨⟨by decide +kernel, by decide +kernel⟩, List.mem_of_getElem? (i := 275) (by decide +kernel), List.mem_of_getElem? (i := 845) (by decide +kernel), List.mem_of_getElem? (i := 846) (by decide +kernel)⟩
theorem lw_p27 : lw_okq (⟨"HeardTunes$Soonest", "leads", "(II)Z"⟩, 10) := ⟨⟨by decide +kernel, by decide +kernel⟩, List.mem_of_getElem? (i := 275) (by decide +kernel), List.mem_of_getElem? (i := 851) (by decide +kernel), List.mem_of_getElem? (i := 852) (by decide +kernel)⟩
theorem lw_p28 : lw_okq (⟨"HeardTunes$Soonest", "outlook", "(LHeardTunes$Scene;I)I"⟩, 10) := ⟨⟨by decide +kernel, by decide +kernel⟩, List.mem_of_getElem? (i := 275) (by decide +kernel), List.mem_of_getElem? (i := 855) (by decide +kernel), List.mem_of_getElem? (i := 856) (by decide +kernel)⟩
theorem lw_p29 : lw_okq (⟨"HeardTunes$Soonest", "canLeave", "(LHeardTunes$Scene;II)Z"⟩, 10) := ⟨⟨by decide +kernel, by decide +kernel⟩, List.mem_of_getElem? (i := 275) (by decide +kernel), List.mem_of_getElem? (i := 861) (by decide +kernel), List.mem_of_getElem? (i := 862) (by decide +kernel)⟩
theorem lw_p30 : lw_okq (⟨"HeardTunes$Soonest", "stepLeads", "(II)Z"⟩, 10) := ⟨⟨by decide +kernel, by decide +kernel⟩, List.mem_of_getElem? (i := 275) (by decide +kernel), List.mem_of_getElem? (i := 884) (by decide +kernel), List.mem_of_getElem? (i := 885) (by decide +kernel)⟩
theorem lw_p31 : lw_okq (⟨"HeardTunes", "outBehindWall", "(II)I"⟩, 15) := ⟨⟨by decide +kernel, by decide +kernel⟩, List.mem_of_getElem? (i := 19) (by decide +kernel), List.mem_of_getElem? (i := 906) (by decide +kernel), List.mem_of_getElem? (i := 907) (by decide +kernel)⟩
def lw_privs_2 : List (MethodName × Nat) := [(⟨"HeardTunes$Reader", "readSpot", "(LHeardTunes$Town;I)V"⟩, 6), (⟨"HeardTunes$Reader", "readEnd", "()V"⟩, 6), (⟨"HeardTunes", "isCrowd", "(I)Z"⟩, 15), (⟨"HeardTunes", "isTune", "(I)Z"⟩, 15), (⟨"HeardTunes$Scene", "hears", "(II)Z"⟩, 6), (⟨"HeardTunes$Ground", "findWays", "(I)V"⟩, 9), (⟨"HeardTunes", "isTuneOrNone", "(I)Z"⟩, 15), (⟨"HeardTunes$Scene", "lead", "(I)V"⟩, 6), (⟨"HeardTunes", "draw", "(I)I"⟩, 15), (⟨"HeardTunes", "tryPlan", "(I)I"⟩, 15), (⟨"HeardTunes$Soonest", "findGates", "()V"⟩, 10), (⟨"HeardTunes$Soonest", "leads", "(II)Z"⟩, 10), (⟨"HeardTunes$Soonest", "outlook", "(LHeardTunes$Scene;I)I"⟩, 10), (⟨"HeardTunes$Soonest", "canLeave", "(LHeardTunes$Scene;II)Z"⟩, 10), (⟨"HeardTunes$Soonest", "stepLeads", "(II)Z"⟩, 10), (⟨"HeardTunes", "outBehindWall", "(II)I"⟩, 15)]
theorem lw_r2 : ∀ q ∈ lw_privs_2, lw_okq q := List.forall_mem_cons.mpr ⟨lw_p16, List.forall_mem_cons.mpr ⟨lw_p17, List.forall_mem_cons.mpr ⟨lw_p18, List.forall_mem_cons.mpr ⟨lw_p19, List.forall_mem_cons.mpr ⟨lw_p20, List.forall_mem_cons.mpr ⟨lw_p21, List.forall_mem_cons.mpr ⟨lw_p22, List.forall_mem_cons.mpr ⟨lw_p23, List.forall_mem_cons.mpr ⟨lw_p24, List.forall_mem_cons.mpr ⟨lw_p25, List.forall_mem_cons.mpr ⟨lw_p26, List.forall_mem_cons.mpr ⟨lw_p27, List.forall_mem_cons.mpr ⟨lw_p28, List.forall_mem_cons.mpr ⟨lw_p29, List.forall_mem_cons.mpr ⟨lw_p30, List.forall_mem_cons.mpr ⟨lw_p31, fun _ h => absurd h List.not_mem_nil⟩⟩⟩⟩⟩⟩⟩⟩⟩⟩⟩⟩⟩⟩⟩⟩
theorem lw_p32 : lw_okq (⟨"HeardTunes$Fitting", "countFree", "()V"⟩, 12) := ⟨⟨by decide +kernel, by decide +kernel⟩, List.mem_of_getElem? (i := 316) (by decide +kernel), List.mem_of_getElem? (i := 937) (by decide +kernel), List.mem_of_getElem? (i := 938) (by decide +kernel)⟩
theorem lw_p33 : lw_okq (⟨"HeardTunes$Fitting", "countFreeFrom", "(LHeardTunes$Scene;I)I"⟩, 12) := ⟨⟨by decide +kernel, by decide +kernel⟩, List.mem_of_getElem? (i := 316) (by decide +kernel), List.mem_of_getElem? (i := 941) (by decide +kernel), List.mem_of_getElem? (i := 942) (by decide +kernel)⟩
theorem lw_p34 : lw_okq (⟨"HeardTunes$Fitting", "freeFrom", "(II)I"⟩, 12) := ⟨⟨by decide +kernel, by decide +kernel⟩, List.mem_of_getElem? (i := 316) (by decide +kernel), List.mem_of_getElem? (i := 945) (by decide +kernel), List.mem_of_getElem? (i := 946) (by decide +kernel)⟩
theorem lw_p35 : lw_okq (⟨"HeardTunes$Fitting", "fit", "(I)I"⟩, 12) := ⟨⟨by decide +kernel, by decide +kernel⟩, List.mem_of_getElem? (i := 316) (by decide +kernel), List.mem_of_getElem? (i := 952) (by decide +kernel), List.mem_of_getElem? (i := 953) (by decide +kernel)⟩
theorem lw_p36 : lw_okq (⟨"HeardTunes$Fitting", "keepFirst", "()V"⟩, 12) := ⟨⟨by decide +kernel, by decide +kernel⟩, List.mem_of_getElem? (i := 316) (by decide +kernel), List.mem_of_getElem? (i := 956) (by decide +kernel), List.mem_of_getElem? (i := 957) (by decide +kernel)⟩
theorem lw_p37 : lw_okq (⟨"HeardTunes$Fitting", "fitSteps", "(I)I"⟩, 12) := ⟨⟨by decide +kernel, by decide +kernel⟩, List.mem_of_getElem? (i := 316) (by decide +kernel), List.mem_of_getElem? (i := 963) (by decide +kernel), List.mem_of_getElem? (i := 964) (by decide +kernel)⟩
theorem lw_p38 : lw_okq (⟨"HeardTunesModel", "clear", "()V"⟩, 58) := ⟨⟨by decide +kernel, by decide +kernel⟩, List.mem_of_getElem? (i := 1011) (by decide +kernel), List.mem_of_getElem? (i := 1207) (by decide +kernel), List.mem_of_getElem? (i := 1208) (by decide +kernel)⟩
theorem lw_p39 : lw_okq (⟨"HeardTunesModel", "here", "()I"⟩, 58) := ⟨⟨by decide +kernel, by decide +kernel⟩, List.mem_of_getElem? (i := 1011) (by decide +kernel), List.mem_of_getElem? (i := 1211) (by decide +kernel), List.mem_of_getElem? (i := 1212) (by decide +kernel)⟩
theorem lw_p40 : lw_okq (⟨"HeardTunesModel", "takeClause", "()I"⟩, 58) := ⟨⟨by decide +kernel, by decide +kernel⟩, List.mem_of_getElem? (i := 1011) (by decide +kernel), List.mem_of_getElem? (i := 1215) (by decide +kernel), List.mem_of_getElem? (i := 1216) (by decide +kernel)⟩
theorem lw_p41 : lw_okq (⟨"HeardTunesModel", "readWord", "()V"⟩, 58) := ⟨⟨by decide +kernel, by decide +kernel⟩, List.mem_of_getElem? (i := 1011) (by decide +kernel), List.mem_of_getElem? (i := 1219) (by decide +kernel), List.mem_of_getElem? (i := 1220) (by decide +kernel)⟩
theorem lw_p42 : lw_okq (⟨"HeardTunesModel", "kindOfWord", "()I"⟩, 58) := ⟨⟨by decide +kernel, by decide +kernel⟩, List.mem_of_getElem? (i := 1011) (by decide +kernel), List.mem_of_getElem? (i := 1229) (by decide +kernel), List.mem_of_getElem? (i := 1230) (by decide +kernel)⟩
theorem lw_p43 : lw_okq (⟨"HeardTunesModel", "fails", "(II)I"⟩, 58) := ⟨⟨by decide +kernel, by decide +kernel⟩, List.mem_of_getElem? (i := 1011) (by decide +kernel), List.mem_of_getElem? (i := 1239) (by decide +kernel), List.mem_of_getElem? (i := 1240) (by decide +kernel)⟩
theorem lw_p44 : lw_okq (⟨"HeardTunesModel", "takeTown", "()I"⟩, 58) := ⟨⟨by decide +kernel, by decide +kernel⟩, List.mem_of_getElem? (i := 1011) (by decide +kernel), List.mem_of_getElem? (i := 1243) (by decide +kernel), List.mem_of_getElem? (i := 1244) (by decide +kernel)⟩
theorem lw_p45 : lw_okq (⟨"HeardTunesModel", "takeNumber", "(II)I"⟩, 58) := ⟨⟨by decide +kernel, by decide +kernel⟩, List.mem_of_getElem? (i := 1011) (by decide +kernel), List.mem_of_getElem? (i := 1247) (by decide +kernel), List.mem_of_getElem? (i := 1248) (by decide +kernel)⟩
theorem lw_p46 : lw_okq (⟨"HeardTunesModel", "takeMark", "(I)I"⟩, 58) := ⟨⟨by decide +kernel, by decide +kernel⟩, List.mem_of_getElem? (i := 1011) (by decide +kernel), List.mem_of_getElem? (i := 1253) (by decide +kernel), List.mem_of_getElem? (i := 1254) (by decide +kernel)⟩
theorem lw_p47 : lw_okq (⟨"HeardTunesModel", "takeCell", "()I"⟩, 58) := ⟨⟨by decide +kernel, by decide +kernel⟩, List.mem_of_getElem? (i := 1011) (by decide +kernel), List.mem_of_getElem? (i := 1257) (by decide +kernel), List.mem_of_getElem? (i := 1258) (by decide +kernel)⟩
def lw_privs_3 : List (MethodName × Nat) := [(⟨"HeardTunes$Fitting", "countFree", "()V"⟩, 12), (⟨"HeardTunes$Fitting", "countFreeFrom", "(LHeardTunes$Scene;I)I"⟩, 12), (⟨"HeardTunes$Fitting", "freeFrom", "(II)I"⟩, 12), (⟨"HeardTunes$Fitting", "fit", "(I)I"⟩, 12), (⟨"HeardTunes$Fitting", "keepFirst", "()V"⟩, 12), (⟨"HeardTunes$Fitting", "fitSteps", "(I)I"⟩, 12), (⟨"HeardTunesModel", "clear", "()V"⟩, 58), (⟨"HeardTunesModel", "here", "()I"⟩, 58), (⟨"HeardTunesModel", "takeClause", "()I"⟩, 58), (⟨"HeardTunesModel", "readWord", "()V"⟩, 58), (⟨"HeardTunesModel", "kindOfWord", "()I"⟩, 58), (⟨"HeardTunesModel", "fails", "(II)I"⟩, 58), (⟨"HeardTunesModel", "takeTown", "()I"⟩, 58), (⟨"HeardTunesModel", "takeNumber", "(II)I"⟩, 58), (⟨"HeardTunesModel", "takeMark", "(I)I"⟩, 58), (⟨"HeardTunesModel", "takeCell", "()I"⟩, 58)]
theorem lw_r3 : ∀ q ∈ lw_privs_3, lw_okq q := List.forall_mem_cons.mpr ⟨lw_p32, List.forall_mem_cons.mpr ⟨lw_p33, List.forall_mem_cons.mpr ⟨lw_p34, List.forall_mem_cons.mpr ⟨lw_p35, List.forall_mem_cons.mpr ⟨lw_p36, List.forall_mem_cons.mpr ⟨lw_p37, List.forall_mem_cons.mpr ⟨lw_p38, List.forall_mem_cons.mpr ⟨lw_p39, List.forall_mem_cons.mpr ⟨lw_p40, List.forall_mem_cons.mpr ⟨lw_p41, List.forall_mem_cons.mpr ⟨lw_p42, List.forall_mem_cons.mpr ⟨lw_p43, List.forall_mem_cons.mpr ⟨lw_p44, List.forall_mem_cons.mpr ⟨lw_p45, List.forall_mem_cons.mpr ⟨lw_p46, List.forall_mem_cons.mpr ⟨lw_p47, fun _ h => absurd h List.not_mem_nil⟩⟩⟩⟩⟩⟩⟩⟩⟩⟩⟩⟩⟩⟩⟩⟩
theorem lw_p48 : lw_okq (⟨"HeardTunesModel", "isTakenUp", "(I)Z"⟩, 58) := ⟨⟨by decide +kernel, by decide +kernel⟩, List.mem_of_getElem? (i := 1011) (by decide +kernel), List.mem_of_getElem? (i := 1261) (by decide +kernel), List.mem_of_getElem? (i := 1262) (by decide +kernel)⟩
theorem lw_p49 : lw_okq (⟨"HeardTunesModel", "takeCrowd", "()I"⟩, 58) := ⟨⟨by decide +kernel, by decide +kernel⟩, List.mem_of_getElem? (i := 1011) (by decide +kernel), List.mem_of_getElem? (i := 1265) (by decide +kernel), List.mem_of_getElem? (i := 1266) (by decide +kernel)⟩
theorem lw_p50 : lw_okq (⟨"HeardTunesModel", "into", "([IIII)I"⟩, 58) := ⟨⟨by decide +kernel, by decide +kernel⟩, List.mem_of_getElem? (i := 1011) (by decide +kernel), List.mem_of_getElem? (i := 1269) (by decide +kernel), List.mem_of_getElem? (i := 1270) (by decide +kernel)⟩
theorem lw_p51 : lw_okq (⟨"HeardTunesModel", "takeTune", "()I"⟩, 58) := ⟨⟨by decide +kernel, by decide +kernel⟩, List.mem_of_getElem? (i := 1011) (by decide +kernel), List.mem_of_getElem? (i := 1273) (by decide +kernel), List.mem_of_getElem? (i := 1274) (by decide +kernel)⟩
theorem lw_p52 : lw_okq (⟨"HeardTunesModel", "takePiper", "()I"⟩, 58) := ⟨⟨by decide +kernel, by decide +kernel⟩, List.mem_of_getElem? (i := 1011) (by decide +kernel), List.mem_of_getElem? (i := 1277) (by decide +kernel), List.mem_of_getElem? (i := 1278) (by decide +kernel)⟩
theorem lw_p53 : lw_okq (⟨"HeardTunesModel", "takePay", "()I"⟩, 58) := ⟨⟨by decide +kernel, by decide +kernel⟩, List.mem_of_getElem? (i := 1011) (by decide +kernel), List.mem_of_getElem? (i := 1281) (by decide +kernel), List.mem_of_getElem? (i := 1282) (by decide +kernel)⟩
theorem lw_p54 : lw_okq (⟨"HeardTunesModel", "firstFree", "()I"⟩, 58) := ⟨⟨by decide +kernel, by decide +kernel⟩, List.mem_of_getElem? (i := 1011) (by decide +kernel), List.mem_of_getElem? (i := 1285) (by decide +kernel), List.mem_of_getElem? (i := 1286) (by decide +kernel)⟩
theorem lw_p55 : lw_okq (⟨"HeardTunesModel", "findFar", "()V"⟩, 58) := ⟨⟨by decide +kernel, by decide +kernel⟩, List.mem_of_getElem? (i := 1011) (by decide +kernel), List.mem_of_getElem? (i := 1289) (by decide +kernel), List.mem_of_getElem? (i := 1290) (by decide +kernel)⟩
theorem lw_p56 : lw_okq (⟨"HeardTunesModel", "findFarTo", "(I)V"⟩, 58) := ⟨⟨by decide +kernel, by decide +kernel⟩, List.mem_of_getElem? (i := 1011) (by decide +kernel), List.mem_of_getElem? (i := 1293) (by decide +kernel), List.mem_of_getElem? (i := 1294) (by decide +kernel)⟩
theorem lw_p57 : lw_okq (⟨"HeardTunesModel", "beside", "(II)I"⟩, 58) := ⟨⟨by decide +kernel, by decide +kernel⟩, List.mem_of_getElem? (i := 1011) (by decide +kernel), List.mem_of_getElem? (i := 1297) (by decide +kernel), List.mem_of_getElem? (i := 1298) (by decide +kernel)⟩
theorem lw_p58 : lw_okq (⟨"HeardTunesModel", "isCell", "(II)Z"⟩, 58) := ⟨⟨by decide +kernel, by decide +kernel⟩, List.mem_of_getElem? (i := 1011) (by decide +kernel), List.mem_of_getElem? (i := 1301) (by decide +kernel), List.mem_of_getElem? (i := 1302) (by decide +kernel)⟩
theorem lw_p59 : lw_okq (⟨"HeardTunesModel", "told10", "(I)I"⟩, 58) := ⟨⟨by decide +kernel, by decide +kernel⟩, List.mem_of_getElem? (i := 1011) (by decide +kernel), List.mem_of_getElem? (i := 1318) (by decide +kernel), List.mem_of_getElem? (i := 1319) (by decide +kernel)⟩
theorem lw_p60 : lw_okq (⟨"HeardTunesModel", "headsBy", "(II)I"⟩, 58) := ⟨⟨by decide +kernel, by decide +kernel⟩, List.mem_of_getElem? (i := 1011) (by decide +kernel), List.mem_of_getElem? (i := 1322) (by decide +kernel), List.mem_of_getElem? (i := 1323) (by decide +kernel)⟩
theorem lw_p61 : lw_okq (⟨"HeardTunesModel", "followers", "(I)I"⟩, 58) := ⟨⟨by decide +kernel, by decide +kernel⟩, List.mem_of_getElem? (i := 1011) (by decide +kernel), List.mem_of_getElem? (i := 1326) (by decide +kernel), List.mem_of_getElem? (i := 1327) (by decide +kernel)⟩
theorem lw_p62 : lw_okq (⟨"HeardTunesModel", "allHeads", "()I"⟩, 58) := ⟨⟨by decide +kernel, by decide +kernel⟩, List.mem_of_getElem? (i := 1011) (by decide +kernel), List.mem_of_getElem? (i := 1330) (by decide +kernel), List.mem_of_getElem? (i := 1331) (by decide +kernel)⟩
theorem lw_p63 : lw_okq (⟨"HeardTunesModel", "worth", "()I"⟩, 58) := ⟨⟨by decide +kernel, by decide +kernel⟩, List.mem_of_getElem? (i := 1011) (by decide +kernel), List.mem_of_getElem? (i := 1334) (by decide +kernel), List.mem_of_getElem? (i := 1335) (by decide +kernel)⟩
def lw_privs_4 : List (MethodName × Nat) := [(⟨"HeardTunesModel", "isTakenUp", "(I)Z"⟩, 58), (⟨"HeardTunesModel", "takeCrowd", "()I"⟩, 58), (⟨"HeardTunesModel", "into", "([IIII)I"⟩, 58), (⟨"HeardTunesModel", "takeTune", "()I"⟩, 58), (⟨"HeardTunesModel", "takePiper", "()I"⟩, 58), (⟨"HeardTunesModel", "takePay", "()I"⟩, 58), (⟨"HeardTunesModel", "firstFree", "()I"⟩, 58), (⟨"HeardTunesModel", "findFar", "()V"⟩, 58), (⟨"HeardTunesModel", "findFarTo", "(I)V"⟩, 58), (⟨"HeardTunesModel", "beside", "(II)I"⟩, 58), (⟨"HeardTunesModel", "isCell", "(II)Z"⟩, 58), (⟨"HeardTunesModel", "told10", "(I)I"⟩, 58), (⟨"HeardTunesModel", "headsBy", "(II)I"⟩, 58), (⟨"HeardTunesModel", "followers", "(I)I"⟩, 58), (⟨"HeardTunesModel", "allHeads", "()I"⟩, 58), (⟨"HeardTunesModel", "worth", "()I"⟩, 58)]
theorem lw_r4 : ∀ q ∈ lw_privs_4, lw_okq q := List.forall_mem_cons.mpr ⟨lw_p48, List.forall_mem_cons.mpr ⟨lw_p49, List.forall_mem_cons.mpr ⟨lw_p50, List.forall_mem_cons.mpr ⟨lw_p51, List.forall_mem_cons.mpr ⟨lw_p52, List.forall_mem_cons.mpr ⟨lw_p53, List.forall_mem_cons.mpr ⟨lw_p54, List.forall_mem_cons.mpr ⟨lw_p55, List.forall_mem_cons.mpr ⟨lw_p56, List.forall_mem_cons.mpr ⟨lw_p57, List.forall_mem_cons.mpr ⟨lw_p58, List.forall_mem_cons.mpr ⟨lw_p59, List.forall_mem_cons.mpr ⟨lw_p60, List.forall_mem_cons.mpr ⟨lw_p61, List.forall_mem_cons.mpr ⟨lw_p62, List.forall_mem_cons.mpr ⟨lw_p63, fun _ h => absurd h List.not_mem_nil⟩⟩⟩⟩⟩⟩⟩⟩⟩⟩⟩⟩⟩⟩⟩⟩
theorem lw_p64 : lw_okq (⟨"HeardTunesModel", "isCrowd", "(I)Z"⟩, 58) := ⟨⟨by decide +kernel, by decide +kernel⟩, List.mem_of_getElem? (i := 1011) (by decide +kernel), List.mem_of_getElem? (i := 1346) (by decide +kernel), List.mem_of_getElem? (i := 1347) (by decide +kernel)⟩
theorem lw_p65 : lw_okq (⟨"HeardTunesModel", "isTune", "(I)Z"⟩, 58) := ⟨⟨by decide +kernel, by decide +kernel⟩, List.mem_of_getElem? (i := 1011) (by decide +kernel), List.mem_of_getElem? (i := 1354) (by decide +kernel), List.mem_of_getElem? (i := 1355) (by decide +kernel)⟩
theorem lw_p66 : lw_okq (⟨"HeardTunesModel", "hears", "(II)Z"⟩, 58) := ⟨⟨by decide +kernel, by decide +kernel⟩, List.mem_of_getElem? (i := 1011) (by decide +kernel), List.mem_of_getElem? (i := 1358) (by decide +kernel), List.mem_of_getElem? (i := 1359) (by decide +kernel)⟩
theorem lw_p67 : lw_okq (⟨"HeardTunesModel", "isHere", "(I)Z"⟩, 58) := ⟨⟨by decide +kernel, by decide +kernel⟩, List.mem_of_getElem? (i := 1011) (by decide +kernel), List.mem_of_getElem? (i := 1362) (by decide +kernel), List.mem_of_getElem? (i := 1363) (by decide +kernel)⟩
theorem lw_p68 : lw_okq (⟨"HeardTunesModel", "minuteBy", "(II)Z"⟩, 58) := ⟨⟨by decide +kernel, by decide +kernel⟩, List.mem_of_getElem? (i := 1011) (by decide +kernel), List.mem_of_getElem? (i := 1374) (by decide +kernel), List.mem_of_getElem? (i := 1375) (by decide +kernel)⟩
theorem lw_p69 : lw_okq (⟨"HeardTunesModel", "stepTo", "(I)I"⟩, 58) := ⟨⟨by decide +kernel, by decide +kernel⟩, List.mem_of_getElem? (i := 1011) (by decide +kernel), List.mem_of_getElem? (i := 1378) (by decide +kernel), List.mem_of_getElem? (i := 1379) (by decide +kernel)⟩
theorem lw_p70 : lw_okq (⟨"HeardTunesModel", "walkOn", "(I)V"⟩, 58) := ⟨⟨by decide +kernel, by decide +kernel⟩, List.mem_of_getElem? (i := 1011) (by decide +kernel), List.mem_of_getElem? (i := 1382) (by decide +kernel), List.mem_of_getElem? (i := 1383) (by decide +kernel)⟩
theorem lw_p71 : lw_okq (⟨"HeardTunesModel", "stepOn", "(I)V"⟩, 58) := ⟨⟨by decide +kernel, by decide +kernel⟩, List.mem_of_getElem? (i := 1011) (by decide +kernel), List.mem_of_getElem? (i := 1386) (by decide +kernel), List.mem_of_getElem? (i := 1387) (by decide +kernel)⟩
theorem lw_p72 : lw_okq (⟨"HeardTunesModel", "isSomebody", "(I)Z"⟩, 58) := ⟨⟨by decide +kernel, by decide +kernel⟩, List.mem_of_getElem? (i := 1011) (by decide +kernel), List.mem_of_getElem? (i := 1395) (by decide +kernel), List.mem_of_getElem? (i := 1396) (by decide +kernel)⟩
theorem lw_p73 : lw_okq (⟨"HeardTunesModel", "draw", "(I)I"⟩, 58) := ⟨⟨by decide +kernel, by decide +kernel⟩, List.mem_of_getElem? (i := 1011) (by decide +kernel), List.mem_of_getElem? (i := 1404) (by decide +kernel), List.mem_of_getElem? (i := 1405) (by decide +kernel)⟩
theorem lw_p74 : lw_okq (⟨"HeardTunesModel", "save", "()V"⟩, 58) := ⟨⟨by decide +kernel, by decide +kernel⟩, List.mem_of_getElem? (i := 1011) (by decide +kernel), List.mem_of_getElem? (i := 1425) (by decide +kernel), List.mem_of_getElem? (i := 1426) (by decide +kernel)⟩
theorem lw_p75 : lw_okq (⟨"HeardTunesModel", "follow", "(I)I"⟩, 58) := ⟨⟨by decide +kernel, by decide +kernel⟩, List.mem_of_getElem? (i := 1011) (by decide +kernel), List.mem_of_getElem? (i := 1429) (by decide +kernel), List.mem_of_getElem? (i := 1430) (by decide +kernel)⟩
theorem lw_p76 : lw_okq (⟨"HeardTunesModel", "putBack", "()V"⟩, 58) := ⟨⟨by decide +kernel, by decide +kernel⟩, List.mem_of_getElem? (i := 1011) (by decide +kernel), List.mem_of_getElem? (i := 1433) (by decide +kernel), List.mem_of_getElem? (i := 1434) (by decide +kernel)⟩
theorem lw_p77 : lw_okq (⟨"HeardTunesModel", "leadsOut", "(IIII)Z"⟩, 58) := ⟨⟨by decide +kernel, by decide +kernel⟩, List.mem_of_getElem? (i := 1011) (by decide +kernel), List.mem_of_getElem? (i := 1455) (by decide +kernel), List.mem_of_getElem? (i := 1456) (by decide +kernel)⟩
theorem lw_p78 : lw_okq (⟨"HeardTunesModel", "isLedOut", "(I)Z"⟩, 58) := ⟨⟨by decide +kernel, by decide +kernel⟩, List.mem_of_getElem? (i := 1011) (by decide +kernel), List.mem_of_getElem? (i := 1462) (by decide +kernel), List.mem_of_getElem? (i := 1463) (by decide +kernel)⟩
theorem lw_p79 : lw_okq (⟨"HeardTunesModel", "isWalk", "(III)Z"⟩, 58) := ⟨⟨by decide +kernel, by decide +kernel⟩, List.mem_of_getElem? (i := 1011) (by decide +kernel), List.mem_of_getElem? (i := 1483) (by decide +kernel), List.mem_of_getElem? (i := 1484) (by decide +kernel)⟩
def lw_privs_5 : List (MethodName × Nat) := [(⟨"HeardTunesModel", "isCrowd", "(I)Z"⟩, 58), (⟨"HeardTunesModel", "isTune", "(I)Z"⟩, 58), (⟨"HeardTunesModel", "hears", "(II)Z"⟩, 58), (⟨"HeardTunesModel", "isHere", "(I)Z"⟩, 58), (⟨"HeardTunesModel", "minuteBy", "(II)Z"⟩, 58), (⟨"HeardTunesModel", "stepTo", "(I)I"⟩, 58), (⟨"HeardTunesModel", "walkOn", "(I)V"⟩, 58), (⟨"HeardTunesModel", "stepOn", "(I)V"⟩, 58), (⟨"HeardTunesModel", "isSomebody", "(I)Z"⟩, 58), (⟨"HeardTunesModel", "draw", "(I)I"⟩, 58), (⟨"HeardTunesModel", "save", "()V"⟩, 58), (⟨"HeardTunesModel", "follow", "(I)I"⟩, 58), (⟨"HeardTunesModel", "putBack", "()V"⟩, 58), (⟨"HeardTunesModel", "leadsOut", "(IIII)Z"⟩, 58), (⟨"HeardTunesModel", "isLedOut", "(I)Z"⟩, 58), (⟨"HeardTunesModel", "isWalk", "(III)Z"⟩, 58)]
theorem lw_r5 : ∀ q ∈ lw_privs_5, lw_okq q := List.forall_mem_cons.mpr ⟨lw_p64, List.forall_mem_cons.mpr ⟨lw_p65, List.forall_mem_cons.mpr ⟨lw_p66, List.forall_mem_cons.mpr ⟨lw_p67, List.forall_mem_cons.mpr ⟨lw_p68, List.forall_mem_cons.mpr ⟨lw_p69, List.forall_mem_cons.mpr ⟨lw_p70, List.forall_mem_cons.mpr ⟨lw_p71, List.forall_mem_cons.mpr ⟨lw_p72, List.forall_mem_cons.mpr ⟨lw_p73, List.forall_mem_cons.mpr ⟨lw_p74, List.forall_mem_cons.mpr ⟨lw_p75, List.forall_mem_cons.mpr ⟨lw_p76, List.forall_mem_cons.mpr ⟨lw_p77, List.forall_mem_cons.mpr ⟨lw_p78, List.forall_mem_cons.mpr ⟨lw_p79, fun _ h => absurd h List.not_mem_nil⟩⟩⟩⟩⟩⟩⟩⟩⟩⟩⟩⟩⟩⟩⟩⟩
theorem lw_p80 : lw_okq (⟨"HeardTunesModel", "isAsSeen", "(I)Z"⟩, 58) := ⟨⟨by decide +kernel, by decide +kernel⟩, List.mem_of_getElem? (i := 1011) (by decide +kernel), List.mem_of_getElem? (i := 1487) (by decide +kernel), List.mem_of_getElem? (i := 1488) (by decide +kernel)⟩
def lw_privs_6 : List (MethodName × Nat) := [(⟨"HeardTunesModel", "isAsSeen", "(I)Z"⟩, 58)]
theorem lw_r6 : ∀ q ∈ lw_privs_6, lw_okq q := List.forall_mem_cons.mpr ⟨lw_p80, fun _ h => absurd h List.not_mem_nil⟩
def lw_privs : List (MethodName × Nat) := lw_privs_1 ++ (lw_privs_2 ++ (lw_privs_3 ++ (lw_privs_4 ++ (lw_privs_5 ++ (lw_privs_6)))))
def lw_tbl : List Cond := k2_sels lw_privs ++ tables_1
theorem lw_privs_ok : ∀ q ∈ lw_privs, lw_okq q := by
  show ∀ q ∈ lw_privs_1 ++ (lw_privs_2 ++ (lw_privs_3 ++ (lw_privs_4 ++ (lw_privs_5 ++ (lw_privs_6))))), lw_okq q
  exact List.forall_mem_append.mpr ⟨lw_r1, List.forall_mem_append.mpr ⟨lw_r2, List.forall_mem_append.mpr ⟨lw_r3, List.forall_mem_append.mpr ⟨lw_r4, List.forall_mem_append.mpr ⟨lw_r5, lw_r6⟩⟩⟩⟩⟩
/-! ===== BEGIN words of one list among another's, by their places ===== -/
theorem goodIn_r {big : List Cond} (ws : List Cond) (ps : List Nat) (hp : ws = ps.filterMap (fun i => big[i]?)) (h : ws.all goodWord = true) : GoodIn big ws := by
  intro w hw
  have h1 := List.all_eq_true.mp h w hw
  rw [hp] at hw
  obtain ⟨i, -, hi⟩ := List.mem_filterMap.mp hw
  have hm : w ∈ big := by first | exact List.mem_of_getElem? hi | exact List.getElem?_mem hi
  exact ⟨hm, good_of_word h1⟩
theorem goodIn_app {big a b : List Cond} (ha : GoodIn big a) (hb : GoodIn big b) : GoodIn big (a ++ b) := fun w h => (List.mem_append.mp h).elim (ha w) (hb w)
theorem goodIn_ca {big a b : List Cond} {c : Cond} (ha : GoodIn big (c :: a)) (hb : GoodIn big b) : GoodIn big (c :: (a ++ b)) := fun w h => (List.mem_cons.mp h).elim (fun e => ha w (List.mem_cons.mpr (Or.inl e))) (fun h => (List.mem_append.mp h).elim (fun h => ha w (List.mem_cons.mpr (Or.inr h))) (hb w))
theorem goodIn_sub {big ws : List Cond} (hm : ∀ w ∈ ws, w ∈ big) (h : ws.all goodWord = true) : GoodIn big ws := fun w hw => ⟨hm w hw, good_of_word (List.all_eq_true.mp h w hw)⟩
/-! ===== END ===== -/

/-! ===== BEGIN printed: names, fields, word lists, decode rows ===== -/
def RX0 : String := "HeardTunes$Fitting"
def TX0 : u_T := fun k => match k with
  | 0 => ("HeardTunes$Fitting", "count", "I", false)
  | 1 => ("HeardTunes$Fitting", "seen", "LHeardTunes$Seen;", true)
  | 2 => ("HeardTunes$Fitting", "ground", "LHeardTunes$Ground;", true)
  | 3 => ("HeardTunes$Fitting", "levels", "[LHeardTunes$Scene;", true)
  | 4 => ("HeardTunes$Fitting", "steps", "[I", true)
  | 5 => ("HeardTunes$Fitting", "first", "[I", true)
  | 6 => ("HeardTunes$Fitting", "free", "[I", true)
  | 7 => ("HeardTunes$Fitting", "memo", "LHeardTunes$Memo;", true)
  | 8 => ("HeardTunes$Fitting", "isFound", "Z", false)
  | 9 => ("HeardTunes$Fitting", "length", "I", false)
  | 10 => ("HeardTunes$Fitting", "latest", "I", false)
  | _ => ("HeardTunes$Fitting", "tune", "I", false)
def tyX0 : Nat → FieldType := fun k => match k with
  | 0 => .int
  | 1 => .object "HeardTunes$Seen"
  | 2 => .object "HeardTunes$Ground"
  | 3 => .array (.object "HeardTunes$Scene")
  | 4 => .array .int
  | 5 => .array .int
  | 6 => .array .int
  | 7 => .object "HeardTunes$Memo"
  | 8 => .boolean
  | 9 => .int
  | 10 => .int
  | _ => .int
abbrev wsX00 : List Cond := u_ws RX0 TX0 12
theorem nmX0 : ∀ a, a < 12 → ∀ b, b < 12 → a ≠ b → (TX0 a).2.1 ≠ (TX0 b).2.1 := by decide +kernel
theorem tyX0_ok : ∀ k, k < 12 → parseFieldDescriptor (TX0 k).2.2.1 = some (tyX0 k) := by decide +kernel
abbrev cX0_init : ByteArray := prog_2_method_1_code
def yX0_init : MethodName := ⟨RX0, "<init>", "(LHeardTunes$Town;LHeardTunes$Ground;LHeardTunes$Seen;LHeardTunes$Memo;)V"⟩
abbrev cX0_stepAt : ByteArray := prog_2_method_2_code
def yX0_stepAt : MethodName := ⟨RX0, "stepAt", "(I)I"⟩
abbrev cX0_search : ByteArray := prog_2_method_3_code
def yX0_search : MethodName := ⟨RX0, "search", "(LHeardTunes$Scene;II)V"⟩
abbrev cX0_countFree : ByteArray := prog_2_method_4_code
def yX0_countFree : MethodName := ⟨RX0, "countFree", "()V"⟩
abbrev cX0_countFreeFrom : ByteArray := prog_2_method_5_code
def yX0_countFreeFrom : MethodName := ⟨RX0, "countFreeFrom", "(LHeardTunes$Scene;I)I"⟩
abbrev cX0_freeFrom : ByteArray := prog_2_method_6_code
def yX0_freeFrom : MethodName := ⟨RX0, "freeFrom", "(II)I"⟩
abbrev cX0_fit : ByteArray := prog_2_method_7_code
def yX0_fit : MethodName := ⟨RX0, "fit", "(I)I"⟩
abbrev cX0_fitSteps : ByteArray := prog_2_method_8_code
def yX0_fitSteps : MethodName := ⟨RX0, "fitSteps", "(I)I"⟩
abbrev cX0_keepFirst : ByteArray := prog_2_method_9_code
def yX0_keepFirst : MethodName := ⟨RX0, "keepFirst", "()V"⟩
def RX1 : String := "HeardTunes$Ground"
def TX1 : u_T := fun k => match k with
  | 0 => ("HeardTunes$Ground", "count", "I", false)
  | 1 => ("HeardTunes$Ground", "whats", "[I", true)
  | 2 => ("HeardTunes$Ground", "width", "I", false)
  | 3 => ("HeardTunes$Ground", "height", "I", false)
  | 4 => ("HeardTunes$Ground", "codes", "[I", true)
  | 5 => ("HeardTunes$Ground", "besides", "[I", true)
  | 6 => ("HeardTunes$Ground", "ways", "[I", true)
  | 7 => ("HeardTunes$Ground", "isFound", "[Z", true)
  | _ => ("HeardTunes$Ground", "queue", "[I", true)
def tyX1 : Nat → FieldType := fun k => match k with
  | 0 => .int
  | 1 => .array .int
  | 2 => .int
  | 3 => .int
  | 4 => .array .int
  | 5 => .array .int
  | 6 => .array .int
  | 7 => .array .boolean
  | _ => .array .int
abbrev wsX10 : List Cond := u_ws RX1 TX1 9
theorem nmX1 : ∀ a, a < 9 → ∀ b, b < 9 → a ≠ b → (TX1 a).2.1 ≠ (TX1 b).2.1 := by decide +kernel
theorem tyX1_ok : ∀ k, k < 9 → parseFieldDescriptor (TX1 k).2.2.1 = some (tyX1 k) := by decide +kernel
abbrev cX1_init : ByteArray := prog_3_method_1_code
def yX1_init : MethodName := ⟨RX1, "<init>", "()V"⟩
abbrev cX1_isCell : ByteArray := prog_3_method_2_code
def yX1_isCell : MethodName := ⟨RX1, "isCell", "(I)Z"⟩
abbrev cX1_lay : ByteArray := prog_3_method_3_code
def yX1_lay : MethodName := ⟨RX1, "lay", "(LHeardTunes$Town;)V"⟩
abbrev cX1_layCell : ByteArray := prog_3_method_4_code
def yX1_layCell : MethodName := ⟨RX1, "layCell", "(II)V"⟩
abbrev cX1_takeWhats : ByteArray := prog_3_method_5_code
def yX1_takeWhats : MethodName := ⟨RX1, "takeWhats", "([I)V"⟩
abbrev cX1_giveWhats : ByteArray := prog_3_method_6_code
def yX1_giveWhats : MethodName := ⟨RX1, "giveWhats", "([I)V"⟩
abbrev cX1_copy : ByteArray := prog_3_method_7_code
def yX1_copy : MethodName := ⟨RX1, "copy", "(LHeardTunes$Ground;)V"⟩
abbrev cX1_put : ByteArray := prog_3_method_8_code
def yX1_put : MethodName := ⟨RX1, "put", "(II)V"⟩
abbrev cX1_forgetWays : ByteArray := prog_3_method_9_code
def yX1_forgetWays : MethodName := ⟨RX1, "forgetWays", "()V"⟩
abbrev cX1_cellAt : ByteArray := prog_3_method_10_code
def yX1_cellAt : MethodName := ⟨RX1, "cellAt", "(II)I"⟩
abbrev cX1_what : ByteArray := prog_3_method_11_code
def yX1_what : MethodName := ⟨RX1, "what", "(I)I"⟩
abbrev cX1_code : ByteArray := prog_3_method_12_code
def yX1_code : MethodName := ⟨RX1, "code", "(I)I"⟩
abbrev cX1_beside : ByteArray := prog_3_method_13_code
def yX1_beside : MethodName := ⟨RX1, "beside", "(II)I"⟩
abbrev cX1_steps : ByteArray := prog_3_method_14_code
def yX1_steps : MethodName := ⟨RX1, "steps", "(II)I"⟩
abbrev cX1_onward : ByteArray := prog_3_method_15_code
def yX1_onward : MethodName := ⟨RX1, "onward", "(II)I"⟩
abbrev cX1_findWays : ByteArray := prog_3_method_16_code
def yX1_findWays : MethodName := ⟨RX1, "findWays", "(I)V"⟩
def RX2 : String := "HeardTunes$Image"
def TX2 : u_T := fun k => match k with
  | 0 => ("HeardTunes$Image", "isKept", "Z", false)
  | 1 => ("HeardTunes$Image", "theSeed", "I", false)
  | 2 => ("HeardTunes$Image", "scene", "LHeardTunes$Scene;", true)
  | _ => ("HeardTunes$Image", "whats", "[I", true)
def tyX2 : Nat → FieldType := fun k => match k with
  | 0 => .boolean
  | 1 => .int
  | 2 => .object "HeardTunes$Scene"
  | _ => .array .int
abbrev wsX20 : List Cond := u_ws RX2 TX2 4
theorem nmX2 : ∀ a, a < 4 → ∀ b, b < 4 → a ≠ b → (TX2 a).2.1 ≠ (TX2 b).2.1 := by decide +kernel
theorem tyX2_ok : ∀ k, k < 4 → parseFieldDescriptor (TX2 k).2.2.1 = some (tyX2 k) := by decide +kernel
abbrev cX2_init : ByteArray := prog_4_method_1_code
def yX2_init : MethodName := ⟨RX2, "<init>", "(LHeardTunes$Town;LHeardTunes$Ground;)V"⟩
abbrev cX2_take : ByteArray := prog_4_method_2_code
def yX2_take : MethodName := ⟨RX2, "take", "(LHeardTunes$Scene;LHeardTunes$Ground;I)V"⟩
abbrev cX2_give : ByteArray := prog_4_method_3_code
def yX2_give : MethodName := ⟨RX2, "give", "(LHeardTunes$Scene;LHeardTunes$Ground;)V"⟩
def RX3 : String := "HeardTunes$Memo"
def TX3 : u_T := fun k => match k with
  | 0 => ("HeardTunes$Memo", "places", "[J", true)
  | 1 => ("HeardTunes$Memo", "goals", "[J", true)
  | _ => ("HeardTunes$Memo", "values", "[I", true)
def tyX3 : Nat → FieldType := fun k => match k with
  | 0 => .array .long
  | 1 => .array .long
  | _ => .array .int
abbrev wsX30 : List Cond := u_ws RX3 TX3 3
theorem nmX3 : ∀ a, a < 3 → ∀ b, b < 3 → a ≠ b → (TX3 a).2.1 ≠ (TX3 b).2.1 := by decide +kernel
theorem tyX3_ok : ∀ k, k < 3 → parseFieldDescriptor (TX3 k).2.2.1 = some (tyX3 k) := by decide +kernel
abbrev cX3_init : ByteArray := prog_5_method_1_code
def yX3_init : MethodName := ⟨RX3, "<init>", "()V"⟩
abbrev cX3_clear : ByteArray := prog_5_method_2_code
def yX3_clear : MethodName := ⟨RX3, "clear", "()V"⟩
abbrev cX3_slot : ByteArray := prog_5_method_3_code
def yX3_slot : MethodName := ⟨RX3, "slot", "(JJ)I"⟩
abbrev cX3_value : ByteArray := prog_5_method_4_code
def yX3_value : MethodName := ⟨RX3, "value", "(JJ)I"⟩
abbrev cX3_put : ByteArray := prog_5_method_5_code
def yX3_put : MethodName := ⟨RX3, "put", "(JJI)V"⟩
def RX4 : String := "HeardTunes$Plan"
def TX4 : u_T := fun k => match k with
  | 0 => ("HeardTunes$Plan", "count", "I", false)
  | 1 => ("HeardTunes$Plan", "steps", "[I", true)
  | _ => ("HeardTunes$Plan", "tunes", "[I", true)
def tyX4 : Nat → FieldType := fun k => match k with
  | 0 => .int
  | 1 => .array .int
  | _ => .array .int
abbrev wsX40 : List Cond := u_ws RX4 TX4 3
theorem nmX4 : ∀ a, a < 3 → ∀ b, b < 3 → a ≠ b → (TX4 a).2.1 ≠ (TX4 b).2.1 := by decide +kernel
theorem tyX4_ok : ∀ k, k < 3 → parseFieldDescriptor (TX4 k).2.2.1 = some (tyX4 k) := by decide +kernel
abbrev cX4_init : ByteArray := prog_6_method_1_code
def yX4_init : MethodName := ⟨RX4, "<init>", "()V"⟩
abbrev cX4_add : ByteArray := prog_6_method_2_code
def yX4_add : MethodName := ⟨RX4, "add", "(II)V"⟩
abbrev cX4_run : ByteArray := prog_6_method_3_code
def yX4_run : MethodName := ⟨RX4, "run", "(LHeardTunes$Scene;I)I"⟩
def RX5 : String := "HeardTunes$Reader"
def TX5 : u_T := fun k => match k with
  | 0 => ("HeardTunes$Reader", "length", "I", false)
  | 1 => ("HeardTunes$Reader", "fault", "I", false)
  | 2 => ("HeardTunes$Reader", "faultAt", "I", false)
  | 3 => ("HeardTunes$Reader", "text", "[I", true)
  | 4 => ("HeardTunes$Reader", "next", "I", false)
  | _ => ("HeardTunes$Reader", "numberAt", "I", false)
def tyX5 : Nat → FieldType := fun k => match k with
  | 0 => .int
  | 1 => .int
  | 2 => .int
  | 3 => .array .int
  | 4 => .int
  | _ => .int
abbrev wsX50 : List Cond := u_ws RX5 TX5 6
theorem nmX5 : ∀ a, a < 6 → ∀ b, b < 6 → a ≠ b → (TX5 a).2.1 ≠ (TX5 b).2.1 := by decide +kernel
theorem tyX5_ok : ∀ k, k < 6 → parseFieldDescriptor (TX5 k).2.2.1 = some (tyX5 k) := by decide +kernel
abbrev cX5_init : ByteArray := prog_7_method_1_code
def yX5_init : MethodName := ⟨RX5, "<init>", "()V"⟩
abbrev cX5_add : ByteArray := prog_7_method_2_code
def yX5_add : MethodName := ⟨RX5, "add", "(I)V"⟩
abbrev cX5_read : ByteArray := prog_7_method_3_code
def yX5_read : MethodName := ⟨RX5, "read", "(LHeardTunes$Town;)Z"⟩
abbrev cX5_blame : ByteArray := prog_7_method_4_code
def yX5_blame : MethodName := ⟨RX5, "blame", "(II)V"⟩
abbrev cX5_readSentence : ByteArray := prog_7_method_5_code
def yX5_readSentence : MethodName := ⟨RX5, "readSentence", "(LHeardTunes$Town;)V"⟩
abbrev cX5_isTooMany : ByteArray := prog_7_method_6_code
def yX5_isTooMany : MethodName := ⟨RX5, "isTooMany", "(LHeardTunes$Town;I)Z"⟩
abbrev cX5_readSize : ByteArray := prog_7_method_7_code
def yX5_readSize : MethodName := ⟨RX5, "readSize", "(LHeardTunes$Town;)V"⟩
abbrev cX5_readSpot : ByteArray := prog_7_method_8_code
def yX5_readSpot : MethodName := ⟨RX5, "readSpot", "(LHeardTunes$Town;I)V"⟩
abbrev cX5_readCrowd : ByteArray := prog_7_method_9_code
def yX5_readCrowd : MethodName := ⟨RX5, "readCrowd", "(LHeardTunes$Town;)V"⟩
abbrev cX5_readTune : ByteArray := prog_7_method_10_code
def yX5_readTune : MethodName := ⟨RX5, "readTune", "(LHeardTunes$Town;)V"⟩
abbrev cX5_readPiper : ByteArray := prog_7_method_11_code
def yX5_readPiper : MethodName := ⟨RX5, "readPiper", "(LHeardTunes$Town;)V"⟩
abbrev cX5_readPay : ByteArray := prog_7_method_12_code
def yX5_readPay : MethodName := ⟨RX5, "readPay", "(LHeardTunes$Town;)V"⟩
abbrev cX5_readCell : ByteArray := prog_7_method_13_code
def yX5_readCell : MethodName := ⟨RX5, "readCell", "(LHeardTunes$Town;)I"⟩
abbrev cX5_blameIfSpot : ByteArray := prog_7_method_14_code
def yX5_blameIfSpot : MethodName := ⟨RX5, "blameIfSpot", "(LHeardTunes$Town;I)V"⟩
abbrev cX5_readNumber : ByteArray := prog_7_method_15_code
def yX5_readNumber : MethodName := ⟨RX5, "readNumber", "(II)I"⟩
abbrev cX5_readEnd : ByteArray := prog_7_method_16_code
def yX5_readEnd : MethodName := ⟨RX5, "readEnd", "()V"⟩
abbrev cX5_readWord : ByteArray := prog_7_method_17_code
def yX5_readWord : MethodName := ⟨RX5, "readWord", "()I"⟩
abbrev cX5_isWord : ByteArray := prog_7_method_18_code
def yX5_isWord : MethodName := ⟨RX5, "isWord", "(ILjava/lang/String;)Z"⟩
abbrev cX5_skipBlanks : ByteArray := prog_7_method_19_code
def yX5_skipBlanks : MethodName := ⟨RX5, "skipBlanks", "()V"⟩
def RX6 : String := "HeardTunes$Scene"
def TX6 : u_T := fun k => match k with
  | 0 => ("HeardTunes$Scene", "piper", "I", false)
  | 1 => ("HeardTunes$Scene", "minutes", "I", false)
  | 2 => ("HeardTunes$Scene", "at", "[I", true)
  | 3 => ("HeardTunes$Scene", "goal", "[I", true)
  | 4 => ("HeardTunes$Scene", "town", "LHeardTunes$Town;", true)
  | _ => ("HeardTunes$Scene", "ground", "LHeardTunes$Ground;", true)
def tyX6 : Nat → FieldType := fun k => match k with
  | 0 => .int
  | 1 => .int
  | 2 => .array .int
  | 3 => .array .int
  | 4 => .object "HeardTunes$Town"
  | _ => .object "HeardTunes$Ground"
abbrev wsX60 : List Cond := u_ws RX6 TX6 6
theorem nmX6 : ∀ a, a < 6 → ∀ b, b < 6 → a ≠ b → (TX6 a).2.1 ≠ (TX6 b).2.1 := by decide +kernel
theorem tyX6_ok : ∀ k, k < 6 → parseFieldDescriptor (TX6 k).2.2.1 = some (tyX6 k) := by decide +kernel
abbrev cX6_init : ByteArray := prog_8_method_1_code
def yX6_init : MethodName := ⟨RX6, "<init>", "(LHeardTunes$Town;LHeardTunes$Ground;)V"⟩
abbrev cX6_begin : ByteArray := prog_8_method_2_code
def yX6_begin : MethodName := ⟨RX6, "begin", "()V"⟩
abbrev cX6_copy : ByteArray := prog_8_method_3_code
def yX6_copy : MethodName := ⟨RX6, "copy", "(LHeardTunes$Scene;)V"⟩
abbrev cX6_may : ByteArray := prog_8_method_4_code
def yX6_may : MethodName := ⟨RX6, "may", "(I)Z"⟩
abbrev cX6_pass : ByteArray := prog_8_method_5_code
def yX6_pass : MethodName := ⟨RX6, "pass", "(II)V"⟩
abbrev cX6_hears : ByteArray := prog_8_method_6_code
def yX6_hears : MethodName := ⟨RX6, "hears", "(II)Z"⟩
abbrev cX6_lead : ByteArray := prog_8_method_7_code
def yX6_lead : MethodName := ⟨RX6, "lead", "(I)V"⟩
abbrev cX6_hearers : ByteArray := prog_8_method_8_code
def yX6_hearers : MethodName := ⟨RX6, "hearers", "(I)I"⟩
abbrev cX6_fate : ByteArray := prog_8_method_9_code
def yX6_fate : MethodName := ⟨RX6, "fate", "(I)I"⟩
abbrev cX6_isHere : ByteArray := prog_8_method_10_code
def yX6_isHere : MethodName := ⟨RX6, "isHere", "(I)Z"⟩
abbrev cX6_isAt : ByteArray := prog_8_method_11_code
def yX6_isAt : MethodName := ⟨RX6, "isAt", "(II)Z"⟩
abbrev cX6_holds : ByteArray := prog_8_method_12_code
def yX6_holds : MethodName := ⟨RX6, "holds", "(I)Z"⟩
abbrev cX6_heads : ByteArray := prog_8_method_13_code
def yX6_heads : MethodName := ⟨RX6, "heads", "(II)I"⟩
abbrev cX6_left : ByteArray := prog_8_method_14_code
def yX6_left : MethodName := ⟨RX6, "left", "()I"⟩
abbrev cX6_worth : ByteArray := prog_8_method_15_code
def yX6_worth : MethodName := ⟨RX6, "worth", "()I"⟩
abbrev cX6_places : ByteArray := prog_8_method_16_code
def yX6_places : MethodName := ⟨RX6, "places", "()J"⟩
abbrev cX6_goals : ByteArray := prog_8_method_17_code
def yX6_goals : MethodName := ⟨RX6, "goals", "()J"⟩
def RX7 : String := "HeardTunes$Seen"
def TX7 : u_T := fun k => match k with
  | 0 => ("HeardTunes$Seen", "count", "I", false)
  | 1 => ("HeardTunes$Seen", "crowds", "[I", true)
  | 2 => ("HeardTunes$Seen", "minutes", "[I", true)
  | _ => ("HeardTunes$Seen", "cells", "[I", true)
def tyX7 : Nat → FieldType := fun k => match k with
  | 0 => .int
  | 1 => .array .int
  | 2 => .array .int
  | _ => .array .int
abbrev wsX70 : List Cond := u_ws RX7 TX7 4
theorem nmX7 : ∀ a, a < 4 → ∀ b, b < 4 → a ≠ b → (TX7 a).2.1 ≠ (TX7 b).2.1 := by decide +kernel
theorem tyX7_ok : ∀ k, k < 4 → parseFieldDescriptor (TX7 k).2.2.1 = some (tyX7 k) := by decide +kernel
abbrev cX7_init : ByteArray := prog_9_method_1_code
def yX7_init : MethodName := ⟨RX7, "<init>", "()V"⟩
abbrev cX7_add : ByteArray := prog_9_method_2_code
def yX7_add : MethodName := ⟨RX7, "add", "(III)V"⟩
abbrev cX7_fits : ByteArray := prog_9_method_3_code
def yX7_fits : MethodName := ⟨RX7, "fits", "(LHeardTunes$Scene;I)Z"⟩
abbrev cX7_latest : ByteArray := prog_9_method_4_code
def yX7_latest : MethodName := ⟨RX7, "latest", "(I)I"⟩
def RX8 : String := "HeardTunes$Soonest"
def TX8 : u_T := fun k => match k with
  | 0 => ("HeardTunes$Soonest", "minutes", "I", false)
  | 1 => ("HeardTunes$Soonest", "town", "LHeardTunes$Town;", true)
  | 2 => ("HeardTunes$Soonest", "ground", "LHeardTunes$Ground;", true)
  | 3 => ("HeardTunes$Soonest", "levels", "[LHeardTunes$Scene;", true)
  | 4 => ("HeardTunes$Soonest", "steps", "[I", true)
  | 5 => ("HeardTunes$Soonest", "toGate", "[I", true)
  | 6 => ("HeardTunes$Soonest", "memo", "LHeardTunes$Memo;", true)
  | 7 => ("HeardTunes$Soonest", "isKnown", "Z", false)
  | 8 => ("HeardTunes$Soonest", "kind", "I", false)
  | _ => ("HeardTunes$Soonest", "tune", "I", false)
def tyX8 : Nat → FieldType := fun k => match k with
  | 0 => .int
  | 1 => .object "HeardTunes$Town"
  | 2 => .object "HeardTunes$Ground"
  | 3 => .array (.object "HeardTunes$Scene")
  | 4 => .array .int
  | 5 => .array .int
  | 6 => .object "HeardTunes$Memo"
  | 7 => .boolean
  | 8 => .int
  | _ => .int
abbrev wsX80 : List Cond := u_ws RX8 TX8 10
theorem nmX8 : ∀ a, a < 10 → ∀ b, b < 10 → a ≠ b → (TX8 a).2.1 ≠ (TX8 b).2.1 := by decide +kernel
theorem tyX8_ok : ∀ k, k < 10 → parseFieldDescriptor (TX8 k).2.2.1 = some (tyX8 k) := by decide +kernel
abbrev cX8_init : ByteArray := prog_10_method_1_code
def yX8_init : MethodName := ⟨RX8, "<init>", "(LHeardTunes$Town;LHeardTunes$Ground;LHeardTunes$Memo;)V"⟩
abbrev cX8_forget : ByteArray := prog_10_method_2_code
def yX8_forget : MethodName := ⟨RX8, "forget", "()V"⟩
abbrev cX8_stepAt : ByteArray := prog_10_method_3_code
def yX8_stepAt : MethodName := ⟨RX8, "stepAt", "(I)I"⟩
abbrev cX8_search : ByteArray := prog_10_method_4_code
def yX8_search : MethodName := ⟨RX8, "search", "(LHeardTunes$Scene;II)V"⟩
abbrev cX8_findGates : ByteArray := prog_10_method_5_code
def yX8_findGates : MethodName := ⟨RX8, "findGates", "()V"⟩
abbrev cX8_leads : ByteArray := prog_10_method_6_code
def yX8_leads : MethodName := ⟨RX8, "leads", "(II)Z"⟩
abbrev cX8_stepLeads : ByteArray := prog_10_method_7_code
def yX8_stepLeads : MethodName := ⟨RX8, "stepLeads", "(II)Z"⟩
abbrev cX8_outlook : ByteArray := prog_10_method_8_code
def yX8_outlook : MethodName := ⟨RX8, "outlook", "(LHeardTunes$Scene;I)I"⟩
abbrev cX8_canLeave : ByteArray := prog_10_method_9_code
def yX8_canLeave : MethodName := ⟨RX8, "canLeave", "(LHeardTunes$Scene;II)Z"⟩
def RX9 : String := "HeardTunes$Town"
def TX9 : u_T := fun k => match k with
  | 0 => ("HeardTunes$Town", "width", "I", false)
  | 1 => ("HeardTunes$Town", "height", "I", false)
  | 2 => ("HeardTunes$Town", "spots", "I", false)
  | 3 => ("HeardTunes$Town", "crowds", "I", false)
  | 4 => ("HeardTunes$Town", "tunes", "I", false)
  | 5 => ("HeardTunes$Town", "piper", "I", false)
  | 6 => ("HeardTunes$Town", "hasPay", "Z", false)
  | 7 => ("HeardTunes$Town", "forOut", "I", false)
  | 8 => ("HeardTunes$Town", "forDrowned", "I", false)
  | 9 => ("HeardTunes$Town", "what", "[I", true)
  | 10 => ("HeardTunes$Town", "kind", "[I", true)
  | 11 => ("HeardTunes$Town", "start", "[I", true)
  | 12 => ("HeardTunes$Town", "heads", "[I", true)
  | 13 => ("HeardTunes$Town", "pace", "[I", true)
  | 14 => ("HeardTunes$Town", "deaf", "[I", true)
  | 15 => ("HeardTunes$Town", "follows", "[I", true)
  | _ => ("HeardTunes$Town", "reach", "[I", true)
def tyX9 : Nat → FieldType := fun k => match k with
  | 0 => .int
  | 1 => .int
  | 2 => .int
  | 3 => .int
  | 4 => .int
  | 5 => .int
  | 6 => .boolean
  | 7 => .int
  | 8 => .int
  | 9 => .array .int
  | 10 => .array .int
  | 11 => .array .int
  | 12 => .array .int
  | 13 => .array .int
  | 14 => .array .int
  | 15 => .array .int
  | _ => .array .int
abbrev wsX90 : List Cond := u_ws RX9 TX9 17
theorem nmX9 : ∀ a, a < 17 → ∀ b, b < 17 → a ≠ b → (TX9 a).2.1 ≠ (TX9 b).2.1 := by decide +kernel
theorem tyX9_ok : ∀ k, k < 17 → parseFieldDescriptor (TX9 k).2.2.1 = some (tyX9 k) := by decide +kernel
abbrev cX9_init : ByteArray := prog_11_method_1_code
def yX9_init : MethodName := ⟨RX9, "<init>", "()V"⟩
abbrev cX9_clear : ByteArray := prog_11_method_2_code
def yX9_clear : MethodName := ⟨RX9, "clear", "()V"⟩
abbrev cX9_followers : ByteArray := prog_11_method_3_code
def yX9_followers : MethodName := ⟨RX9, "followers", "(I)I"⟩
abbrev cX9_isFollower : ByteArray := prog_11_method_4_code
def yX9_isFollower : MethodName := ⟨RX9, "isFollower", "(II)Z"⟩
abbrev cX9_isSpot : ByteArray := prog_11_method_5_code
def yX9_isSpot : MethodName := ⟨RX9, "isSpot", "(I)Z"⟩
abbrev cX9_isTaken : ByteArray := prog_11_method_6_code
def yX9_isTaken : MethodName := ⟨RX9, "isTaken", "(I)Z"⟩
abbrev cX9_addSpot : ByteArray := prog_11_method_7_code
def yX9_addSpot : MethodName := ⟨RX9, "addSpot", "(II)V"⟩
abbrev cX9_addCrowd : ByteArray := prog_11_method_8_code
def yX9_addCrowd : MethodName := ⟨RX9, "addCrowd", "(IIIII)V"⟩
abbrev cX9_addTune : ByteArray := prog_11_method_9_code
def yX9_addTune : MethodName := ⟨RX9, "addTune", "(II)V"⟩
abbrev cX9_placePiperIfUntold : ByteArray := prog_11_method_10_code
def yX9_placePiperIfUntold : MethodName := ⟨RX9, "placePiperIfUntold", "()V"⟩
def RX10 : String := "HeardTunes"
def TX10 : u_T := fun k => match k with
  | 0 => ("HeardTunes", "reader", "LHeardTunes$Reader;", true)
  | 1 => ("HeardTunes", "tale", "LHeardTunes$Town;", true)
  | 2 => ("HeardTunes", "draft", "LHeardTunes$Town;", true)
  | 3 => ("HeardTunes", "ground", "LHeardTunes$Ground;", true)
  | 4 => ("HeardTunes", "walledGround", "LHeardTunes$Ground;", true)
  | 5 => ("HeardTunes", "now", "LHeardTunes$Scene;", true)
  | 6 => ("HeardTunes", "trial", "LHeardTunes$Scene;", true)
  | 7 => ("HeardTunes", "walledTrial", "LHeardTunes$Scene;", true)
  | 8 => ("HeardTunes", "row", "LHeardTunes$Plan;", true)
  | 9 => ("HeardTunes", "seen", "LHeardTunes$Seen;", true)
  | 10 => ("HeardTunes", "memo", "LHeardTunes$Memo;", true)
  | 11 => ("HeardTunes", "leading", "LHeardTunes$Soonest;", true)
  | 12 => ("HeardTunes", "fitting", "LHeardTunes$Fitting;", true)
  | 13 => ("HeardTunes", "images", "[LHeardTunes$Image;", true)
  | _ => ("HeardTunes", "theSeed", "I", false)
def tyX10 : Nat → FieldType := fun k => match k with
  | 0 => .object "HeardTunes$Reader"
  | 1 => .object "HeardTunes$Town"
  | 2 => .object "HeardTunes$Town"
  | 3 => .object "HeardTunes$Ground"
  | 4 => .object "HeardTunes$Ground"
  | 5 => .object "HeardTunes$Scene"
  | 6 => .object "HeardTunes$Scene"
  | 7 => .object "HeardTunes$Scene"
  | 8 => .object "HeardTunes$Plan"
  | 9 => .object "HeardTunes$Seen"
  | 10 => .object "HeardTunes$Memo"
  | 11 => .object "HeardTunes$Soonest"
  | 12 => .object "HeardTunes$Fitting"
  | 13 => .array (.object "HeardTunes$Image")
  | _ => .int
abbrev wsX100 : List Cond := u_ws RX10 TX10 15
theorem nmX10 : ∀ a, a < 15 → ∀ b, b < 15 → a ≠ b → (TX10 a).2.1 ≠ (TX10 b).2.1 := by decide +kernel
theorem tyX10_ok : ∀ k, k < 15 → parseFieldDescriptor (TX10 k).2.2.1 = some (tyX10 k) := by decide +kernel
abbrev cX10_init : ByteArray := prog_1_method_1_code
def yX10_init : MethodName := ⟨RX10, "<init>", "()V"⟩
abbrev cX10_feed : ByteArray := prog_1_method_2_code
def yX10_feed : MethodName := ⟨RX10, "feed", "(IJ)I"⟩
abbrev cX10_town : ByteArray := prog_1_method_3_code
def yX10_town : MethodName := ⟨RX10, "town", "()I"⟩
abbrev cX10_fault : ByteArray := prog_1_method_4_code
def yX10_fault : MethodName := ⟨RX10, "fault", "()I"⟩
abbrev cX10_told : ByteArray := prog_1_method_5_code
def yX10_told : MethodName := ⟨RX10, "told", "(I)I"⟩
abbrev cX10_cell : ByteArray := prog_1_method_6_code
def yX10_cell : MethodName := ⟨RX10, "cell", "(II)I"⟩
abbrev cX10_crowd : ByteArray := prog_1_method_7_code
def yX10_crowd : MethodName := ⟨RX10, "crowd", "(II)I"⟩
abbrev cX10_tune : ByteArray := prog_1_method_8_code
def yX10_tune : MethodName := ⟨RX10, "tune", "(II)I"⟩
abbrev cX10_far : ByteArray := prog_1_method_9_code
def yX10_far : MethodName := ⟨RX10, "far", "(IIII)I"⟩
abbrev cX10_minute : ByteArray := prog_1_method_10_code
def yX10_minute : MethodName := ⟨RX10, "minute", "(II)I"⟩
abbrev cX10_wall : ByteArray := prog_1_method_11_code
def yX10_wall : MethodName := ⟨RX10, "wall", "(IIZ)I"⟩
abbrev cX10_drift : ByteArray := prog_1_method_12_code
def yX10_drift : MethodName := ⟨RX10, "drift", "(I)I"⟩
abbrev cX10_plan : ByteArray := prog_1_method_13_code
def yX10_plan : MethodName := ⟨RX10, "plan", "(II)I"⟩
abbrev cX10_drop : ByteArray := prog_1_method_14_code
def yX10_drop : MethodName := ⟨RX10, "drop", "()I"⟩
abbrev cX10_judge : ByteArray := prog_1_method_15_code
def yX10_judge : MethodName := ⟨RX10, "judge", "()I"⟩
abbrev cX10_tried : ByteArray := prog_1_method_16_code
def yX10_tried : MethodName := ⟨RX10, "tried", "(II)I"⟩
abbrev cX10_where : ByteArray := prog_1_method_17_code
def yX10_where : MethodName := ⟨RX10, "where", "(II)I"⟩
abbrev cX10_soonest : ByteArray := prog_1_method_18_code
def yX10_soonest : MethodName := ⟨RX10, "soonest", "(III)I"⟩
abbrev cX10_bestWall : ByteArray := prog_1_method_19_code
def yX10_bestWall : MethodName := ⟨RX10, "bestWall", "(II)I"⟩
abbrev cX10_wax : ByteArray := prog_1_method_20_code
def yX10_wax : MethodName := ⟨RX10, "wax", "(I)I"⟩
abbrev cX10_see : ByteArray := prog_1_method_21_code
def yX10_see : MethodName := ⟨RX10, "see", "(IIII)I"⟩
abbrev cX10_walks : ByteArray := prog_1_method_22_code
def yX10_walks : MethodName := ⟨RX10, "walks", "(III)I"⟩
abbrev cX10_tear : ByteArray := prog_1_method_23_code
def yX10_tear : MethodName := ⟨RX10, "tear", "()I"⟩
abbrev cX10_seed : ByteArray := prog_1_method_24_code
def yX10_seed : MethodName := ⟨RX10, "seed", "(I)I"⟩
abbrev cX10_keep : ByteArray := prog_1_method_25_code
def yX10_keep : MethodName := ⟨RX10, "keep", "(I)I"⟩
abbrev cX10_goBack : ByteArray := prog_1_method_26_code
def yX10_goBack : MethodName := ⟨RX10, "goBack", "(I)I"⟩
abbrev cX10_isKind : ByteArray := prog_1_method_27_code
def yX10_isKind : MethodName := ⟨RX10, "isKind", "(I)Z"⟩
abbrev cX10_isStep : ByteArray := prog_1_method_28_code
def yX10_isStep : MethodName := ⟨RX10, "isStep", "(I)Z"⟩
abbrev cX10_isImage : ByteArray := prog_1_method_29_code
def yX10_isImage : MethodName := ⟨RX10, "isImage", "(I)Z"⟩
abbrev cX10_isCrowd : ByteArray := prog_1_method_30_code
def yX10_isCrowd : MethodName := ⟨RX10, "isCrowd", "(I)Z"⟩
abbrev cX10_isTune : ByteArray := prog_1_method_31_code
def yX10_isTune : MethodName := ⟨RX10, "isTune", "(I)Z"⟩
abbrev cX10_isTuneOrNone : ByteArray := prog_1_method_32_code
def yX10_isTuneOrNone : MethodName := ⟨RX10, "isTuneOrNone", "(I)Z"⟩
abbrev cX10_begin : ByteArray := prog_1_method_33_code
def yX10_begin : MethodName := ⟨RX10, "begin", "()V"⟩
abbrev cX10_draw : ByteArray := prog_1_method_34_code
def yX10_draw : MethodName := ⟨RX10, "draw", "(I)I"⟩
abbrev cX10_tryPlan : ByteArray := prog_1_method_35_code
def yX10_tryPlan : MethodName := ⟨RX10, "tryPlan", "(I)I"⟩
abbrev cX10_outBehindWall : ByteArray := prog_1_method_36_code
def yX10_outBehindWall : MethodName := ⟨RX10, "outBehindWall", "(II)I"⟩
def RX11 : String := "HeardTunesModel"
def TX11 : u_T := fun k => match k with
  | 0 => ("HeardTunesModel", "wide", "I", false)
  | 1 => ("HeardTunesModel", "deep", "I", false)
  | 2 => ("HeardTunesModel", "cell", "[I", true)
  | 3 => ("HeardTunesModel", "crowds", "I", false)
  | 4 => ("HeardTunesModel", "kind", "[I", true)
  | 5 => ("HeardTunesModel", "heads", "[I", true)
  | 6 => ("HeardTunesModel", "pace", "[I", true)
  | 7 => ("HeardTunesModel", "deaf", "[I", true)
  | 8 => ("HeardTunesModel", "tunes", "I", false)
  | 9 => ("HeardTunesModel", "follows", "[I", true)
  | 10 => ("HeardTunesModel", "heard", "[I", true)
  | 11 => ("HeardTunesModel", "pay", "I", false)
  | 12 => ("HeardTunesModel", "fine", "I", false)
  | 13 => ("HeardTunesModel", "piper", "I", false)
  | 14 => ("HeardTunesModel", "at", "[I", true)
  | 15 => ("HeardTunesModel", "goal", "[I", true)
  | 16 => ("HeardTunesModel", "fate", "[I", true)
  | 17 => ("HeardTunesModel", "minutes", "I", false)
  | 18 => ("HeardTunesModel", "seed", "I", false)
  | 19 => ("HeardTunesModel", "text", "[I", true)
  | 20 => ("HeardTunesModel", "texted", "I", false)
  | 21 => ("HeardTunesModel", "faultPlace", "I", false)
  | 22 => ("HeardTunesModel", "at0", "I", false)
  | 23 => ("HeardTunesModel", "said", "J", false)
  | 24 => ("HeardTunesModel", "wordEnd", "I", false)
  | 25 => ("HeardTunesModel", "number", "I", false)
  | 26 => ("HeardTunesModel", "numberAt", "I", false)
  | 27 => ("HeardTunesModel", "readWide", "I", false)
  | 28 => ("HeardTunesModel", "readDeep", "I", false)
  | 29 => ("HeardTunesModel", "readCell", "[I", true)
  | 30 => ("HeardTunesModel", "readMarks", "I", false)
  | 31 => ("HeardTunesModel", "readCrowds", "I", false)
  | 32 => ("HeardTunesModel", "readKind", "[I", true)
  | 33 => ("HeardTunesModel", "readAt", "[I", true)
  | 34 => ("HeardTunesModel", "readHeads", "[I", true)
  | 35 => ("HeardTunesModel", "readPace", "[I", true)
  | 36 => ("HeardTunesModel", "readDeaf", "[I", true)
  | 37 => ("HeardTunesModel", "readTunes", "I", false)
  | 38 => ("HeardTunesModel", "readFollows", "[I", true)
  | 39 => ("HeardTunesModel", "readHeard", "[I", true)
  | 40 => ("HeardTunesModel", "readPiper", "I", false)
  | 41 => ("HeardTunesModel", "readPay", "I", false)
  | 42 => ("HeardTunesModel", "readFine", "I", false)
  | 43 => ("HeardTunesModel", "cellRead", "I", false)
  | 44 => ("HeardTunesModel", "far", "[I", true)
  | 45 => ("HeardTunesModel", "wasPiper", "I", false)
  | 46 => ("HeardTunesModel", "wasAt", "[I", true)
  | 47 => ("HeardTunesModel", "wasGoal", "[I", true)
  | 48 => ("HeardTunesModel", "wasFate", "[I", true)
  | 49 => ("HeardTunesModel", "planned", "I", false)
  | 50 => ("HeardTunesModel", "planStep", "[I", true)
  | 51 => ("HeardTunesModel", "planTune", "[I", true)
  | 52 => ("HeardTunesModel", "sights", "I", false)
  | 53 => ("HeardTunesModel", "seenCrowd", "[I", true)
  | 54 => ("HeardTunesModel", "seenMinute", "[I", true)
  | 55 => ("HeardTunesModel", "seenAt", "[I", true)
  | 56 => ("HeardTunesModel", "images", "[I", true)
  | _ => ("HeardTunesModel", "isKept", "[Z", true)
def tyX11 : Nat → FieldType := fun k => match k with
  | 0 => .int
  | 1 => .int
  | 2 => .array .int
  | 3 => .int
  | 4 => .array .int
  | 5 => .array .int
  | 6 => .array .int
  | 7 => .array .int
  | 8 => .int
  | 9 => .array .int
  | 10 => .array .int
  | 11 => .int
  | 12 => .int
  | 13 => .int
  | 14 => .array .int
  | 15 => .array .int
  | 16 => .array .int
  | 17 => .int
  | 18 => .int
  | 19 => .array .int
  | 20 => .int
  | 21 => .int
  | 22 => .int
  | 23 => .long
  | 24 => .int
  | 25 => .int
  | 26 => .int
  | 27 => .int
  | 28 => .int
  | 29 => .array .int
  | 30 => .int
  | 31 => .int
  | 32 => .array .int
  | 33 => .array .int
  | 34 => .array .int
  | 35 => .array .int
  | 36 => .array .int
  | 37 => .int
  | 38 => .array .int
  | 39 => .array .int
  | 40 => .int
  | 41 => .int
  | 42 => .int
  | 43 => .int
  | 44 => .array .int
  | 45 => .int
  | 46 => .array .int
  | 47 => .array .int
  | 48 => .array .int
  | 49 => .int
  | 50 => .array .int
  | 51 => .array .int
  | 52 => .int
  | 53 => .array .int
  | 54 => .array .int
  | 55 => .array .int
  | 56 => .array .int
  | _ => .array .boolean
abbrev wsX110 : List Cond := u_ws RX11 TX11 58
theorem nmX11 : ∀ a, a < 58 → ∀ b, b < 58 → a ≠ b → (TX11 a).2.1 ≠ (TX11 b).2.1 := by decide +kernel
theorem tyX11_ok : ∀ k, k < 58 → parseFieldDescriptor (TX11 k).2.2.1 = some (tyX11 k) := by decide +kernel
abbrev cX11_init : ByteArray := prog_13_method_1_code
def yX11_init : MethodName := ⟨RX11, "<init>", "()V"⟩
abbrev cX11_in : ByteArray := prog_13_method_3_code
def yX11_in : MethodName := ⟨RX11, "in", "(JJJ)Z"⟩
abbrev cX11_has : ByteArray := prog_13_method_4_code
def yX11_has : MethodName := ⟨RX11, "has", "(II)Z"⟩
abbrev cX11_isCell : ByteArray := prog_13_method_5_code
def yX11_isCell : MethodName := ⟨RX11, "isCell", "(II)Z"⟩
abbrev cX11_isCrowd : ByteArray := prog_13_method_6_code
def yX11_isCrowd : MethodName := ⟨RX11, "isCrowd", "(I)Z"⟩
abbrev cX11_isTune : ByteArray := prog_13_method_7_code
def yX11_isTune : MethodName := ⟨RX11, "isTune", "(I)Z"⟩
abbrev cX11_told10 : ByteArray := prog_13_method_8_code
def yX11_told10 : MethodName := ⟨RX11, "told10", "(I)I"⟩
abbrev cX11_feed : ByteArray := prog_13_method_9_code
def yX11_feed : MethodName := ⟨RX11, "feed", "(IJ)I"⟩
abbrev cX11_here : ByteArray := prog_13_method_10_code
def yX11_here : MethodName := ⟨RX11, "here", "()I"⟩
abbrev cX11_fails : ByteArray := prog_13_method_11_code
def yX11_fails : MethodName := ⟨RX11, "fails", "(II)I"⟩
abbrev cX11_readWord : ByteArray := prog_13_method_12_code
def yX11_readWord : MethodName := ⟨RX11, "readWord", "()V"⟩
abbrev cX11_code : ByteArray := prog_13_method_13_code
def yX11_code : MethodName := ⟨RX11, "code", "(III)J"⟩
abbrev cX11_more : ByteArray := prog_13_method_14_code
def yX11_more : MethodName := ⟨RX11, "more", "(JI)J"⟩
abbrev cX11_takeNumber : ByteArray := prog_13_method_15_code
def yX11_takeNumber : MethodName := ⟨RX11, "takeNumber", "(II)I"⟩
abbrev cX11_into : ByteArray := prog_13_method_16_code
def yX11_into : MethodName := ⟨RX11, "into", "([IIII)I"⟩
abbrev cX11_takeTown : ByteArray := prog_13_method_17_code
def yX11_takeTown : MethodName := ⟨RX11, "takeTown", "()I"⟩
abbrev cX11_takeCell : ByteArray := prog_13_method_18_code
def yX11_takeCell : MethodName := ⟨RX11, "takeCell", "()I"⟩
abbrev cX11_isTakenUp : ByteArray := prog_13_method_19_code
def yX11_isTakenUp : MethodName := ⟨RX11, "isTakenUp", "(I)Z"⟩
abbrev cX11_takeMark : ByteArray := prog_13_method_20_code
def yX11_takeMark : MethodName := ⟨RX11, "takeMark", "(I)I"⟩
abbrev cX11_takeCrowd : ByteArray := prog_13_method_21_code
def yX11_takeCrowd : MethodName := ⟨RX11, "takeCrowd", "()I"⟩
abbrev cX11_takeTune : ByteArray := prog_13_method_22_code
def yX11_takeTune : MethodName := ⟨RX11, "takeTune", "()I"⟩
abbrev cX11_takePiper : ByteArray := prog_13_method_23_code
def yX11_takePiper : MethodName := ⟨RX11, "takePiper", "()I"⟩
abbrev cX11_takePay : ByteArray := prog_13_method_24_code
def yX11_takePay : MethodName := ⟨RX11, "takePay", "()I"⟩
abbrev cX11_kindOfWord : ByteArray := prog_13_method_25_code
def yX11_kindOfWord : MethodName := ⟨RX11, "kindOfWord", "()I"⟩
abbrev cX11_takeClause : ByteArray := prog_13_method_26_code
def yX11_takeClause : MethodName := ⟨RX11, "takeClause", "()I"⟩
abbrev cX11_clear : ByteArray := prog_13_method_27_code
def yX11_clear : MethodName := ⟨RX11, "clear", "()V"⟩
abbrev cX11_town : ByteArray := prog_13_method_28_code
def yX11_town : MethodName := ⟨RX11, "town", "()I"⟩
abbrev cX11_firstFree : ByteArray := prog_13_method_29_code
def yX11_firstFree : MethodName := ⟨RX11, "firstFree", "()I"⟩
abbrev cX11_fault : ByteArray := prog_13_method_30_code
def yX11_fault : MethodName := ⟨RX11, "fault", "()I"⟩
abbrev cX11_beside : ByteArray := prog_13_method_31_code
def yX11_beside : MethodName := ⟨RX11, "beside", "(II)I"⟩
abbrev cX11_findFarTo : ByteArray := prog_13_method_32_code
def yX11_findFarTo : MethodName := ⟨RX11, "findFarTo", "(I)V"⟩
abbrev cX11_findFar : ByteArray := prog_13_method_33_code
def yX11_findFar : MethodName := ⟨RX11, "findFar", "()V"⟩
abbrev cX11_far : ByteArray := prog_13_method_34_code
def yX11_far : MethodName := ⟨RX11, "far", "(IIII)I"⟩
abbrev cX11_followers : ByteArray := prog_13_method_35_code
def yX11_followers : MethodName := ⟨RX11, "followers", "(I)I"⟩
abbrev cX11_isHere : ByteArray := prog_13_method_36_code
def yX11_isHere : MethodName := ⟨RX11, "isHere", "(I)Z"⟩
abbrev cX11_headsBy : ByteArray := prog_13_method_37_code
def yX11_headsBy : MethodName := ⟨RX11, "headsBy", "(II)I"⟩
abbrev cX11_allHeads : ByteArray := prog_13_method_38_code
def yX11_allHeads : MethodName := ⟨RX11, "allHeads", "()I"⟩
abbrev cX11_worth : ByteArray := prog_13_method_39_code
def yX11_worth : MethodName := ⟨RX11, "worth", "()I"⟩
abbrev cX11_told : ByteArray := prog_13_method_40_code
def yX11_told : MethodName := ⟨RX11, "told", "(I)I"⟩
abbrev cX11_cell : ByteArray := prog_13_method_41_code
def yX11_cell : MethodName := ⟨RX11, "cell", "(II)I"⟩
abbrev cX11_crowd : ByteArray := prog_13_method_42_code
def yX11_crowd : MethodName := ⟨RX11, "crowd", "(II)I"⟩
abbrev cX11_hears : ByteArray := prog_13_method_43_code
def yX11_hears : MethodName := ⟨RX11, "hears", "(II)Z"⟩
abbrev cX11_tune : ByteArray := prog_13_method_44_code
def yX11_tune : MethodName := ⟨RX11, "tune", "(II)I"⟩
abbrev cX11_stepTo : ByteArray := prog_13_method_45_code
def yX11_stepTo : MethodName := ⟨RX11, "stepTo", "(I)I"⟩
abbrev cX11_stepOn : ByteArray := prog_13_method_46_code
def yX11_stepOn : MethodName := ⟨RX11, "stepOn", "(I)V"⟩
abbrev cX11_walkOn : ByteArray := prog_13_method_47_code
def yX11_walkOn : MethodName := ⟨RX11, "walkOn", "(I)V"⟩
abbrev cX11_minuteBy : ByteArray := prog_13_method_48_code
def yX11_minuteBy : MethodName := ⟨RX11, "minuteBy", "(II)Z"⟩
abbrev cX11_minute : ByteArray := prog_13_method_49_code
def yX11_minute : MethodName := ⟨RX11, "minute", "(II)I"⟩
abbrev cX11_isSomebody : ByteArray := prog_13_method_50_code
def yX11_isSomebody : MethodName := ⟨RX11, "isSomebody", "(I)Z"⟩
abbrev cX11_wall : ByteArray := prog_13_method_51_code
def yX11_wall : MethodName := ⟨RX11, "wall", "(IIZ)I"⟩
abbrev cX11_draw : ByteArray := prog_13_method_52_code
def yX11_draw : MethodName := ⟨RX11, "draw", "(I)I"⟩
abbrev cX11_drift : ByteArray := prog_13_method_53_code
def yX11_drift : MethodName := ⟨RX11, "drift", "(I)I"⟩
abbrev cX11_save : ByteArray := prog_13_method_54_code
def yX11_save : MethodName := ⟨RX11, "save", "()V"⟩
abbrev cX11_putBack : ByteArray := prog_13_method_55_code
def yX11_putBack : MethodName := ⟨RX11, "putBack", "()V"⟩
abbrev cX11_plan : ByteArray := prog_13_method_56_code
def yX11_plan : MethodName := ⟨RX11, "plan", "(II)I"⟩
abbrev cX11_drop : ByteArray := prog_13_method_57_code
def yX11_drop : MethodName := ⟨RX11, "drop", "()I"⟩
abbrev cX11_follow : ByteArray := prog_13_method_58_code
def yX11_follow : MethodName := ⟨RX11, "follow", "(I)I"⟩
abbrev cX11_judge : ByteArray := prog_13_method_59_code
def yX11_judge : MethodName := ⟨RX11, "judge", "()I"⟩
abbrev cX11_tried : ByteArray := prog_13_method_60_code
def yX11_tried : MethodName := ⟨RX11, "tried", "(II)I"⟩
abbrev cX11_where : ByteArray := prog_13_method_61_code
def yX11_where : MethodName := ⟨RX11, "where", "(II)I"⟩
abbrev cX11_power : ByteArray := prog_13_method_62_code
def yX11_power : MethodName := ⟨RX11, "power", "(I)I"⟩
abbrev cX11_stepIn : ByteArray := prog_13_method_63_code
def yX11_stepIn : MethodName := ⟨RX11, "stepIn", "(III)I"⟩
abbrev cX11_isLedOut : ByteArray := prog_13_method_64_code
def yX11_isLedOut : MethodName := ⟨RX11, "isLedOut", "(I)Z"⟩
abbrev cX11_leadsOut : ByteArray := prog_13_method_65_code
def yX11_leadsOut : MethodName := ⟨RX11, "leadsOut", "(IIII)Z"⟩
abbrev cX11_soonest : ByteArray := prog_13_method_66_code
def yX11_soonest : MethodName := ⟨RX11, "soonest", "(III)I"⟩
abbrev cX11_bestWall : ByteArray := prog_13_method_67_code
def yX11_bestWall : MethodName := ⟨RX11, "bestWall", "(II)I"⟩
abbrev cX11_wax : ByteArray := prog_13_method_68_code
def yX11_wax : MethodName := ⟨RX11, "wax", "(I)I"⟩
abbrev cX11_see : ByteArray := prog_13_method_69_code
def yX11_see : MethodName := ⟨RX11, "see", "(IIII)I"⟩
abbrev cX11_isAsSeen : ByteArray := prog_13_method_70_code
def yX11_isAsSeen : MethodName := ⟨RX11, "isAsSeen", "(I)Z"⟩
abbrev cX11_isWalk : ByteArray := prog_13_method_71_code
def yX11_isWalk : MethodName := ⟨RX11, "isWalk", "(III)Z"⟩
abbrev cX11_walks : ByteArray := prog_13_method_72_code
def yX11_walks : MethodName := ⟨RX11, "walks", "(III)I"⟩
abbrev cX11_tear : ByteArray := prog_13_method_73_code
def yX11_tear : MethodName := ⟨RX11, "tear", "()I"⟩
abbrev cX11_seed : ByteArray := prog_13_method_74_code
def yX11_seed : MethodName := ⟨RX11, "seed", "(I)I"⟩
abbrev cX11_keep : ByteArray := prog_13_method_75_code
def yX11_keep : MethodName := ⟨RX11, "keep", "(I)I"⟩
abbrev cX11_goBack : ByteArray := prog_13_method_76_code
def yX11_goBack : MethodName := ⟨RX11, "goBack", "(I)I"⟩
def RJ9 : String := "java/lang/Math"
def TJ9 : u_T := fun k => match k with
  | _ => ("", "", "", false)
def tyJ9 : Nat → FieldType := fun k => match k with
  | _ => .int
abbrev wsJ90 : List Cond := u_ws RJ9 TJ9 0
theorem nmJ9 : ∀ a, a < 0 → ∀ b, b < 0 → a ≠ b → (TJ9 a).2.1 ≠ (TJ9 b).2.1 := by decide +kernel
theorem tyJ9_ok : ∀ k, k < 0 → parseFieldDescriptor (TJ9 k).2.2.1 = some (tyJ9 k) := by decide +kernel
abbrev cJ9_max_7cf53 : ByteArray := prog_14_method_65_code
def yJ9_max_7cf53 : MethodName := ⟨RJ9, "max", "(II)I"⟩
abbrev cJ9_min_7cf53 : ByteArray := prog_14_method_69_code
def yJ9_min_7cf53 : MethodName := ⟨RJ9, "min", "(II)I"⟩
def RJ0 : String := "java/lang/String"
def TJ0 : u_T := fun k => match k with
  | _ => ("", "", "", false)
def tyJ0 : Nat → FieldType := fun k => match k with
  | _ => .int
abbrev wsJ00 : List Cond := u_ws RJ0 TJ0 0
theorem nmJ0 : ∀ a, a < 0 → ∀ b, b < 0 → a ≠ b → (TJ0 a).2.1 ≠ (TJ0 b).2.1 := by decide +kernel
theorem tyJ0_ok : ∀ k, k < 0 → parseFieldDescriptor (TJ0 k).2.2.1 = some (tyJ0 k) := by decide +kernel
abbrev cJ0_length_8abf5 : ByteArray := prog_15_method_54_code
def yJ0_length_8abf5 : MethodName := ⟨RJ0, "length", "()I"⟩
abbrev cJ0_charAt_5068e : ByteArray := prog_15_method_56_code
def yJ0_charAt_5068e : MethodName := ⟨RJ0, "charAt", "(I)C"⟩
abbrev cJ0_coder_7d493 : ByteArray := prog_15_method_152_code
def yJ0_coder_7d493 : MethodName := ⟨RJ0, "coder", "()B"⟩
abbrev cJ0_isLatin1_aae02 : ByteArray := prog_15_method_154_code
def yJ0_isLatin1_aae02 : MethodName := ⟨RJ0, "isLatin1", "()Z"⟩
abbrev cJ0_checkIndex_df160 : ByteArray := prog_15_method_155_code
def yJ0_checkIndex_df160 : MethodName := ⟨RJ0, "checkIndex", "(II)V"⟩
def RJ1 : String := "java/lang/StringLatin1"
def TJ1 : u_T := fun k => match k with
  | _ => ("", "", "", false)
def tyJ1 : Nat → FieldType := fun k => match k with
  | _ => .int
abbrev wsJ10 : List Cond := u_ws RJ1 TJ1 0
theorem nmJ1 : ∀ a, a < 0 → ∀ b, b < 0 → a ≠ b → (TJ1 a).2.1 ≠ (TJ1 b).2.1 := by decide +kernel
theorem tyJ1_ok : ∀ k, k < 0 → parseFieldDescriptor (TJ1 k).2.2.1 = some (tyJ1 k) := by decide +kernel
abbrev cJ1_charAt_3b067 : ByteArray := prog_16_method_2_code
def yJ1_charAt_3b067 : MethodName := ⟨RJ1, "charAt", "([BI)C"⟩
def RJ2 : String := "java/lang/StringUTF16"
def TJ2 : u_T := fun k => match k with
  | _ => ("", "", "", false)
def tyJ2 : Nat → FieldType := fun k => match k with
  | _ => .int
abbrev wsJ20 : List Cond := u_ws RJ2 TJ2 0
theorem nmJ2 : ∀ a, a < 0 → ∀ b, b < 0 → a ≠ b → (TJ2 a).2.1 ≠ (TJ2 b).2.1 := by decide +kernel
theorem tyJ2_ok : ∀ k, k < 0 → parseFieldDescriptor (TJ2 k).2.2.1 = some (tyJ2 k) := by decide +kernel
abbrev cJ2_getChar_3b067 : ByteArray := prog_17_method_5_code
def yJ2_getChar_3b067 : MethodName := ⟨RJ2, "getChar", "([BI)C"⟩
abbrev cJ2_length_9d52b : ByteArray := prog_17_method_6_code
def yJ2_length_9d52b : MethodName := ⟨RJ2, "length", "([B)I"⟩
abbrev cJ2_charAt_3b067 : ByteArray := prog_17_method_83_code
def yJ2_charAt_3b067 : MethodName := ⟨RJ2, "charAt", "([BI)C"⟩
abbrev cJ2_checkIndex_2214a : ByteArray := prog_17_method_91_code
def yJ2_checkIndex_2214a : MethodName := ⟨RJ2, "checkIndex", "(I[B)V"⟩
def RJ3 : String := "jdk/internal/util/Preconditions"
def TJ3 : u_T := fun k => match k with
  | _ => ("", "", "", false)
def tyJ3 : Nat → FieldType := fun k => match k with
  | _ => .int
abbrev wsJ30 : List Cond := u_ws RJ3 TJ3 0
theorem nmJ3 : ∀ a, a < 0 → ∀ b, b < 0 → a ≠ b → (TJ3 a).2.1 ≠ (TJ3 b).2.1 := by decide +kernel
theorem tyJ3_ok : ∀ k, k < 0 → parseFieldDescriptor (TJ3 k).2.2.1 = some (tyJ3 k) := by decide +kernel
abbrev cJ3_checkIndex_8e157 : ByteArray := prog_18_method_11_code
def yJ3_checkIndex_8e157 : MethodName := ⟨RJ3, "checkIndex", "(IILjava/util/function/BiFunction;)I"⟩
def RL : String := "HeardTunesLaw"
abbrev cL_law : ByteArray := code
def yL_law : MethodName := ⟨RL, "law", "([I)Z"⟩
abbrev vwCl : List vw_C := [(RX0, TX0, 12), (RX1, TX1, 9), (RX2, TX2, 4), (RX3, TX3, 3), (RX4, TX4, 3), (RX5, TX5, 6), (RX6, TX6, 6), (RX7, TX7, 4), (RX8, TX8, 10), (RX9, TX9, 17), (RX10, TX10, 15), (RX11, TX11, 58)]
def TT : List Cond := lw_tbl.filter goodWord
theorem tt_in {w : Cond} (h : w ∈ tables_1) (g : goodWord w = true) : w ∈ TT := List.mem_filter.mpr ⟨List.mem_append_right _ h, g⟩
theorem tt_1 {w : Cond} (h : w ∈ tables_1_1) (g : goodWord w = true) : w ∈ TT := tt_in (List.mem_append_left _ h) g
theorem tt_2 {w : Cond} (h : w ∈ tables_1_2) (g : goodWord w = true) : w ∈ TT := tt_in (List.mem_append_right _ (List.mem_append_left _ h)) g
theorem tt_3 {w : Cond} (h : w ∈ tables_1_3) (g : goodWord w = true) : w ∈ TT := tt_in (List.mem_append_right _ (List.mem_append_right _ (List.mem_append_left _ h))) g
theorem tt_4 {w : Cond} (h : w ∈ tables_1_4) (g : goodWord w = true) : w ∈ TT := tt_in (List.mem_append_right _ (List.mem_append_right _ (List.mem_append_right _ (List.mem_append_left _ h)))) g
theorem tt_5 {w : Cond} (h : w ∈ tables_1_5) (g : goodWord w = true) : w ∈ TT := tt_in (List.mem_append_right _ (List.mem_append_right _ (List.mem_append_right _ (List.mem_append_right _ (List.mem_append_left _ h))))) g
theorem tt_6 {w : Cond} (h : w ∈ tables_1_6) (g : goodWord w = true) : w ∈ TT := tt_in (List.mem_append_right _ (List.mem_append_right _ (List.mem_append_right _ (List.mem_append_right _ (List.mem_append_right _ (List.mem_append_left _ h)))))) g
theorem tt_7 {w : Cond} (h : w ∈ tables_1_7) (g : goodWord w = true) : w ∈ TT := tt_in (List.mem_append_right _ (List.mem_append_right _ (List.mem_append_right _ (List.mem_append_right _ (List.mem_append_right _ (List.mem_append_right _ (h))))))) g
theorem tt_good : GoodIn TT TT := fun w h => ⟨h, good_of_word (List.mem_filter.mp h).2⟩
theorem tt_lw {w : Cond} (h : w ∈ TT) : w ∈ lw_tbl := (List.mem_filter.mp h).1
theorem tp_1 {q : MethodName × Nat} (h : q ∈ lw_privs_1) : q ∈ lw_privs := List.mem_append_left _ h
theorem tp_2 {q : MethodName × Nat} (h : q ∈ lw_privs_2) : q ∈ lw_privs := List.mem_append_right _ (List.mem_append_left _ h)
theorem tp_3 {q : MethodName × Nat} (h : q ∈ lw_privs_3) : q ∈ lw_privs := List.mem_append_right _ (List.mem_append_right _ (List.mem_append_left _ h))
theorem tp_4 {q : MethodName × Nat} (h : q ∈ lw_privs_4) : q ∈ lw_privs := List.mem_append_right _ (List.mem_append_right _ (List.mem_append_right _ (List.mem_append_left _ h)))
theorem tp_5 {q : MethodName × Nat} (h : q ∈ lw_privs_5) : q ∈ lw_privs := List.mem_append_right _ (List.mem_append_right _ (List.mem_append_right _ (List.mem_append_right _ (List.mem_append_left _ h))))
theorem tp_6 {q : MethodName × Nat} (h : q ∈ lw_privs_6) : q ∈ lw_privs := List.mem_append_right _ (List.mem_append_right _ (List.mem_append_right _ (List.mem_append_right _ (List.mem_append_right _ (h)))))
end
section
/-! THE FRAME: a world is a list of kinds of cells (cell n lies at z + n), with what the cells hold as functions of cell and place; the judgement V hides the heap -/
theorem tp_sel {q : MethodName × Nat} (h : q ∈ lw_privs) (g : goodWord (Cond.selects q.1.cls q.1 q.1) = true) : Cond.selects q.1.cls q.1 q.1 ∈ TT := List.mem_filter.mpr ⟨List.mem_append_left _ (List.mem_map.mpr ⟨q, h, rfl⟩), g⟩
abbrev Kd : Type := Nat × (List Nat ⊕ (Nat × Nat × Nat))
abbrev Wv : Type := List Kd × (Nat → Nat → Int32) × (Nat → Nat → Int64) × (Nat → Nat → Option Nat)
abbrev Gt : Type := Nat × va_G × (Nat → ClassId)
abbrev wK (w : Wv) : List Kd := w.1
abbrev wI (w : Wv) : Nat → Nat → Int32 := w.2.1
abbrev wL (w : Wv) : Nat → Nat → Int64 := w.2.2.1
abbrev wX (w : Wv) : Nat → Nat → Option Nat := w.2.2.2
abbrev gz (G : Gt) : Nat := G.1
abbrev gD (G : Gt) : va_G := G.2.1
abbrev gT (G : Gt) : Nat → ClassId := G.2.2
def up2 {α : Type} (f : Nat → Nat → α) (n k : Nat) (v : α) : Nat → Nat → α := fun a b => if a = n then (if b = k then v else f a b) else f a b
def setI (w : Wv) (n k : Nat) (v : Int32) : Wv := (wK w, up2 (wI w) n k v, wL w, wX w)
def setL (w : Wv) (n k : Nat) (v : Int64) : Wv := (wK w, wI w, up2 (wL w) n k v, wX w)
def setX (w : Wv) (n k : Nat) (v : Option Nat) : Wv := (wK w, wI w, wL w, up2 (wX w) n k v)
/-- a new cell -/
def addK (w : Wv) (kd : Kd) : Wv := (wK w ++ [kd], fun a b => if a = (wK w).length then 0 else wI w a b, fun a b => if a = (wK w).length then 0 else wL w a b, fun a b => if a = (wK w).length then none else wX w a b)
theorem up2_eq {α : Type} {f : Nat → Nat → α} {n k : Nat} {v : α} : up2 f n k v n k = v := by simp [up2]
theorem up2_nn {α : Type} {f : Nat → Nat → α} {n k a b : Nat} {v : α} (h : a ≠ n) : up2 f n k v a b = f a b := by simp [up2, h]
theorem up2_nk {α : Type} {f : Nat → Nat → α} {n k a b : Nat} {v : α} (h : b ≠ k) : up2 f n k v a b = f a b := by
  by_cases ha : a = n <;> simp [up2, ha, h]
def adr (G : Gt) (r : Option Nat) : Option Nat := r.map (fun n => gz G + n)
def fv (G : Gt) (w : Wv) (n k t : Nat) : Value := if t = 0 then .int (wI w n k) else if t = 1 then .long (wL w n k) else va_rf (adr G (wX w n k))
def fvs (G : Gt) (w : Wv) (n : Nat) : Nat → List Nat → List Value
  | _, [] => []
  | k, t :: ts => fv G w n k t :: fvs G w n (k + 1) ts
def acn (G : Gt) (w : Wv) (n et : Nat) : (Nat → Int32) ⊕ (Nat → Int64) ⊕ (Nat → UInt32) ⊕ (Nat → UInt64) ⊕ (Nat → Option Nat) := if et = 0 then .inl (wI w n) else if et = 1 then .inr (.inl (wL w n)) else .inr (.inr (.inr (.inr (fun j => adr G (wX w n j)))))
def ent (G : Gt) (w : Wv) (n : Nat) (kd : Kd) : va_E := match kd.2 with
  | .inl fts => .inr (kd.1, fvs G w n 0 fts)
  | .inr a => .inl (gT G a.1, (a.2.1, acn G w n a.2.2))
def wsF (G : Gt) (w : Wv) : Nat → List Kd → va_W
  | _, [] => []
  | n, kd :: ks => (gz G + n, ent G w n kd) :: wsF G w (n + 1) ks
def wso (G : Gt) (w : Wv) : va_W := wsF G w 0 (wK w)
def tyo (G : Gt) : List (ClassId × FieldType) := [(gT G 0, .int), (gT G 1, .boolean), (gT G 2, .long), (gT G 3, .object "HeardTunes$Scene"), (gT G 4, .object "HeardTunes$Image")]
def Wd (G : Gt) (w : Wv) (H : Heap) : Prop := va_P (gD G) vwCl (wso G w) H ∧ H.size = gz G + (wK w).length
def Tk (G : Gt) (U : State) : Prop := va_K (gD G) vwCl (tyo G) U ∧ va_AO "HeardTunes$Scene" U ∧ va_AO "HeardTunes$Image" U
def Az (G : Gt) : Nat → Prop := fun q => gz G ≤ q
theorem Tk.moved {G : Gt} {u U : State} (hvm : u.vm.Alike U.vm) (h : Tk G u) : Tk G U := ⟨va_K.moved hvm h.1, h.2.1.moved hvm, h.2.2.moved hvm⟩
-- reading the list
theorem wsF_get {G : Gt} {w : Wv} (ks : List Kd) : ∀ (a n : Nat), (wsF G w a ks)[n]? = (ks[n]?).map (fun kd => (gz G + (a + n), ent G w (a + n) kd)) := by
  induction ks with
  | nil => intro a n; simp [wsF]
  | cons k ks ih =>
    intro a n
    cases n with
    | zero => simp [wsF]
    | succ n =>
      simp only [wsF, List.getElem?_cons_succ]
      rw [ih (a + 1) n, show a + 1 + n = a + (n + 1) by omega]
theorem wso_get {G : Gt} {w : Wv} {n : Nat} {kd : Kd} (h : (wK w)[n]? = some kd) : (wso G w)[n]? = some (gz G + n, ent G w n kd) := by
  rw [wso, wsF_get, h]; simp
theorem wsF_len {G : Gt} {w : Wv} (ks : List Kd) : ∀ (a : Nat), (wsF G w a ks).length = ks.length := by
  induction ks with
  | nil => intro a; rfl
  | cons k ks ih => intro a; simp [wsF, ih]
theorem fvs_get {G : Gt} {w : Wv} {n : Nat} (ts : List Nat) : ∀ (a k : Nat), (fvs G w n a ts)[k]? = (ts[k]?).map (fun t => fv G w n (a + k) t) := by
  induction ts with
  | nil => intro a k; simp [fvs]
  | cons t ts ih =>
    intro a k
    cases k with
    | zero => simp [fvs]
    | succ k =>
      simp only [fvs, List.getElem?_cons_succ]
      rw [ih (a + 1) k, show a + 1 + k = a + (k + 1) by omega]
theorem fvs_len {G : Gt} {w : Wv} {n : Nat} (ts : List Nat) : ∀ (a : Nat), (fvs G w n a ts).length = ts.length := by
  induction ts with
  | nil => intro a; rfl
  | cons t ts ih => intro a; simp [fvs, ih]
theorem wso_D {G : Gt} {w : Wv} : va_D (Az G) (wso G w) := by
  have at' : ∀ (k : Nat) (q : Nat × va_E), (wso G w)[k]? = some q → q.1 = gz G + k := by
    intro k q h
    rw [wso, wsF_get] at h
    cases hk : (wK w)[k]? with
    | none => rw [hk] at h; simp at h
    | some kd => rw [hk] at h; simp at h; rw [← h]
  refine ⟨fun i j p q hi hj e => ?_, fun k q hk => ?_⟩
  · have h1 := at' i p hi; have h2 := at' j q hj; omega
  · show gz G ≤ q.1
    rw [at' k q hk]; exact Nat.le_add_right _ _
theorem ws_ext {a b : va_W} (h : ∀ k : Nat, a[k]? = b[k]?) : a = b := List.ext_getElem? h
-- what a store does to the list
theorem fvs_ext {G : Gt} {w w' : Wv} {n : Nat} {ts : List Nat} (h : ∀ k t, ts[k]? = some t → fv G w n k t = fv G w' n k t) : fvs G w n 0 ts = fvs G w' n 0 ts := by
  refine List.ext_getElem? fun k => ?_
  rw [fvs_get, fvs_get]
  cases hk : ts[k]? with
  | none => rfl
  | some t => simp only [Option.map_some, Nat.zero_add]; rw [h k t hk]
theorem ent_ne {G : Gt} {w w' : Wv} {n a : Nat} {kd : Kd} (ha : a ≠ n) (h1 : ∀ b, wI w' a b = wI w a b) (h2 : ∀ b, wL w' a b = wL w a b) (h3 : ∀ b, wX w' a b = wX w a b) : ent G w' a kd = ent G w a kd := by
  obtain ⟨tag, sh⟩ := kd
  cases sh with
  | inl fts => simp only [ent]; rw [fvs_ext (w := w') (w' := w) (fun k t _ => by simp only [fv, h1, h2, h3])]
  | inr x =>
    simp only [ent, acn]
    rw [show wI w' a = wI w a from funext h1, show wL w' a = wL w a from funext h2, show wX w' a = wX w a from funext h3]
theorem wso_set {G : Gt} {w w' : Wv} {n : Nat} {kd : Kd} (hk : (wK w)[n]? = some kd) (hK : wK w' = wK w) (h1 : ∀ a, a ≠ n → (∀ b, wI w' a b = wI w a b) ∧ (∀ b, wL w' a b = wL w a b) ∧ (∀ b, wX w' a b = wX w a b)) {e : va_E} (he : e = ent G w' n kd) : (wso G w).set n (gz G + n, e) = wso G w' := by
  refine ws_ext fun k => ?_
  have hlen : n < (wso G w).length := (List.getElem?_eq_some_iff.mp (wso_get (G := G) hk)).1
  by_cases hkn : k = n
  · subst hkn
    rw [List.getElem?_set_self hlen, wso_get (w := w') (kd := kd) (by rw [hK]; exact hk), he]
  · rw [List.getElem?_set_ne (fun h => hkn h.symm), wso, wso, wsF_get, wsF_get, hK]
    cases hq : (wK w)[k]? with
    | none => rfl
    | some kq =>
      simp only [Option.map_some, Nat.zero_add]
      obtain ⟨a1, a2, a3⟩ := h1 k hkn
      rw [ent_ne hkn a1 a2 a3]
theorem setI_off {w : Wv} {n k : Nat} {v : Int32} (a : Nat) (h : a ≠ n) : (∀ b, wI (setI w n k v) a b = wI w a b) ∧ (∀ b, wL (setI w n k v) a b = wL w a b) ∧ (∀ b, wX (setI w n k v) a b = wX w a b) := ⟨fun _ => up2_nn h, fun _ => rfl, fun _ => rfl⟩
theorem setL_off {w : Wv} {n k : Nat} {v : Int64} (a : Nat) (h : a ≠ n) : (∀ b, wI (setL w n k v) a b = wI w a b) ∧ (∀ b, wL (setL w n k v) a b = wL w a b) ∧ (∀ b, wX (setL w n k v) a b = wX w a b) := ⟨fun _ => rfl, fun _ => up2_nn h, fun _ => rfl⟩
theorem setX_off {w : Wv} {n k : Nat} {v : Option Nat} (a : Nat) (h : a ≠ n) : (∀ b, wI (setX w n k v) a b = wI w a b) ∧ (∀ b, wL (setX w n k v) a b = wL w a b) ∧ (∀ b, wX (setX w n k v) a b = wX w a b) := ⟨fun _ => rfl, fun _ => rfl, fun _ => up2_nn h⟩
theorem fvs_set {G : Gt} {w w' : Wv} {n k t : Nat} {ts : List Nat} {v : Value} (ht : ts[k]? = some t) (hv : fv G w' n k t = v) (ho : ∀ j u, ts[j]? = some u → j ≠ k → fv G w n j u = fv G w' n j u) : (fvs G w n 0 ts).set k v = fvs G w' n 0 ts := by
  refine List.ext_getElem? fun j => ?_
  have hlen : k < (fvs G w n 0 ts).length := by rw [fvs_len]; exact (List.getElem?_eq_some_iff.mp ht).1
  by_cases hj : j = k
  · subst hj
    rw [List.getElem?_set_self hlen, fvs_get, ht]; simp [hv]
  · rw [List.getElem?_set_ne (fun h => hj h.symm), fvs_get, fvs_get]
    cases hu : ts[j]? with
    | none => rfl
    | some u => simp only [Option.map_some, Nat.zero_add]; rw [ho j u hu hj]
-- the fixed things of a walk
abbrev Ct : Type := Program × Launch × Env × Room × State × MethodId × Array Value × List Frame × Method × Code × Gt × Nat × (State → Prop)
abbrev xl (x : Ct) : Launch := x.2.1
abbrev xR (x : Ct) : Room := x.2.2.2.1
abbrev xs (x : Ct) : State := x.2.2.2.2.1
abbrev xm (x : Ct) : MethodId := x.2.2.2.2.2.1
abbrev xa (x : Ct) : Array Value := x.2.2.2.2.2.2.1
abbrev xM (x : Ct) : Method := x.2.2.2.2.2.2.2.2.1
abbrev xc (x : Ct) : Code := x.2.2.2.2.2.2.2.2.2.1
abbrev xG (x : Ct) : Gt := x.2.2.2.2.2.2.2.2.2.2.1
abbrev xn (x : Ct) : Nat := x.2.2.2.2.2.2.2.2.2.2.2.1
abbrev xQ (x : Ct) : State → Prop := x.2.2.2.2.2.2.2.2.2.2.2.2
def Wx (x : Ct) (H : Heap) (locs : List Loc) (cells slots : Nat) (g : JFrame) : Prop := W x.1 (xl x) x.2.2.1 (xR x) (xs x) (xm x) (xa x) x.2.2.2.2.2.2.2.1 (xM x) (xc x) H locs cells slots (xQ x) g
def V (x : Ct) (cells slots : Nat) (w : Wv) (pc : Nat) (lv : List (Nat × Value)) (st : List Value) : Prop :=
  ∀ (H : Heap) (locs : List Loc) (ls : Array Slot), Wd (xG x) w H → va_S (Az (xG x)) (xs x).heap H locs → lv_has ls (xn x) lv → Wx x H locs cells slots (F0 (xm x) pc ls st)
def Cx (x : Ct) (cc : ByteArray) (nL : Nat) (own : String) (rm : Room) : Prop :=
  x.1.tables.exec = Jvm.exec ∧ (xc x).code = cc ∧ (xc x).maxLocals = nL ∧ (xs x).vm.findClass own = some (xm x).cls ∧ (∀ u ∈ TT, u.before (xa x) (xs x) = true) ∧ Tk (xG x) (xs x) ∧ gz (xG x) ≤ (xs x).heap.size ∧ xR x = rm ∧ xn x = nL
end
section
section ROWS
variable {x : Ct} {cc : ByteArray} {nL cells slots pc : Nat} {own : String} {rm : Room} {w w' : Wv} {lv lv' : List (Nat × Value)} {st : List Value}
theorem Cx.hx (C : Cx x cc nL own rm) : x.1.tables.exec = Jvm.exec := C.1
theorem Cx.hb (C : Cx x cc nL own rm) : (xc x).code = cc := C.2.1
theorem Cx.hml (C : Cx x cc nL own rm) : (xc x).maxLocals = nL := C.2.2.1
theorem Cx.hown (C : Cx x cc nL own rm) : (xs x).vm.findClass own = some (xm x).cls := C.2.2.2.1
theorem Cx.hts (C : Cx x cc nL own rm) : ∀ u ∈ TT, u.before (xa x) (xs x) = true := C.2.2.2.2.1
theorem Cx.tk (C : Cx x cc nL own rm) : Tk (xG x) (xs x) := C.2.2.2.2.2.1
theorem Cx.hz (C : Cx x cc nL own rm) : gz (xG x) ≤ (xs x).heap.size := C.2.2.2.2.2.2.1
theorem Cx.hR (C : Cx x cc nL own rm) : xR x = rm := C.2.2.2.2.2.2.2.1
theorem Cx.hn (C : Cx x cc nL own rm) : xn x = nL := C.2.2.2.2.2.2.2.2
theorem r_iconst {n : Int} {v : Int32} (C : Cx x cc nL own rm) (d : decode cc pc = .ok (.iconst n, 1)) (hv : Int32.ofInt n = v) (k : V x cells slots w (pc + 1) lv (.int v :: st)) : V x cells slots w pc lv st :=
  fun H locs ls hW hS hl => lv_iconst C.hx C.hb d hv (k H locs ls hW hS hl)
theorem r_bipush {n : Int} {v : Int32} (C : Cx x cc nL own rm) (d : decode cc pc = .ok (.bipush n, 2)) (hv : (Int8.ofInt n).toInt32 = v) (k : V x cells slots w (pc + 2) lv (.int v :: st)) : V x cells slots w pc lv st :=
  fun H locs ls hW hS hl => lv_bipush C.hx C.hb d hv (k H locs ls hW hS hl)
theorem r_sipush {n : Int} {v : Int32} (C : Cx x cc nL own rm) (d : decode cc pc = .ok (.sipush n, 3)) (hv : (Int16.ofInt n).toInt32 = v) (k : V x cells slots w (pc + 3) lv (.int v :: st)) : V x cells slots w pc lv st :=
  fun H locs ls hW hS hl => lv_sipush C.hx C.hb d hv (k H locs ls hW hS hl)
theorem r_lconst {n : Fin 2} {v : Int64} (C : Cx x cc nL own rm) (d : decode cc pc = .ok (.lconst n, 1)) (hv : Int64.ofNat (n : Nat) = v) (k : V x cells slots w (pc + 1) lv (.long v :: st)) : V x cells slots w pc lv st :=
  fun H locs ls hW hS hl => lv_lconst C.hx C.hb d hv (k H locs ls hW hS hl)
theorem r_iload_n {k : Fin 4} {v : Int32} (j : Nat) (C : Cx x cc nL own rm) (d : decode cc pc = .ok (.iload_n k, 1)) (hj : lv[j]? = some ((k : Nat), .int v)) (k : V x cells slots w (pc + 1) lv (.int v :: st)) : V x cells slots w pc lv st :=
  fun H locs ls hW hS hl => lv_iload_n C.hx C.hb d rfl (lv_at hl j hj) (k H locs ls hW hS hl)
theorem r_iload {i : Nat} {v : Int32} (j : Nat) (C : Cx x cc nL own rm) (d : decode cc pc = .ok (.iload i, 2)) (hj : lv[j]? = some (i, .int v)) (k : V x cells slots w (pc + 2) lv (.int v :: st)) : V x cells slots w pc lv st :=
  fun H locs ls hW hS hl => lv_iload C.hx C.hb d (lv_at hl j hj) (k H locs ls hW hS hl)
theorem r_lload_n {k : Fin 4} {v : Int64} (j : Nat) (C : Cx x cc nL own rm) (d : decode cc pc = .ok (.lload_n k, 1)) (hj : lv[j]? = some ((k : Nat), .long v)) (k : V x cells slots w (pc + 1) lv (.long v :: st)) : V x cells slots w pc lv st :=
  fun H locs ls hW hS hl => lv_lload_n C.hx C.hb d rfl (lv_at hl j hj) (k H locs ls hW hS hl)
theorem r_lload {i : Nat} {v : Int64} (j : Nat) (C : Cx x cc nL own rm) (d : decode cc pc = .ok (.lload i, 2)) (hj : lv[j]? = some (i, .long v)) (k : V x cells slots w (pc + 2) lv (.long v :: st)) : V x cells slots w pc lv st :=
  fun H locs ls hW hS hl => lv_lload C.hx C.hb d (lv_at hl j hj) (k H locs ls hW hS hl)
theorem r_aload_n {k : Fin 4} {v : Nat} (j : Nat) (C : Cx x cc nL own rm) (d : decode cc pc = .ok (.aload_n k, 1)) (hj : lv[j]? = some ((k : Nat), .ref v)) (k : V x cells slots w (pc + 1) lv (.ref v :: st)) : V x cells slots w pc lv st :=
  fun H locs ls hW hS hl => lv_aload_n C.hx C.hb d rfl (lv_at hl j hj) (k H locs ls hW hS hl)
theorem r_aload {i : Nat} {v : Nat} (j : Nat) (C : Cx x cc nL own rm) (d : decode cc pc = .ok (.aload i, 2)) (hj : lv[j]? = some (i, .ref v)) (k : V x cells slots w (pc + 2) lv (.ref v :: st)) : V x cells slots w pc lv st :=
  fun H locs ls hW hS hl => lv_aload C.hx C.hb d (lv_at hl j hj) (k H locs ls hW hS hl)
theorem r_istore_n {k : Fin 4} {v : Int32} (lv' : List (Nat × Value)) (C : Cx x cc nL own rm) (d : decode cc pc = .ok (.istore_n k, 1)) (hn : (k : Nat) < nL) (hf : ((k : Nat), Value.int v) :: lv.filter (fun q => !(q.1 == (k : Nat)) && !(q.1 + 1 == (k : Nat) && q.2.category == 2)) = lv') (k : V x cells slots w (pc + 1) lv' st) : V x cells slots w pc lv (.int v :: st) :=
  fun H locs ls hW hS hl => lv_istore_n C.hx C.hb d rfl hl (by rw [C.hn]; exact hn) hf (fun ls hl => k H locs ls hW hS hl)
theorem r_istore {i : Nat} {v : Int32} (lv' : List (Nat × Value)) (C : Cx x cc nL own rm) (d : decode cc pc = .ok (.istore i, 2)) (hn : i < nL) (hf : (i, Value.int v) :: lv.filter (fun q => !(q.1 == i) && !(q.1 + 1 == i && q.2.category == 2)) = lv') (k : V x cells slots w (pc + 2) lv' st) : V x cells slots w pc lv (.int v :: st) :=
  fun H locs ls hW hS hl => lv_istore C.hx C.hb d hl (by rw [C.hn]; exact hn) hf (fun ls hl => k H locs ls hW hS hl)
theorem r_astore_n {k : Fin 4} {v : Nat} (lv' : List (Nat × Value)) (C : Cx x cc nL own rm) (d : decode cc pc = .ok (.astore_n k, 1)) (hn : (k : Nat) < nL) (hf : ((k : Nat), Value.ref v) :: lv.filter (fun q => !(q.1 == (k : Nat)) && !(q.1 + 1 == (k : Nat) && q.2.category == 2)) = lv') (k : V x cells slots w (pc + 1) lv' st) : V x cells slots w pc lv (.ref v :: st) :=
  fun H locs ls hW hS hl => lv_astore_n C.hx C.hb d rfl hl (by rw [C.hn]; exact hn) hf (fun ls hl => k H locs ls hW hS hl)
theorem r_astore {i : Nat} {v : Nat} (lv' : List (Nat × Value)) (C : Cx x cc nL own rm) (d : decode cc pc = .ok (.astore i, 2)) (hn : i < nL) (hf : (i, Value.ref v) :: lv.filter (fun q => !(q.1 == i) && !(q.1 + 1 == i && q.2.category == 2)) = lv') (k : V x cells slots w (pc + 2) lv' st) : V x cells slots w pc lv (.ref v :: st) :=
  fun H locs ls hW hS hl => lv_astore C.hx C.hb d hl (by rw [C.hn]; exact hn) hf (fun ls hl => k H locs ls hW hS hl)
theorem r_lstore_n {k : Fin 4} {v : Int64} (lv' : List (Nat × Value)) (C : Cx x cc nL own rm) (d : decode cc pc = .ok (.lstore_n k, 1)) (hn : (k : Nat) + 1 < nL) (hf : ((k : Nat), Value.long v) :: lv.filter (fun q => !(q.1 == (k : Nat)) && (!(q.1 == (k : Nat) + 1) && !(q.1 + 1 == (k : Nat) && q.2.category == 2))) = lv') (k : V x cells slots w (pc + 1) lv' st) : V x cells slots w pc lv (.long v :: st) :=
  fun H locs ls hW hS hl => lv_lstore_n C.hx C.hb d rfl hl (by rw [C.hn]; exact hn) hf (fun ls hl => k H locs ls hW hS hl)
theorem r_lstore {i : Nat} {v : Int64} (lv' : List (Nat × Value)) (C : Cx x cc nL own rm) (d : decode cc pc = .ok (.lstore i, 2)) (hn : i + 1 < nL) (hf : (i, Value.long v) :: lv.filter (fun q => !(q.1 == i) && (!(q.1 == i + 1) && !(q.1 + 1 == i && q.2.category == 2))) = lv') (k : V x cells slots w (pc + 2) lv' st) : V x cells slots w pc lv (.long v :: st) :=
  fun H locs ls hW hS hl => lv_lstore C.hx C.hb d hl (by rw [C.hn]; exact hn) hf (fun ls hl => k H locs ls hW hS hl)
theorem r_iinc {i : Nat} {n : Int} {y v : Int32} (lv' : List (Nat × Value)) (j : Nat) (C : Cx x cc nL own rm) (d : decode cc pc = .ok (.iinc i n, 3)) (hj : lv[j]? = some (i, .int y)) (hv : y + Int32.ofInt n = v) (hn : i < nL) (hf : (i, Value.int v) :: lv.filter (fun q => !(q.1 == i) && !(q.1 + 1 == i && q.2.category == 2)) = lv') (k : V x cells slots w (pc + 3) lv' st) : V x cells slots w pc lv st :=
  fun H locs ls hW hS hl => lv_iinc C.hx C.hb d hl hj hv (by rw [C.hn]; exact hn) hf (fun ls hl => k H locs ls hW hS hl)
theorem r_iadd {a b : Int32} (C : Cx x cc nL own rm) (d : decode cc pc = .ok (.iadd, 1)) (k : ∀ v : Int32, v = a + b → V x cells slots w (pc + 1) lv (.int v :: st)) : V x cells slots w pc lv (.int b :: .int a :: st) :=
  fun H locs ls hW hS hl => lv_iadd C.hx C.hb d (k _ rfl H locs ls hW hS hl)
theorem r_isub {a b : Int32} (C : Cx x cc nL own rm) (d : decode cc pc = .ok (.isub, 1)) (k : ∀ v : Int32, v = a - b → V x cells slots w (pc + 1) lv (.int v :: st)) : V x cells slots w pc lv (.int b :: .int a :: st) :=
  fun H locs ls hW hS hl => lv_isub C.hx C.hb d (k _ rfl H locs ls hW hS hl)
theorem r_imul {a b : Int32} (C : Cx x cc nL own rm) (d : decode cc pc = .ok (.imul, 1)) (k : ∀ v : Int32, v = a * b → V x cells slots w (pc + 1) lv (.int v :: st)) : V x cells slots w pc lv (.int b :: .int a :: st) :=
  fun H locs ls hW hS hl => lv_imul C.hx C.hb d (k _ rfl H locs ls hW hS hl)
theorem r_iand {a b : Int32} (C : Cx x cc nL own rm) (d : decode cc pc = .ok (.iand, 1)) (k : ∀ v : Int32, v = a &&& b → V x cells slots w (pc + 1) lv (.int v :: st)) : V x cells slots w pc lv (.int b :: .int a :: st) :=
  fun H locs ls hW hS hl => lv_iand C.hx C.hb d (k _ rfl H locs ls hW hS hl)
theorem r_ior {a b : Int32} (C : Cx x cc nL own rm) (d : decode cc pc = .ok (.ior, 1)) (k : ∀ v : Int32, v = a ||| b → V x cells slots w (pc + 1) lv (.int v :: st)) : V x cells slots w pc lv (.int b :: .int a :: st) :=
  fun H locs ls hW hS hl => lv_ior C.hx C.hb d (k _ rfl H locs ls hW hS hl)
theorem r_idiv {a b : Int32} (C : Cx x cc nL own rm) (d : decode cc pc = .ok (.idiv, 1)) (hne : ¬ b = 0) (k : ∀ v : Int32, v = a / b → V x cells slots w (pc + 1) lv (.int v :: st)) : V x cells slots w pc lv (.int b :: .int a :: st) :=
  fun H locs ls hW hS hl => lv_idiv C.hx C.hb d hne (k _ rfl H locs ls hW hS hl)
theorem r_irem {a b : Int32} (C : Cx x cc nL own rm) (d : decode cc pc = .ok (.irem, 1)) (hne : ¬ b = 0) (k : ∀ v : Int32, v = a - a / b * b → V x cells slots w (pc + 1) lv (.int v :: st)) : V x cells slots w pc lv (.int b :: .int a :: st) :=
  fun H locs ls hW hS hl => lv_irem C.hx C.hb d hne (k _ rfl H locs ls hW hS hl)
theorem r_ladd {a b : Int64} (C : Cx x cc nL own rm) (d : decode cc pc = .ok (.ladd, 1)) (k : ∀ v : Int64, v = a + b → V x cells slots w (pc + 1) lv (.long v :: st)) : V x cells slots w pc lv (.long b :: .long a :: st) :=
  fun H locs ls hW hS hl => lv_ladd C.hx C.hb d (k _ rfl H locs ls hW hS hl)
theorem r_lsub {a b : Int64} (C : Cx x cc nL own rm) (d : decode cc pc = .ok (.lsub, 1)) (k : ∀ v : Int64, v = a - b → V x cells slots w (pc + 1) lv (.long v :: st)) : V x cells slots w pc lv (.long b :: .long a :: st) :=
  fun H locs ls hW hS hl => lv_lsub C.hx C.hb d (k _ rfl H locs ls hW hS hl)
theorem r_lmul {a b : Int64} (C : Cx x cc nL own rm) (d : decode cc pc = .ok (.lmul, 1)) (k : ∀ v : Int64, v = a * b → V x cells slots w (pc + 1) lv (.long v :: st)) : V x cells slots w pc lv (.long b :: .long a :: st) :=
  fun H locs ls hW hS hl => lv_lmul C.hx C.hb d (k _ rfl H locs ls hW hS hl)
theorem r_land {a b : Int64} (C : Cx x cc nL own rm) (d : decode cc pc = .ok (.land, 1)) (k : ∀ v : Int64, v = a &&& b → V x cells slots w (pc + 1) lv (.long v :: st)) : V x cells slots w pc lv (.long b :: .long a :: st) :=
  fun H locs ls hW hS hl => lv_land C.hx C.hb d (k _ rfl H locs ls hW hS hl)
theorem r_lor {a b : Int64} (C : Cx x cc nL own rm) (d : decode cc pc = .ok (.lor, 1)) (k : ∀ v : Int64, v = a ||| b → V x cells slots w (pc + 1) lv (.long v :: st)) : V x cells slots w pc lv (.long b :: .long a :: st) :=
  fun H locs ls hW hS hl => lv_lor C.hx C.hb d (k _ rfl H locs ls hW hS hl)
theorem r_lrem {a b : Int64} (C : Cx x cc nL own rm) (d : decode cc pc = .ok (.lrem, 1)) (hne : ¬ b = 0) (k : ∀ v : Int64, v = a - a / b * b → V x cells slots w (pc + 1) lv (.long v :: st)) : V x cells slots w pc lv (.long b :: .long a :: st) :=
  fun H locs ls hW hS hl => lv_lrem C.hx C.hb d hne (k _ rfl H locs ls hW hS hl)
theorem r_ishl {a b : Int32} (C : Cx x cc nL own rm) (d : decode cc pc = .ok (.ishl, 1)) (k : ∀ v : Int32, v = a <<< (b &&& 31) → V x cells slots w (pc + 1) lv (.int v :: st)) : V x cells slots w pc lv (.int b :: .int a :: st) :=
  fun H locs ls hW hS hl => lv_ishl C.hx C.hb d (k _ rfl H locs ls hW hS hl)
theorem r_ishr {a b : Int32} (C : Cx x cc nL own rm) (d : decode cc pc = .ok (.ishr, 1)) (k : ∀ v : Int32, v = a >>> (b &&& 31) → V x cells slots w (pc + 1) lv (.int v :: st)) : V x cells slots w pc lv (.int b :: .int a :: st) :=
  fun H locs ls hW hS hl => lv_ishr C.hx C.hb d (k _ rfl H locs ls hW hS hl)
theorem r_i2l {a : Int32} (C : Cx x cc nL own rm) (d : decode cc pc = .ok (.i2l, 1)) (k : ∀ v : Int64, v = a.toInt64 → V x cells slots w (pc + 1) lv (.long v :: st)) : V x cells slots w pc lv (.int a :: st) :=
  fun H locs ls hW hS hl => lv_i2l C.hx C.hb d rfl (k _ rfl H locs ls hW hS hl)
theorem r_l2i {a : Int64} (C : Cx x cc nL own rm) (d : decode cc pc = .ok (.l2i, 1)) (k : ∀ v : Int32, v = a.toInt32 → V x cells slots w (pc + 1) lv (.int v :: st)) : V x cells slots w pc lv (.long a :: st) :=
  fun H locs ls hW hS hl => lv_l2i C.hx C.hb d rfl (k _ rfl H locs ls hW hS hl)
theorem r_lushr {a : Int64} {b : Int32} (C : Cx x cc nL own rm) (d : decode cc pc = .ok (.lushr, 1)) (k : ∀ v : Int64, v = (a.toUInt64 >>> (b.toInt64.toUInt64 &&& Int64.toUInt64 63)).toInt64 → V x cells slots w (pc + 1) lv (.long v :: st)) : V x cells slots w pc lv (.int b :: .long a :: st) :=
  fun H locs ls hW hS hl => lv_lushr C.hx C.hb d rfl (k _ rfl H locs ls hW hS hl)
theorem r_lshl {a : Int64} {b : Int32} (C : Cx x cc nL own rm) (d : decode cc pc = .ok (.lshl, 1)) (k : ∀ v : Int64, v = a <<< (b.toInt64 &&& 63) → V x cells slots w (pc + 1) lv (.long v :: st)) : V x cells slots w pc lv (.int b :: .long a :: st) :=
  fun H locs ls hW hS hl => lv_lshl C.hx C.hb d rfl (k _ rfl H locs ls hW hS hl)
theorem r_lshr {a : Int64} {b : Int32} (C : Cx x cc nL own rm) (d : decode cc pc = .ok (.lshr, 1)) (k : ∀ v : Int64, v = a >>> (b.toInt64 &&& 63) → V x cells slots w (pc + 1) lv (.long v :: st)) : V x cells slots w pc lv (.int b :: .long a :: st) :=
  fun H locs ls hW hS hl => lv_lshr C.hx C.hb d rfl (k _ rfl H locs ls hW hS hl)
theorem r_lcmp {a b : Int64} (C : Cx x cc nL own rm) (d : decode cc pc = .ok (.lcmp, 1)) (k : ∀ v : Int32, v = lg_cmp a b → V x cells slots w (pc + 1) lv (.int v :: st)) : V x cells slots w pc lv (.long b :: .long a :: st) :=
  fun H locs ls hW hS hl => W.lcmp C.hx C.hb d (k _ rfl H locs ls hW hS hl)
theorem r_dup {va : Value} (C : Cx x cc nL own rm) (d : decode cc pc = .ok (.dup, 1)) (hc : va.category = 1) (k : V x cells slots w (pc + 1) lv (va :: va :: st)) : V x cells slots w pc lv (va :: st) :=
  fun H locs ls hW hS hl => lv_dup C.hx C.hb d hc (k H locs ls hW hS hl)
theorem r_pop {va : Value} (C : Cx x cc nL own rm) (d : decode cc pc = .ok (.pop, 1)) (hc : va.category = 1) (k : V x cells slots w (pc + 1) lv st) : V x cells slots w pc lv (va :: st) :=
  fun H locs ls hW hS hl => lv_pop C.hx C.hb d hc (k H locs ls hW hS hl)
theorem r_goto {off : Int} (tgt : Nat) (C : Cx x cc nL own rm) (d : decode cc pc = .ok (.goto off, 3)) (ht : (pc : Int) + off = (tgt : Int)) (k : V x cells slots w tgt lv st) : V x cells slots w pc lv st :=
  fun H locs ls hW hS hl => lv_goto C.hx C.hb d ht (k H locs ls hW hS hl)
theorem r_ldc {index : Nat} {v : Int32} (C : Cx x cc nL own rm) (hc : Cond.constant own index v ∈ TT) (d : decode cc pc = .ok (.ldc index, 2)) (k : V x cells slots w (pc + 2) lv (.int v :: st)) : V x cells slots w pc lv st :=
  fun H locs ls hW hS hl => lv_ldc C.hx C.hb C.hown (C.hts _ hc) d (k H locs ls hW hS hl)
theorem r_ldcw {index : Nat} {v : Int32} (C : Cx x cc nL own rm) (hc : Cond.constant own index v ∈ TT) (d : decode cc pc = .ok (.ldc_w index, 3)) (k : V x cells slots w (pc + 3) lv (.int v :: st)) : V x cells slots w pc lv st :=
  fun H locs ls hW hS hl => lv_ldcw C.hx C.hb C.hown (C.hts _ hc) d (k H locs ls hW hS hl)
theorem r_ldc2 {index : Nat} {v : Int64} (C : Cx x cc nL own rm) (hc : Cond.constantLong own index v ∈ TT) (d : decode cc pc = .ok (.ldc2_w index, 3)) (k : V x cells slots w (pc + 3) lv (.long v :: st)) : V x cells slots w pc lv st :=
  fun H locs ls hW hS hl => lv_ldc2 C.hx C.hb C.hown (C.hts _ hc) d (k H locs ls hW hS hl)
theorem r_tabOut {dflt lo hi : Int} {offs : Array Int} {len : Nat} {a : Int32} (tgt : Nat) (C : Cx x cc nL own rm) (d : decode cc pc = .ok (.tableswitch dflt lo hi offs, len)) (h : a.toInt < lo ∨ hi < a.toInt) (ht : (pc : Int) + dflt = (tgt : Int)) (k : V x cells slots w tgt lv st) : V x cells slots w pc lv (.int a :: st) :=
  fun H locs ls hW hS hl => lv_tableOut C.hx C.hb d h ht (k H locs ls hW hS hl)
theorem r_tabIn {dflt lo hi : Int} {offs : Array Int} {len : Nat} {a : Int32} {off : Int} (tgt : Nat) (C : Cx x cc nL own rm) (d : decode cc pc = .ok (.tableswitch dflt lo hi offs, len)) (h1 : ¬ a.toInt < lo) (h2 : ¬ hi < a.toInt) (ho : offs[(a.toInt - lo).toNat]? = some off) (ht : (pc : Int) + off = (tgt : Int)) (k : V x cells slots w tgt lv st) : V x cells slots w pc lv (.int a :: st) :=
  fun H locs ls hW hS hl => lv_tableIn C.hx C.hb d h1 h2 ho ht (k H locs ls hW hS hl)
theorem r_widen {k n : Nat} (h1 : cells ≤ k) (h2 : slots ≤ n) (kk : V x k n w pc lv st) : V x cells slots w pc lv st :=
  fun H locs ls hW hS hl => W.widen h1 h2 (kk H locs ls hW hS hl)
theorem r_lv (ks : List Nat) (hf : lv_pick lv ks = lv') (k : V x cells slots w pc lv' st) : V x cells slots w pc lv st :=
  fun H locs ls hW hS hl => k H locs ls hW hS (lv_sub hl ks hf)
theorem r_if_eq {a : Int32} {off : Int} (tgt : Nat) (C : Cx x cc nL own rm) (d : decode cc pc = .ok (.ifCond .eq off, 3)) (ht : (pc : Int) + off = (tgt : Int)) (kt : a = 0 → V x cells slots w tgt lv st) (kf : ¬ a = 0 → V x cells slots w (pc + 3) lv st) : V x cells slots w pc lv (.int a :: st) :=
  fun H locs ls hW hS hl => lv_if_eq C.hx C.hb d ht (fun h => kt h H locs ls hW hS hl) (fun h => kf h H locs ls hW hS hl)
theorem r_icmp_eq {a b : Int32} {off : Int} (tgt : Nat) (C : Cx x cc nL own rm) (d : decode cc pc = .ok (.if_icmp .eq off, 3)) (ht : (pc : Int) + off = (tgt : Int)) (kt : a = b → V x cells slots w tgt lv st) (kf : ¬ a = b → V x cells slots w (pc + 3) lv st) : V x cells slots w pc lv (.int b :: .int a :: st) :=
  fun H locs ls hW hS hl => lv_icmp_eq C.hx C.hb d ht (fun h => kt h H locs ls hW hS hl) (fun h => kf h H locs ls hW hS hl)
theorem r_if_ne {a : Int32} {off : Int} (tgt : Nat) (C : Cx x cc nL own rm) (d : decode cc pc = .ok (.ifCond .ne off, 3)) (ht : (pc : Int) + off = (tgt : Int)) (kt : ¬ a = 0 → V x cells slots w tgt lv st) (kf : a = 0 → V x cells slots w (pc + 3) lv st) : V x cells slots w pc lv (.int a :: st) :=
  fun H locs ls hW hS hl => lv_if_ne C.hx C.hb d ht (fun h => kt h H locs ls hW hS hl) (fun h => kf h H locs ls hW hS hl)
theorem r_icmp_ne {a b : Int32} {off : Int} (tgt : Nat) (C : Cx x cc nL own rm) (d : decode cc pc = .ok (.if_icmp .ne off, 3)) (ht : (pc : Int) + off = (tgt : Int)) (kt : ¬ a = b → V x cells slots w tgt lv st) (kf : a = b → V x cells slots w (pc + 3) lv st) : V x cells slots w pc lv (.int b :: .int a :: st) :=
  fun H locs ls hW hS hl => lv_icmp_ne C.hx C.hb d ht (fun h => kt h H locs ls hW hS hl) (fun h => kf h H locs ls hW hS hl)
theorem r_if_lt {a : Int32} {off : Int} (tgt : Nat) (C : Cx x cc nL own rm) (d : decode cc pc = .ok (.ifCond .lt off, 3)) (ht : (pc : Int) + off = (tgt : Int)) (kt : a < 0 → V x cells slots w tgt lv st) (kf : ¬ (a < 0) → V x cells slots w (pc + 3) lv st) : V x cells slots w pc lv (.int a :: st) :=
  fun H locs ls hW hS hl => lv_if_lt C.hx C.hb d ht (fun h => kt h H locs ls hW hS hl) (fun h => kf h H locs ls hW hS hl)
theorem r_icmp_lt {a b : Int32} {off : Int} (tgt : Nat) (C : Cx x cc nL own rm) (d : decode cc pc = .ok (.if_icmp .lt off, 3)) (ht : (pc : Int) + off = (tgt : Int)) (kt : a < b → V x cells slots w tgt lv st) (kf : ¬ (a < b) → V x cells slots w (pc + 3) lv st) : V x cells slots w pc lv (.int b :: .int a :: st) :=
  fun H locs ls hW hS hl => lv_icmp_lt C.hx C.hb d ht (fun h => kt h H locs ls hW hS hl) (fun h => kf h H locs ls hW hS hl)
theorem r_if_ge {a : Int32} {off : Int} (tgt : Nat) (C : Cx x cc nL own rm) (d : decode cc pc = .ok (.ifCond .ge off, 3)) (ht : (pc : Int) + off = (tgt : Int)) (kt : 0 ≤ a → V x cells slots w tgt lv st) (kf : ¬ (0 ≤ a) → V x cells slots w (pc + 3) lv st) : V x cells slots w pc lv (.int a :: st) :=
  fun H locs ls hW hS hl => lv_if_ge C.hx C.hb d ht (fun h => kt h H locs ls hW hS hl) (fun h => kf h H locs ls hW hS hl)
theorem r_icmp_ge {a b : Int32} {off : Int} (tgt : Nat) (C : Cx x cc nL own rm) (d : decode cc pc = .ok (.if_icmp .ge off, 3)) (ht : (pc : Int) + off = (tgt : Int)) (kt : b ≤ a → V x cells slots w tgt lv st) (kf : ¬ (b ≤ a) → V x cells slots w (pc + 3) lv st) : V x cells slots w pc lv (.int b :: .int a :: st) :=
  fun H locs ls hW hS hl => lv_icmp_ge C.hx C.hb d ht (fun h => kt h H locs ls hW hS hl) (fun h => kf h H locs ls hW hS hl)
theorem r_if_gt {a : Int32} {off : Int} (tgt : Nat) (C : Cx x cc nL own rm) (d : decode cc pc = .ok (.ifCond .gt off, 3)) (ht : (pc : Int) + off = (tgt : Int)) (kt : 0 < a → V x cells slots w tgt lv st) (kf : ¬ (0 < a) → V x cells slots w (pc + 3) lv st) : V x cells slots w pc lv (.int a :: st) :=
  fun H locs ls hW hS hl => lv_if_gt C.hx C.hb d ht (fun h => kt h H locs ls hW hS hl) (fun h => kf h H locs ls hW hS hl)
theorem r_icmp_gt {a b : Int32} {off : Int} (tgt : Nat) (C : Cx x cc nL own rm) (d : decode cc pc = .ok (.if_icmp .gt off, 3)) (ht : (pc : Int) + off = (tgt : Int)) (kt : b < a → V x cells slots w tgt lv st) (kf : ¬ (b < a) → V x cells slots w (pc + 3) lv st) : V x cells slots w pc lv (.int b :: .int a :: st) :=
  fun H locs ls hW hS hl => lv_icmp_gt C.hx C.hb d ht (fun h => kt h H locs ls hW hS hl) (fun h => kf h H locs ls hW hS hl)
theorem r_if_le {a : Int32} {off : Int} (tgt : Nat) (C : Cx x cc nL own rm) (d : decode cc pc = .ok (.ifCond .le off, 3)) (ht : (pc : Int) + off = (tgt : Int)) (kt : a ≤ 0 → V x cells slots w tgt lv st) (kf : ¬ (a ≤ 0) → V x cells slots w (pc + 3) lv st) : V x cells slots w pc lv (.int a :: st) :=
  fun H locs ls hW hS hl => lv_if_le C.hx C.hb d ht (fun h => kt h H locs ls hW hS hl) (fun h => kf h H locs ls hW hS hl)
theorem r_icmp_le {a b : Int32} {off : Int} (tgt : Nat) (C : Cx x cc nL own rm) (d : decode cc pc = .ok (.if_icmp .le off, 3)) (ht : (pc : Int) + off = (tgt : Int)) (kt : a ≤ b → V x cells slots w tgt lv st) (kf : ¬ (a ≤ b) → V x cells slots w (pc + 3) lv st) : V x cells slots w pc lv (.int b :: .int a :: st) :=
  fun H locs ls hW hS hl => lv_icmp_le C.hx C.hb d ht (fun h => kt h H locs ls hW hS hl) (fun h => kf h H locs ls hW hS hl)
end ROWS
end
section
section HEAPROWS
variable {x : Ct} {cc : ByteArray} {nL cells slots pc : Nat} {own : String} {rm : Room} {w w' : Wv} {lv lv' : List (Nat × Value)} {st : List Value}
variable {n ci k t idx N len tag : Nat} {fts : List Nat} {Cn : String} {T : u_T}
theorem r_getG (C : Cx x cc nL own rm) (hn : (wK w)[n]? = some (ci, .inl fts)) (hc : vwCl[ci]? = some (Cn, T, N)) (hin : ∀ u ∈ u_ws Cn T N, u ∈ TT) (hk : k < N) (hlink : Cond.fieldLink own idx (T k).1 (T k).2.1 (T k).2.2.1 ∈ TT) (ht : fts[k]? = some t) {v : Value} (hv : fv (xG x) w n k t = v) (d : decode cc pc = .ok (.getfield idx, 3))
    (kk : V x cells slots w (pc + 3) lv (v :: st)) : V x cells slots w pc lv (.ref (gz (xG x) + n) :: st) := by
  intro H locs ls hW hS hl
  refine va_get (tys := tyo (xG x)) C.hx C.hb C.hts hin C.hown C.tk.1 hW.1 n (wso_get hn) hc k hk (C.hts _ hlink) (fun _ h => h) (v := v) ?_ d (kk H locs ls hW hS hl)
  rw [fvs_get, ht, ← hv]; simp
theorem r_getI (C : Cx x cc nL own rm) (hn : (wK w)[n]? = some (ci, .inl fts)) (hc : vwCl[ci]? = some (Cn, T, N)) (hin : ∀ u ∈ u_ws Cn T N, u ∈ TT) (hk : k < N) (hlink : Cond.fieldLink own idx (T k).1 (T k).2.1 (T k).2.2.1 ∈ TT) (ht : fts[k]? = some 0) (d : decode cc pc = .ok (.getfield idx, 3))
    (kk : V x cells slots w (pc + 3) lv (.int (wI w n k) :: st)) : V x cells slots w pc lv (.ref (gz (xG x) + n) :: st) := r_getG C hn hc hin hk hlink ht rfl d kk
theorem r_getL (C : Cx x cc nL own rm) (hn : (wK w)[n]? = some (ci, .inl fts)) (hc : vwCl[ci]? = some (Cn, T, N)) (hin : ∀ u ∈ u_ws Cn T N, u ∈ TT) (hk : k < N) (hlink : Cond.fieldLink own idx (T k).1 (T k).2.1 (T k).2.2.1 ∈ TT) (ht : fts[k]? = some 1) (d : decode cc pc = .ok (.getfield idx, 3))
    (kk : V x cells slots w (pc + 3) lv (.long (wL w n k) :: st)) : V x cells slots w pc lv (.ref (gz (xG x) + n) :: st) := r_getG C hn hc hin hk hlink ht rfl d kk
theorem r_getX {q : Nat} (C : Cx x cc nL own rm) (hn : (wK w)[n]? = some (ci, .inl fts)) (hc : vwCl[ci]? = some (Cn, T, N)) (hin : ∀ u ∈ u_ws Cn T N, u ∈ TT) (hk : k < N) (hlink : Cond.fieldLink own idx (T k).1 (T k).2.1 (T k).2.2.1 ∈ TT) (ht : fts[k]? = some 2) (hX : wX w n k = some q) (d : decode cc pc = .ok (.getfield idx, 3))
    (kk : V x cells slots w (pc + 3) lv (.ref (gz (xG x) + q) :: st)) : V x cells slots w pc lv (.ref (gz (xG x) + n) :: st) := r_getG C hn hc hin hk hlink ht (by simp [fv, adr, hX, va_rf]) d kk
/-- a store into a field that isn't final -/
theorem r_putG (C : Cx x cc nL own rm) (hn : (wK w)[n]? = some (ci, .inl fts)) (hc : vwCl[ci]? = some (Cn, T, N)) (hin : ∀ u ∈ u_ws Cn T N, u ∈ TT) (tyf : Nat → FieldType) (hty : ∀ k, k < N → parseFieldDescriptor (T k).2.2.1 = some (tyf k)) (hnm : ∀ a, a < N → ∀ b, b < N → a ≠ b → (T a).2.1 ≠ (T b).2.1) (hk : k < N) (hlink : Cond.fieldLink own idx (T k).1 (T k).2.1 (T k).2.2.1 ∈ TT) (ht : fts[k]? = some t) (hfin : (T k).2.2.2 = false) {v : Value} (hnar : narrow (tyf k) v = v) (hfit : fits (tyf k) v = true)
    (hK : wK w' = wK w) (hoff : ∀ a, a ≠ n → (∀ b, wI w' a b = wI w a b) ∧ (∀ b, wL w' a b = wL w a b) ∧ (∀ b, wX w' a b = wX w a b)) (hv : fv (xG x) w' n k t = v) (ho : ∀ j u, fts[j]? = some u → j ≠ k → fv (xG x) w n j u = fv (xG x) w' n j u) (d : decode cc pc = .ok (.putfield idx, 3))
    (kk : V x cells slots w' (pc + 3) lv st) : V x cells slots w pc lv (v :: .ref (gz (xG x) + n) :: st) := by
  intro H locs ls hW hS hl
  have he := wso_get (G := xG x) hn
  have hap := va_apart (own := own) C.hts hin tyf hty hnm C.tk.1 hc
  have hat := hW.1 n _ he
  obtain ⟨r, h1, cell, q1, q2, q3, q4⟩ := hat
  have hr : r = (Cn, T, N) := Option.some.inj (h1.symm.trans hc)
  subst hr
  obtain ⟨hSl, hfc, kC, hkC, hkind⟩ := C.tk.1.1 ci _ hc
  obtain ⟨cf, kf, fi, f, hi, hsl⟩ := hSl k hk
  have hlay := C.hts _ (hin _ (u_in_lay hk))
  unfold u_lay at hlay
  rw [if_neg (by rw [hfin]; decide)] at hlay
  have hst := (u_facts hfc hkC (u_lays C.hts hin hk) hi).1
  have h6 := u_store hfc hkC hkind hlay hi (hty k hk) hnar hfit
  refine W.putK C.hx C.hb (f := f) ⟨C.hown, C.hts _ hlink, ⟨_, _, _, hi⟩, hst⟩ (by rw [q2]; exact h6) q1 q3 (by rw [hsl]; exact k2_hasslot (q4 k hk)) rfl rfl d fun H' e1 e2 e3 => ?_
  rw [hsl] at e1 ⊢
  have hl2 : k < (fvs (xG x) w n 0 fts).length := by rw [fvs_len]; exact (List.getElem?_eq_some_iff.mp ht).1
  have hP := hW.1.set (e := .inr (ci, (fvs (xG x) w n 0 fts).set k v)) wso_D he ⟨_, hc, t_OB.to (V := updV (vp_V (fvs (xG x) w n 0 fts)) k v) ⟨_, e1, q2, q3, t_set q4 hap hk v⟩ (fun j _ => vp_updV_set hl2 v j)⟩ e3
  rw [wso_set hn hK hoff (show _ = ent (xG x) w' n (ci, .inl fts) from congrArg (fun z => Sum.inr (ci, z)) (fvs_set ht hv ho))] at hP
  exact kk H' _ ls ⟨hP, by rw [e2, hK]; exact hW.2⟩ (hS.put e2 e3 (wso_D.2 n _ he)) hl
/-- a store into a final field, in a constructor -/
theorem r_putFG (C : Cx x cc nL own rm) (hin2 : (xM x).name = "<init>") (hn : (wK w)[n]? = some (ci, .inl fts)) (hc : vwCl[ci]? = some (Cn, T, N)) (hin : ∀ u ∈ u_ws Cn T N, u ∈ TT) (tyf : Nat → FieldType) (hty : ∀ k, k < N → parseFieldDescriptor (T k).2.2.1 = some (tyf k)) (hnm : ∀ a, a < N → ∀ b, b < N → a ≠ b → (T a).2.1 ≠ (T b).2.1) (hk : k < N) (hlink : Cond.fieldLink own idx (T k).1 (T k).2.1 (T k).2.2.1 ∈ TT) (ht : fts[k]? = some t) (hfin : (T k).2.2.2 = true) (hdecl : (T k).1 = own) {v : Value} (hnar : narrow (tyf k) v = v) (hfit : fits (tyf k) v = true)
    (hK : wK w' = wK w) (hoff : ∀ a, a ≠ n → (∀ b, wI w' a b = wI w a b) ∧ (∀ b, wL w' a b = wL w a b) ∧ (∀ b, wX w' a b = wX w a b)) (hv : fv (xG x) w' n k t = v) (ho : ∀ j u, fts[j]? = some u → j ≠ k → fv (xG x) w n j u = fv (xG x) w' n j u) (d : decode cc pc = .ok (.putfield idx, 3))
    (kk : V x cells slots w' (pc + 3) lv st) : V x cells slots w pc lv (v :: .ref (gz (xG x) + n) :: st) := by
  intro H locs ls hW hS hl
  have he := wso_get (G := xG x) hn
  have hap := va_apart (own := own) C.hts hin tyf hty hnm C.tk.1 hc
  have hat := hW.1 n _ he
  obtain ⟨r, h1, cell, q1, q2, q3, q4⟩ := hat
  have hr : r = (Cn, T, N) := Option.some.inj (h1.symm.trans hc)
  subst hr
  obtain ⟨hSl, hfc, kC, hkC, hkind⟩ := C.tk.1.1 ci _ hc
  obtain ⟨cf, kf, fi, f, hi, hsl⟩ := hSl k hk
  have hlay := C.hts _ (hin _ (u_in_lay hk))
  unfold u_lay at hlay
  rw [if_pos hfin] at hlay
  have hst := (u_facts hfc hkC (u_lays C.hts hin hk) hi).1
  have hcf : (xm x).cls = cf := by
    obtain ⟨_, _, c', _, _, _, -, -, hf', -, -, -, hown2, -⟩ := Cond.laysFinal_spec hlay
    have e1 : c' = cf := by have := hi.symm.trans hf'; simp at this; exact this.1.symm
    rw [hdecl] at hown2
    rw [← e1]; exact Option.some.inj (C.hown.symm.trans hown2)
  have h6 := u_fits hfc hkC hkind (Or.inr hlay) hi (hty k hk) hnar hfit
  refine W.putFinK C.hx C.hb C.hown (C.hts _ hlink) hi hst hcf hin2 (by rw [q2]; exact h6) q1 q3 (by rw [hsl]; exact k2_hasslot (q4 k hk)) rfl rfl d fun H' e1 e2 e3 => ?_
  rw [hsl] at e1 ⊢
  have hl2 : k < (fvs (xG x) w n 0 fts).length := by rw [fvs_len]; exact (List.getElem?_eq_some_iff.mp ht).1
  have hP := hW.1.set (e := .inr (ci, (fvs (xG x) w n 0 fts).set k v)) wso_D he ⟨_, hc, t_OB.to (V := updV (vp_V (fvs (xG x) w n 0 fts)) k v) ⟨_, e1, q2, q3, t_set q4 hap hk v⟩ (fun j _ => vp_updV_set hl2 v j)⟩ e3
  rw [wso_set hn hK hoff (show _ = ent (xG x) w' n (ci, .inl fts) from congrArg (fun z => Sum.inr (ci, z)) (fvs_set ht hv ho))] at hP
  exact kk H' _ ls ⟨hP, by rw [e2, hK]; exact hW.2⟩ (hS.put e2 e3 (wso_D.2 n _ he)) hl
theorem fv_setI_o {G : Gt} {v : Int32} (j u : Nat) (h : j ≠ k) : fv G w n j u = fv G (setI w n k v) n j u := by simp only [fv, setI, wI, wL, wX, up2_nk h]
theorem fv_setL_o {G : Gt} {v : Int64} (j u : Nat) (h : j ≠ k) : fv G w n j u = fv G (setL w n k v) n j u := by simp only [fv, setL, wI, wL, wX, up2_nk h]
theorem fv_setX_o {G : Gt} {v : Option Nat} (j u : Nat) (h : j ≠ k) : fv G w n j u = fv G (setX w n k v) n j u := by simp only [fv, setX, wI, wL, wX, up2_nk h]
theorem r_putI {v : Int32} (C : Cx x cc nL own rm) (hn : (wK w)[n]? = some (ci, .inl fts)) (hc : vwCl[ci]? = some (Cn, T, N)) (hin : ∀ u ∈ u_ws Cn T N, u ∈ TT) (tyf : Nat → FieldType) (hty : ∀ k, k < N → parseFieldDescriptor (T k).2.2.1 = some (tyf k)) (hnm : ∀ a, a < N → ∀ b, b < N → a ≠ b → (T a).2.1 ≠ (T b).2.1) (hk : k < N) (hlink : Cond.fieldLink own idx (T k).1 (T k).2.1 (T k).2.2.1 ∈ TT) (ht : fts[k]? = some 0) (hfin : (T k).2.2.2 = false) (hnar : narrow (tyf k) (.int v) = .int v) (hfit : fits (tyf k) (.int v) = true) (d : decode cc pc = .ok (.putfield idx, 3))
    (kk : ∀ w', w' = setI w n k v → V x cells slots w' (pc + 3) lv st) : V x cells slots w pc lv (.int v :: .ref (gz (xG x) + n) :: st) :=
  r_putG (w' := setI w n k v) C hn hc hin tyf hty hnm hk hlink ht hfin hnar hfit rfl setI_off (by show Value.int _ = _; rw [show wI (setI w n k v) n k = v from up2_eq]) (fun j u _ h => fv_setI_o j u h) d (kk _ rfl)
theorem r_putL {v : Int64} (C : Cx x cc nL own rm) (hn : (wK w)[n]? = some (ci, .inl fts)) (hc : vwCl[ci]? = some (Cn, T, N)) (hin : ∀ u ∈ u_ws Cn T N, u ∈ TT) (tyf : Nat → FieldType) (hty : ∀ k, k < N → parseFieldDescriptor (T k).2.2.1 = some (tyf k)) (hnm : ∀ a, a < N → ∀ b, b < N → a ≠ b → (T a).2.1 ≠ (T b).2.1) (hk : k < N) (hlink : Cond.fieldLink own idx (T k).1 (T k).2.1 (T k).2.2.1 ∈ TT) (ht : fts[k]? = some 1) (hfin : (T k).2.2.2 = false) (hnar : narrow (tyf k) (.long v) = .long v) (hfit : fits (tyf k) (.long v) = true) (d : decode cc pc = .ok (.putfield idx, 3))
    (kk : ∀ w', w' = setL w n k v → V x cells slots w' (pc + 3) lv st) : V x cells slots w pc lv (.long v :: .ref (gz (xG x) + n) :: st) :=
  r_putG (w' := setL w n k v) C hn hc hin tyf hty hnm hk hlink ht hfin hnar hfit rfl setL_off (by show Value.long _ = _; rw [show wL (setL w n k v) n k = v from up2_eq]) (fun j u _ h => fv_setL_o j u h) d (kk _ rfl)
theorem r_putX {q : Nat} (C : Cx x cc nL own rm) (hin2 : (xM x).name = "<init>") (hn : (wK w)[n]? = some (ci, .inl fts)) (hc : vwCl[ci]? = some (Cn, T, N)) (hin : ∀ u ∈ u_ws Cn T N, u ∈ TT) (tyf : Nat → FieldType) (hty : ∀ k, k < N → parseFieldDescriptor (T k).2.2.1 = some (tyf k)) (hnm : ∀ a, a < N → ∀ b, b < N → a ≠ b → (T a).2.1 ≠ (T b).2.1) (hk : k < N) (hlink : Cond.fieldLink own idx (T k).1 (T k).2.1 (T k).2.2.1 ∈ TT) (ht : fts[k]? = some 2) (hfin : (T k).2.2.2 = true) (hdecl : (T k).1 = own) (hnar : narrow (tyf k) (.ref (gz (xG x) + q)) = .ref (gz (xG x) + q)) (hfit : fits (tyf k) (.ref (gz (xG x) + q)) = true) (d : decode cc pc = .ok (.putfield idx, 3))
    (kk : ∀ w', w' = setX w n k (some q) → V x cells slots w' (pc + 3) lv st) : V x cells slots w pc lv (.ref (gz (xG x) + q) :: .ref (gz (xG x) + n) :: st) :=
  r_putFG (w' := setX w n k (some q)) C hin2 hn hc hin tyf hty hnm hk hlink ht hfin hdecl hnar hfit rfl setX_off (by show va_rf (adr _ _) = _; rw [show wX (setX w n k (some q)) n k = some q from up2_eq]; rfl) (fun j u _ h => fv_setX_o j u h) d (kk _ rfl)
-- arrays
theorem r_iald {i : Int32} (C : Cx x cc nL own rm) (hn : (wK w)[n]? = some (tag, .inr (0, len, 0))) (hi : vp_in i len) (d : decode cc pc = .ok (.iaload, 1)) (kk : V x cells slots w (pc + 1) lv (.int (wI w n i.toNatClampNeg) :: st)) : V x cells slots w pc lv (.int i :: .ref (gz (xG x) + n) :: st) :=
  fun H locs ls hW hS hl => va_iald (cA := gT (xG x) 0) (n := len) (f := wI w n) C.hx C.hb C.tk.1 hW.1 n 0 (wso_get hn) rfl hi d (kk H locs ls hW hS hl)
theorem r_zald {i : Int32} (C : Cx x cc nL own rm) (hn : (wK w)[n]? = some (tag, .inr (1, len, 0))) (hi : vp_in i len) (d : decode cc pc = .ok (.baload, 1)) (kk : V x cells slots w (pc + 1) lv (.int (wI w n i.toNatClampNeg) :: st)) : V x cells slots w pc lv (.int i :: .ref (gz (xG x) + n) :: st) :=
  fun H locs ls hW hS hl => va_zald (cA := gT (xG x) 1) (n := len) (f := wI w n) C.hx C.hb C.tk.1 hW.1 n 1 (wso_get hn) rfl hi d (kk H locs ls hW hS hl)
theorem r_lald {i : Int32} (C : Cx x cc nL own rm) (hn : (wK w)[n]? = some (tag, .inr (2, len, 1))) (hi : vp_in i len) (d : decode cc pc = .ok (.laload, 1)) (kk : V x cells slots w (pc + 1) lv (.long (wL w n i.toNatClampNeg) :: st)) : V x cells slots w pc lv (.int i :: .ref (gz (xG x) + n) :: st) :=
  fun H locs ls hW hS hl => va_lald (cA := gT (xG x) 2) (n := len) (f := wL w n) C.hx C.hb C.tk.1 hW.1 n 2 (wso_get hn) rfl hi d (kk H locs ls hW hS hl)
theorem r_aald {i : Int32} {q : Nat} (ty : Nat) {cn : String} (hty : (tyo (xG x))[ty]? = some (gT (xG x) ty, .object cn)) (C : Cx x cc nL own rm) (hn : (wK w)[n]? = some (tag, .inr (ty, len, 2))) (hi : vp_in i len) (hX : wX w n i.toNatClampNeg = some q) (d : decode cc pc = .ok (.aaload, 1)) (kk : V x cells slots w (pc + 1) lv (.ref (gz (xG x) + q) :: st)) : V x cells slots w pc lv (.int i :: .ref (gz (xG x) + n) :: st) := by
  intro H locs ls hW hS hl
  refine va_aldq (cA := gT (xG x) ty) (n := len) (f := fun j => adr (xG x) (wX w n j)) C.hx C.hb C.tk.1 hW.1 n ty (wso_get hn) hty hi d ?_
  have e : va_rf (adr (xG x) (wX w n i.toNatClampNeg)) = .ref (gz (xG x) + q) := by rw [hX]; rfl
  rw [e]
  exact kk H locs ls hW hS hl
theorem r_alen (ty et : Nat) {aty : FieldType} (hty : (tyo (xG x))[ty]? = some (gT (xG x) ty, aty)) (C : Cx x cc nL own rm) (hn : (wK w)[n]? = some (tag, .inr (ty, len, et))) {v : Int32} (hv : Int32.ofNat len = v) (d : decode cc pc = .ok (.arraylength, 1)) (kk : V x cells slots w (pc + 1) lv (.int v :: st)) : V x cells slots w pc lv (.ref (gz (xG x) + n) :: st) :=
  fun H locs ls hW hS hl => va_alen C.hx C.hb C.tk.1 hW.1 n ty (wso_get hn) hty hv d (kk H locs ls hW hS hl)
theorem aset {H H1 : Heap} {locs : List Loc} {j : Nat} (hW : Wd (xG x) w H) (hS : va_S (Az (xG x)) (xs x).heap H locs) {sh : Nat × Nat × Nat} (hn : (wK w)[n]? = some (tag, .inr sh)) (hK : wK w' = wK w) (hoff : ∀ a, a ≠ n → (∀ b, wI w' a b = wI w a b) ∧ (∀ b, wL w' a b = wL w a b) ∧ (∀ b, wX w' a b = wX w a b)) (e : H1[gz (xG x) + n]? = some (vp_cell (gT (xG x) sh.1) (sh.2.1, acn (xG x) w' n sh.2.2))) (z : H1.size = H.size) (oq : ∀ q : Nat, q ≠ gz (xG x) + n → H1[q]? = H[q]?) : Wd (xG x) w' H1 ∧ va_S (Az (xG x)) (xs x).heap H1 (locs ++ [⟨gz (xG x) + n, j⟩]) := by
  have he := wso_get (G := xG x) hn
  have hP := hW.1.set (e := .inl (gT (xG x) sh.1, (sh.2.1, acn (xG x) w' n sh.2.2))) wso_D he e oq
  rw [wso_set (e := .inl (gT (xG x) sh.1, (sh.2.1, acn (xG x) w' n sh.2.2))) hn hK hoff rfl] at hP
  exact ⟨⟨hP, by rw [z, hK]; exact hW.2⟩, hS.put z oq (wso_D.2 n _ he)⟩
theorem up2_row {α : Type} {f : Nat → Nat → α} {j : Nat} {v : α} : up2 f n j v n = fun b => if b = j then v else f n b := by funext b; simp [up2]
theorem r_iast {i v : Int32} (C : Cx x cc nL own rm) (hn : (wK w)[n]? = some (tag, .inr (0, len, 0))) (hi : vp_in i len) (d : decode cc pc = .ok (.iastore, 1)) (kk : ∀ w', w' = setI w n i.toNatClampNeg v → V x cells slots w' (pc + 1) lv st) : V x cells slots w pc lv (.int v :: .int i :: .ref (gz (xG x) + n) :: st) := by
  intro H locs ls hW hS hl
  refine W.iast C.hx C.hb (hW.1 n _ (wso_get hn)) ((C.tk.1.2 0 _ rfl).1 len (fun j => .int (wI w n j))) (fun q => by cases q) (by show ¬ (i < 0 ∨ (arrV _ _ _).slots.size ≤ _); rw [arrV_size]; exact hi) rfl rfl d fun H1 e z oq => ?_
  obtain ⟨a, b⟩ := aset (w' := setI w n i.toNatClampNeg v) (j := i.toNatClampNeg) hW hS hn rfl setI_off (by
    rw [e]
    show some ((arrV (gT (xG x) 0) len (fun j => .int (wI w n j))).setSlot i.toNatClampNeg (.int v)) = some (arrV (gT (xG x) 0) len (fun j => .int (wI (setI w n i.toNatClampNeg v) n j)))
    rw [arrV_store]
    congr 2
    funext q
    show updV _ _ _ q = Value.int (up2 (wI w) n _ _ n q)
    by_cases hq : q = i.toNatClampNeg
    · subst hq; simp [updV, up2]
    · simp [updV, up2, hq]) z oq
  exact kk _ rfl H1 _ ls a b hl
theorem r_zast {i v : Int32} (C : Cx x cc nL own rm) (hn : (wK w)[n]? = some (tag, .inr (1, len, 0))) (hi : vp_in i len) (hv : narrow .boolean (.int v) = .int v) (d : decode cc pc = .ok (.bastore, 1)) (kk : ∀ w', w' = setI w n i.toNatClampNeg v → V x cells slots w' (pc + 1) lv st) : V x cells slots w pc lv (.int v :: .int i :: .ref (gz (xG x) + n) :: st) := by
  intro H locs ls hW hS hl
  refine W.zast C.hx C.hb (hW.1 n _ (wso_get hn)) ((C.tk.1.2 1 _ rfl).1 len (fun j => .int (wI w n j))) (fun q => by cases q) (by show ¬ (i < 0 ∨ (arrV _ _ _).slots.size ≤ _); rw [arrV_size]; exact hi) rfl rfl d fun H1 e z oq => ?_
  obtain ⟨a, b⟩ := aset (w' := setI w n i.toNatClampNeg v) (j := i.toNatClampNeg) hW hS hn rfl setI_off (by
    rw [e, hv]
    show some ((arrV (gT (xG x) 1) len (fun j => .int (wI w n j))).setSlot i.toNatClampNeg (.int v)) = some (arrV (gT (xG x) 1) len (fun j => .int (wI (setI w n i.toNatClampNeg v) n j)))
    rw [arrV_store]
    congr 2
    funext q
    show updV _ _ _ q = Value.int (up2 (wI w) n _ _ n q)
    by_cases hq : q = i.toNatClampNeg
    · subst hq; simp [updV, up2]
    · simp [updV, up2, hq]) z oq
  exact kk _ rfl H1 _ ls a b hl
theorem r_last {i : Int32} {v : Int64} (C : Cx x cc nL own rm) (hn : (wK w)[n]? = some (tag, .inr (2, len, 1))) (hi : vp_in i len) (d : decode cc pc = .ok (.lastore, 1)) (kk : ∀ w', w' = setL w n i.toNatClampNeg v → V x cells slots w' (pc + 1) lv st) : V x cells slots w pc lv (.long v :: .int i :: .ref (gz (xG x) + n) :: st) := by
  intro H locs ls hW hS hl
  refine W.last C.hx C.hb (hW.1 n _ (wso_get hn)) ((C.tk.1.2 2 _ rfl).1 len (fun j => .long (wL w n j))) (fun q => by cases q) (by show ¬ (i < 0 ∨ (arrV _ _ _).slots.size ≤ _); rw [arrV_size]; exact hi) rfl rfl d fun H1 e z oq => ?_
  obtain ⟨a, b⟩ := aset (w' := setL w n i.toNatClampNeg v) (j := i.toNatClampNeg) hW hS hn rfl setL_off (by
    rw [e]
    show some ((arrV (gT (xG x) 2) len (fun j => .long (wL w n j))).setSlot i.toNatClampNeg (.long v)) = some (arrV (gT (xG x) 2) len (fun j => .long (wL (setL w n i.toNatClampNeg v) n j)))
    rw [arrV_store]
    congr 2
    funext q
    show updV _ _ _ q = Value.long (up2 (wL w) n _ _ n q)
    by_cases hq : q = i.toNatClampNeg
    · subst hq; simp [updV, up2]
    · simp [updV, up2, hq]) z oq
  exact kk _ rfl H1 _ ls a b hl
end HEAPROWS
end
section
section NEWROWS
variable {x : Ct} {cc : ByteArray} {nL cells slots pc : Nat} {own : String} {rm : Room} {w w' : Wv} {lv lv' : List (Nat × Value)} {st : List Value}
variable {n ci k t idx N len tag : Nat} {fts : List Nat} {Cn : String} {T : u_T}
def dfv (t : Nat) : Value := if t = 0 then .int 0 else if t = 1 then .long 0 else .null
theorem addK_lo {kd : Kd} {a : Nat} (h : a ≠ (wK w).length) : (∀ b, wI (addK w kd) a b = wI w a b) ∧ (∀ b, wL (addK w kd) a b = wL w a b) ∧ (∀ b, wX (addK w kd) a b = wX w a b) := ⟨fun _ => if_neg h, fun _ => if_neg h, fun _ => if_neg h⟩
theorem addK_I0 {kd : Kd} {b : Nat} : wI (addK w kd) (wK w).length b = 0 := if_pos rfl
theorem addK_L0 {kd : Kd} {b : Nat} : wL (addK w kd) (wK w).length b = 0 := if_pos rfl
theorem addK_X0 {kd : Kd} {b : Nat} : wX (addK w kd) (wK w).length b = none := if_pos rfl
theorem wso_add {G : Gt} {kd : Kd} : wso G (addK w kd) = wso G w ++ [(gz G + (wK w).length, ent G (addK w kd) (wK w).length kd)] := by
  refine ws_ext fun k => ?_
  have hlen : (wso G w).length = (wK w).length := by rw [wso, wsF_len]
  have hk : wK (addK w kd) = wK w ++ [kd] := rfl
  rw [wso, wsF_get, hk]
  rcases Nat.lt_trichotomy k (wK w).length with h | h | h
  · rw [List.getElem?_append_left h, List.getElem?_append_left (by rw [hlen]; exact h), wso, wsF_get]
    cases hq : (wK w)[k]? with
    | none => rfl
    | some kq =>
      simp only [Option.map_some, Nat.zero_add]
      obtain ⟨a1, a2, a3⟩ := addK_lo (w := w) (kd := kd) (a := k) (by omega)
      rw [ent_ne (n := (wK w).length) (by omega) a1 a2 a3]
  · subst h
    rw [List.getElem?_append_right (Nat.le_refl _), List.getElem?_append_right (by rw [hlen]; exact Nat.le_refl _), hlen]
    simp
  · rw [List.getElem?_append_right (by omega), List.getElem?_append_right (by rw [hlen]; omega), hlen]
    have h1 : k - (wK w).length = (k - (wK w).length - 1) + 1 := by omega
    rw [h1]; simp
theorem add_world {H H1 : Heap} {locs : List Loc} {kd : Kd} (hW : Wd (xG x) w H) (hS : va_S (Az (xG x)) (xs x).heap H locs) (hz : gz (xG x) ≤ (xs x).heap.size) (he : va_at (gD (xG x)) vwCl (gz (xG x) + (wK w).length, ent (xG x) (addK w kd) (wK w).length kd) H1) (z : H1.size = H.size + 1) (o1 : ∀ q, q < H.size → H1[q]? = H[q]?) : Wd (xG x) (addK w kd) H1 ∧ va_S (Az (xG x)) (xs x).heap H1 locs := by
  have hk : ∀ (k : Nat) (q : Nat × va_E), (wso (xG x) w)[k]? = some q → H1[q.1]? = H[q.1]? := fun k q hq => o1 q.1 ((hW.1 k q hq).lt)
  refine ⟨⟨?_, ?_⟩, Nat.le_trans hS.1 (by omega), fun q h1 h2 => (o1 q (Nat.lt_of_lt_of_le h1 hS.1)).trans (hS.2.1 q h1 h2), hS.2.2⟩
  · rw [wso_add]
    refine (hW.1.kept hk).app (fun k q hq => ?_)
    have hz : k < 1 := (List.getElem?_eq_some_iff.mp hq).1
    rw [show k = 0 by omega] at hq
    cases hq
    exact he
  · rw [z, hW.2]
    show _ = gz (xG x) + (wK w ++ [kd]).length
    rw [List.length_append]; simp only [List.length_cons, List.length_nil]; omega
theorem r_new (C : Cx x cc nL own rm) (hc : vwCl[ci]? = some (Cn, T, N)) (hin : ∀ u ∈ u_ws Cn T N, u ∈ TT) (tyf : Nat → FieldType) (hty : ∀ k, k < N → parseFieldDescriptor (T k).2.2.1 = some (tyf k)) (hcl : Cond.classLink own idx Cn ∈ TT) (hinst : Cond.instantiable Cn N ∈ TT) (hini : Cond.initialized Cn ∈ TT) (fts : List Nat) (hdef : ∀ j, j < N → (fts[j]?).map dfv = some (defaultValue (tyf j))) (hcells : cells + 1 ≤ rm.cells) (hslots : slots + N ≤ rm.slots) (d : decode cc pc = .ok (.new idx, 3))
    (kk : ∀ w', w' = addK w (ci, .inl fts) → V x (cells + 1) (slots + N) w' (pc + 3) lv (.ref (gz (xG x) + (wK w).length) :: st)) : V x cells slots w pc lv st := by
  intro H locs ls hW hS hl
  have hKn := C.tk.1.1 ci _ hc
  refine W.newcK C.hx C.hb C.hown (C.hts _ hcl) (C.hts _ hinst) (C.hts _ hini) rfl d (by rw [C.hR]; exact hcells) (by rw [C.hR]; exact hslots) hKn.2.1 hW.2 fun H1 kC hkC e1 z1 o1 => ?_
  obtain ⟨a, b⟩ := add_world (kd := (ci, .inl fts)) hW hS C.hz ⟨_, hc, (u_born tyf C.hts hin hKn hkC e1 hty).to (fun j hj => by
    have h1 := hdef j hj
    show _ = vp_V (fvs (xG x) _ _ 0 fts) j
    rw [vp_V, List.getD_eq_getElem?_getD, fvs_get]
    cases ht : fts[j]? with
    | none => rw [ht] at h1; cases h1
    | some t =>
      rw [ht] at h1
      have h2 : dfv t = defaultValue (tyf j) := Option.some.inj h1
      rw [← h2]
      simp only [fv, dfv, Nat.zero_add, addK_I0, addK_L0, addK_X0]; rfl)⟩ (by rw [z1, hW.2]) (by rw [hW.2]; exact o1)
  exact kk _ rfl H1 locs ls a b hl
theorem find_inj {s : State} {nm : String} {a b : ClassId} (h1 : s.vm.findClass nm = some a) (h2 : s.vm.findClass nm = some b) : a = b := Option.some.inj (h1.symm.trans h2)
theorem r_newa (ty et tag : Nat) {atype : ArrayType} {n : Int32} (C : Cx x cc nL own rm) (harr : Cond.arrayClass (newarray.typeOf atype) ∈ TT) (hcls : ∀ cA : ClassId, (xs x).vm.findClass ("[" ++ (newarray.typeOf atype).toString) = some cA → cA = gT (xG x) ty) (hcell : ∀ cA : ClassId, arrV cA len (fun _ => defaultValue (newarray.typeOf atype)) = vp_cell cA (len, acn (xG x) (addK w (tag, .inr (ty, len, et))) (wK w).length et)) (hn : ¬ n < 0) (hN : n.toNatClampNeg = len) (hbytes : len * componentBytes (newarray.typeOf atype) ≤ 536870912) (hcells : cells + 1 ≤ rm.cells) (hslots : slots + len ≤ rm.slots) (d : decode cc pc = .ok (.newarray atype, 2))
    (kk : ∀ w', w' = addK w (tag, .inr (ty, len, et)) → V x (cells + 1) (slots + len) w' (pc + 2) lv (.ref (gz (xG x) + (wK w).length) :: st)) : V x cells slots w pc lv (.int n :: st) := by
  intro H locs ls hW hS hl
  refine va_newaK C.hx C.hb (C.hts _ harr) rfl d rfl hn hN hbytes (by rw [C.hR]; exact hcells) (by rw [C.hR]; exact hslots) hW.2 fun H1 cA e1 z1 o1 hAr hNm => ?_
  have hcA := hcls cA hNm
  subst hcA
  obtain ⟨a, b⟩ := add_world (kd := (tag, .inr (ty, len, et))) hW hS C.hz (by
    show H1[_]? = some (vp_cell _ _)
    rw [e1, hcell]) (by rw [z1, hW.2]) (by rw [hW.2]; exact o1)
  exact kk _ rfl H1 locs ls a b hl
theorem r_newI {n : Int32} (tag : Nat) (C : Cx x cc nL own rm) (harr : Cond.arrayClass (newarray.typeOf .int) ∈ TT) (hn : ¬ n < 0) (hN : n.toNatClampNeg = len) (hbytes : len * componentBytes (newarray.typeOf .int) ≤ 536870912) (hcells : cells + 1 ≤ rm.cells) (hslots : slots + len ≤ rm.slots) (d : decode cc pc = .ok (.newarray .int, 2))
    (kk : ∀ w', w' = addK w (tag, .inr (0, len, 0)) → V x (cells + 1) (slots + len) w' (pc + 2) lv (.ref (gz (xG x) + (wK w).length) :: st)) : V x cells slots w pc lv (.int n :: st) :=
  r_newa 0 0 tag C harr (fun cA h => find_inj h (C.tk.1.2 0 _ rfl).2) (fun cA => by
    show arrV cA len (fun _ => Value.int 0) = arrV cA len (fun j => .int (wI (addK w (tag, .inr (0, len, 0))) (wK w).length j))
    congr 1; funext j; rw [addK_I0]) hn hN hbytes hcells hslots d kk
theorem r_newZ {n : Int32} (tag : Nat) (C : Cx x cc nL own rm) (harr : Cond.arrayClass (newarray.typeOf .boolean) ∈ TT) (hn : ¬ n < 0) (hN : n.toNatClampNeg = len) (hbytes : len * componentBytes (newarray.typeOf .boolean) ≤ 536870912) (hcells : cells + 1 ≤ rm.cells) (hslots : slots + len ≤ rm.slots) (d : decode cc pc = .ok (.newarray .boolean, 2))
    (kk : ∀ w', w' = addK w (tag, .inr (1, len, 0)) → V x (cells + 1) (slots + len) w' (pc + 2) lv (.ref (gz (xG x) + (wK w).length) :: st)) : V x cells slots w pc lv (.int n :: st) :=
  r_newa 1 0 tag C harr (fun cA h => find_inj h (C.tk.1.2 1 _ rfl).2) (fun cA => by
    show arrV cA len (fun _ => Value.int 0) = arrV cA len (fun j => .int (wI (addK w (tag, .inr (1, len, 0))) (wK w).length j))
    congr 1; funext j; rw [addK_I0]) hn hN hbytes hcells hslots d kk
theorem r_newL {n : Int32} (tag : Nat) (C : Cx x cc nL own rm) (harr : Cond.arrayClass (newarray.typeOf .long) ∈ TT) (hn : ¬ n < 0) (hN : n.toNatClampNeg = len) (hbytes : len * componentBytes (newarray.typeOf .long) ≤ 536870912) (hcells : cells + 1 ≤ rm.cells) (hslots : slots + len ≤ rm.slots) (d : decode cc pc = .ok (.newarray .long, 2))
    (kk : ∀ w', w' = addK w (tag, .inr (2, len, 1)) → V x (cells + 1) (slots + len) w' (pc + 2) lv (.ref (gz (xG x) + (wK w).length) :: st)) : V x cells slots w pc lv (.int n :: st) :=
  r_newa 2 1 tag C harr (fun cA h => find_inj h (C.tk.1.2 2 _ rfl).2) (fun cA => by
    show arrV cA len (fun _ => Value.long 0) = arrV cA len (fun j => .long (wL (addK w (tag, .inr (2, len, 1))) (wK w).length j))
    congr 1; funext j; rw [addK_L0]) hn hN hbytes hcells hslots d kk
theorem r_newQ (ty tag : Nat) {cn : String} {n : Int32} (C : Cx x cc nL own rm) (hty : (tyo (xG x))[ty]? = some (gT (xG x) ty, .object cn)) (hao : va_AO cn (xs x)) (hcl : Cond.classLink own idx cn ∈ TT) (hn : ¬ n < 0) (hN : n.toNatClampNeg = len) (hbytes : len * 4 ≤ 536870912) (hcells : cells + 1 ≤ rm.cells) (hslots : slots + len ≤ rm.slots) (d : decode cc pc = .ok (.anewarray idx, 3))
    (kk : ∀ w', w' = addK w (tag, .inr (ty, len, 2)) → V x (cells + 1) (slots + len) w' (pc + 3) lv (.ref (gz (xG x) + (wK w).length) :: st)) : V x cells slots w pc lv (.int n :: st) := by
  intro H locs ls hW hS hl
  subst hN
  refine W.anew C.hx C.hb C.hown (C.hts _ hcl) (va_AO.use hao) rfl d rfl hn hbytes (by rw [C.hR]; exact hcells) (by rw [C.hR]; exact hslots) fun cA kA comp f1 f2 f3 f4 => ?_
  obtain ⟨kA', comp', -, -, -, g4⟩ := (C.tk.1.2 ty _ hty).2
  have hcA := find_inj f1 g4
  subst hcA
  obtain ⟨a, b⟩ := add_world (kd := (tag, .inr (ty, n.toNatClampNeg, 2))) (H1 := H.push ({ cls := gT (xG x) ty, slots := Array.replicate n.toNatClampNeg .null, vm := .none } : Cell)) hW hS C.hz (by
    show (H.push _)[gz (xG x) + (wK w).length]? = some (vp_cell _ _)
    rw [← hW.2, Array.getElem?_push_size, arrV_new]
    show some (arrV _ _ _) = some (arrV _ _ (fun j => va_rf (adr (xG x) (wX (addK w _) (wK w).length j))))
    congr 2; funext j; rw [addK_X0]; rfl) (by rw [Array.size_push]) (fun q hq => by rw [Array.getElem?_push, if_neg (Nat.ne_of_lt hq)])
  have := kk _ rfl _ locs ls a b hl
  rw [← hW.2] at this
  exact this
theorem r_aast {i : Int32} {q : Nat} (ty : Nat) {cn : String} {fts : List Nat} (C : Cx x cc nL own rm) (hty : (tyo (xG x))[ty]? = some (gT (xG x) ty, .object cn)) (hn : (wK w)[n]? = some (tag, .inr (ty, len, 2))) (hq : (wK w)[q]? = some (ci, .inl fts)) (hc : vwCl[ci]? = some (cn, T, N)) (hi : vp_in i len) (d : decode cc pc = .ok (.aastore, 1))
    (kk : ∀ w', w' = setX w n i.toNatClampNeg (some q) → V x cells slots w' (pc + 1) lv st) : V x cells slots w pc lv (.ref (gz (xG x) + q) :: .int i :: .ref (gz (xG x) + n) :: st) := by
  intro H locs ls hW hS hl
  have hlt : i.toNatClampNeg < len := Nat.not_le.mp fun z => hi (Or.inr z)
  have h0 : ¬ i < 0 := fun z => hi (Or.inl z)
  obtain ⟨r', hr', cellV, g1, g2, g3, -⟩ := hW.1 q _ (wso_get hq)
  have hcls := (C.tk.1.1 ci _ hc).2
  obtain ⟨kA, comp, k1, k2, k3, -⟩ := (C.tk.1.2 ty _ hty).2
  have hcomp : comp = (gD (xG x)).1 ci := Option.some.inj (k3.symm.trans hcls.1)
  subst hcomp
  obtain ⟨kC, hkC, -⟩ := hcls.2
  have hcell : H[gz (xG x) + n]? = some (arrV (gT (xG x) ty) len (fun j => va_rf (adr (xG x) (wX w n j)))) := hW.1 n _ (wso_get hn)
  refine W.aast C.hx C.hb hcell (fun q h => by cases h) (fun h => by cases h) k1 k2 rfl hkC ⟨h0, by rw [arrV_size]; exact hlt⟩ g1 (fun q h => by rw [g3] at h; cases h) (by rw [g2]; exact hkC) (by rw [g2]; exact va_assign hcls) rfl rfl d fun H1 e z oq => ?_
  obtain ⟨a, b⟩ := aset (w' := setX w n i.toNatClampNeg (some q)) (j := i.toNatClampNeg) hW hS hn rfl setX_off (by
    rw [e]
    show some ((arrV (gT (xG x) ty) len (fun j => va_rf (adr (xG x) (wX w n j)))).setSlot i.toNatClampNeg (.ref (gz (xG x) + q))) = some (arrV (gT (xG x) ty) len (fun j => va_rf (adr (xG x) (wX (setX w n i.toNatClampNeg (some q)) n j))))
    rw [arrV_store]
    congr 2
    funext j
    show updV _ _ _ j = va_rf (adr (xG x) (up2 (wX w) n _ _ n j))
    by_cases hj : j = i.toNatClampNeg
    · subst hj; simp [updV, up2, adr, va_rf]
    · simp [updV, up2, hj]) z oq
  exact kk _ rfl H1 _ ls a b hl
theorem r_objInit {a : Nat} (C : Cx x cc nL own rm) (hlink : Cond.methodLink own idx Lib.objectInit ∈ TT) (hinst : Cond.instanceMethod Lib.objectInit ∈ TT) (hcode : Cond.code Lib.objectInit ⟨#[0xb1]⟩ 1 none ∈ TT) (hfr : 1 ≤ rm.frames) (hlo : (st.map fun v => v.category).sum + 12 ≤ rm.locals) (d : decode cc pc = .ok (.invokespecial idx, 3)) (kk : V x cells slots w (pc + 3) lv st) : V x cells slots w pc lv (.ref a :: st) :=
  fun H locs ls hW hS hl => W.objInit C.hx C.hb C.hown (C.hts _ hlink) (C.hts _ hinst) (C.hts _ hcode) rfl (by rw [C.hml]; exact hl.1.trans C.hn) rfl d (by rw [C.hR]; exact hfr) (by rw [C.hR]; show 2 * 0 + _ + 12 ≤ _; omega) (kk H locs ls hW hS hl)
theorem r_mmax {a b : Int32} (C : Cx x cc nL own rm) (hlink : Cond.methodLink own idx Lib.Math.max.name ∈ TT) (hstat : Cond.static Lib.Math.max.name ∈ TT) (hini : Cond.initialized "java/lang/Math" ∈ TT) (hcode : Cond.code Lib.Math.max.name Lib.Math.max.code 2 (some .int) ∈ TT) (hfr : 1 ≤ rm.frames) (hlo : (st.map fun v => v.category).sum + 13 ≤ rm.locals) (hc : cells ≤ rm.cells) (hs : slots ≤ rm.slots) (d : decode cc pc = .ok (.invokestatic idx, 3)) (kk : ∀ v : Int32, v = (if a < b then b else a) → V x cells slots w (pc + 3) lv (.int v :: st)) : V x cells slots w pc lv (.int b :: .int a :: st) :=
  fun H locs ls hW hS hl => va_mmax C.hx C.hb (by rw [C.hml]; exact (hl.1.trans C.hn).symm) C.hown (C.hts _ hlink) (C.hts _ hstat) (C.hts _ hini) (C.hts _ hcode) (by rw [C.hR]; exact hfr) (by rw [C.hR]; exact hlo) (by rw [C.hR]; exact hc) (by rw [C.hR]; exact hs) d (kk _ rfl H locs ls hW hS hl)
theorem r_mmin {a b : Int32} (C : Cx x cc nL own rm) (hlink : Cond.methodLink own idx Lib.Math.min.name ∈ TT) (hstat : Cond.static Lib.Math.min.name ∈ TT) (hini : Cond.initialized "java/lang/Math" ∈ TT) (hcode : Cond.code Lib.Math.min.name Lib.Math.min.code 2 (some .int) ∈ TT) (hfr : 1 ≤ rm.frames) (hlo : (st.map fun v => v.category).sum + 13 ≤ rm.locals) (hc : cells ≤ rm.cells) (hs : slots ≤ rm.slots) (d : decode cc pc = .ok (.invokestatic idx, 3)) (kk : ∀ v : Int32, v = (if b < a then b else a) → V x cells slots w (pc + 3) lv (.int v :: st)) : V x cells slots w pc lv (.int b :: .int a :: st) :=
  fun H locs ls hW hS hl => va_mmin C.hx C.hb (by rw [C.hml]; exact (hl.1.trans C.hn).symm) C.hown (C.hts _ hlink) (C.hts _ hstat) (C.hts _ hini) (C.hts _ hcode) (by rw [C.hR]; exact hfr) (by rw [C.hR]; exact hlo) (by rw [C.hR]; exact hc) (by rw [C.hR]; exact hs) d (kk _ rfl H locs ls hW hS hl)
end NEWROWS
/-! contracts -/
abbrev wo (y : MethodName) (cc : ByteArray) (n : Nat) (ret : Option FieldType) : List Cond := Cond.code y cc n ret :: TT
theorem gd {y : MethodName} {cc : ByteArray} {n : Nat} {ret : Option FieldType} (h : Cond.code y cc n ret ∈ TT) : GoodIn TT (wo y cc n ret) := fun u hu => (List.mem_cons.mp hu).elim (fun e => by subst e; exact tt_good _ h) (fun e => tt_good _ e)
def Pre (G : Gt) (av : List Value) (w : Wv) : Array Value → State → Prop := va_Pc av (fun U => Wd G w U.heap ∧ Tk G U)
def Pst (G : Gt) : Wv → State → Prop := fun w' t => Wd G w' t.heap ∧ Tk G t
def CtI (l : Launch) (G : Gt) (y : MethodName) (cc : ByteArray) (n : Nat) (ty : FieldType) (rm : Room) (av : List Value) (w : Wv) (post : Int32 → Wv → Prop) : Prop := Met l y (wo y cc n (some ty)) rm (Pre G av w) (va_Qi post (Pst G) (Az G)) rm.cells rm.slots (Az G)
def CtL (l : Launch) (G : Gt) (y : MethodName) (cc : ByteArray) (n : Nat) (rm : Room) (av : List Value) (w : Wv) (post : Int64 → Wv → Prop) : Prop := Met l y (wo y cc n (some .long)) rm (Pre G av w) (va_Ql post (Pst G) (Az G)) rm.cells rm.slots (Az G)
def CtV (l : Launch) (G : Gt) (y : MethodName) (cc : ByteArray) (n : Nat) (rm : Room) (av : List Value) (w : Wv) (post : Wv → Prop) : Prop := Met l y (wo y cc n none) rm (Pre G av w) (va_Qv post (Pst G) (Az G)) rm.cells rm.slots (Az G)
theorem Pre.blind {G : Gt} {av : List Value} {w : Wv} : FrameBlind (Pre G av w) := fun a U g mk q => by
  obtain ⟨q0, qP, qK⟩ := q
  exact ⟨q0, qP, Tk.moved (u := U) (U := U.calling g mk a) (Vm.Alike.refl U.vm) qK⟩
section ENTER
variable {l : Launch} {G : Gt} {y : MethodName} {cc : ByteArray} {n : Nat} {rm : Room} {av : List Value} {w : Wv}
theorem enterI {ty : FieldType} {post : Int32 → Wv → Prop} (hy : plainName y.cls = true) (hlen : (lg_sl av).length ≤ n) (body : ∀ x : Ct, xl x = l → xG x = G → Cx x cc n y.cls rm → (∀ (v : Int32) (w' : Wv) (pc : Nat) (lv : List (Nat × Value)), decode cc pc = .ok (.ireturn, 1) → narrow ty (.int v) = .int v → post v w' → V x rm.cells rm.slots w' pc lv [.int v]) → V x 0 0 w 0 (lv_args 0 av) []) : CtI l G y cc n ty rm av w post := by
  refine Met.ofW (cc := cc) (maxL := n) (ret := some ty) hy rfl ?_
  intro p e s m args below meth c s₁ B hml hv
  obtain ⟨rfl, hWd, hTk⟩ := hv
  have hts := atoms_spec (ws := wo y cc n (some ty)) B.pre
  rw [lg_entry_eq]
  refine body (p, l, e, rm, s, m, av.toArray, below, meth, c, G, n, MQ below (va_Qi post (Pst G) (Az G)) av.toArray s rm.cells rm.slots (Az G)) rfl rfl ⟨B.exec, B.bytes, hml, findClass_of_methodNamed B.named, fun u hu => hts u (List.mem_cons_of_mem _ hu), hTk, by rw [hWd.2]; exact Nat.le_add_right _ _, rfl, rfl⟩ ?_ s.heap [] _ hWd va_S.rf (lv_entry av hlen)
  intro v w' pc lv d hn hp H locs ls hW hS hl
  exact W.zret B.exec B.bytes B.returns hn (fun t ht hWm => ⟨⟨v, w', rfl, hp, by rw [Pst, ht]; exact ⟨hW, hTk.moved hWm.alike⟩⟩, hS.F ht⟩) hS.2.2 d
theorem enterL {post : Int64 → Wv → Prop} (hy : plainName y.cls = true) (hlen : (lg_sl av).length ≤ n) (body : ∀ x : Ct, xl x = l → xG x = G → Cx x cc n y.cls rm → (∀ (v : Int64) (w' : Wv) (pc : Nat) (lv : List (Nat × Value)), decode cc pc = .ok (.lreturn, 1) → post v w' → V x rm.cells rm.slots w' pc lv [.long v]) → V x 0 0 w 0 (lv_args 0 av) []) : CtL l G y cc n rm av w post := by
  refine Met.ofW (cc := cc) (maxL := n) (ret := some .long) hy rfl ?_
  intro p e s m args below meth c s₁ B hml hv
  obtain ⟨rfl, hWd, hTk⟩ := hv
  have hts := atoms_spec (ws := wo y cc n (some .long)) B.pre
  rw [lg_entry_eq]
  refine body (p, l, e, rm, s, m, av.toArray, below, meth, c, G, n, MQ below (va_Ql post (Pst G) (Az G)) av.toArray s rm.cells rm.slots (Az G)) rfl rfl ⟨B.exec, B.bytes, hml, findClass_of_methodNamed B.named, fun u hu => hts u (List.mem_cons_of_mem _ hu), hTk, by rw [hWd.2]; exact Nat.le_add_right _ _, rfl, rfl⟩ ?_ s.heap [] _ hWd va_S.rf (lv_entry av hlen)
  intro v w' pc lv d hp H locs ls hW hS hl
  exact W.lret B.exec B.bytes B.returns (fun t ht hWm => ⟨⟨v, w', rfl, hp, by rw [Pst, ht]; exact ⟨hW, hTk.moved hWm.alike⟩⟩, hS.F ht⟩) hS.2.2 d
theorem enterV {post : Wv → Prop} (hy : plainName y.cls = true) (hlen : (lg_sl av).length ≤ n) (body : ∀ x : Ct, xl x = l → xG x = G → Cx x cc n y.cls rm → (xM x).name = y.name → (∀ (w' : Wv) (pc : Nat) (lv : List (Nat × Value)), decode cc pc = .ok (.return_, 1) → post w' → V x rm.cells rm.slots w' pc lv []) → V x 0 0 w 0 (lv_args 0 av) []) : CtV l G y cc n rm av w post := by
  refine Met.ofW (cc := cc) (maxL := n) (ret := none) hy rfl ?_
  intro p e s m args below meth c s₁ B hml hv
  obtain ⟨rfl, hWd, hTk⟩ := hv
  have hts := atoms_spec (ws := wo y cc n none) B.pre
  rw [lg_entry_eq]
  refine body (p, l, e, rm, s, m, av.toArray, below, meth, c, G, n, MQ below (va_Qv post (Pst G) (Az G)) av.toArray s rm.cells rm.slots (Az G)) rfl rfl ⟨B.exec, B.bytes, hml, findClass_of_methodNamed B.named, fun u hu => hts u (List.mem_cons_of_mem _ hu), hTk, by rw [hWd.2]; exact Nat.le_add_right _ _, rfl, rfl⟩ (name_of_methodNamed B.named B.method).1 ?_ s.heap [] _ hWd va_S.rf (lv_entry av hlen)
  intro w' pc lv d hp H locs ls hW hS hl
  exact W.vret B.exec B.bytes B.returns (fun t ht hWm => ⟨⟨w', rfl, hp, by rw [Pst, ht]; exact ⟨hW, hTk.moved hWm.alike⟩⟩, hS.F ht⟩) hS.2.2 d
end ENTER
section CALLS
variable {x : Ct} {cc cb : ByteArray} {nL nb np cells slots pc n ci idx N : Nat} {own Cn : String} {rm rc : Room} {w : Wv} {lv : List (Nat × Value)} {st stk As : List Value} {y : MethodName} {fts : List Nat} {T : u_T}
abbrev dok (y : MethodName) (np : Nat) : Prop := y.cls ≠ "java/lang/invoke/MethodHandle" ∧ y.cls ≠ "java/lang/invoke/VarHandle" ∧ (parseMethodDescriptor y.desc).map (fun d => d.parameters.length) = some np
abbrev rok (rc rm : Room) (nb : Nat) : Prop := rc.frames + 1 ≤ rm.frames ∧ 8 + (nb + 11) + rc.locals ≤ rm.locals
/-- the words of a call -/
def CwV (own : String) (idx : Nat) (Cn : String) (y : MethodName) (cb : ByteArray) (nb : Nat) (ret : Option FieldType) (np : Nat) : Prop := Cond.methodLink own idx y ∈ TT ∧ Cond.instanceMethod y ∈ TT ∧ Cond.selects Cn y y ∈ TT ∧ Cond.initialized y.cls ∈ TT ∧ Cond.code y cb nb ret ∈ TT ∧ dok y np
def CwS (own : String) (idx : Nat) (y : MethodName) (cb : ByteArray) (nb : Nat) (ret : Option FieldType) (np : Nat) : Prop := Cond.methodLink own idx y ∈ TT ∧ Cond.static y ∈ TT ∧ Cond.initialized y.cls ∈ TT ∧ Cond.code y cb nb ret ∈ TT ∧ dok y np
def CwI (own : String) (idx : Nat) (y : MethodName) (cb : ByteArray) (nb : Nat) (np : Nat) : Prop := Cond.methodLink own idx y ∈ TT ∧ Cond.instanceMethod y ∈ TT ∧ Cond.initialized y.cls ∈ TT ∧ Cond.code y cb nb none ∈ TT ∧ dok y np ∧ y.name = "<init>"
theorem callVI {ty : FieldType} {post : Int32 → Wv → Prop} (C : Cx x cc nL own rm) (cw : CwV own idx Cn y cb nb (some ty) np) (hM : CtI (xl x) (xG x) y cb nb ty rc (.ref (gz (xG x) + n) :: As) w post) (hR : rok rc rm nb) (hn : (wK w)[n]? = some (ci, .inl fts)) (hc : vwCl[ci]? = some (Cn, T, N)) (hst : stk = As.reverse ++ .ref (gz (xG x) + n) :: st) (hA : As.length = np) (hro : (st.map fun v => v.category).sum ≤ 8) (hf : cells + rc.cells ≤ rm.cells ∧ slots + rc.slots ≤ rm.slots) (d : decode cc pc = .ok (.invokevirtual idx, 3))
    (kk : ∀ (r : Int32) (w' : Wv), post r w' → V x (cells + rc.cells) (slots + rc.slots) w' (pc + 3) lv (.int r :: st)) : V x cells slots w pc lv stk := by
  intro H locs ls hW hS hl
  obtain ⟨c1, c2, c3, c4, c5, c6⟩ := cw
  refine va_calli (va_runV (As := As) (rest := st) ⟨C.hx, C.hb, C.hml, C.hown, C.hts⟩ hM ⟨callB_of np C.hts (gd c5) rfl rfl rfl (C.hts _ c4) (C.hts _ c1) c6 (by rw [C.hR]; exact hR), C.hts _ c2, C.hts _ c3⟩ ⟨Pre.blind, va_recv C.tk.1 hW.1 hc (wso_get hn), fun U hU hWm => ⟨rfl, by rw [hU]; exact hW, C.tk.moved hWm.alike⟩⟩ rfl hA (hl.1.trans C.hn) hst (lv_room hro) d (by rw [C.hR]; exact hf)) hS (fun q _ h => h) (fun q h => h) (fun r u t H1 locs1 ht hvm hp hB hz1 hk1 hS1 => kk r u hp H1 locs1 ls (by rw [← ht]; exact hB.1) hS1 hl)
theorem callVL {post : Int64 → Wv → Prop} (C : Cx x cc nL own rm) (cw : CwV own idx Cn y cb nb (some .long) np) (hM : CtL (xl x) (xG x) y cb nb rc (.ref (gz (xG x) + n) :: As) w post) (hR : rok rc rm nb) (hn : (wK w)[n]? = some (ci, .inl fts)) (hc : vwCl[ci]? = some (Cn, T, N)) (hst : stk = As.reverse ++ .ref (gz (xG x) + n) :: st) (hA : As.length = np) (hro : (st.map fun v => v.category).sum ≤ 8) (hf : cells + rc.cells ≤ rm.cells ∧ slots + rc.slots ≤ rm.slots) (d : decode cc pc = .ok (.invokevirtual idx, 3))
    (kk : ∀ (r : Int64) (w' : Wv), post r w' → V x (cells + rc.cells) (slots + rc.slots) w' (pc + 3) lv (.long r :: st)) : V x cells slots w pc lv stk := by
  intro H locs ls hW hS hl
  obtain ⟨c1, c2, c3, c4, c5, c6⟩ := cw
  refine va_calll (va_runV (As := As) (rest := st) ⟨C.hx, C.hb, C.hml, C.hown, C.hts⟩ hM ⟨callB_of np C.hts (gd c5) rfl rfl rfl (C.hts _ c4) (C.hts _ c1) c6 (by rw [C.hR]; exact hR), C.hts _ c2, C.hts _ c3⟩ ⟨Pre.blind, va_recv C.tk.1 hW.1 hc (wso_get hn), fun U hU hWm => ⟨rfl, by rw [hU]; exact hW, C.tk.moved hWm.alike⟩⟩ rfl hA (hl.1.trans C.hn) hst (lv_room hro) d (by rw [C.hR]; exact hf)) hS (fun q _ h => h) (fun q h => h) (fun r u t H1 locs1 ht hvm hp hB hz1 hk1 hS1 => kk r u hp H1 locs1 ls (by rw [← ht]; exact hB.1) hS1 hl)
theorem callVV {post : Wv → Prop} (C : Cx x cc nL own rm) (cw : CwV own idx Cn y cb nb none np) (hM : CtV (xl x) (xG x) y cb nb rc (.ref (gz (xG x) + n) :: As) w post) (hR : rok rc rm nb) (hn : (wK w)[n]? = some (ci, .inl fts)) (hc : vwCl[ci]? = some (Cn, T, N)) (hst : stk = As.reverse ++ .ref (gz (xG x) + n) :: st) (hA : As.length = np) (hro : (st.map fun v => v.category).sum ≤ 8) (hf : cells + rc.cells ≤ rm.cells ∧ slots + rc.slots ≤ rm.slots) (d : decode cc pc = .ok (.invokevirtual idx, 3))
    (kk : ∀ (w' : Wv), post w' → V x (cells + rc.cells) (slots + rc.slots) w' (pc + 3) lv st) : V x cells slots w pc lv stk := by
  intro H locs ls hW hS hl
  obtain ⟨c1, c2, c3, c4, c5, c6⟩ := cw
  refine va_callv (va_runV (As := As) (rest := st) ⟨C.hx, C.hb, C.hml, C.hown, C.hts⟩ hM ⟨callB_of np C.hts (gd c5) rfl rfl rfl (C.hts _ c4) (C.hts _ c1) c6 (by rw [C.hR]; exact hR), C.hts _ c2, C.hts _ c3⟩ ⟨Pre.blind, va_recv C.tk.1 hW.1 hc (wso_get hn), fun U hU hWm => ⟨rfl, by rw [hU]; exact hW, C.tk.moved hWm.alike⟩⟩ rfl hA (hl.1.trans C.hn) hst (lv_room hro) d (by rw [C.hR]; exact hf)) hS (fun q _ h => h) (fun q h => h) (fun u t H1 locs1 ht hvm hp hB hz1 hk1 hS1 => kk u hp H1 locs1 ls (by rw [← ht]; exact hB.1) hS1 hl)
theorem callIV {post : Wv → Prop} {b : Nat} (C : Cx x cc nL own rm) (cw : CwI own idx y cb nb np) (hM : CtV (xl x) (xG x) y cb nb rc (.ref b :: As) w post) (hR : rok rc rm nb) (hst : stk = As.reverse ++ .ref b :: st) (hA : As.length = np) (hro : (st.map fun v => v.category).sum ≤ 8) (hf : cells + rc.cells ≤ rm.cells ∧ slots + rc.slots ≤ rm.slots) (d : decode cc pc = .ok (.invokespecial idx, 3))
    (kk : ∀ (w' : Wv), post w' → V x (cells + rc.cells) (slots + rc.slots) w' (pc + 3) lv st) : V x cells slots w pc lv stk := by
  intro H locs ls hW hS hl
  obtain ⟨c1, c2, c4, c5, c6, c7⟩ := cw
  refine va_callv (va_runI (As := As) (rest := st) ⟨C.hx, C.hb, C.hml, C.hown, C.hts⟩ hM ⟨callB_of np C.hts (gd c5) rfl rfl rfl (C.hts _ c4) (C.hts _ c1) c6 (by rw [C.hR]; exact hR), c7, C.hts _ c2⟩ ⟨Pre.blind, fun U hU hWm => ⟨rfl, by rw [hU]; exact hW, C.tk.moved hWm.alike⟩⟩ rfl hA (hl.1.trans C.hn) hst (lv_room hro) d (by rw [C.hR]; exact hf)) hS (fun q _ h => h) (fun q h => h) (fun u t H1 locs1 ht hvm hp hB hz1 hk1 hS1 => kk u hp H1 locs1 ls (by rw [← ht]; exact hB.1) hS1 hl)
theorem callSI {ty : FieldType} {post : Int32 → Wv → Prop} (C : Cx x cc nL own rm) (cw : CwS own idx y cb nb (some ty) np) (hM : CtI (xl x) (xG x) y cb nb ty rc As w post) (hR : rok rc rm nb) (hst : stk = As.reverse ++ st) (hA : As.length = np) (hro : (st.map fun v => v.category).sum ≤ 8) (hf : cells + rc.cells ≤ rm.cells ∧ slots + rc.slots ≤ rm.slots) (d : decode cc pc = .ok (.invokestatic idx, 3))
    (kk : ∀ (r : Int32) (w' : Wv), post r w' → V x (cells + rc.cells) (slots + rc.slots) w' (pc + 3) lv (.int r :: st)) : V x cells slots w pc lv stk := by
  intro H locs ls hW hS hl
  obtain ⟨c1, c2, c4, c5, c6⟩ := cw
  refine va_calli (va_runS (As := As) (rest := st) ⟨C.hx, C.hb, C.hml, C.hown, C.hts⟩ hM ⟨callB_of np C.hts (gd c5) rfl rfl rfl (C.hts _ c4) (C.hts _ c1) c6 (by rw [C.hR]; exact hR), C.hts _ c2⟩ ⟨Pre.blind, fun U hU hWm => ⟨rfl, by rw [hU]; exact hW, C.tk.moved hWm.alike⟩⟩ rfl hA (hl.1.trans C.hn) hst (lv_room hro) d (by rw [C.hR]; exact hf)) hS (fun q _ h => h) (fun q h => h) (fun r u t H1 locs1 ht hvm hp hB hz1 hk1 hS1 => kk r u hp H1 locs1 ls (by rw [← ht]; exact hB.1) hS1 hl)
theorem callSL {post : Int64 → Wv → Prop} (C : Cx x cc nL own rm) (cw : CwS own idx y cb nb (some .long) np) (hM : CtL (xl x) (xG x) y cb nb rc As w post) (hR : rok rc rm nb) (hst : stk = As.reverse ++ st) (hA : As.length = np) (hro : (st.map fun v => v.category).sum ≤ 8) (hf : cells + rc.cells ≤ rm.cells ∧ slots + rc.slots ≤ rm.slots) (d : decode cc pc = .ok (.invokestatic idx, 3))
    (kk : ∀ (r : Int64) (w' : Wv), post r w' → V x (cells + rc.cells) (slots + rc.slots) w' (pc + 3) lv (.long r :: st)) : V x cells slots w pc lv stk := by
  intro H locs ls hW hS hl
  obtain ⟨c1, c2, c4, c5, c6⟩ := cw
  refine va_calll (va_runS (As := As) (rest := st) ⟨C.hx, C.hb, C.hml, C.hown, C.hts⟩ hM ⟨callB_of np C.hts (gd c5) rfl rfl rfl (C.hts _ c4) (C.hts _ c1) c6 (by rw [C.hR]; exact hR), C.hts _ c2⟩ ⟨Pre.blind, fun U hU hWm => ⟨rfl, by rw [hU]; exact hW, C.tk.moved hWm.alike⟩⟩ rfl hA (hl.1.trans C.hn) hst (lv_room hro) d (by rw [C.hR]; exact hf)) hS (fun q _ h => h) (fun q h => h) (fun r u t H1 locs1 ht hvm hp hB hz1 hk1 hS1 => kk r u hp H1 locs1 ls (by rw [← ht]; exact hB.1) hS1 hl)
end CALLS
end
section
section NUMS
variable {a b v : Int32}
theorem i_lt (h : a < b) : a.toInt < b.toInt := Int32.lt_iff_toInt_lt.mp h
theorem i_le (h : a ≤ b) : a.toInt ≤ b.toInt := Int32.le_iff_toInt_le.mp h
theorem i_nlt (h : ¬ a < b) : b.toInt ≤ a.toInt := by rw [Int32.lt_iff_toInt_lt] at h; omega
theorem i_nle (h : ¬ a ≤ b) : b.toInt < a.toInt := by rw [Int32.le_iff_toInt_le] at h; omega
theorem i_eq (h : a = b) : a.toInt = b.toInt := by rw [h]
theorem i_ne (h : ¬ a = b) : ¬ a.toInt = b.toInt := fun e => h (Int32.toInt_inj.mp e)
theorem i_of (h : a.toInt = b.toInt) : a = b := Int32.toInt_inj.mp h
theorem i_rng (a : Int32) : -2147483648 ≤ a.toInt ∧ a.toInt ≤ 2147483647 := by have h1 := Int32.toInt_lt a; have h2 := Int32.le_toInt a; omega
theorem bm {z : Int} (h1 : -2147483648 ≤ z) (h2 : z ≤ 2147483647) : z.bmod 4294967296 = z := by
  rw [Int.bmod_eq_of_le] <;> omega
theorem iadd_ok (e : v = a + b) (h1 : -2147483648 ≤ a.toInt + b.toInt) (h2 : a.toInt + b.toInt ≤ 2147483647) : v.toInt = a.toInt + b.toInt := by
  rw [e, Int32.toInt_add]; exact bm h1 h2
theorem isub_ok (e : v = a - b) (h1 : -2147483648 ≤ a.toInt - b.toInt) (h2 : a.toInt - b.toInt ≤ 2147483647) : v.toInt = a.toInt - b.toInt := by
  rw [e, Int32.toInt_sub]; exact bm h1 h2
theorem imul_ok (e : v = a * b) (h1 : -2147483648 ≤ a.toInt * b.toInt) (h2 : a.toInt * b.toInt ≤ 2147483647) : v.toInt = a.toInt * b.toInt := by
  rw [e, Int32.toInt_mul]; exact bm h1 h2
theorem iinc_ok {n : Int} (e : a + Int32.ofInt n = v) (hn : (Int32.ofInt n).toInt = n) (h1 : -2147483648 ≤ a.toInt + n) (h2 : a.toInt + n ≤ 2147483647) : v.toInt = a.toInt + n := by
  rw [← e, Int32.toInt_add, hn]; exact bm h1 h2
theorem vin {n : Nat} (h1 : 0 ≤ a.toInt) (h2 : a.toInt < n) : vp_in a n := vp_in_iff.mpr ⟨h1, h2⟩
theorem imax_ok (e : v = (if a < b then b else a)) : (v.toInt = a.toInt ∧ b.toInt ≤ a.toInt) ∨ (v.toInt = b.toInt ∧ a.toInt < b.toInt) := by
  by_cases h : a < b
  · rw [if_pos h] at e; exact Or.inr ⟨by rw [e], i_lt h⟩
  · rw [if_neg h] at e; exact Or.inl ⟨by rw [e], i_nlt h⟩
theorem imin_ok (e : v = (if b < a then b else a)) : (v.toInt = a.toInt ∧ a.toInt ≤ b.toInt) ∨ (v.toInt = b.toInt ∧ b.toInt < a.toInt) := by
  by_cases h : b < a
  · rw [if_pos h] at e; exact Or.inr ⟨by rw [e], i_lt h⟩
  · rw [if_neg h] at e; exact Or.inl ⟨by rw [e], i_nlt h⟩
theorem i2l_ok {z : Int64} (e : z = a.toInt64) : z.toInt = a.toInt := by rw [e]; exact Int32.toInt_toInt64 a
end NUMS
section NUML
variable {a b v : Int64}
theorem l_lt (h : a < b) : a.toInt < b.toInt := Int64.lt_iff_toInt_lt.mp h
theorem l_of (h : a.toInt = b.toInt) : a = b := Int64.toInt_inj.mp h
theorem lcmp_ok {r : Int32} (e : r = lg_cmp a b) : (r.toInt = 1 ∧ b.toInt < a.toInt) ∨ (r.toInt = 0 ∧ a.toInt = b.toInt) ∨ (r.toInt = -1 ∧ a.toInt < b.toInt) := by
  unfold lg_cmp at e
  by_cases h : b < a
  · rw [if_pos h] at e; exact Or.inl ⟨by rw [e]; decide, l_lt h⟩
  · rw [if_neg h] at e
    by_cases h2 : a = b
    · rw [if_pos h2] at e; exact Or.inr (Or.inl ⟨by rw [e]; decide, by rw [h2]⟩)
    · rw [if_neg h2] at e
      refine Or.inr (Or.inr ⟨by rw [e]; decide, ?_⟩)
      rw [Int64.lt_iff_toInt_lt] at h
      have h3 : ¬ a.toInt = b.toInt := fun q => h2 (l_of q)
      omega
end NUML
/-! worlds that differ in some cells alone -/
section CHS
variable {w w1 w2 w0 : Wv} {S S' : List Nat} {n k a b : Nat} {v u : Int32}
def Ch (S : List Nat) (w w' : Wv) : Prop := wK w' = wK w ∧ wX w' = wX w ∧ ∀ a, a ∉ S → (∀ b, wI w' a b = wI w a b) ∧ (∀ b, wL w' a b = wL w a b)
theorem Ch.rf : Ch S w w := ⟨rfl, rfl, fun _ _ => ⟨fun _ => rfl, fun _ => rfl⟩⟩
theorem Ch.put (h : Ch S w0 w) (e : w1 = setI w n k v) (hn : n ∈ S) : Ch S w0 w1 := by
  subst e
  refine ⟨h.1, h.2.1, fun a ha => ⟨fun b => ?_, (h.2.2 a ha).2⟩⟩
  rw [show wI (setI w n k v) a b = wI w a b from up2_nn (fun q => ha (q ▸ hn))]
  exact (h.2.2 a ha).1 b
theorem Ch.putL {v : Int64} (h : Ch S w0 w) (e : w1 = setL w n k v) (hn : n ∈ S) : Ch S w0 w1 := by
  subst e
  refine ⟨h.1, h.2.1, fun a ha => ⟨(h.2.2 a ha).1, fun b => ?_⟩⟩
  rw [show wL (setL w n k v) a b = wL w a b from up2_nn (fun q => ha (q ▸ hn))]
  exact (h.2.2 a ha).2 b
theorem Ch.tr (h : Ch S w0 w) (h1 : Ch S' w w1) (hs : ∀ a ∈ S', a ∈ S) : Ch S w0 w1 :=
  ⟨h1.1.trans h.1, h1.2.1.trans h.2.1, fun a ha => ⟨fun b => ((h1.2.2 a (fun q => ha (hs a q))).1 b).trans ((h.2.2 a ha).1 b), fun b => ((h1.2.2 a (fun q => ha (hs a q))).2 b).trans ((h.2.2 a ha).2 b)⟩⟩
theorem Ch.I (h : Ch S w w1) (ha : a ∉ S) (r : wI w a b = u) : wI w1 a b = u := ((h.2.2 a ha).1 b).trans r
theorem Ch.L {u : Int64} (h : Ch S w w1) (ha : a ∉ S) (r : wL w a b = u) : wL w1 a b = u := ((h.2.2 a ha).2 b).trans r
theorem g_eq (e : w1 = setI w n k v) : wI w1 n k = v := by subst e; exact up2_eq
theorem g_nk (e : w1 = setI w n k v) (h : b ≠ k) (r : wI w a b = u) : wI w1 a b = u := by subst e; exact (up2_nk h).trans r
theorem g_nn (e : w1 = setI w n k v) (h : a ≠ n) (r : wI w a b = u) : wI w1 a b = u := by subst e; exact (up2_nn h).trans r
theorem g_L {v : Int64} (e : w1 = setL w n k v) (r : wI w a b = u) : wI w1 a b = u := by subst e; exact r
theorem gl_eq {v : Int64} (e : w1 = setL w n k v) : wL w1 n k = v := by subst e; exact up2_eq
theorem gl_I {u : Int64} (e : w1 = setI w n k v) (r : wL w a b = u) : wL w1 a b = u := by subst e; exact r
end CHS
theorem nar_z {v : Int32} (h : v = 0 ∨ v = 1) : narrow .boolean (.int v) = .int v := by rcases h with rfl | rfl <;> rfl
theorem fit_z {v : Int32} (h : v = 0 ∨ v = 1) : fits .boolean (.int v) = true := by rcases h with rfl | rfl <;> rfl
theorem z_of {v : Int32} (h : v.toInt = 0 ∨ v.toInt = 1) : v = 0 ∨ v = 1 := h.elim (fun q => Or.inl (i_of q)) (fun q => Or.inr (i_of q))
end
section
abbrev fX0 : List Nat := [0, 2, 2, 2, 2, 2, 2, 2, 0, 0, 0, 0]
theorem mw2_96 : Cond.lays RX0 "HeardTunes$Fitting" "count" "I" ∈ TT := tt_2 (List.mem_of_getElem? (i := 96) (by decide +kernel)) (by decide +kernel)
theorem mw2_98 : Cond.laysFinal RX0 "HeardTunes$Fitting" "seen" "LHeardTunes$Seen;" ∈ TT := tt_2 (List.mem_of_getElem? (i := 98) (by decide +kernel)) (by decide +kernel)
theorem mw2_100 : Cond.laysFinal RX0 "HeardTunes$Fitting" "ground" "LHeardTunes$Ground;" ∈ TT := tt_2 (List.mem_of_getElem? (i := 100) (by decide +kernel)) (by decide +kernel)
theorem mw2_102 : Cond.laysFinal RX0 "HeardTunes$Fitting" "levels" "[LHeardTunes$Scene;" ∈ TT := tt_2 (List.mem_of_getElem? (i := 102) (by decide +kernel)) (by decide +kernel)
theorem mw2_104 : Cond.laysFinal RX0 "HeardTunes$Fitting" "steps" "[I" ∈ TT := tt_2 (List.mem_of_getElem? (i := 104) (by decide +kernel)) (by decide +kernel)
theorem mw2_106 : Cond.laysFinal RX0 "HeardTunes$Fitting" "first" "[I" ∈ TT := tt_2 (List.mem_of_getElem? (i := 106) (by decide +kernel)) (by decide +kernel)
theorem mw2_108 : Cond.laysFinal RX0 "HeardTunes$Fitting" "free" "[I" ∈ TT := tt_2 (List.mem_of_getElem? (i := 108) (by decide +kernel)) (by decide +kernel)
theorem mw2_110 : Cond.laysFinal RX0 "HeardTunes$Fitting" "memo" "LHeardTunes$Memo;" ∈ TT := tt_2 (List.mem_of_getElem? (i := 110) (by decide +kernel)) (by decide +kernel)
theorem mw2_112 : Cond.lays RX0 "HeardTunes$Fitting" "isFound" "Z" ∈ TT := tt_2 (List.mem_of_getElem? (i := 112) (by decide +kernel)) (by decide +kernel)
theorem mw2_114 : Cond.lays RX0 "HeardTunes$Fitting" "length" "I" ∈ TT := tt_2 (List.mem_of_getElem? (i := 114) (by decide +kernel)) (by decide +kernel)
theorem mw2_116 : Cond.lays RX0 "HeardTunes$Fitting" "latest" "I" ∈ TT := tt_2 (List.mem_of_getElem? (i := 116) (by decide +kernel)) (by decide +kernel)
theorem mw2_118 : Cond.lays RX0 "HeardTunes$Fitting" "tune" "I" ∈ TT := tt_2 (List.mem_of_getElem? (i := 118) (by decide +kernel)) (by decide +kernel)
theorem inX0 : ∀ u ∈ u_ws RX0 TX0 12, u ∈ TT := List.forall_mem_cons.mpr ⟨mw2_96, List.forall_mem_cons.mpr ⟨mw2_98, List.forall_mem_cons.mpr ⟨mw2_100, List.forall_mem_cons.mpr ⟨mw2_102, List.forall_mem_cons.mpr ⟨mw2_104, List.forall_mem_cons.mpr ⟨mw2_106, List.forall_mem_cons.mpr ⟨mw2_108, List.forall_mem_cons.mpr ⟨mw2_110, List.forall_mem_cons.mpr ⟨mw2_112, List.forall_mem_cons.mpr ⟨mw2_114, List.forall_mem_cons.mpr ⟨mw2_116, List.forall_mem_cons.mpr ⟨mw2_118, fun _ h => absurd h List.not_mem_nil⟩⟩⟩⟩⟩⟩⟩⟩⟩⟩⟩⟩
abbrev fX1 : List Nat := [0, 2, 0, 0, 2, 2, 2, 2, 2]
theorem mw1_168 : Cond.lays RX1 "HeardTunes$Ground" "count" "I" ∈ TT := tt_1 (List.mem_of_getElem? (i := 168) (by decide +kernel)) (by decide +kernel)
theorem mw1_170 : Cond.laysFinal RX1 "HeardTunes$Ground" "whats" "[I" ∈ TT := tt_1 (List.mem_of_getElem? (i := 170) (by decide +kernel)) (by decide +kernel)
theorem mw1_172 : Cond.lays RX1 "HeardTunes$Ground" "width" "I" ∈ TT := tt_1 (List.mem_of_getElem? (i := 172) (by decide +kernel)) (by decide +kernel)
theorem mw1_174 : Cond.lays RX1 "HeardTunes$Ground" "height" "I" ∈ TT := tt_1 (List.mem_of_getElem? (i := 174) (by decide +kernel)) (by decide +kernel)
theorem mw1_176 : Cond.laysFinal RX1 "HeardTunes$Ground" "codes" "[I" ∈ TT := tt_1 (List.mem_of_getElem? (i := 176) (by decide +kernel)) (by decide +kernel)
theorem mw1_178 : Cond.laysFinal RX1 "HeardTunes$Ground" "besides" "[I" ∈ TT := tt_1 (List.mem_of_getElem? (i := 178) (by decide +kernel)) (by decide +kernel)
theorem mw1_180 : Cond.laysFinal RX1 "HeardTunes$Ground" "ways" "[I" ∈ TT := tt_1 (List.mem_of_getElem? (i := 180) (by decide +kernel)) (by decide +kernel)
theorem mw1_182 : Cond.laysFinal RX1 "HeardTunes$Ground" "isFound" "[Z" ∈ TT := tt_1 (List.mem_of_getElem? (i := 182) (by decide +kernel)) (by decide +kernel)
theorem mw1_184 : Cond.laysFinal RX1 "HeardTunes$Ground" "queue" "[I" ∈ TT := tt_1 (List.mem_of_getElem? (i := 184) (by decide +kernel)) (by decide +kernel)
theorem inX1 : ∀ u ∈ u_ws RX1 TX1 9, u ∈ TT := List.forall_mem_cons.mpr ⟨mw1_168, List.forall_mem_cons.mpr ⟨mw1_170, List.forall_mem_cons.mpr ⟨mw1_172, List.forall_mem_cons.mpr ⟨mw1_174, List.forall_mem_cons.mpr ⟨mw1_176, List.forall_mem_cons.mpr ⟨mw1_178, List.forall_mem_cons.mpr ⟨mw1_180, List.forall_mem_cons.mpr ⟨mw1_182, List.forall_mem_cons.mpr ⟨mw1_184, fun _ h => absurd h List.not_mem_nil⟩⟩⟩⟩⟩⟩⟩⟩⟩
abbrev fX2 : List Nat := [0, 0, 2, 2]
theorem mw2_136 : Cond.lays RX2 "HeardTunes$Image" "isKept" "Z" ∈ TT := tt_2 (List.mem_of_getElem? (i := 136) (by decide +kernel)) (by decide +kernel)
theorem mw2_138 : Cond.lays RX2 "HeardTunes$Image" "theSeed" "I" ∈ TT := tt_2 (List.mem_of_getElem? (i := 138) (by decide +kernel)) (by decide +kernel)
theorem mw2_140 : Cond.laysFinal RX2 "HeardTunes$Image" "scene" "LHeardTunes$Scene;" ∈ TT := tt_2 (List.mem_of_getElem? (i := 140) (by decide +kernel)) (by decide +kernel)
theorem mw2_142 : Cond.laysFinal RX2 "HeardTunes$Image" "whats" "[I" ∈ TT := tt_2 (List.mem_of_getElem? (i := 142) (by decide +kernel)) (by decide +kernel)
theorem inX2 : ∀ u ∈ u_ws RX2 TX2 4, u ∈ TT := List.forall_mem_cons.mpr ⟨mw2_136, List.forall_mem_cons.mpr ⟨mw2_138, List.forall_mem_cons.mpr ⟨mw2_140, List.forall_mem_cons.mpr ⟨mw2_142, fun _ h => absurd h List.not_mem_nil⟩⟩⟩⟩
abbrev fX3 : List Nat := [2, 2, 2]
theorem mw2_26 : Cond.laysFinal RX3 "HeardTunes$Memo" "places" "[J" ∈ TT := tt_2 (List.mem_of_getElem? (i := 26) (by decide +kernel)) (by decide +kernel)
theorem mw2_28 : Cond.laysFinal RX3 "HeardTunes$Memo" "goals" "[J" ∈ TT := tt_2 (List.mem_of_getElem? (i := 28) (by decide +kernel)) (by decide +kernel)
theorem mw2_30 : Cond.laysFinal RX3 "HeardTunes$Memo" "values" "[I" ∈ TT := tt_2 (List.mem_of_getElem? (i := 30) (by decide +kernel)) (by decide +kernel)
theorem inX3 : ∀ u ∈ u_ws RX3 TX3 3, u ∈ TT := List.forall_mem_cons.mpr ⟨mw2_26, List.forall_mem_cons.mpr ⟨mw2_28, List.forall_mem_cons.mpr ⟨mw2_30, fun _ h => absurd h List.not_mem_nil⟩⟩⟩
abbrev fX4 : List Nat := [0, 2, 2]
theorem mw1_230 : Cond.lays RX4 "HeardTunes$Plan" "count" "I" ∈ TT := tt_1 (List.mem_of_getElem? (i := 230) (by decide +kernel)) (by decide +kernel)
theorem mw1_232 : Cond.laysFinal RX4 "HeardTunes$Plan" "steps" "[I" ∈ TT := tt_1 (List.mem_of_getElem? (i := 232) (by decide +kernel)) (by decide +kernel)
theorem mw1_234 : Cond.laysFinal RX4 "HeardTunes$Plan" "tunes" "[I" ∈ TT := tt_1 (List.mem_of_getElem? (i := 234) (by decide +kernel)) (by decide +kernel)
theorem inX4 : ∀ u ∈ u_ws RX4 TX4 3, u ∈ TT := List.forall_mem_cons.mpr ⟨mw1_230, List.forall_mem_cons.mpr ⟨mw1_232, List.forall_mem_cons.mpr ⟨mw1_234, fun _ h => absurd h List.not_mem_nil⟩⟩⟩
abbrev fX5 : List Nat := [0, 0, 0, 2, 0, 0]
theorem mw1_41 : Cond.lays RX5 "HeardTunes$Reader" "length" "I" ∈ TT := tt_1 (List.mem_of_getElem? (i := 41) (by decide +kernel)) (by decide +kernel)
theorem mw1_43 : Cond.lays RX5 "HeardTunes$Reader" "fault" "I" ∈ TT := tt_1 (List.mem_of_getElem? (i := 43) (by decide +kernel)) (by decide +kernel)
theorem mw1_45 : Cond.lays RX5 "HeardTunes$Reader" "faultAt" "I" ∈ TT := tt_1 (List.mem_of_getElem? (i := 45) (by decide +kernel)) (by decide +kernel)
theorem mw1_47 : Cond.laysFinal RX5 "HeardTunes$Reader" "text" "[I" ∈ TT := tt_1 (List.mem_of_getElem? (i := 47) (by decide +kernel)) (by decide +kernel)
theorem mw1_49 : Cond.lays RX5 "HeardTunes$Reader" "next" "I" ∈ TT := tt_1 (List.mem_of_getElem? (i := 49) (by decide +kernel)) (by decide +kernel)
theorem mw1_51 : Cond.lays RX5 "HeardTunes$Reader" "numberAt" "I" ∈ TT := tt_1 (List.mem_of_getElem? (i := 51) (by decide +kernel)) (by decide +kernel)
theorem inX5 : ∀ u ∈ u_ws RX5 TX5 6, u ∈ TT := List.forall_mem_cons.mpr ⟨mw1_41, List.forall_mem_cons.mpr ⟨mw1_43, List.forall_mem_cons.mpr ⟨mw1_45, List.forall_mem_cons.mpr ⟨mw1_47, List.forall_mem_cons.mpr ⟨mw1_49, List.forall_mem_cons.mpr ⟨mw1_51, fun _ h => absurd h List.not_mem_nil⟩⟩⟩⟩⟩⟩
abbrev fX6 : List Nat := [0, 0, 2, 2, 2, 2]
theorem mw1_207 : Cond.lays RX6 "HeardTunes$Scene" "piper" "I" ∈ TT := tt_1 (List.mem_of_getElem? (i := 207) (by decide +kernel)) (by decide +kernel)
theorem mw1_209 : Cond.lays RX6 "HeardTunes$Scene" "minutes" "I" ∈ TT := tt_1 (List.mem_of_getElem? (i := 209) (by decide +kernel)) (by decide +kernel)
theorem mw1_211 : Cond.laysFinal RX6 "HeardTunes$Scene" "at" "[I" ∈ TT := tt_1 (List.mem_of_getElem? (i := 211) (by decide +kernel)) (by decide +kernel)
theorem mw1_213 : Cond.laysFinal RX6 "HeardTunes$Scene" "goal" "[I" ∈ TT := tt_1 (List.mem_of_getElem? (i := 213) (by decide +kernel)) (by decide +kernel)
theorem mw1_215 : Cond.laysFinal RX6 "HeardTunes$Scene" "town" "LHeardTunes$Town;" ∈ TT := tt_1 (List.mem_of_getElem? (i := 215) (by decide +kernel)) (by decide +kernel)
theorem mw1_217 : Cond.laysFinal RX6 "HeardTunes$Scene" "ground" "LHeardTunes$Ground;" ∈ TT := tt_1 (List.mem_of_getElem? (i := 217) (by decide +kernel)) (by decide +kernel)
theorem inX6 : ∀ u ∈ u_ws RX6 TX6 6, u ∈ TT := List.forall_mem_cons.mpr ⟨mw1_207, List.forall_mem_cons.mpr ⟨mw1_209, List.forall_mem_cons.mpr ⟨mw1_211, List.forall_mem_cons.mpr ⟨mw1_213, List.forall_mem_cons.mpr ⟨mw1_215, List.forall_mem_cons.mpr ⟨mw1_217, fun _ h => absurd h List.not_mem_nil⟩⟩⟩⟩⟩⟩
abbrev fX7 : List Nat := [0, 2, 2, 2]
theorem mw2_8 : Cond.lays RX7 "HeardTunes$Seen" "count" "I" ∈ TT := tt_2 (List.mem_of_getElem? (i := 8) (by decide +kernel)) (by decide +kernel)
theorem mw2_10 : Cond.laysFinal RX7 "HeardTunes$Seen" "crowds" "[I" ∈ TT := tt_2 (List.mem_of_getElem? (i := 10) (by decide +kernel)) (by decide +kernel)
theorem mw2_12 : Cond.laysFinal RX7 "HeardTunes$Seen" "minutes" "[I" ∈ TT := tt_2 (List.mem_of_getElem? (i := 12) (by decide +kernel)) (by decide +kernel)
theorem mw2_14 : Cond.laysFinal RX7 "HeardTunes$Seen" "cells" "[I" ∈ TT := tt_2 (List.mem_of_getElem? (i := 14) (by decide +kernel)) (by decide +kernel)
theorem inX7 : ∀ u ∈ u_ws RX7 TX7 4, u ∈ TT := List.forall_mem_cons.mpr ⟨mw2_8, List.forall_mem_cons.mpr ⟨mw2_10, List.forall_mem_cons.mpr ⟨mw2_12, List.forall_mem_cons.mpr ⟨mw2_14, fun _ h => absurd h List.not_mem_nil⟩⟩⟩⟩
abbrev fX8 : List Nat := [0, 2, 2, 2, 2, 2, 2, 0, 0, 0]
theorem mw2_54 : Cond.lays RX8 "HeardTunes$Soonest" "minutes" "I" ∈ TT := tt_2 (List.mem_of_getElem? (i := 54) (by decide +kernel)) (by decide +kernel)
theorem mw2_56 : Cond.laysFinal RX8 "HeardTunes$Soonest" "town" "LHeardTunes$Town;" ∈ TT := tt_2 (List.mem_of_getElem? (i := 56) (by decide +kernel)) (by decide +kernel)
theorem mw2_58 : Cond.laysFinal RX8 "HeardTunes$Soonest" "ground" "LHeardTunes$Ground;" ∈ TT := tt_2 (List.mem_of_getElem? (i := 58) (by decide +kernel)) (by decide +kernel)
theorem mw2_60 : Cond.laysFinal RX8 "HeardTunes$Soonest" "levels" "[LHeardTunes$Scene;" ∈ TT := tt_2 (List.mem_of_getElem? (i := 60) (by decide +kernel)) (by decide +kernel)
theorem mw2_62 : Cond.laysFinal RX8 "HeardTunes$Soonest" "steps" "[I" ∈ TT := tt_2 (List.mem_of_getElem? (i := 62) (by decide +kernel)) (by decide +kernel)
theorem mw2_64 : Cond.laysFinal RX8 "HeardTunes$Soonest" "toGate" "[I" ∈ TT := tt_2 (List.mem_of_getElem? (i := 64) (by decide +kernel)) (by decide +kernel)
theorem mw2_66 : Cond.laysFinal RX8 "HeardTunes$Soonest" "memo" "LHeardTunes$Memo;" ∈ TT := tt_2 (List.mem_of_getElem? (i := 66) (by decide +kernel)) (by decide +kernel)
theorem mw2_68 : Cond.lays RX8 "HeardTunes$Soonest" "isKnown" "Z" ∈ TT := tt_2 (List.mem_of_getElem? (i := 68) (by decide +kernel)) (by decide +kernel)
theorem mw2_70 : Cond.lays RX8 "HeardTunes$Soonest" "kind" "I" ∈ TT := tt_2 (List.mem_of_getElem? (i := 70) (by decide +kernel)) (by decide +kernel)
theorem mw2_72 : Cond.lays RX8 "HeardTunes$Soonest" "tune" "I" ∈ TT := tt_2 (List.mem_of_getElem? (i := 72) (by decide +kernel)) (by decide +kernel)
theorem inX8 : ∀ u ∈ u_ws RX8 TX8 10, u ∈ TT := List.forall_mem_cons.mpr ⟨mw2_54, List.forall_mem_cons.mpr ⟨mw2_56, List.forall_mem_cons.mpr ⟨mw2_58, List.forall_mem_cons.mpr ⟨mw2_60, List.forall_mem_cons.mpr ⟨mw2_62, List.forall_mem_cons.mpr ⟨mw2_64, List.forall_mem_cons.mpr ⟨mw2_66, List.forall_mem_cons.mpr ⟨mw2_68, List.forall_mem_cons.mpr ⟨mw2_70, List.forall_mem_cons.mpr ⟨mw2_72, fun _ h => absurd h List.not_mem_nil⟩⟩⟩⟩⟩⟩⟩⟩⟩⟩
abbrev fX9 : List Nat := [0, 0, 0, 0, 0, 0, 0, 0, 0, 2, 2, 2, 2, 2, 2, 2, 2]
theorem mw1_113 : Cond.lays RX9 "HeardTunes$Town" "width" "I" ∈ TT := tt_1 (List.mem_of_getElem? (i := 113) (by decide +kernel)) (by decide +kernel)
theorem mw1_115 : Cond.lays RX9 "HeardTunes$Town" "height" "I" ∈ TT := tt_1 (List.mem_of_getElem? (i := 115) (by decide +kernel)) (by decide +kernel)
theorem mw1_117 : Cond.lays RX9 "HeardTunes$Town" "spots" "I" ∈ TT := tt_1 (List.mem_of_getElem? (i := 117) (by decide +kernel)) (by decide +kernel)
theorem mw1_119 : Cond.lays RX9 "HeardTunes$Town" "crowds" "I" ∈ TT := tt_1 (List.mem_of_getElem? (i := 119) (by decide +kernel)) (by decide +kernel)
theorem mw1_121 : Cond.lays RX9 "HeardTunes$Town" "tunes" "I" ∈ TT := tt_1 (List.mem_of_getElem? (i := 121) (by decide +kernel)) (by decide +kernel)
theorem mw1_123 : Cond.lays RX9 "HeardTunes$Town" "piper" "I" ∈ TT := tt_1 (List.mem_of_getElem? (i := 123) (by decide +kernel)) (by decide +kernel)
theorem mw1_125 : Cond.lays RX9 "HeardTunes$Town" "hasPay" "Z" ∈ TT := tt_1 (List.mem_of_getElem? (i := 125) (by decide +kernel)) (by decide +kernel)
theorem mw1_127 : Cond.lays RX9 "HeardTunes$Town" "forOut" "I" ∈ TT := tt_1 (List.mem_of_getElem? (i := 127) (by decide +kernel)) (by decide +kernel)
theorem mw1_129 : Cond.lays RX9 "HeardTunes$Town" "forDrowned" "I" ∈ TT := tt_1 (List.mem_of_getElem? (i := 129) (by decide +kernel)) (by decide +kernel)
theorem mw1_131 : Cond.laysFinal RX9 "HeardTunes$Town" "what" "[I" ∈ TT := tt_1 (List.mem_of_getElem? (i := 131) (by decide +kernel)) (by decide +kernel)
theorem mw1_133 : Cond.laysFinal RX9 "HeardTunes$Town" "kind" "[I" ∈ TT := tt_1 (List.mem_of_getElem? (i := 133) (by decide +kernel)) (by decide +kernel)
theorem mw1_135 : Cond.laysFinal RX9 "HeardTunes$Town" "start" "[I" ∈ TT := tt_1 (List.mem_of_getElem? (i := 135) (by decide +kernel)) (by decide +kernel)
theorem mw1_137 : Cond.laysFinal RX9 "HeardTunes$Town" "heads" "[I" ∈ TT := tt_1 (List.mem_of_getElem? (i := 137) (by decide +kernel)) (by decide +kernel)
theorem mw1_139 : Cond.laysFinal RX9 "HeardTunes$Town" "pace" "[I" ∈ TT := tt_1 (List.mem_of_getElem? (i := 139) (by decide +kernel)) (by decide +kernel)
theorem mw1_141 : Cond.laysFinal RX9 "HeardTunes$Town" "deaf" "[I" ∈ TT := tt_1 (List.mem_of_getElem? (i := 141) (by decide +kernel)) (by decide +kernel)
theorem mw1_143 : Cond.laysFinal RX9 "HeardTunes$Town" "follows" "[I" ∈ TT := tt_1 (List.mem_of_getElem? (i := 143) (by decide +kernel)) (by decide +kernel)
theorem mw1_145 : Cond.laysFinal RX9 "HeardTunes$Town" "reach" "[I" ∈ TT := tt_1 (List.mem_of_getElem? (i := 145) (by decide +kernel)) (by decide +kernel)
theorem inX9 : ∀ u ∈ u_ws RX9 TX9 17, u ∈ TT := List.forall_mem_cons.mpr ⟨mw1_113, List.forall_mem_cons.mpr ⟨mw1_115, List.forall_mem_cons.mpr ⟨mw1_117, List.forall_mem_cons.mpr ⟨mw1_119, List.forall_mem_cons.mpr ⟨mw1_121, List.forall_mem_cons.mpr ⟨mw1_123, List.forall_mem_cons.mpr ⟨mw1_125, List.forall_mem_cons.mpr ⟨mw1_127, List.forall_mem_cons.mpr ⟨mw1_129, List.forall_mem_cons.mpr ⟨mw1_131, List.forall_mem_cons.mpr ⟨mw1_133, List.forall_mem_cons.mpr ⟨mw1_135, List.forall_mem_cons.mpr ⟨mw1_137, List.forall_mem_cons.mpr ⟨mw1_139, List.forall_mem_cons.mpr ⟨mw1_141, List.forall_mem_cons.mpr ⟨mw1_143, List.forall_mem_cons.mpr ⟨mw1_145, fun _ h => absurd h List.not_mem_nil⟩⟩⟩⟩⟩⟩⟩⟩⟩⟩⟩⟩⟩⟩⟩⟩⟩
abbrev fX10 : List Nat := [2, 2, 2, 2, 2, 2, 2, 2, 2, 2, 2, 2, 2, 2, 0]
theorem mw2_191 : Cond.laysFinal RX10 "HeardTunes" "reader" "LHeardTunes$Reader;" ∈ TT := tt_2 (List.mem_of_getElem? (i := 191) (by decide +kernel)) (by decide +kernel)
theorem mw2_193 : Cond.laysFinal RX10 "HeardTunes" "tale" "LHeardTunes$Town;" ∈ TT := tt_2 (List.mem_of_getElem? (i := 193) (by decide +kernel)) (by decide +kernel)
theorem mw2_195 : Cond.laysFinal RX10 "HeardTunes" "draft" "LHeardTunes$Town;" ∈ TT := tt_2 (List.mem_of_getElem? (i := 195) (by decide +kernel)) (by decide +kernel)
theorem mw2_197 : Cond.laysFinal RX10 "HeardTunes" "ground" "LHeardTunes$Ground;" ∈ TT := tt_2 (List.mem_of_getElem? (i := 197) (by decide +kernel)) (by decide +kernel)
theorem mw2_199 : Cond.laysFinal RX10 "HeardTunes" "walledGround" "LHeardTunes$Ground;" ∈ TT := tt_2 (List.mem_of_getElem? (i := 199) (by decide +kernel)) (by decide +kernel)
theorem mw2_201 : Cond.laysFinal RX10 "HeardTunes" "now" "LHeardTunes$Scene;" ∈ TT := tt_2 (List.mem_of_getElem? (i := 201) (by decide +kernel)) (by decide +kernel)
theorem mw2_203 : Cond.laysFinal RX10 "HeardTunes" "trial" "LHeardTunes$Scene;" ∈ TT := tt_2 (List.mem_of_getElem? (i := 203) (by decide +kernel)) (by decide +kernel)
theorem mw2_205 : Cond.laysFinal RX10 "HeardTunes" "walledTrial" "LHeardTunes$Scene;" ∈ TT := tt_2 (List.mem_of_getElem? (i := 205) (by decide +kernel)) (by decide +kernel)
theorem mw2_207 : Cond.laysFinal RX10 "HeardTunes" "row" "LHeardTunes$Plan;" ∈ TT := tt_2 (List.mem_of_getElem? (i := 207) (by decide +kernel)) (by decide +kernel)
theorem mw2_209 : Cond.laysFinal RX10 "HeardTunes" "seen" "LHeardTunes$Seen;" ∈ TT := tt_2 (List.mem_of_getElem? (i := 209) (by decide +kernel)) (by decide +kernel)
theorem mw2_211 : Cond.laysFinal RX10 "HeardTunes" "memo" "LHeardTunes$Memo;" ∈ TT := tt_2 (List.mem_of_getElem? (i := 211) (by decide +kernel)) (by decide +kernel)
theorem mw2_213 : Cond.laysFinal RX10 "HeardTunes" "leading" "LHeardTunes$Soonest;" ∈ TT := tt_2 (List.mem_of_getElem? (i := 213) (by decide +kernel)) (by decide +kernel)
theorem mw2_215 : Cond.laysFinal RX10 "HeardTunes" "fitting" "LHeardTunes$Fitting;" ∈ TT := tt_2 (List.mem_of_getElem? (i := 215) (by decide +kernel)) (by decide +kernel)
theorem mw2_217 : Cond.laysFinal RX10 "HeardTunes" "images" "[LHeardTunes$Image;" ∈ TT := tt_2 (List.mem_of_getElem? (i := 217) (by decide +kernel)) (by decide +kernel)
theorem mw2_219 : Cond.lays RX10 "HeardTunes" "theSeed" "I" ∈ TT := tt_2 (List.mem_of_getElem? (i := 219) (by decide +kernel)) (by decide +kernel)
theorem inX10 : ∀ u ∈ u_ws RX10 TX10 15, u ∈ TT := List.forall_mem_cons.mpr ⟨mw2_191, List.forall_mem_cons.mpr ⟨mw2_193, List.forall_mem_cons.mpr ⟨mw2_195, List.forall_mem_cons.mpr ⟨mw2_197, List.forall_mem_cons.mpr ⟨mw2_199, List.forall_mem_cons.mpr ⟨mw2_201, List.forall_mem_cons.mpr ⟨mw2_203, List.forall_mem_cons.mpr ⟨mw2_205, List.forall_mem_cons.mpr ⟨mw2_207, List.forall_mem_cons.mpr ⟨mw2_209, List.forall_mem_cons.mpr ⟨mw2_211, List.forall_mem_cons.mpr ⟨mw2_213, List.forall_mem_cons.mpr ⟨mw2_215, List.forall_mem_cons.mpr ⟨mw2_217, List.forall_mem_cons.mpr ⟨mw2_219, fun _ h => absurd h List.not_mem_nil⟩⟩⟩⟩⟩⟩⟩⟩⟩⟩⟩⟩⟩⟩⟩
abbrev fX11 : List Nat := [0, 0, 2, 0, 2, 2, 2, 2, 0, 2, 2, 0, 0, 0, 2, 2, 2, 0, 0, 2, 0, 0, 0, 1, 0, 0, 0, 0, 0, 2, 0, 0, 2, 2, 2, 2, 2, 0, 2, 2, 0, 0, 0, 0, 2, 0, 2, 2, 2, 0, 2, 2, 0, 2, 2, 2, 2, 2]
theorem mw5_114 : Cond.lays RX11 "HeardTunesModel" "wide" "I" ∈ TT := tt_5 (List.mem_of_getElem? (i := 114) (by decide +kernel)) (by decide +kernel)
theorem mw5_116 : Cond.lays RX11 "HeardTunesModel" "deep" "I" ∈ TT := tt_5 (List.mem_of_getElem? (i := 116) (by decide +kernel)) (by decide +kernel)
theorem mw5_118 : Cond.laysFinal RX11 "HeardTunesModel" "cell" "[I" ∈ TT := tt_5 (List.mem_of_getElem? (i := 118) (by decide +kernel)) (by decide +kernel)
theorem mw5_120 : Cond.lays RX11 "HeardTunesModel" "crowds" "I" ∈ TT := tt_5 (List.mem_of_getElem? (i := 120) (by decide +kernel)) (by decide +kernel)
theorem mw5_122 : Cond.laysFinal RX11 "HeardTunesModel" "kind" "[I" ∈ TT := tt_5 (List.mem_of_getElem? (i := 122) (by decide +kernel)) (by decide +kernel)
theorem mw5_124 : Cond.laysFinal RX11 "HeardTunesModel" "heads" "[I" ∈ TT := tt_5 (List.mem_of_getElem? (i := 124) (by decide +kernel)) (by decide +kernel)
theorem mw5_126 : Cond.laysFinal RX11 "HeardTunesModel" "pace" "[I" ∈ TT := tt_5 (List.mem_of_getElem? (i := 126) (by decide +kernel)) (by decide +kernel)
theorem mw5_128 : Cond.laysFinal RX11 "HeardTunesModel" "deaf" "[I" ∈ TT := tt_5 (List.mem_of_getElem? (i := 128) (by decide +kernel)) (by decide +kernel)
theorem mw5_130 : Cond.lays RX11 "HeardTunesModel" "tunes" "I" ∈ TT := tt_5 (List.mem_of_getElem? (i := 130) (by decide +kernel)) (by decide +kernel)
theorem mw5_132 : Cond.laysFinal RX11 "HeardTunesModel" "follows" "[I" ∈ TT := tt_5 (List.mem_of_getElem? (i := 132) (by decide +kernel)) (by decide +kernel)
theorem mw5_134 : Cond.laysFinal RX11 "HeardTunesModel" "heard" "[I" ∈ TT := tt_5 (List.mem_of_getElem? (i := 134) (by decide +kernel)) (by decide +kernel)
theorem mw5_136 : Cond.lays RX11 "HeardTunesModel" "pay" "I" ∈ TT := tt_5 (List.mem_of_getElem? (i := 136) (by decide +kernel)) (by decide +kernel)
theorem mw5_138 : Cond.lays RX11 "HeardTunesModel" "fine" "I" ∈ TT := tt_5 (List.mem_of_getElem? (i := 138) (by decide +kernel)) (by decide +kernel)
theorem mw5_140 : Cond.lays RX11 "HeardTunesModel" "piper" "I" ∈ TT := tt_5 (List.mem_of_getElem? (i := 140) (by decide +kernel)) (by decide +kernel)
theorem mw5_142 : Cond.laysFinal RX11 "HeardTunesModel" "at" "[I" ∈ TT := tt_5 (List.mem_of_getElem? (i := 142) (by decide +kernel)) (by decide +kernel)
theorem mw5_144 : Cond.laysFinal RX11 "HeardTunesModel" "goal" "[I" ∈ TT := tt_5 (List.mem_of_getElem? (i := 144) (by decide +kernel)) (by decide +kernel)
theorem mw5_146 : Cond.laysFinal RX11 "HeardTunesModel" "fate" "[I" ∈ TT := tt_5 (List.mem_of_getElem? (i := 146) (by decide +kernel)) (by decide +kernel)
theorem mw5_148 : Cond.lays RX11 "HeardTunesModel" "minutes" "I" ∈ TT := tt_5 (List.mem_of_getElem? (i := 148) (by decide +kernel)) (by decide +kernel)
theorem mw5_150 : Cond.lays RX11 "HeardTunesModel" "seed" "I" ∈ TT := tt_5 (List.mem_of_getElem? (i := 150) (by decide +kernel)) (by decide +kernel)
theorem mw5_152 : Cond.laysFinal RX11 "HeardTunesModel" "text" "[I" ∈ TT := tt_5 (List.mem_of_getElem? (i := 152) (by decide +kernel)) (by decide +kernel)
theorem mw5_154 : Cond.lays RX11 "HeardTunesModel" "texted" "I" ∈ TT := tt_5 (List.mem_of_getElem? (i := 154) (by decide +kernel)) (by decide +kernel)
theorem mw5_156 : Cond.lays RX11 "HeardTunesModel" "faultPlace" "I" ∈ TT := tt_5 (List.mem_of_getElem? (i := 156) (by decide +kernel)) (by decide +kernel)
theorem mw5_158 : Cond.lays RX11 "HeardTunesModel" "at0" "I" ∈ TT := tt_5 (List.mem_of_getElem? (i := 158) (by decide +kernel)) (by decide +kernel)
theorem mw5_160 : Cond.lays RX11 "HeardTunesModel" "said" "J" ∈ TT := tt_5 (List.mem_of_getElem? (i := 160) (by decide +kernel)) (by decide +kernel)
theorem mw5_162 : Cond.lays RX11 "HeardTunesModel" "wordEnd" "I" ∈ TT := tt_5 (List.mem_of_getElem? (i := 162) (by decide +kernel)) (by decide +kernel)
theorem mw5_164 : Cond.lays RX11 "HeardTunesModel" "number" "I" ∈ TT := tt_5 (List.mem_of_getElem? (i := 164) (by decide +kernel)) (by decide +kernel)
theorem mw5_166 : Cond.lays RX11 "HeardTunesModel" "numberAt" "I" ∈ TT := tt_5 (List.mem_of_getElem? (i := 166) (by decide +kernel)) (by decide +kernel)
theorem mw5_168 : Cond.lays RX11 "HeardTunesModel" "readWide" "I" ∈ TT := tt_5 (List.mem_of_getElem? (i := 168) (by decide +kernel)) (by decide +kernel)
theorem mw5_170 : Cond.lays RX11 "HeardTunesModel" "readDeep" "I" ∈ TT := tt_5 (List.mem_of_getElem? (i := 170) (by decide +kernel)) (by decide +kernel)
theorem mw5_172 : Cond.laysFinal RX11 "HeardTunesModel" "readCell" "[I" ∈ TT := tt_5 (List.mem_of_getElem? (i := 172) (by decide +kernel)) (by decide +kernel)
theorem mw5_174 : Cond.lays RX11 "HeardTunesModel" "readMarks" "I" ∈ TT := tt_5 (List.mem_of_getElem? (i := 174) (by decide +kernel)) (by decide +kernel)
theorem mw5_176 : Cond.lays RX11 "HeardTunesModel" "readCrowds" "I" ∈ TT := tt_5 (List.mem_of_getElem? (i := 176) (by decide +kernel)) (by decide +kernel)
theorem mw5_178 : Cond.laysFinal RX11 "HeardTunesModel" "readKind" "[I" ∈ TT := tt_5 (List.mem_of_getElem? (i := 178) (by decide +kernel)) (by decide +kernel)
theorem mw5_180 : Cond.laysFinal RX11 "HeardTunesModel" "readAt" "[I" ∈ TT := tt_5 (List.mem_of_getElem? (i := 180) (by decide +kernel)) (by decide +kernel)
theorem mw5_182 : Cond.laysFinal RX11 "HeardTunesModel" "readHeads" "[I" ∈ TT := tt_5 (List.mem_of_getElem? (i := 182) (by decide +kernel)) (by decide +kernel)
theorem mw5_184 : Cond.laysFinal RX11 "HeardTunesModel" "readPace" "[I" ∈ TT := tt_5 (List.mem_of_getElem? (i := 184) (by decide +kernel)) (by decide +kernel)
theorem mw5_186 : Cond.laysFinal RX11 "HeardTunesModel" "readDeaf" "[I" ∈ TT := tt_5 (List.mem_of_getElem? (i := 186) (by decide +kernel)) (by decide +kernel)
theorem mw5_188 : Cond.lays RX11 "HeardTunesModel" "readTunes" "I" ∈ TT := tt_5 (List.mem_of_getElem? (i := 188) (by decide +kernel)) (by decide +kernel)
theorem mw5_190 : Cond.laysFinal RX11 "HeardTunesModel" "readFollows" "[I" ∈ TT := tt_5 (List.mem_of_getElem? (i := 190) (by decide +kernel)) (by decide +kernel)
theorem mw5_192 : Cond.laysFinal RX11 "HeardTunesModel" "readHeard" "[I" ∈ TT := tt_5 (List.mem_of_getElem? (i := 192) (by decide +kernel)) (by decide +kernel)
theorem mw5_194 : Cond.lays RX11 "HeardTunesModel" "readPiper" "I" ∈ TT := tt_5 (List.mem_of_getElem? (i := 194) (by decide +kernel)) (by decide +kernel)
theorem mw5_196 : Cond.lays RX11 "HeardTunesModel" "readPay" "I" ∈ TT := tt_5 (List.mem_of_getElem? (i := 196) (by decide +kernel)) (by decide +kernel)
theorem mw5_198 : Cond.lays RX11 "HeardTunesModel" "readFine" "I" ∈ TT := tt_5 (List.mem_of_getElem? (i := 198) (by decide +kernel)) (by decide +kernel)
theorem mw5_200 : Cond.lays RX11 "HeardTunesModel" "cellRead" "I" ∈ TT := tt_5 (List.mem_of_getElem? (i := 200) (by decide +kernel)) (by decide +kernel)
theorem mw5_202 : Cond.laysFinal RX11 "HeardTunesModel" "far" "[I" ∈ TT := tt_5 (List.mem_of_getElem? (i := 202) (by decide +kernel)) (by decide +kernel)
theorem mw5_204 : Cond.lays RX11 "HeardTunesModel" "wasPiper" "I" ∈ TT := tt_5 (List.mem_of_getElem? (i := 204) (by decide +kernel)) (by decide +kernel)
theorem mw5_206 : Cond.laysFinal RX11 "HeardTunesModel" "wasAt" "[I" ∈ TT := tt_5 (List.mem_of_getElem? (i := 206) (by decide +kernel)) (by decide +kernel)
theorem mw5_208 : Cond.laysFinal RX11 "HeardTunesModel" "wasGoal" "[I" ∈ TT := tt_5 (List.mem_of_getElem? (i := 208) (by decide +kernel)) (by decide +kernel)
theorem mw5_210 : Cond.laysFinal RX11 "HeardTunesModel" "wasFate" "[I" ∈ TT := tt_5 (List.mem_of_getElem? (i := 210) (by decide +kernel)) (by decide +kernel)
theorem mw5_212 : Cond.lays RX11 "HeardTunesModel" "planned" "I" ∈ TT := tt_5 (List.mem_of_getElem? (i := 212) (by decide +kernel)) (by decide +kernel)
theorem mw5_214 : Cond.laysFinal RX11 "HeardTunesModel" "planStep" "[I" ∈ TT := tt_5 (List.mem_of_getElem? (i := 214) (by decide +kernel)) (by decide +kernel)
theorem mw5_216 : Cond.laysFinal RX11 "HeardTunesModel" "planTune" "[I" ∈ TT := tt_5 (List.mem_of_getElem? (i := 216) (by decide +kernel)) (by decide +kernel)
theorem mw5_218 : Cond.lays RX11 "HeardTunesModel" "sights" "I" ∈ TT := tt_5 (List.mem_of_getElem? (i := 218) (by decide +kernel)) (by decide +kernel)
theorem mw5_220 : Cond.laysFinal RX11 "HeardTunesModel" "seenCrowd" "[I" ∈ TT := tt_5 (List.mem_of_getElem? (i := 220) (by decide +kernel)) (by decide +kernel)
theorem mw5_222 : Cond.laysFinal RX11 "HeardTunesModel" "seenMinute" "[I" ∈ TT := tt_5 (List.mem_of_getElem? (i := 222) (by decide +kernel)) (by decide +kernel)
theorem mw5_224 : Cond.laysFinal RX11 "HeardTunesModel" "seenAt" "[I" ∈ TT := tt_5 (List.mem_of_getElem? (i := 224) (by decide +kernel)) (by decide +kernel)
theorem mw5_226 : Cond.laysFinal RX11 "HeardTunesModel" "images" "[I" ∈ TT := tt_5 (List.mem_of_getElem? (i := 226) (by decide +kernel)) (by decide +kernel)
theorem mw5_228 : Cond.laysFinal RX11 "HeardTunesModel" "isKept" "[Z" ∈ TT := tt_5 (List.mem_of_getElem? (i := 228) (by decide +kernel)) (by decide +kernel)
theorem inX11 : ∀ u ∈ u_ws RX11 TX11 58, u ∈ TT := List.forall_mem_cons.mpr ⟨mw5_114, List.forall_mem_cons.mpr ⟨mw5_116, List.forall_mem_cons.mpr ⟨mw5_118, List.forall_mem_cons.mpr ⟨mw5_120, List.forall_mem_cons.mpr ⟨mw5_122, List.forall_mem_cons.mpr ⟨mw5_124, List.forall_mem_cons.mpr ⟨mw5_126, List.forall_mem_cons.mpr ⟨mw5_128, List.forall_mem_cons.mpr ⟨mw5_130, List.forall_mem_cons.mpr ⟨mw5_132, List.forall_mem_cons.mpr ⟨mw5_134, List.forall_mem_cons.mpr ⟨mw5_136, List.forall_mem_cons.mpr ⟨mw5_138, List.forall_mem_cons.mpr ⟨mw5_140, List.forall_mem_cons.mpr ⟨mw5_142, List.forall_mem_cons.mpr ⟨mw5_144, List.forall_mem_cons.mpr ⟨mw5_146, List.forall_mem_cons.mpr ⟨mw5_148, List.forall_mem_cons.mpr ⟨mw5_150, List.forall_mem_cons.mpr ⟨mw5_152, List.forall_mem_cons.mpr ⟨mw5_154, List.forall_mem_cons.mpr ⟨mw5_156, List.forall_mem_cons.mpr ⟨mw5_158, List.forall_mem_cons.mpr ⟨mw5_160, List.forall_mem_cons.mpr ⟨mw5_162, List.forall_mem_cons.mpr ⟨mw5_164, List.forall_mem_cons.mpr ⟨mw5_166, List.forall_mem_cons.mpr ⟨mw5_168, List.forall_mem_cons.mpr ⟨mw5_170, List.forall_mem_cons.mpr ⟨mw5_172, List.forall_mem_cons.mpr ⟨mw5_174, List.forall_mem_cons.mpr ⟨mw5_176, List.forall_mem_cons.mpr ⟨mw5_178, List.forall_mem_cons.mpr ⟨mw5_180, List.forall_mem_cons.mpr ⟨mw5_182, List.forall_mem_cons.mpr ⟨mw5_184, List.forall_mem_cons.mpr ⟨mw5_186, List.forall_mem_cons.mpr ⟨mw5_188, List.forall_mem_cons.mpr ⟨mw5_190, List.forall_mem_cons.mpr ⟨mw5_192, List.forall_mem_cons.mpr ⟨mw5_194, List.forall_mem_cons.mpr ⟨mw5_196, List.forall_mem_cons.mpr ⟨mw5_198, List.forall_mem_cons.mpr ⟨mw5_200, List.forall_mem_cons.mpr ⟨mw5_202, List.forall_mem_cons.mpr ⟨mw5_204, List.forall_mem_cons.mpr ⟨mw5_206, List.forall_mem_cons.mpr ⟨mw5_208, List.forall_mem_cons.mpr ⟨mw5_210, List.forall_mem_cons.mpr ⟨mw5_212, List.forall_mem_cons.mpr ⟨mw5_214, List.forall_mem_cons.mpr ⟨mw5_216, List.forall_mem_cons.mpr ⟨mw5_218, List.forall_mem_cons.mpr ⟨mw5_220, List.forall_mem_cons.mpr ⟨mw5_222, List.forall_mem_cons.mpr ⟨mw5_224, List.forall_mem_cons.mpr ⟨mw5_226, List.forall_mem_cons.mpr ⟨mw5_228, fun _ h => absurd h List.not_mem_nil⟩⟩⟩⟩⟩⟩⟩⟩⟩⟩⟩⟩⟩⟩⟩⟩⟩⟩⟩⟩⟩⟩⟩⟩⟩⟩⟩⟩⟩⟩⟩⟩⟩⟩⟩⟩⟩⟩⟩⟩⟩⟩⟩⟩⟩⟩⟩⟩⟩⟩⟩⟩⟩⟩⟩⟩⟩⟩
theorem mw1_54 : Cond.arrayClass (newarray.typeOf .int) ∈ TT := tt_1 (List.mem_of_getElem? (i := 54) (by decide +kernel)) (by decide +kernel)
theorem ac_int : Cond.arrayClass (newarray.typeOf .int) ∈ TT := mw1_54
theorem mw1_187 : Cond.arrayClass (newarray.typeOf .boolean) ∈ TT := tt_1 (List.mem_of_getElem? (i := 187) (by decide +kernel)) (by decide +kernel)
theorem ac_boolean : Cond.arrayClass (newarray.typeOf .boolean) ∈ TT := mw1_187
theorem mw2_33 : Cond.arrayClass (newarray.typeOf .long) ∈ TT := tt_2 (List.mem_of_getElem? (i := 33) (by decide +kernel)) (by decide +kernel)
theorem ac_long : Cond.arrayClass (newarray.typeOf .long) ∈ TT := mw2_33
theorem mw2_80 : Cond.methodLink RX0 3 objectInit ∈ TT := tt_2 (List.mem_of_getElem? (i := 80) (by decide +kernel)) (by decide +kernel)
theorem mw1_24 : Cond.instanceMethod objectInit ∈ TT := tt_1 (List.mem_of_getElem? (i := 24) (by decide +kernel)) (by decide +kernel)
theorem mw1_25 : Cond.code objectInit ⟨#[0xb1]⟩ 1 none ∈ TT := tt_1 (List.mem_of_getElem? (i := 25) rfl) rfl
theorem mw2_81 : Cond.classLink RX0 9 RX6 ∈ TT := tt_2 (List.mem_of_getElem? (i := 81) (by decide +kernel)) (by decide +kernel)
theorem mw2_87 : Cond.fieldLink RX0 11 "HeardTunes$Fitting" "levels" "[LHeardTunes$Scene;" ∈ TT := tt_2 (List.mem_of_getElem? (i := 87) (by decide +kernel)) (by decide +kernel)
theorem pfX0_11 {x : Ct} {cc : ByteArray} {nL cells slots pc n : Nat} {rm : Room} {w : Wv} {lv : List (Nat × Value)} {st : List Value} {q : Nat} (C : Cx x cc nL RX0 rm) (hin2 : (xM x).name = "<init>") (hn : (wK w)[n]? = some (0, .inl fX0)) (d : decode cc pc = .ok (.putfield 11, 3)) (kk : ∀ w', w' = setX w n 3 (some q) → V x cells slots w' (pc + 3) lv st) : V x cells slots w pc lv (.ref (gz (xG x) + q) :: .ref (gz (xG x) + n) :: st) := r_putX C hin2 hn rfl inX0 tyX0 tyX0_ok nmX0 (by decide) mw2_87 rfl rfl rfl rfl rfl d kk
theorem mw2_88 : Cond.fieldLink RX0 17 "HeardTunes$Fitting" "steps" "[I" ∈ TT := tt_2 (List.mem_of_getElem? (i := 88) (by decide +kernel)) (by decide +kernel)
theorem pfX0_17 {x : Ct} {cc : ByteArray} {nL cells slots pc n : Nat} {rm : Room} {w : Wv} {lv : List (Nat × Value)} {st : List Value} {q : Nat} (C : Cx x cc nL RX0 rm) (hin2 : (xM x).name = "<init>") (hn : (wK w)[n]? = some (0, .inl fX0)) (d : decode cc pc = .ok (.putfield 17, 3)) (kk : ∀ w', w' = setX w n 4 (some q) → V x cells slots w' (pc + 3) lv st) : V x cells slots w pc lv (.ref (gz (xG x) + q) :: .ref (gz (xG x) + n) :: st) := r_putX C hin2 hn rfl inX0 tyX0 tyX0_ok nmX0 (by decide) mw2_88 rfl rfl rfl rfl rfl d kk
theorem mw2_89 : Cond.fieldLink RX0 21 "HeardTunes$Fitting" "first" "[I" ∈ TT := tt_2 (List.mem_of_getElem? (i := 89) (by decide +kernel)) (by decide +kernel)
theorem pfX0_21 {x : Ct} {cc : ByteArray} {nL cells slots pc n : Nat} {rm : Room} {w : Wv} {lv : List (Nat × Value)} {st : List Value} {q : Nat} (C : Cx x cc nL RX0 rm) (hin2 : (xM x).name = "<init>") (hn : (wK w)[n]? = some (0, .inl fX0)) (d : decode cc pc = .ok (.putfield 21, 3)) (kk : ∀ w', w' = setX w n 5 (some q) → V x cells slots w' (pc + 3) lv st) : V x cells slots w pc lv (.ref (gz (xG x) + q) :: .ref (gz (xG x) + n) :: st) := r_putX C hin2 hn rfl inX0 tyX0 tyX0_ok nmX0 (by decide) mw2_89 rfl rfl rfl rfl rfl d kk
theorem mw2_90 : Cond.fieldLink RX0 24 "HeardTunes$Fitting" "free" "[I" ∈ TT := tt_2 (List.mem_of_getElem? (i := 90) (by decide +kernel)) (by decide +kernel)
theorem pfX0_24 {x : Ct} {cc : ByteArray} {nL cells slots pc n : Nat} {rm : Room} {w : Wv} {lv : List (Nat × Value)} {st : List Value} {q : Nat} (C : Cx x cc nL RX0 rm) (hin2 : (xM x).name = "<init>") (hn : (wK w)[n]? = some (0, .inl fX0)) (d : decode cc pc = .ok (.putfield 24, 3)) (kk : ∀ w', w' = setX w n 6 (some q) → V x cells slots w' (pc + 3) lv st) : V x cells slots w pc lv (.ref (gz (xG x) + q) :: .ref (gz (xG x) + n) :: st) := r_putX C hin2 hn rfl inX0 tyX0 tyX0_ok nmX0 (by decide) mw2_90 rfl rfl rfl rfl rfl d kk
theorem mw2_86 : Cond.fieldLink RX0 27 "HeardTunes$Fitting" "ground" "LHeardTunes$Ground;" ∈ TT := tt_2 (List.mem_of_getElem? (i := 86) (by decide +kernel)) (by decide +kernel)
theorem pfX0_27 {x : Ct} {cc : ByteArray} {nL cells slots pc n : Nat} {rm : Room} {w : Wv} {lv : List (Nat × Value)} {st : List Value} {q : Nat} (C : Cx x cc nL RX0 rm) (hin2 : (xM x).name = "<init>") (hn : (wK w)[n]? = some (0, .inl fX0)) (d : decode cc pc = .ok (.putfield 27, 3)) (kk : ∀ w', w' = setX w n 2 (some q) → V x cells slots w' (pc + 3) lv st) : V x cells slots w pc lv (.ref (gz (xG x) + q) :: .ref (gz (xG x) + n) :: st) := r_putX C hin2 hn rfl inX0 tyX0 tyX0_ok nmX0 (by decide) mw2_86 rfl rfl rfl rfl rfl d kk
theorem mw2_85 : Cond.fieldLink RX0 31 "HeardTunes$Fitting" "seen" "LHeardTunes$Seen;" ∈ TT := tt_2 (List.mem_of_getElem? (i := 85) (by decide +kernel)) (by decide +kernel)
theorem pfX0_31 {x : Ct} {cc : ByteArray} {nL cells slots pc n : Nat} {rm : Room} {w : Wv} {lv : List (Nat × Value)} {st : List Value} {q : Nat} (C : Cx x cc nL RX0 rm) (hin2 : (xM x).name = "<init>") (hn : (wK w)[n]? = some (0, .inl fX0)) (d : decode cc pc = .ok (.putfield 31, 3)) (kk : ∀ w', w' = setX w n 1 (some q) → V x cells slots w' (pc + 3) lv st) : V x cells slots w pc lv (.ref (gz (xG x) + q) :: .ref (gz (xG x) + n) :: st) := r_putX C hin2 hn rfl inX0 tyX0 tyX0_ok nmX0 (by decide) mw2_85 rfl rfl rfl rfl rfl d kk
theorem mw2_91 : Cond.fieldLink RX0 35 "HeardTunes$Fitting" "memo" "LHeardTunes$Memo;" ∈ TT := tt_2 (List.mem_of_getElem? (i := 91) (by decide +kernel)) (by decide +kernel)
theorem pfX0_35 {x : Ct} {cc : ByteArray} {nL cells slots pc n : Nat} {rm : Room} {w : Wv} {lv : List (Nat × Value)} {st : List Value} {q : Nat} (C : Cx x cc nL RX0 rm) (hin2 : (xM x).name = "<init>") (hn : (wK w)[n]? = some (0, .inl fX0)) (d : decode cc pc = .ok (.putfield 35, 3)) (kk : ∀ w', w' = setX w n 7 (some q) → V x cells slots w' (pc + 3) lv st) : V x cells slots w pc lv (.ref (gz (xG x) + q) :: .ref (gz (xG x) + n) :: st) := r_putX C hin2 hn rfl inX0 tyX0 tyX0_ok nmX0 (by decide) mw2_91 rfl rfl rfl rfl rfl d kk
theorem gfX0_11 {x : Ct} {cc : ByteArray} {nL cells slots pc n : Nat} {rm : Room} {w : Wv} {lv : List (Nat × Value)} {st : List Value} (q : Nat) (C : Cx x cc nL RX0 rm) (hn : (wK w)[n]? = some (0, .inl fX0)) (hX : wX w n 3 = some q) (d : decode cc pc = .ok (.getfield 11, 3)) (kk : V x cells slots w (pc + 3) lv (.ref (gz (xG x) + q) :: st)) : V x cells slots w pc lv (.ref (gz (xG x) + n) :: st) := r_getX C hn rfl inX0 (by decide) mw2_87 rfl hX d kk
theorem mw1_189 : Cond.instantiable RX6 6 ∈ TT := tt_1 (List.mem_of_getElem? (i := 189) (by decide +kernel)) (by decide +kernel)
theorem mw1_5 : Cond.initialized RX6 ∈ TT := tt_1 (List.mem_of_getElem? (i := 5) (by decide +kernel)) (by decide +kernel)
theorem mw2_82 : Cond.methodLink RX0 39 yX6_init ∈ TT := tt_2 (List.mem_of_getElem? (i := 82) (by decide +kernel)) (by decide +kernel)
theorem mw1_191 : Cond.instanceMethod yX6_init ∈ TT := tt_1 (List.mem_of_getElem? (i := 191) (by decide +kernel)) (by decide +kernel)
theorem mw1_192 : Cond.code yX6_init cX6_init 3 none ∈ TT := tt_1 (List.mem_of_getElem? (i := 192) rfl) rfl
theorem cwX0_39_I : CwI RX0 39 yX6_init cX6_init 3 2 := ⟨mw2_82, mw1_191, mw1_5, mw1_192, ⟨by decide, by decide, by decide⟩, rfl⟩
theorem mw2_92 : Cond.fieldLink RX0 42 "HeardTunes$Fitting" "isFound" "Z" ∈ TT := tt_2 (List.mem_of_getElem? (i := 92) (by decide +kernel)) (by decide +kernel)
theorem gfX0_42 {x : Ct} {cc : ByteArray} {nL cells slots pc n : Nat} {rm : Room} {w : Wv} {lv : List (Nat × Value)} {st : List Value} {v : Int32} (C : Cx x cc nL RX0 rm) (hn : (wK w)[n]? = some (0, .inl fX0)) (hv : wI w n 8 = v) (d : decode cc pc = .ok (.getfield 42, 3)) (kk : V x cells slots w (pc + 3) lv (.int v :: st)) : V x cells slots w pc lv (.ref (gz (xG x) + n) :: st) := by subst hv; exact r_getI C hn rfl inX0 (by decide) mw2_92 rfl d kk
theorem mw2_93 : Cond.fieldLink RX0 46 "HeardTunes$Fitting" "length" "I" ∈ TT := tt_2 (List.mem_of_getElem? (i := 93) (by decide +kernel)) (by decide +kernel)
theorem gfX0_46 {x : Ct} {cc : ByteArray} {nL cells slots pc n : Nat} {rm : Room} {w : Wv} {lv : List (Nat × Value)} {st : List Value} {v : Int32} (C : Cx x cc nL RX0 rm) (hn : (wK w)[n]? = some (0, .inl fX0)) (hv : wI w n 9 = v) (d : decode cc pc = .ok (.getfield 46, 3)) (kk : V x cells slots w (pc + 3) lv (.int v :: st)) : V x cells slots w pc lv (.ref (gz (xG x) + n) :: st) := by subst hv; exact r_getI C hn rfl inX0 (by decide) mw2_93 rfl d kk
theorem gfX0_21 {x : Ct} {cc : ByteArray} {nL cells slots pc n : Nat} {rm : Room} {w : Wv} {lv : List (Nat × Value)} {st : List Value} (q : Nat) (C : Cx x cc nL RX0 rm) (hn : (wK w)[n]? = some (0, .inl fX0)) (hX : wX w n 5 = some q) (d : decode cc pc = .ok (.getfield 21, 3)) (kk : V x cells slots w (pc + 3) lv (.ref (gz (xG x) + q) :: st)) : V x cells slots w pc lv (.ref (gz (xG x) + n) :: st) := r_getX C hn rfl inX0 (by decide) mw2_89 rfl hX d kk
theorem pfX0_46 {x : Ct} {cc : ByteArray} {nL cells slots pc n : Nat} {rm : Room} {w : Wv} {lv : List (Nat × Value)} {st : List Value} {v : Int32} (C : Cx x cc nL RX0 rm) (hn : (wK w)[n]? = some (0, .inl fX0)) (d : decode cc pc = .ok (.putfield 46, 3)) (kk : ∀ w', w' = setI w n 9 v → V x cells slots w' (pc + 3) lv st) : V x cells slots w pc lv (.int v :: .ref (gz (xG x) + n) :: st) := r_putI (k := 9) C hn rfl inX0 tyX0 tyX0_ok nmX0 (by decide) mw2_93 rfl rfl rfl rfl d kk
theorem gfX0_31 {x : Ct} {cc : ByteArray} {nL cells slots pc n : Nat} {rm : Room} {w : Wv} {lv : List (Nat × Value)} {st : List Value} (q : Nat) (C : Cx x cc nL RX0 rm) (hn : (wK w)[n]? = some (0, .inl fX0)) (hX : wX w n 1 = some q) (d : decode cc pc = .ok (.getfield 31, 3)) (kk : V x cells slots w (pc + 3) lv (.ref (gz (xG x) + q) :: st)) : V x cells slots w pc lv (.ref (gz (xG x) + n) :: st) := r_getX C hn rfl inX0 (by decide) mw2_85 rfl hX d kk
theorem mw4_209 : Cond.methodLink RX0 50 yX7_latest ∈ TT := tt_4 (List.mem_of_getElem? (i := 209) (by decide +kernel)) (by decide +kernel)
theorem mw4_210 : Cond.instanceMethod yX7_latest ∈ TT := tt_4 (List.mem_of_getElem? (i := 210) (by decide +kernel)) (by decide +kernel)
theorem mw4_211 : Cond.selects RX7 yX7_latest yX7_latest ∈ TT := tt_4 (List.mem_of_getElem? (i := 211) (by decide +kernel)) (by decide +kernel)
theorem mw1_7 : Cond.initialized RX7 ∈ TT := tt_1 (List.mem_of_getElem? (i := 7) (by decide +kernel)) (by decide +kernel)
theorem mw4_212 : Cond.code yX7_latest cX7_latest 4 (some .int) ∈ TT := tt_4 (List.mem_of_getElem? (i := 212) rfl) rfl
theorem cwX0_50_V : CwV RX0 50 RX7 yX7_latest cX7_latest 4 (some .int) 1 := ⟨mw4_209, mw4_210, mw4_211, mw1_7, mw4_212, ⟨by decide, by decide, by decide⟩⟩
theorem mw2_94 : Cond.fieldLink RX0 56 "HeardTunes$Fitting" "latest" "I" ∈ TT := tt_2 (List.mem_of_getElem? (i := 94) (by decide +kernel)) (by decide +kernel)
theorem pfX0_56 {x : Ct} {cc : ByteArray} {nL cells slots pc n : Nat} {rm : Room} {w : Wv} {lv : List (Nat × Value)} {st : List Value} {v : Int32} (C : Cx x cc nL RX0 rm) (hn : (wK w)[n]? = some (0, .inl fX0)) (d : decode cc pc = .ok (.putfield 56, 3)) (kk : ∀ w', w' = setI w n 10 v → V x cells slots w' (pc + 3) lv st) : V x cells slots w pc lv (.int v :: .ref (gz (xG x) + n) :: st) := r_putI (k := 10) C hn rfl inX0 tyX0 tyX0_ok nmX0 (by decide) mw2_94 rfl rfl rfl rfl d kk
theorem mw2_95 : Cond.fieldLink RX0 58 "HeardTunes$Fitting" "tune" "I" ∈ TT := tt_2 (List.mem_of_getElem? (i := 95) (by decide +kernel)) (by decide +kernel)
theorem pfX0_58 {x : Ct} {cc : ByteArray} {nL cells slots pc n : Nat} {rm : Room} {w : Wv} {lv : List (Nat × Value)} {st : List Value} {v : Int32} (C : Cx x cc nL RX0 rm) (hn : (wK w)[n]? = some (0, .inl fX0)) (d : decode cc pc = .ok (.putfield 58, 3)) (kk : ∀ w', w' = setI w n 11 v → V x cells slots w' (pc + 3) lv st) : V x cells slots w pc lv (.int v :: .ref (gz (xG x) + n) :: st) := r_putI (k := 11) C hn rfl inX0 tyX0 tyX0_ok nmX0 (by decide) mw2_95 rfl rfl rfl rfl d kk
theorem pfX0_42 {x : Ct} {cc : ByteArray} {nL cells slots pc n : Nat} {rm : Room} {w : Wv} {lv : List (Nat × Value)} {st : List Value} {v : Int32} (C : Cx x cc nL RX0 rm) (hn : (wK w)[n]? = some (0, .inl fX0)) (hz : v = 0 ∨ v = 1) (d : decode cc pc = .ok (.putfield 42, 3)) (kk : ∀ w', w' = setI w n 8 v → V x cells slots w' (pc + 3) lv st) : V x cells slots w pc lv (.int v :: .ref (gz (xG x) + n) :: st) := r_putI (k := 8) C hn rfl inX0 tyX0 tyX0_ok nmX0 (by decide) mw2_92 rfl rfl (nar_z hz) (fit_z hz) d kk
theorem mw4_214 : Cond.methodLink RX0 61 yX6_copy ∈ TT := tt_4 (List.mem_of_getElem? (i := 214) (by decide +kernel)) (by decide +kernel)
theorem mw4_91 : Cond.instanceMethod yX6_copy ∈ TT := tt_4 (List.mem_of_getElem? (i := 91) (by decide +kernel)) (by decide +kernel)
theorem mw4_92 : Cond.selects RX6 yX6_copy yX6_copy ∈ TT := tt_4 (List.mem_of_getElem? (i := 92) (by decide +kernel)) (by decide +kernel)
theorem mw4_93 : Cond.code yX6_copy cX6_copy 3 none ∈ TT := tt_4 (List.mem_of_getElem? (i := 93) rfl) rfl
theorem cwX0_61_V : CwV RX0 61 RX6 yX6_copy cX6_copy 3 none 1 := ⟨mw4_214, mw4_91, mw4_92, mw1_5, mw4_93, ⟨by decide, by decide, by decide⟩⟩
theorem gfX0_35 {x : Ct} {cc : ByteArray} {nL cells slots pc n : Nat} {rm : Room} {w : Wv} {lv : List (Nat × Value)} {st : List Value} (q : Nat) (C : Cx x cc nL RX0 rm) (hn : (wK w)[n]? = some (0, .inl fX0)) (hX : wX w n 7 = some q) (d : decode cc pc = .ok (.getfield 35, 3)) (kk : V x cells slots w (pc + 3) lv (.ref (gz (xG x) + q) :: st)) : V x cells slots w pc lv (.ref (gz (xG x) + n) :: st) := r_getX C hn rfl inX0 (by decide) mw2_91 rfl hX d kk
theorem mw4_215 : Cond.methodLink RX0 65 yX3_clear ∈ TT := tt_4 (List.mem_of_getElem? (i := 215) (by decide +kernel)) (by decide +kernel)
theorem mw4_121 : Cond.instanceMethod yX3_clear ∈ TT := tt_4 (List.mem_of_getElem? (i := 121) (by decide +kernel)) (by decide +kernel)
theorem mw4_122 : Cond.selects RX3 yX3_clear yX3_clear ∈ TT := tt_4 (List.mem_of_getElem? (i := 122) (by decide +kernel)) (by decide +kernel)
theorem mw1_8 : Cond.initialized RX3 ∈ TT := tt_1 (List.mem_of_getElem? (i := 8) (by decide +kernel)) (by decide +kernel)
theorem mw4_123 : Cond.code yX3_clear cX3_clear 2 none ∈ TT := tt_4 (List.mem_of_getElem? (i := 123) rfl) rfl
theorem cwX0_65_V : CwV RX0 65 RX3 yX3_clear cX3_clear 2 none 0 := ⟨mw4_215, mw4_121, mw4_122, mw1_8, mw4_123, ⟨by decide, by decide, by decide⟩⟩
theorem mw4_216 : Cond.methodLink RX0 70 yX0_countFree ∈ TT := tt_4 (List.mem_of_getElem? (i := 216) (by decide +kernel)) (by decide +kernel)
theorem mw4_218 : Cond.instanceMethod yX0_countFree ∈ TT := tt_4 (List.mem_of_getElem? (i := 218) (by decide +kernel)) (by decide +kernel)
theorem ms3_0 : Cond.selects RX0 yX0_countFree yX0_countFree ∈ TT := tp_sel (tp_3 (List.mem_of_getElem? (i := 0) (by decide +kernel) : ((yX0_countFree, 12) : MethodName × Nat) ∈ lw_privs_3)) (by decide +kernel)
theorem mw1_10 : Cond.initialized RX0 ∈ TT := tt_1 (List.mem_of_getElem? (i := 10) (by decide +kernel)) (by decide +kernel)
theorem mw4_219 : Cond.code yX0_countFree cX0_countFree 4 none ∈ TT := tt_4 (List.mem_of_getElem? (i := 219) rfl) rfl
theorem cwX0_70_V : CwV RX0 70 RX0 yX0_countFree cX0_countFree 4 none 0 := ⟨mw4_216, mw4_218, ms3_0, mw1_10, mw4_219, ⟨by decide, by decide, by decide⟩⟩
theorem mw4_231 : Cond.methodLink RX0 73 yX0_fit ∈ TT := tt_4 (List.mem_of_getElem? (i := 231) (by decide +kernel)) (by decide +kernel)
theorem mw4_233 : Cond.instanceMethod yX0_fit ∈ TT := tt_4 (List.mem_of_getElem? (i := 233) (by decide +kernel)) (by decide +kernel)
theorem ms3_3 : Cond.selects RX0 yX0_fit yX0_fit ∈ TT := tp_sel (tp_3 (List.mem_of_getElem? (i := 3) (by decide +kernel) : ((yX0_fit, 12) : MethodName × Nat) ∈ lw_privs_3)) (by decide +kernel)
theorem mw4_234 : Cond.code yX0_fit cX0_fit 9 (some .int) ∈ TT := tt_4 (List.mem_of_getElem? (i := 234) rfl) rfl
theorem cwX0_73_V : CwV RX0 73 RX0 yX0_fit cX0_fit 9 (some .int) 1 := ⟨mw4_231, mw4_233, ms3_3, mw1_10, mw4_234, ⟨by decide, by decide, by decide⟩⟩
theorem mw2_83 : Cond.fieldLink RX0 76 "HeardTunes$Fitting" "count" "I" ∈ TT := tt_2 (List.mem_of_getElem? (i := 83) (by decide +kernel)) (by decide +kernel)
theorem pfX0_76 {x : Ct} {cc : ByteArray} {nL cells slots pc n : Nat} {rm : Room} {w : Wv} {lv : List (Nat × Value)} {st : List Value} {v : Int32} (C : Cx x cc nL RX0 rm) (hn : (wK w)[n]? = some (0, .inl fX0)) (d : decode cc pc = .ok (.putfield 76, 3)) (kk : ∀ w', w' = setI w n 0 v → V x cells slots w' (pc + 3) lv st) : V x cells slots w pc lv (.int v :: .ref (gz (xG x) + n) :: st) := r_putI (k := 0) C hn rfl inX0 tyX0 tyX0_ok nmX0 (by decide) mw2_83 rfl rfl rfl rfl d kk
theorem gfX0_27 {x : Ct} {cc : ByteArray} {nL cells slots pc n : Nat} {rm : Room} {w : Wv} {lv : List (Nat × Value)} {st : List Value} (q : Nat) (C : Cx x cc nL RX0 rm) (hn : (wK w)[n]? = some (0, .inl fX0)) (hX : wX w n 2 = some q) (d : decode cc pc = .ok (.getfield 27, 3)) (kk : V x cells slots w (pc + 3) lv (.ref (gz (xG x) + q) :: st)) : V x cells slots w pc lv (.ref (gz (xG x) + n) :: st) := r_getX C hn rfl inX0 (by decide) mw2_86 rfl hX d kk
theorem mw1_157 : Cond.fieldLink RX0 79 "HeardTunes$Ground" "count" "I" ∈ TT := tt_1 (List.mem_of_getElem? (i := 157) (by decide +kernel)) (by decide +kernel)
theorem gfX0_79 {x : Ct} {cc : ByteArray} {nL cells slots pc n : Nat} {rm : Room} {w : Wv} {lv : List (Nat × Value)} {st : List Value} {v : Int32} (C : Cx x cc nL RX0 rm) (hn : (wK w)[n]? = some (1, .inl fX1)) (hv : wI w n 0 = v) (d : decode cc pc = .ok (.getfield 79, 3)) (kk : V x cells slots w (pc + 3) lv (.int v :: st)) : V x cells slots w pc lv (.ref (gz (xG x) + n) :: st) := by subst hv; exact r_getI C hn rfl inX1 (by decide) mw1_157 rfl d kk
theorem gfX0_24 {x : Ct} {cc : ByteArray} {nL cells slots pc n : Nat} {rm : Room} {w : Wv} {lv : List (Nat × Value)} {st : List Value} (q : Nat) (C : Cx x cc nL RX0 rm) (hn : (wK w)[n]? = some (0, .inl fX0)) (hX : wX w n 6 = some q) (d : decode cc pc = .ok (.getfield 24, 3)) (kk : V x cells slots w (pc + 3) lv (.ref (gz (xG x) + q) :: st)) : V x cells slots w pc lv (.ref (gz (xG x) + n) :: st) := r_getX C hn rfl inX0 (by decide) mw2_90 rfl hX d kk
theorem gfX0_56 {x : Ct} {cc : ByteArray} {nL cells slots pc n : Nat} {rm : Room} {w : Wv} {lv : List (Nat × Value)} {st : List Value} {v : Int32} (C : Cx x cc nL RX0 rm) (hn : (wK w)[n]? = some (0, .inl fX0)) (hv : wI w n 10 = v) (d : decode cc pc = .ok (.getfield 56, 3)) (kk : V x cells slots w (pc + 3) lv (.int v :: st)) : V x cells slots w pc lv (.ref (gz (xG x) + n) :: st) := by subst hv; exact r_getI C hn rfl inX0 (by decide) mw2_94 rfl d kk
theorem mw1_195 : Cond.fieldLink RX0 82 "HeardTunes$Scene" "piper" "I" ∈ TT := tt_1 (List.mem_of_getElem? (i := 195) (by decide +kernel)) (by decide +kernel)
theorem pfX0_82 {x : Ct} {cc : ByteArray} {nL cells slots pc n : Nat} {rm : Room} {w : Wv} {lv : List (Nat × Value)} {st : List Value} {v : Int32} (C : Cx x cc nL RX0 rm) (hn : (wK w)[n]? = some (6, .inl fX6)) (d : decode cc pc = .ok (.putfield 82, 3)) (kk : ∀ w', w' = setI w n 0 v → V x cells slots w' (pc + 3) lv st) : V x cells slots w pc lv (.int v :: .ref (gz (xG x) + n) :: st) := r_putI (k := 0) C hn rfl inX6 tyX6 tyX6_ok nmX6 (by decide) mw1_195 rfl rfl rfl rfl d kk
theorem mw4_220 : Cond.methodLink RX0 85 yX0_countFreeFrom ∈ TT := tt_4 (List.mem_of_getElem? (i := 220) (by decide +kernel)) (by decide +kernel)
theorem mw4_222 : Cond.instanceMethod yX0_countFreeFrom ∈ TT := tt_4 (List.mem_of_getElem? (i := 222) (by decide +kernel)) (by decide +kernel)
theorem ms3_1 : Cond.selects RX0 yX0_countFreeFrom yX0_countFreeFrom ∈ TT := tp_sel (tp_3 (List.mem_of_getElem? (i := 1) (by decide +kernel) : ((yX0_countFreeFrom, 12) : MethodName × Nat) ∈ lw_privs_3)) (by decide +kernel)
theorem mw4_223 : Cond.code yX0_countFreeFrom cX0_countFreeFrom 5 (some .int) ∈ TT := tt_4 (List.mem_of_getElem? (i := 223) rfl) rfl
theorem cwX0_85_V : CwV RX0 85 RX0 yX0_countFreeFrom cX0_countFreeFrom 5 (some .int) 2 := ⟨mw4_220, mw4_222, ms3_1, mw1_10, mw4_223, ⟨by decide, by decide, by decide⟩⟩
theorem gfX0_82 {x : Ct} {cc : ByteArray} {nL cells slots pc n : Nat} {rm : Room} {w : Wv} {lv : List (Nat × Value)} {st : List Value} {v : Int32} (C : Cx x cc nL RX0 rm) (hn : (wK w)[n]? = some (6, .inl fX6)) (hv : wI w n 0 = v) (d : decode cc pc = .ok (.getfield 82, 3)) (kk : V x cells slots w (pc + 3) lv (.int v :: st)) : V x cells slots w pc lv (.ref (gz (xG x) + n) :: st) := by subst hv; exact r_getI C hn rfl inX6 (by decide) mw1_195 rfl d kk
theorem mw4_224 : Cond.methodLink RX0 89 yX0_freeFrom ∈ TT := tt_4 (List.mem_of_getElem? (i := 224) (by decide +kernel)) (by decide +kernel)
theorem mw4_226 : Cond.instanceMethod yX0_freeFrom ∈ TT := tt_4 (List.mem_of_getElem? (i := 226) (by decide +kernel)) (by decide +kernel)
theorem ms3_2 : Cond.selects RX0 yX0_freeFrom yX0_freeFrom ∈ TT := tp_sel (tp_3 (List.mem_of_getElem? (i := 2) (by decide +kernel) : ((yX0_freeFrom, 12) : MethodName × Nat) ∈ lw_privs_3)) (by decide +kernel)
theorem mw4_227 : Cond.code yX0_freeFrom cX0_freeFrom 3 (some .int) ∈ TT := tt_4 (List.mem_of_getElem? (i := 227) rfl) rfl
theorem cwX0_89_V : CwV RX0 89 RX0 yX0_freeFrom cX0_freeFrom 3 (some .int) 2 := ⟨mw4_224, mw4_226, ms3_2, mw1_10, mw4_227, ⟨by decide, by decide, by decide⟩⟩
theorem mw4_229 : Cond.methodLink RX0 93 yX6_may ∈ TT := tt_4 (List.mem_of_getElem? (i := 229) (by decide +kernel)) (by decide +kernel)
theorem mw4_21 : Cond.instanceMethod yX6_may ∈ TT := tt_4 (List.mem_of_getElem? (i := 21) (by decide +kernel)) (by decide +kernel)
theorem mw4_22 : Cond.selects RX6 yX6_may yX6_may ∈ TT := tt_4 (List.mem_of_getElem? (i := 22) (by decide +kernel)) (by decide +kernel)
theorem mw4_23 : Cond.code yX6_may cX6_may 3 (some .boolean) ∈ TT := tt_4 (List.mem_of_getElem? (i := 23) rfl) rfl
theorem cwX0_93_V : CwV RX0 93 RX6 yX6_may cX6_may 3 (some .boolean) 1 := ⟨mw4_229, mw4_21, mw4_22, mw1_5, mw4_23, ⟨by decide, by decide, by decide⟩⟩
theorem mw4_230 : Cond.methodLink RX0 97 yX1_beside ∈ TT := tt_4 (List.mem_of_getElem? (i := 230) (by decide +kernel)) (by decide +kernel)
theorem mw4_25 : Cond.instanceMethod yX1_beside ∈ TT := tt_4 (List.mem_of_getElem? (i := 25) (by decide +kernel)) (by decide +kernel)
theorem mw4_26 : Cond.selects RX1 yX1_beside yX1_beside ∈ TT := tt_4 (List.mem_of_getElem? (i := 26) (by decide +kernel)) (by decide +kernel)
theorem mw1_4 : Cond.initialized RX1 ∈ TT := tt_1 (List.mem_of_getElem? (i := 4) (by decide +kernel)) (by decide +kernel)
theorem mw4_27 : Cond.code yX1_beside cX1_beside 4 (some .int) ∈ TT := tt_4 (List.mem_of_getElem? (i := 27) rfl) rfl
theorem cwX0_97_V : CwV RX0 97 RX1 yX1_beside cX1_beside 4 (some .int) 2 := ⟨mw4_230, mw4_25, mw4_26, mw1_4, mw4_27, ⟨by decide, by decide, by decide⟩⟩
theorem mw4_228 : Cond.methodLink RX0 100 yX1_isCell ∈ TT := tt_4 (List.mem_of_getElem? (i := 228) (by decide +kernel)) (by decide +kernel)
theorem mw3_109 : Cond.static yX1_isCell ∈ TT := tt_3 (List.mem_of_getElem? (i := 109) (by decide +kernel)) (by decide +kernel)
theorem mw3_110 : Cond.code yX1_isCell cX1_isCell 1 (some .boolean) ∈ TT := tt_3 (List.mem_of_getElem? (i := 110) rfl) rfl
theorem cwX0_100_S : CwS RX0 100 yX1_isCell cX1_isCell 1 (some .boolean) 1 := ⟨mw4_228, mw3_109, mw1_4, mw3_110, ⟨by decide, by decide, by decide⟩⟩
theorem mw4_235 : Cond.methodLink RX0 103 yX0_keepFirst ∈ TT := tt_4 (List.mem_of_getElem? (i := 235) (by decide +kernel)) (by decide +kernel)
theorem mw4_237 : Cond.instanceMethod yX0_keepFirst ∈ TT := tt_4 (List.mem_of_getElem? (i := 237) (by decide +kernel)) (by decide +kernel)
theorem ms3_4 : Cond.selects RX0 yX0_keepFirst yX0_keepFirst ∈ TT := tp_sel (tp_3 (List.mem_of_getElem? (i := 4) (by decide +kernel) : ((yX0_keepFirst, 12) : MethodName × Nat) ∈ lw_privs_3)) (by decide +kernel)
theorem mw4_238 : Cond.code yX0_keepFirst cX0_keepFirst 2 none ∈ TT := tt_4 (List.mem_of_getElem? (i := 238) rfl) rfl
theorem cwX0_103_V : CwV RX0 103 RX0 yX0_keepFirst cX0_keepFirst 2 none 0 := ⟨mw4_235, mw4_237, ms3_4, mw1_10, mw4_238, ⟨by decide, by decide, by decide⟩⟩
theorem mw4_239 : Cond.methodLink RX0 106 yX6_places ∈ TT := tt_4 (List.mem_of_getElem? (i := 239) (by decide +kernel)) (by decide +kernel)
theorem mw4_147 : Cond.instanceMethod yX6_places ∈ TT := tt_4 (List.mem_of_getElem? (i := 147) (by decide +kernel)) (by decide +kernel)
theorem mw4_148 : Cond.selects RX6 yX6_places yX6_places ∈ TT := tt_4 (List.mem_of_getElem? (i := 148) (by decide +kernel)) (by decide +kernel)
theorem mw4_149 : Cond.code yX6_places cX6_places 4 (some .long) ∈ TT := tt_4 (List.mem_of_getElem? (i := 149) rfl) rfl
theorem cwX0_106_V : CwV RX0 106 RX6 yX6_places cX6_places 4 (some .long) 0 := ⟨mw4_239, mw4_147, mw4_148, mw1_5, mw4_149, ⟨by decide, by decide, by decide⟩⟩
theorem mw5_0 : Cond.methodLink RX0 110 yX6_goals ∈ TT := tt_5 (List.mem_of_getElem? (i := 0) (by decide +kernel)) (by decide +kernel)
theorem mw4_151 : Cond.instanceMethod yX6_goals ∈ TT := tt_4 (List.mem_of_getElem? (i := 151) (by decide +kernel)) (by decide +kernel)
theorem mw4_152 : Cond.selects RX6 yX6_goals yX6_goals ∈ TT := tt_4 (List.mem_of_getElem? (i := 152) (by decide +kernel)) (by decide +kernel)
theorem mw4_153 : Cond.code yX6_goals cX6_goals 4 (some .long) ∈ TT := tt_4 (List.mem_of_getElem? (i := 153) rfl) rfl
theorem cwX0_110_V : CwV RX0 110 RX6 yX6_goals cX6_goals 4 (some .long) 0 := ⟨mw5_0, mw4_151, mw4_152, mw1_5, mw4_153, ⟨by decide, by decide, by decide⟩⟩
theorem mw5_1 : Cond.methodLink RX0 113 yX3_value ∈ TT := tt_5 (List.mem_of_getElem? (i := 1) (by decide +kernel)) (by decide +kernel)
theorem mw4_155 : Cond.instanceMethod yX3_value ∈ TT := tt_4 (List.mem_of_getElem? (i := 155) (by decide +kernel)) (by decide +kernel)
theorem mw4_156 : Cond.selects RX3 yX3_value yX3_value ∈ TT := tt_4 (List.mem_of_getElem? (i := 156) (by decide +kernel)) (by decide +kernel)
theorem mw4_157 : Cond.code yX3_value cX3_value 6 (some .int) ∈ TT := tt_4 (List.mem_of_getElem? (i := 157) rfl) rfl
theorem cwX0_113_V : CwV RX0 113 RX3 yX3_value cX3_value 6 (some .int) 2 := ⟨mw5_1, mw4_155, mw4_156, mw1_8, mw4_157, ⟨by decide, by decide, by decide⟩⟩
theorem mw5_2 : Cond.methodLink RX0 117 yX0_fitSteps ∈ TT := tt_5 (List.mem_of_getElem? (i := 2) (by decide +kernel)) (by decide +kernel)
theorem mw5_4 : Cond.instanceMethod yX0_fitSteps ∈ TT := tt_5 (List.mem_of_getElem? (i := 4) (by decide +kernel)) (by decide +kernel)
theorem ms3_5 : Cond.selects RX0 yX0_fitSteps yX0_fitSteps ∈ TT := tp_sel (tp_3 (List.mem_of_getElem? (i := 5) (by decide +kernel) : ((yX0_fitSteps, 12) : MethodName × Nat) ∈ lw_privs_3)) (by decide +kernel)
theorem mw5_5 : Cond.code yX0_fitSteps cX0_fitSteps 4 (some .int) ∈ TT := tt_5 (List.mem_of_getElem? (i := 5) rfl) rfl
theorem cwX0_117_V : CwV RX0 117 RX0 yX0_fitSteps cX0_fitSteps 4 (some .int) 1 := ⟨mw5_2, mw5_4, ms3_5, mw1_10, mw5_5, ⟨by decide, by decide, by decide⟩⟩
theorem mw5_12 : Cond.methodLink RX0 120 yX3_put ∈ TT := tt_5 (List.mem_of_getElem? (i := 12) (by decide +kernel)) (by decide +kernel)
theorem mw4_170 : Cond.instanceMethod yX3_put ∈ TT := tt_4 (List.mem_of_getElem? (i := 170) (by decide +kernel)) (by decide +kernel)
theorem mw4_171 : Cond.selects RX3 yX3_put yX3_put ∈ TT := tt_4 (List.mem_of_getElem? (i := 171) (by decide +kernel)) (by decide +kernel)
theorem mw4_172 : Cond.code yX3_put cX3_put 7 none ∈ TT := tt_4 (List.mem_of_getElem? (i := 172) rfl) rfl
theorem cwX0_120_V : CwV RX0 120 RX3 yX3_put cX3_put 7 none 3 := ⟨mw5_12, mw4_170, mw4_171, mw1_8, mw4_172, ⟨by decide, by decide, by decide⟩⟩
theorem gfX0_58 {x : Ct} {cc : ByteArray} {nL cells slots pc n : Nat} {rm : Room} {w : Wv} {lv : List (Nat × Value)} {st : List Value} {v : Int32} (C : Cx x cc nL RX0 rm) (hn : (wK w)[n]? = some (0, .inl fX0)) (hv : wI w n 11 = v) (d : decode cc pc = .ok (.getfield 58, 3)) (kk : V x cells slots w (pc + 3) lv (.int v :: st)) : V x cells slots w pc lv (.ref (gz (xG x) + n) :: st) := by subst hv; exact r_getI C hn rfl inX0 (by decide) mw2_95 rfl d kk
theorem mw5_6 : Cond.methodLink RX0 124 yX6_pass ∈ TT := tt_5 (List.mem_of_getElem? (i := 6) (by decide +kernel)) (by decide +kernel)
theorem mw4_31 : Cond.instanceMethod yX6_pass ∈ TT := tt_4 (List.mem_of_getElem? (i := 31) (by decide +kernel)) (by decide +kernel)
theorem mw4_32 : Cond.selects RX6 yX6_pass yX6_pass ∈ TT := tt_4 (List.mem_of_getElem? (i := 32) (by decide +kernel)) (by decide +kernel)
theorem mw4_33 : Cond.code yX6_pass cX6_pass 4 none ∈ TT := tt_4 (List.mem_of_getElem? (i := 33) rfl) rfl
theorem cwX0_124_V : CwV RX0 124 RX6 yX6_pass cX6_pass 4 none 2 := ⟨mw5_6, mw4_31, mw4_32, mw1_5, mw4_33, ⟨by decide, by decide, by decide⟩⟩
theorem gfX0_17 {x : Ct} {cc : ByteArray} {nL cells slots pc n : Nat} {rm : Room} {w : Wv} {lv : List (Nat × Value)} {st : List Value} (q : Nat) (C : Cx x cc nL RX0 rm) (hn : (wK w)[n]? = some (0, .inl fX0)) (hX : wX w n 4 = some q) (d : decode cc pc = .ok (.getfield 17, 3)) (kk : V x cells slots w (pc + 3) lv (.ref (gz (xG x) + q) :: st)) : V x cells slots w pc lv (.ref (gz (xG x) + n) :: st) := r_getX C hn rfl inX0 (by decide) mw2_88 rfl hX d kk
theorem mw5_7 : Cond.methodLink RX0 128 yX7_fits ∈ TT := tt_5 (List.mem_of_getElem? (i := 7) (by decide +kernel)) (by decide +kernel)
theorem mw5_8 : Cond.instanceMethod yX7_fits ∈ TT := tt_5 (List.mem_of_getElem? (i := 8) (by decide +kernel)) (by decide +kernel)
theorem mw5_9 : Cond.selects RX7 yX7_fits yX7_fits ∈ TT := tt_5 (List.mem_of_getElem? (i := 9) (by decide +kernel)) (by decide +kernel)
theorem mw5_10 : Cond.code yX7_fits cX7_fits 5 (some .boolean) ∈ TT := tt_5 (List.mem_of_getElem? (i := 10) rfl) rfl
theorem cwX0_128_V : CwV RX0 128 RX7 yX7_fits cX7_fits 5 (some .boolean) 2 := ⟨mw5_7, mw5_8, mw5_9, mw1_7, mw5_10, ⟨by decide, by decide, by decide⟩⟩
theorem mw1_153 : Cond.methodLink RX1 3 objectInit ∈ TT := tt_1 (List.mem_of_getElem? (i := 153) (by decide +kernel)) (by decide +kernel)
theorem mw1_159 : Cond.fieldLink RX1 9 "HeardTunes$Ground" "whats" "[I" ∈ TT := tt_1 (List.mem_of_getElem? (i := 159) (by decide +kernel)) (by decide +kernel)
theorem pfX1_9 {x : Ct} {cc : ByteArray} {nL cells slots pc n : Nat} {rm : Room} {w : Wv} {lv : List (Nat × Value)} {st : List Value} {q : Nat} (C : Cx x cc nL RX1 rm) (hin2 : (xM x).name = "<init>") (hn : (wK w)[n]? = some (1, .inl fX1)) (d : decode cc pc = .ok (.putfield 9, 3)) (kk : ∀ w', w' = setX w n 1 (some q) → V x cells slots w' (pc + 3) lv st) : V x cells slots w pc lv (.ref (gz (xG x) + q) :: .ref (gz (xG x) + n) :: st) := r_putX C hin2 hn rfl inX1 tyX1 tyX1_ok nmX1 (by decide) mw1_159 rfl rfl rfl rfl rfl d kk
theorem mw1_163 : Cond.fieldLink RX1 15 "HeardTunes$Ground" "codes" "[I" ∈ TT := tt_1 (List.mem_of_getElem? (i := 163) (by decide +kernel)) (by decide +kernel)
theorem pfX1_15 {x : Ct} {cc : ByteArray} {nL cells slots pc n : Nat} {rm : Room} {w : Wv} {lv : List (Nat × Value)} {st : List Value} {q : Nat} (C : Cx x cc nL RX1 rm) (hin2 : (xM x).name = "<init>") (hn : (wK w)[n]? = some (1, .inl fX1)) (d : decode cc pc = .ok (.putfield 15, 3)) (kk : ∀ w', w' = setX w n 4 (some q) → V x cells slots w' (pc + 3) lv st) : V x cells slots w pc lv (.ref (gz (xG x) + q) :: .ref (gz (xG x) + n) :: st) := r_putX C hin2 hn rfl inX1 tyX1 tyX1_ok nmX1 (by decide) mw1_163 rfl rfl rfl rfl rfl d kk
theorem mw1_164 : Cond.fieldLink RX1 18 "HeardTunes$Ground" "besides" "[I" ∈ TT := tt_1 (List.mem_of_getElem? (i := 164) (by decide +kernel)) (by decide +kernel)
theorem pfX1_18 {x : Ct} {cc : ByteArray} {nL cells slots pc n : Nat} {rm : Room} {w : Wv} {lv : List (Nat × Value)} {st : List Value} {q : Nat} (C : Cx x cc nL RX1 rm) (hin2 : (xM x).name = "<init>") (hn : (wK w)[n]? = some (1, .inl fX1)) (d : decode cc pc = .ok (.putfield 18, 3)) (kk : ∀ w', w' = setX w n 5 (some q) → V x cells slots w' (pc + 3) lv st) : V x cells slots w pc lv (.ref (gz (xG x) + q) :: .ref (gz (xG x) + n) :: st) := r_putX C hin2 hn rfl inX1 tyX1 tyX1_ok nmX1 (by decide) mw1_164 rfl rfl rfl rfl rfl d kk
theorem mw1_165 : Cond.fieldLink RX1 21 "HeardTunes$Ground" "ways" "[I" ∈ TT := tt_1 (List.mem_of_getElem? (i := 165) (by decide +kernel)) (by decide +kernel)
theorem pfX1_21 {x : Ct} {cc : ByteArray} {nL cells slots pc n : Nat} {rm : Room} {w : Wv} {lv : List (Nat × Value)} {st : List Value} {q : Nat} (C : Cx x cc nL RX1 rm) (hin2 : (xM x).name = "<init>") (hn : (wK w)[n]? = some (1, .inl fX1)) (d : decode cc pc = .ok (.putfield 21, 3)) (kk : ∀ w', w' = setX w n 6 (some q) → V x cells slots w' (pc + 3) lv st) : V x cells slots w pc lv (.ref (gz (xG x) + q) :: .ref (gz (xG x) + n) :: st) := r_putX C hin2 hn rfl inX1 tyX1 tyX1_ok nmX1 (by decide) mw1_165 rfl rfl rfl rfl rfl d kk
theorem mw1_166 : Cond.fieldLink RX1 24 "HeardTunes$Ground" "isFound" "[Z" ∈ TT := tt_1 (List.mem_of_getElem? (i := 166) (by decide +kernel)) (by decide +kernel)
theorem pfX1_24 {x : Ct} {cc : ByteArray} {nL cells slots pc n : Nat} {rm : Room} {w : Wv} {lv : List (Nat × Value)} {st : List Value} {q : Nat} (C : Cx x cc nL RX1 rm) (hin2 : (xM x).name = "<init>") (hn : (wK w)[n]? = some (1, .inl fX1)) (d : decode cc pc = .ok (.putfield 24, 3)) (kk : ∀ w', w' = setX w n 7 (some q) → V x cells slots w' (pc + 3) lv st) : V x cells slots w pc lv (.ref (gz (xG x) + q) :: .ref (gz (xG x) + n) :: st) := r_putX C hin2 hn rfl inX1 tyX1 tyX1_ok nmX1 (by decide) mw1_166 rfl rfl rfl rfl rfl d kk
theorem mw1_167 : Cond.fieldLink RX1 28 "HeardTunes$Ground" "queue" "[I" ∈ TT := tt_1 (List.mem_of_getElem? (i := 167) (by decide +kernel)) (by decide +kernel)
theorem pfX1_28 {x : Ct} {cc : ByteArray} {nL cells slots pc n : Nat} {rm : Room} {w : Wv} {lv : List (Nat × Value)} {st : List Value} {q : Nat} (C : Cx x cc nL RX1 rm) (hin2 : (xM x).name = "<init>") (hn : (wK w)[n]? = some (1, .inl fX1)) (d : decode cc pc = .ok (.putfield 28, 3)) (kk : ∀ w', w' = setX w n 8 (some q) → V x cells slots w' (pc + 3) lv st) : V x cells slots w pc lv (.ref (gz (xG x) + q) :: .ref (gz (xG x) + n) :: st) := r_putX C hin2 hn rfl inX1 tyX1 tyX1_ok nmX1 (by decide) mw1_167 rfl rfl rfl rfl rfl d kk
theorem mw1_62 : Cond.fieldLink RX1 31 "HeardTunes$Town" "width" "I" ∈ TT := tt_1 (List.mem_of_getElem? (i := 62) (by decide +kernel)) (by decide +kernel)
theorem gfX1_31 {x : Ct} {cc : ByteArray} {nL cells slots pc n : Nat} {rm : Room} {w : Wv} {lv : List (Nat × Value)} {st : List Value} {v : Int32} (C : Cx x cc nL RX1 rm) (hn : (wK w)[n]? = some (9, .inl fX9)) (hv : wI w n 0 = v) (d : decode cc pc = .ok (.getfield 31, 3)) (kk : V x cells slots w (pc + 3) lv (.int v :: st)) : V x cells slots w pc lv (.ref (gz (xG x) + n) :: st) := by subst hv; exact r_getI C hn rfl inX9 (by decide) mw1_62 rfl d kk
theorem mw1_161 : Cond.fieldLink RX1 37 "HeardTunes$Ground" "width" "I" ∈ TT := tt_1 (List.mem_of_getElem? (i := 161) (by decide +kernel)) (by decide +kernel)
theorem pfX1_37 {x : Ct} {cc : ByteArray} {nL cells slots pc n : Nat} {rm : Room} {w : Wv} {lv : List (Nat × Value)} {st : List Value} {v : Int32} (C : Cx x cc nL RX1 rm) (hn : (wK w)[n]? = some (1, .inl fX1)) (d : decode cc pc = .ok (.putfield 37, 3)) (kk : ∀ w', w' = setI w n 2 v → V x cells slots w' (pc + 3) lv st) : V x cells slots w pc lv (.int v :: .ref (gz (xG x) + n) :: st) := r_putI (k := 2) C hn rfl inX1 tyX1 tyX1_ok nmX1 (by decide) mw1_161 rfl rfl rfl rfl d kk
theorem mw1_66 : Cond.fieldLink RX1 38 "HeardTunes$Town" "height" "I" ∈ TT := tt_1 (List.mem_of_getElem? (i := 66) (by decide +kernel)) (by decide +kernel)
theorem gfX1_38 {x : Ct} {cc : ByteArray} {nL cells slots pc n : Nat} {rm : Room} {w : Wv} {lv : List (Nat × Value)} {st : List Value} {v : Int32} (C : Cx x cc nL RX1 rm) (hn : (wK w)[n]? = some (9, .inl fX9)) (hv : wI w n 1 = v) (d : decode cc pc = .ok (.getfield 38, 3)) (kk : V x cells slots w (pc + 3) lv (.int v :: st)) : V x cells slots w pc lv (.ref (gz (xG x) + n) :: st) := by subst hv; exact r_getI C hn rfl inX9 (by decide) mw1_66 rfl d kk
theorem mw1_162 : Cond.fieldLink RX1 41 "HeardTunes$Ground" "height" "I" ∈ TT := tt_1 (List.mem_of_getElem? (i := 162) (by decide +kernel)) (by decide +kernel)
theorem pfX1_41 {x : Ct} {cc : ByteArray} {nL cells slots pc n : Nat} {rm : Room} {w : Wv} {lv : List (Nat × Value)} {st : List Value} {v : Int32} (C : Cx x cc nL RX1 rm) (hn : (wK w)[n]? = some (1, .inl fX1)) (d : decode cc pc = .ok (.putfield 41, 3)) (kk : ∀ w', w' = setI w n 3 v → V x cells slots w' (pc + 3) lv st) : V x cells slots w pc lv (.int v :: .ref (gz (xG x) + n) :: st) := r_putI (k := 3) C hn rfl inX1 tyX1 tyX1_ok nmX1 (by decide) mw1_162 rfl rfl rfl rfl d kk
theorem gfX1_37 {x : Ct} {cc : ByteArray} {nL cells slots pc n : Nat} {rm : Room} {w : Wv} {lv : List (Nat × Value)} {st : List Value} {v : Int32} (C : Cx x cc nL RX1 rm) (hn : (wK w)[n]? = some (1, .inl fX1)) (hv : wI w n 2 = v) (d : decode cc pc = .ok (.getfield 37, 3)) (kk : V x cells slots w (pc + 3) lv (.int v :: st)) : V x cells slots w pc lv (.ref (gz (xG x) + n) :: st) := by subst hv; exact r_getI C hn rfl inX1 (by decide) mw1_161 rfl d kk
theorem gfX1_41 {x : Ct} {cc : ByteArray} {nL cells slots pc n : Nat} {rm : Room} {w : Wv} {lv : List (Nat × Value)} {st : List Value} {v : Int32} (C : Cx x cc nL RX1 rm) (hn : (wK w)[n]? = some (1, .inl fX1)) (hv : wI w n 3 = v) (d : decode cc pc = .ok (.getfield 41, 3)) (kk : V x cells slots w (pc + 3) lv (.int v :: st)) : V x cells slots w pc lv (.ref (gz (xG x) + n) :: st) := by subst hv; exact r_getI C hn rfl inX1 (by decide) mw1_162 rfl d kk
theorem mw2_153 : Cond.methodLink RX1 42 yJ9_min_7cf53 ∈ TT := tt_2 (List.mem_of_getElem? (i := 153) (by decide +kernel)) (by decide +kernel)
theorem mw2_154 : Cond.static yJ9_min_7cf53 ∈ TT := tt_2 (List.mem_of_getElem? (i := 154) (by decide +kernel)) (by decide +kernel)
theorem mw1_12 : Cond.initialized RJ9 ∈ TT := tt_1 (List.mem_of_getElem? (i := 12) (by decide +kernel)) (by decide +kernel)
theorem mw2_155 : Cond.code yJ9_min_7cf53 cJ9_min_7cf53 2 (some .int) ∈ TT := tt_2 (List.mem_of_getElem? (i := 155) rfl) rfl
theorem mw1_154 : Cond.fieldLink RX1 48 "HeardTunes$Ground" "count" "I" ∈ TT := tt_1 (List.mem_of_getElem? (i := 154) (by decide +kernel)) (by decide +kernel)
theorem pfX1_48 {x : Ct} {cc : ByteArray} {nL cells slots pc n : Nat} {rm : Room} {w : Wv} {lv : List (Nat × Value)} {st : List Value} {v : Int32} (C : Cx x cc nL RX1 rm) (hn : (wK w)[n]? = some (1, .inl fX1)) (d : decode cc pc = .ok (.putfield 48, 3)) (kk : ∀ w', w' = setI w n 0 v → V x cells slots w' (pc + 3) lv st) : V x cells slots w pc lv (.int v :: .ref (gz (xG x) + n) :: st) := r_putI (k := 0) C hn rfl inX1 tyX1 tyX1_ok nmX1 (by decide) mw1_154 rfl rfl rfl rfl d kk
theorem mw2_156 : Cond.methodLink RX1 51 yX1_layCell ∈ TT := tt_2 (List.mem_of_getElem? (i := 156) (by decide +kernel)) (by decide +kernel)
theorem mw2_158 : Cond.instanceMethod yX1_layCell ∈ TT := tt_2 (List.mem_of_getElem? (i := 158) (by decide +kernel)) (by decide +kernel)
theorem ms1_1 : Cond.selects RX1 yX1_layCell yX1_layCell ∈ TT := tp_sel (tp_1 (List.mem_of_getElem? (i := 1) (by decide +kernel) : ((yX1_layCell, 9) : MethodName × Nat) ∈ lw_privs_1)) (by decide +kernel)
theorem mw2_159 : Cond.code yX1_layCell cX1_layCell 4 none ∈ TT := tt_2 (List.mem_of_getElem? (i := 159) rfl) rfl
theorem cwX1_51_V : CwV RX1 51 RX1 yX1_layCell cX1_layCell 4 none 2 := ⟨mw2_156, mw2_158, ms1_1, mw1_4, mw2_159, ⟨by decide, by decide, by decide⟩⟩
theorem mw1_91 : Cond.fieldLink RX1 55 "HeardTunes$Town" "what" "[I" ∈ TT := tt_1 (List.mem_of_getElem? (i := 91) (by decide +kernel)) (by decide +kernel)
theorem gfX1_55 {x : Ct} {cc : ByteArray} {nL cells slots pc n : Nat} {rm : Room} {w : Wv} {lv : List (Nat × Value)} {st : List Value} (q : Nat) (C : Cx x cc nL RX1 rm) (hn : (wK w)[n]? = some (9, .inl fX9)) (hX : wX w n 9 = some q) (d : decode cc pc = .ok (.getfield 55, 3)) (kk : V x cells slots w (pc + 3) lv (.ref (gz (xG x) + q) :: st)) : V x cells slots w pc lv (.ref (gz (xG x) + n) :: st) := r_getX C hn rfl inX9 (by decide) mw1_91 rfl hX d kk
theorem mw2_160 : Cond.methodLink RX1 58 yX1_takeWhats ∈ TT := tt_2 (List.mem_of_getElem? (i := 160) (by decide +kernel)) (by decide +kernel)
theorem mw2_161 : Cond.instanceMethod yX1_takeWhats ∈ TT := tt_2 (List.mem_of_getElem? (i := 161) (by decide +kernel)) (by decide +kernel)
theorem mw2_162 : Cond.selects RX1 yX1_takeWhats yX1_takeWhats ∈ TT := tt_2 (List.mem_of_getElem? (i := 162) (by decide +kernel)) (by decide +kernel)
theorem mw2_163 : Cond.code yX1_takeWhats cX1_takeWhats 3 none ∈ TT := tt_2 (List.mem_of_getElem? (i := 163) rfl) rfl
theorem cwX1_58_V : CwV RX1 58 RX1 yX1_takeWhats cX1_takeWhats 3 none 1 := ⟨mw2_160, mw2_161, mw2_162, mw1_4, mw2_163, ⟨by decide, by decide, by decide⟩⟩
theorem gfX1_15 {x : Ct} {cc : ByteArray} {nL cells slots pc n : Nat} {rm : Room} {w : Wv} {lv : List (Nat × Value)} {st : List Value} (q : Nat) (C : Cx x cc nL RX1 rm) (hn : (wK w)[n]? = some (1, .inl fX1)) (hX : wX w n 4 = some q) (d : decode cc pc = .ok (.getfield 15, 3)) (kk : V x cells slots w (pc + 3) lv (.ref (gz (xG x) + q) :: st)) : V x cells slots w pc lv (.ref (gz (xG x) + n) :: st) := r_getX C hn rfl inX1 (by decide) mw1_163 rfl hX d kk
theorem gfX1_18 {x : Ct} {cc : ByteArray} {nL cells slots pc n : Nat} {rm : Room} {w : Wv} {lv : List (Nat × Value)} {st : List Value} (q : Nat) (C : Cx x cc nL RX1 rm) (hn : (wK w)[n]? = some (1, .inl fX1)) (hX : wX w n 5 = some q) (d : decode cc pc = .ok (.getfield 18, 3)) (kk : V x cells slots w (pc + 3) lv (.ref (gz (xG x) + q) :: st)) : V x cells slots w pc lv (.ref (gz (xG x) + n) :: st) := r_getX C hn rfl inX1 (by decide) mw1_164 rfl hX d kk
theorem gfX1_9 {x : Ct} {cc : ByteArray} {nL cells slots pc n : Nat} {rm : Room} {w : Wv} {lv : List (Nat × Value)} {st : List Value} (q : Nat) (C : Cx x cc nL RX1 rm) (hn : (wK w)[n]? = some (1, .inl fX1)) (hX : wX w n 1 = some q) (d : decode cc pc = .ok (.getfield 9, 3)) (kk : V x cells slots w (pc + 3) lv (.ref (gz (xG x) + q) :: st)) : V x cells slots w pc lv (.ref (gz (xG x) + n) :: st) := r_getX C hn rfl inX1 (by decide) mw1_159 rfl hX d kk
theorem mw2_164 : Cond.methodLink RX1 62 yX1_forgetWays ∈ TT := tt_2 (List.mem_of_getElem? (i := 164) (by decide +kernel)) (by decide +kernel)
theorem mw2_166 : Cond.instanceMethod yX1_forgetWays ∈ TT := tt_2 (List.mem_of_getElem? (i := 166) (by decide +kernel)) (by decide +kernel)
theorem ms1_2 : Cond.selects RX1 yX1_forgetWays yX1_forgetWays ∈ TT := tp_sel (tp_1 (List.mem_of_getElem? (i := 2) (by decide +kernel) : ((yX1_forgetWays, 9) : MethodName × Nat) ∈ lw_privs_1)) (by decide +kernel)
theorem mw2_167 : Cond.code yX1_forgetWays cX1_forgetWays 2 none ∈ TT := tt_2 (List.mem_of_getElem? (i := 167) rfl) rfl
theorem cwX1_62_V : CwV RX1 62 RX1 yX1_forgetWays cX1_forgetWays 2 none 0 := ⟨mw2_164, mw2_166, ms1_2, mw1_4, mw2_167, ⟨by decide, by decide, by decide⟩⟩
theorem mw3_168 : Cond.methodLink RX1 65 yX1_isCell ∈ TT := tt_3 (List.mem_of_getElem? (i := 168) (by decide +kernel)) (by decide +kernel)
theorem cwX1_65_S : CwS RX1 65 yX1_isCell cX1_isCell 1 (some .boolean) 1 := ⟨mw3_168, mw3_109, mw1_4, mw3_110, ⟨by decide, by decide, by decide⟩⟩
theorem gfX1_24 {x : Ct} {cc : ByteArray} {nL cells slots pc n : Nat} {rm : Room} {w : Wv} {lv : List (Nat × Value)} {st : List Value} (q : Nat) (C : Cx x cc nL RX1 rm) (hn : (wK w)[n]? = some (1, .inl fX1)) (hX : wX w n 7 = some q) (d : decode cc pc = .ok (.getfield 24, 3)) (kk : V x cells slots w (pc + 3) lv (.ref (gz (xG x) + q) :: st)) : V x cells slots w pc lv (.ref (gz (xG x) + n) :: st) := r_getX C hn rfl inX1 (by decide) mw1_166 rfl hX d kk
theorem mw4_0 : Cond.methodLink RX1 69 yX1_findWays ∈ TT := tt_4 (List.mem_of_getElem? (i := 0) (by decide +kernel)) (by decide +kernel)
theorem mw4_2 : Cond.instanceMethod yX1_findWays ∈ TT := tt_4 (List.mem_of_getElem? (i := 2) (by decide +kernel)) (by decide +kernel)
theorem ms2_5 : Cond.selects RX1 yX1_findWays yX1_findWays ∈ TT := tp_sel (tp_2 (List.mem_of_getElem? (i := 5) (by decide +kernel) : ((yX1_findWays, 9) : MethodName × Nat) ∈ lw_privs_2)) (by decide +kernel)
theorem mw4_3 : Cond.code yX1_findWays cX1_findWays 9 none ∈ TT := tt_4 (List.mem_of_getElem? (i := 3) rfl) rfl
theorem cwX1_69_V : CwV RX1 69 RX1 yX1_findWays cX1_findWays 9 none 1 := ⟨mw4_0, mw4_2, ms2_5, mw1_4, mw4_3, ⟨by decide, by decide, by decide⟩⟩
theorem gfX1_21 {x : Ct} {cc : ByteArray} {nL cells slots pc n : Nat} {rm : Room} {w : Wv} {lv : List (Nat × Value)} {st : List Value} (q : Nat) (C : Cx x cc nL RX1 rm) (hn : (wK w)[n]? = some (1, .inl fX1)) (hX : wX w n 6 = some q) (d : decode cc pc = .ok (.getfield 21, 3)) (kk : V x cells slots w (pc + 3) lv (.ref (gz (xG x) + q) :: st)) : V x cells slots w pc lv (.ref (gz (xG x) + n) :: st) := r_getX C hn rfl inX1 (by decide) mw1_165 rfl hX d kk
theorem gfX1_48 {x : Ct} {cc : ByteArray} {nL cells slots pc n : Nat} {rm : Room} {w : Wv} {lv : List (Nat × Value)} {st : List Value} {v : Int32} (C : Cx x cc nL RX1 rm) (hn : (wK w)[n]? = some (1, .inl fX1)) (hv : wI w n 0 = v) (d : decode cc pc = .ok (.getfield 48, 3)) (kk : V x cells slots w (pc + 3) lv (.int v :: st)) : V x cells slots w pc lv (.ref (gz (xG x) + n) :: st) := by subst hv; exact r_getI C hn rfl inX1 (by decide) mw1_154 rfl d kk
theorem gfX1_28 {x : Ct} {cc : ByteArray} {nL cells slots pc n : Nat} {rm : Room} {w : Wv} {lv : List (Nat × Value)} {st : List Value} (q : Nat) (C : Cx x cc nL RX1 rm) (hn : (wK w)[n]? = some (1, .inl fX1)) (hX : wX w n 8 = some q) (d : decode cc pc = .ok (.getfield 28, 3)) (kk : V x cells slots w (pc + 3) lv (.ref (gz (xG x) + q) :: st)) : V x cells slots w pc lv (.ref (gz (xG x) + n) :: st) := r_getX C hn rfl inX1 (by decide) mw1_167 rfl hX d kk
theorem mw2_127 : Cond.methodLink RX2 3 objectInit ∈ TT := tt_2 (List.mem_of_getElem? (i := 127) (by decide +kernel)) (by decide +kernel)
theorem mw2_135 : Cond.fieldLink RX2 9 "HeardTunes$Image" "whats" "[I" ∈ TT := tt_2 (List.mem_of_getElem? (i := 135) (by decide +kernel)) (by decide +kernel)
theorem pfX2_9 {x : Ct} {cc : ByteArray} {nL cells slots pc n : Nat} {rm : Room} {w : Wv} {lv : List (Nat × Value)} {st : List Value} {q : Nat} (C : Cx x cc nL RX2 rm) (hin2 : (xM x).name = "<init>") (hn : (wK w)[n]? = some (2, .inl fX2)) (d : decode cc pc = .ok (.putfield 9, 3)) (kk : ∀ w', w' = setX w n 3 (some q) → V x cells slots w' (pc + 3) lv st) : V x cells slots w pc lv (.ref (gz (xG x) + q) :: .ref (gz (xG x) + n) :: st) := r_putX C hin2 hn rfl inX2 tyX2 tyX2_ok nmX2 (by decide) mw2_135 rfl rfl rfl rfl rfl d kk
theorem mw2_128 : Cond.classLink RX2 15 RX6 ∈ TT := tt_2 (List.mem_of_getElem? (i := 128) (by decide +kernel)) (by decide +kernel)
theorem mw2_129 : Cond.methodLink RX2 17 yX6_init ∈ TT := tt_2 (List.mem_of_getElem? (i := 129) (by decide +kernel)) (by decide +kernel)
theorem cwX2_17_I : CwI RX2 17 yX6_init cX6_init 3 2 := ⟨mw2_129, mw1_191, mw1_5, mw1_192, ⟨by decide, by decide, by decide⟩, rfl⟩
theorem mw2_134 : Cond.fieldLink RX2 20 "HeardTunes$Image" "scene" "LHeardTunes$Scene;" ∈ TT := tt_2 (List.mem_of_getElem? (i := 134) (by decide +kernel)) (by decide +kernel)
theorem pfX2_20 {x : Ct} {cc : ByteArray} {nL cells slots pc n : Nat} {rm : Room} {w : Wv} {lv : List (Nat × Value)} {st : List Value} {q : Nat} (C : Cx x cc nL RX2 rm) (hin2 : (xM x).name = "<init>") (hn : (wK w)[n]? = some (2, .inl fX2)) (d : decode cc pc = .ok (.putfield 20, 3)) (kk : ∀ w', w' = setX w n 2 (some q) → V x cells slots w' (pc + 3) lv st) : V x cells slots w pc lv (.ref (gz (xG x) + q) :: .ref (gz (xG x) + n) :: st) := r_putX C hin2 hn rfl inX2 tyX2 tyX2_ok nmX2 (by decide) mw2_134 rfl rfl rfl rfl rfl d kk
theorem mw2_130 : Cond.fieldLink RX2 24 "HeardTunes$Image" "isKept" "Z" ∈ TT := tt_2 (List.mem_of_getElem? (i := 130) (by decide +kernel)) (by decide +kernel)
theorem pfX2_24 {x : Ct} {cc : ByteArray} {nL cells slots pc n : Nat} {rm : Room} {w : Wv} {lv : List (Nat × Value)} {st : List Value} {v : Int32} (C : Cx x cc nL RX2 rm) (hn : (wK w)[n]? = some (2, .inl fX2)) (hz : v = 0 ∨ v = 1) (d : decode cc pc = .ok (.putfield 24, 3)) (kk : ∀ w', w' = setI w n 0 v → V x cells slots w' (pc + 3) lv st) : V x cells slots w pc lv (.int v :: .ref (gz (xG x) + n) :: st) := r_putI (k := 0) C hn rfl inX2 tyX2 tyX2_ok nmX2 (by decide) mw2_130 rfl rfl (nar_z hz) (fit_z hz) d kk
theorem mw2_132 : Cond.fieldLink RX2 28 "HeardTunes$Image" "theSeed" "I" ∈ TT := tt_2 (List.mem_of_getElem? (i := 132) (by decide +kernel)) (by decide +kernel)
theorem pfX2_28 {x : Ct} {cc : ByteArray} {nL cells slots pc n : Nat} {rm : Room} {w : Wv} {lv : List (Nat × Value)} {st : List Value} {v : Int32} (C : Cx x cc nL RX2 rm) (hn : (wK w)[n]? = some (2, .inl fX2)) (d : decode cc pc = .ok (.putfield 28, 3)) (kk : ∀ w', w' = setI w n 1 v → V x cells slots w' (pc + 3) lv st) : V x cells slots w pc lv (.int v :: .ref (gz (xG x) + n) :: st) := r_putI (k := 1) C hn rfl inX2 tyX2 tyX2_ok nmX2 (by decide) mw2_132 rfl rfl rfl rfl d kk
theorem gfX2_20 {x : Ct} {cc : ByteArray} {nL cells slots pc n : Nat} {rm : Room} {w : Wv} {lv : List (Nat × Value)} {st : List Value} (q : Nat) (C : Cx x cc nL RX2 rm) (hn : (wK w)[n]? = some (2, .inl fX2)) (hX : wX w n 2 = some q) (d : decode cc pc = .ok (.getfield 20, 3)) (kk : V x cells slots w (pc + 3) lv (.ref (gz (xG x) + q) :: st)) : V x cells slots w pc lv (.ref (gz (xG x) + n) :: st) := r_getX C hn rfl inX2 (by decide) mw2_134 rfl hX d kk
theorem mw5_36 : Cond.methodLink RX2 32 yX6_copy ∈ TT := tt_5 (List.mem_of_getElem? (i := 36) (by decide +kernel)) (by decide +kernel)
theorem cwX2_32_V : CwV RX2 32 RX6 yX6_copy cX6_copy 3 none 1 := ⟨mw5_36, mw4_91, mw4_92, mw1_5, mw4_93, ⟨by decide, by decide, by decide⟩⟩
theorem gfX2_9 {x : Ct} {cc : ByteArray} {nL cells slots pc n : Nat} {rm : Room} {w : Wv} {lv : List (Nat × Value)} {st : List Value} (q : Nat) (C : Cx x cc nL RX2 rm) (hn : (wK w)[n]? = some (2, .inl fX2)) (hX : wX w n 3 = some q) (d : decode cc pc = .ok (.getfield 9, 3)) (kk : V x cells slots w (pc + 3) lv (.ref (gz (xG x) + q) :: st)) : V x cells slots w pc lv (.ref (gz (xG x) + n) :: st) := r_getX C hn rfl inX2 (by decide) mw2_135 rfl hX d kk
theorem mw5_37 : Cond.methodLink RX2 36 yX1_giveWhats ∈ TT := tt_5 (List.mem_of_getElem? (i := 37) (by decide +kernel)) (by decide +kernel)
theorem mw5_38 : Cond.instanceMethod yX1_giveWhats ∈ TT := tt_5 (List.mem_of_getElem? (i := 38) (by decide +kernel)) (by decide +kernel)
theorem mw5_39 : Cond.selects RX1 yX1_giveWhats yX1_giveWhats ∈ TT := tt_5 (List.mem_of_getElem? (i := 39) (by decide +kernel)) (by decide +kernel)
theorem mw5_40 : Cond.code yX1_giveWhats cX1_giveWhats 3 none ∈ TT := tt_5 (List.mem_of_getElem? (i := 40) rfl) rfl
theorem cwX2_36_V : CwV RX2 36 RX1 yX1_giveWhats cX1_giveWhats 3 none 1 := ⟨mw5_37, mw5_38, mw5_39, mw1_4, mw5_40, ⟨by decide, by decide, by decide⟩⟩
theorem mw5_49 : Cond.methodLink RX2 42 yX1_takeWhats ∈ TT := tt_5 (List.mem_of_getElem? (i := 49) (by decide +kernel)) (by decide +kernel)
theorem cwX2_42_V : CwV RX2 42 RX1 yX1_takeWhats cX1_takeWhats 3 none 1 := ⟨mw5_49, mw2_161, mw2_162, mw1_4, mw2_163, ⟨by decide, by decide, by decide⟩⟩
theorem mw2_22 : Cond.methodLink RX3 3 objectInit ∈ TT := tt_2 (List.mem_of_getElem? (i := 22) (by decide +kernel)) (by decide +kernel)
theorem mw2_23 : Cond.fieldLink RX3 11 "HeardTunes$Memo" "places" "[J" ∈ TT := tt_2 (List.mem_of_getElem? (i := 23) (by decide +kernel)) (by decide +kernel)
theorem pfX3_11 {x : Ct} {cc : ByteArray} {nL cells slots pc n : Nat} {rm : Room} {w : Wv} {lv : List (Nat × Value)} {st : List Value} {q : Nat} (C : Cx x cc nL RX3 rm) (hin2 : (xM x).name = "<init>") (hn : (wK w)[n]? = some (3, .inl fX3)) (d : decode cc pc = .ok (.putfield 11, 3)) (kk : ∀ w', w' = setX w n 0 (some q) → V x cells slots w' (pc + 3) lv st) : V x cells slots w pc lv (.ref (gz (xG x) + q) :: .ref (gz (xG x) + n) :: st) := r_putX C hin2 hn rfl inX3 tyX3 tyX3_ok nmX3 (by decide) mw2_23 rfl rfl rfl rfl rfl d kk
theorem mw2_24 : Cond.fieldLink RX3 15 "HeardTunes$Memo" "goals" "[J" ∈ TT := tt_2 (List.mem_of_getElem? (i := 24) (by decide +kernel)) (by decide +kernel)
theorem pfX3_15 {x : Ct} {cc : ByteArray} {nL cells slots pc n : Nat} {rm : Room} {w : Wv} {lv : List (Nat × Value)} {st : List Value} {q : Nat} (C : Cx x cc nL RX3 rm) (hin2 : (xM x).name = "<init>") (hn : (wK w)[n]? = some (3, .inl fX3)) (d : decode cc pc = .ok (.putfield 15, 3)) (kk : ∀ w', w' = setX w n 1 (some q) → V x cells slots w' (pc + 3) lv st) : V x cells slots w pc lv (.ref (gz (xG x) + q) :: .ref (gz (xG x) + n) :: st) := r_putX C hin2 hn rfl inX3 tyX3 tyX3_ok nmX3 (by decide) mw2_24 rfl rfl rfl rfl rfl d kk
theorem mw2_25 : Cond.fieldLink RX3 18 "HeardTunes$Memo" "values" "[I" ∈ TT := tt_2 (List.mem_of_getElem? (i := 25) (by decide +kernel)) (by decide +kernel)
theorem pfX3_18 {x : Ct} {cc : ByteArray} {nL cells slots pc n : Nat} {rm : Room} {w : Wv} {lv : List (Nat × Value)} {st : List Value} {q : Nat} (C : Cx x cc nL RX3 rm) (hin2 : (xM x).name = "<init>") (hn : (wK w)[n]? = some (3, .inl fX3)) (d : decode cc pc = .ok (.putfield 18, 3)) (kk : ∀ w', w' = setX w n 2 (some q) → V x cells slots w' (pc + 3) lv st) : V x cells slots w pc lv (.ref (gz (xG x) + q) :: .ref (gz (xG x) + n) :: st) := r_putX C hin2 hn rfl inX3 tyX3 tyX3_ok nmX3 (by decide) mw2_25 rfl rfl rfl rfl rfl d kk
theorem gfX3_18 {x : Ct} {cc : ByteArray} {nL cells slots pc n : Nat} {rm : Room} {w : Wv} {lv : List (Nat × Value)} {st : List Value} (q : Nat) (C : Cx x cc nL RX3 rm) (hn : (wK w)[n]? = some (3, .inl fX3)) (hX : wX w n 2 = some q) (d : decode cc pc = .ok (.getfield 18, 3)) (kk : V x cells slots w (pc + 3) lv (.ref (gz (xG x) + q) :: st)) : V x cells slots w pc lv (.ref (gz (xG x) + n) :: st) := r_getX C hn rfl inX3 (by decide) mw2_25 rfl hX d kk
theorem mw4_161 : Cond.constantLong RX3 22 (31) ∈ TT := tt_4 (List.mem_of_getElem? (i := 161) (by decide +kernel)) (by decide +kernel)
theorem mw4_162 : Cond.constantLong RX3 24 (-7046029254386353131) ∈ TT := tt_4 (List.mem_of_getElem? (i := 162) (by decide +kernel)) (by decide +kernel)
theorem mw4_158 : Cond.methodLink RX3 26 yX3_slot ∈ TT := tt_4 (List.mem_of_getElem? (i := 158) (by decide +kernel)) (by decide +kernel)
theorem mw4_159 : Cond.static yX3_slot ∈ TT := tt_4 (List.mem_of_getElem? (i := 159) (by decide +kernel)) (by decide +kernel)
theorem mw4_160 : Cond.code yX3_slot cX3_slot 6 (some .int) ∈ TT := tt_4 (List.mem_of_getElem? (i := 160) rfl) rfl
theorem cwX3_26_S : CwS RX3 26 yX3_slot cX3_slot 6 (some .int) 2 := ⟨mw4_158, mw4_159, mw1_8, mw4_160, ⟨by decide, by decide, by decide⟩⟩
theorem gfX3_11 {x : Ct} {cc : ByteArray} {nL cells slots pc n : Nat} {rm : Room} {w : Wv} {lv : List (Nat × Value)} {st : List Value} (q : Nat) (C : Cx x cc nL RX3 rm) (hn : (wK w)[n]? = some (3, .inl fX3)) (hX : wX w n 0 = some q) (d : decode cc pc = .ok (.getfield 11, 3)) (kk : V x cells slots w (pc + 3) lv (.ref (gz (xG x) + q) :: st)) : V x cells slots w pc lv (.ref (gz (xG x) + n) :: st) := r_getX C hn rfl inX3 (by decide) mw2_23 rfl hX d kk
theorem gfX3_15 {x : Ct} {cc : ByteArray} {nL cells slots pc n : Nat} {rm : Room} {w : Wv} {lv : List (Nat × Value)} {st : List Value} (q : Nat) (C : Cx x cc nL RX3 rm) (hn : (wK w)[n]? = some (3, .inl fX3)) (hX : wX w n 1 = some q) (d : decode cc pc = .ok (.getfield 15, 3)) (kk : V x cells slots w (pc + 3) lv (.ref (gz (xG x) + q) :: st)) : V x cells slots w pc lv (.ref (gz (xG x) + n) :: st) := r_getX C hn rfl inX3 (by decide) mw2_24 rfl hX d kk
theorem mw1_225 : Cond.methodLink RX4 3 objectInit ∈ TT := tt_1 (List.mem_of_getElem? (i := 225) (by decide +kernel)) (by decide +kernel)
theorem mw1_228 : Cond.fieldLink RX4 9 "HeardTunes$Plan" "steps" "[I" ∈ TT := tt_1 (List.mem_of_getElem? (i := 228) (by decide +kernel)) (by decide +kernel)
theorem pfX4_9 {x : Ct} {cc : ByteArray} {nL cells slots pc n : Nat} {rm : Room} {w : Wv} {lv : List (Nat × Value)} {st : List Value} {q : Nat} (C : Cx x cc nL RX4 rm) (hin2 : (xM x).name = "<init>") (hn : (wK w)[n]? = some (4, .inl fX4)) (d : decode cc pc = .ok (.putfield 9, 3)) (kk : ∀ w', w' = setX w n 1 (some q) → V x cells slots w' (pc + 3) lv st) : V x cells slots w pc lv (.ref (gz (xG x) + q) :: .ref (gz (xG x) + n) :: st) := r_putX C hin2 hn rfl inX4 tyX4 tyX4_ok nmX4 (by decide) mw1_228 rfl rfl rfl rfl rfl d kk
theorem mw1_229 : Cond.fieldLink RX4 15 "HeardTunes$Plan" "tunes" "[I" ∈ TT := tt_1 (List.mem_of_getElem? (i := 229) (by decide +kernel)) (by decide +kernel)
theorem pfX4_15 {x : Ct} {cc : ByteArray} {nL cells slots pc n : Nat} {rm : Room} {w : Wv} {lv : List (Nat × Value)} {st : List Value} {q : Nat} (C : Cx x cc nL RX4 rm) (hin2 : (xM x).name = "<init>") (hn : (wK w)[n]? = some (4, .inl fX4)) (d : decode cc pc = .ok (.putfield 15, 3)) (kk : ∀ w', w' = setX w n 2 (some q) → V x cells slots w' (pc + 3) lv st) : V x cells slots w pc lv (.ref (gz (xG x) + q) :: .ref (gz (xG x) + n) :: st) := r_putX C hin2 hn rfl inX4 tyX4 tyX4_ok nmX4 (by decide) mw1_229 rfl rfl rfl rfl rfl d kk
theorem mw1_226 : Cond.fieldLink RX4 18 "HeardTunes$Plan" "count" "I" ∈ TT := tt_1 (List.mem_of_getElem? (i := 226) (by decide +kernel)) (by decide +kernel)
theorem gfX4_18 {x : Ct} {cc : ByteArray} {nL cells slots pc n : Nat} {rm : Room} {w : Wv} {lv : List (Nat × Value)} {st : List Value} {v : Int32} (C : Cx x cc nL RX4 rm) (hn : (wK w)[n]? = some (4, .inl fX4)) (hv : wI w n 0 = v) (d : decode cc pc = .ok (.getfield 18, 3)) (kk : V x cells slots w (pc + 3) lv (.int v :: st)) : V x cells slots w pc lv (.ref (gz (xG x) + n) :: st) := by subst hv; exact r_getI C hn rfl inX4 (by decide) mw1_226 rfl d kk
theorem gfX4_9 {x : Ct} {cc : ByteArray} {nL cells slots pc n : Nat} {rm : Room} {w : Wv} {lv : List (Nat × Value)} {st : List Value} (q : Nat) (C : Cx x cc nL RX4 rm) (hn : (wK w)[n]? = some (4, .inl fX4)) (hX : wX w n 1 = some q) (d : decode cc pc = .ok (.getfield 9, 3)) (kk : V x cells slots w (pc + 3) lv (.ref (gz (xG x) + q) :: st)) : V x cells slots w pc lv (.ref (gz (xG x) + n) :: st) := r_getX C hn rfl inX4 (by decide) mw1_228 rfl hX d kk
theorem gfX4_15 {x : Ct} {cc : ByteArray} {nL cells slots pc n : Nat} {rm : Room} {w : Wv} {lv : List (Nat × Value)} {st : List Value} (q : Nat) (C : Cx x cc nL RX4 rm) (hn : (wK w)[n]? = some (4, .inl fX4)) (hX : wX w n 2 = some q) (d : decode cc pc = .ok (.getfield 15, 3)) (kk : V x cells slots w (pc + 3) lv (.ref (gz (xG x) + q) :: st)) : V x cells slots w pc lv (.ref (gz (xG x) + n) :: st) := r_getX C hn rfl inX4 (by decide) mw1_229 rfl hX d kk
theorem pfX4_18 {x : Ct} {cc : ByteArray} {nL cells slots pc n : Nat} {rm : Room} {w : Wv} {lv : List (Nat × Value)} {st : List Value} {v : Int32} (C : Cx x cc nL RX4 rm) (hn : (wK w)[n]? = some (4, .inl fX4)) (d : decode cc pc = .ok (.putfield 18, 3)) (kk : ∀ w', w' = setI w n 0 v → V x cells slots w' (pc + 3) lv st) : V x cells slots w pc lv (.int v :: .ref (gz (xG x) + n) :: st) := r_putI (k := 0) C hn rfl inX4 tyX4 tyX4_ok nmX4 (by decide) mw1_226 rfl rfl rfl rfl d kk
theorem mw4_98 : Cond.methodLink RX4 22 yX6_may ∈ TT := tt_4 (List.mem_of_getElem? (i := 98) (by decide +kernel)) (by decide +kernel)
theorem cwX4_22_V : CwV RX4 22 RX6 yX6_may cX6_may 3 (some .boolean) 1 := ⟨mw4_98, mw4_21, mw4_22, mw1_5, mw4_23, ⟨by decide, by decide, by decide⟩⟩
theorem mw4_99 : Cond.methodLink RX4 28 yX6_pass ∈ TT := tt_4 (List.mem_of_getElem? (i := 99) (by decide +kernel)) (by decide +kernel)
theorem cwX4_28_V : CwV RX4 28 RX6 yX6_pass cX6_pass 4 none 2 := ⟨mw4_99, mw4_31, mw4_32, mw1_5, mw4_33, ⟨by decide, by decide, by decide⟩⟩
theorem mw1_31 : Cond.methodLink RX5 3 objectInit ∈ TT := tt_1 (List.mem_of_getElem? (i := 31) (by decide +kernel)) (by decide +kernel)
theorem mw1_36 : Cond.fieldLink RX5 9 "HeardTunes$Reader" "faultAt" "I" ∈ TT := tt_1 (List.mem_of_getElem? (i := 36) (by decide +kernel)) (by decide +kernel)
theorem pfX5_9 {x : Ct} {cc : ByteArray} {nL cells slots pc n : Nat} {rm : Room} {w : Wv} {lv : List (Nat × Value)} {st : List Value} {v : Int32} (C : Cx x cc nL RX5 rm) (hn : (wK w)[n]? = some (5, .inl fX5)) (d : decode cc pc = .ok (.putfield 9, 3)) (kk : ∀ w', w' = setI w n 2 v → V x cells slots w' (pc + 3) lv st) : V x cells slots w pc lv (.int v :: .ref (gz (xG x) + n) :: st) := r_putI (k := 2) C hn rfl inX5 tyX5 tyX5_ok nmX5 (by decide) mw1_36 rfl rfl rfl rfl d kk
theorem mw1_38 : Cond.fieldLink RX5 15 "HeardTunes$Reader" "text" "[I" ∈ TT := tt_1 (List.mem_of_getElem? (i := 38) (by decide +kernel)) (by decide +kernel)
theorem pfX5_15 {x : Ct} {cc : ByteArray} {nL cells slots pc n : Nat} {rm : Room} {w : Wv} {lv : List (Nat × Value)} {st : List Value} {q : Nat} (C : Cx x cc nL RX5 rm) (hin2 : (xM x).name = "<init>") (hn : (wK w)[n]? = some (5, .inl fX5)) (d : decode cc pc = .ok (.putfield 15, 3)) (kk : ∀ w', w' = setX w n 3 (some q) → V x cells slots w' (pc + 3) lv st) : V x cells slots w pc lv (.ref (gz (xG x) + q) :: .ref (gz (xG x) + n) :: st) := r_putX C hin2 hn rfl inX5 tyX5 tyX5_ok nmX5 (by decide) mw1_38 rfl rfl rfl rfl rfl d kk
theorem mw1_32 : Cond.fieldLink RX5 19 "HeardTunes$Reader" "length" "I" ∈ TT := tt_1 (List.mem_of_getElem? (i := 32) (by decide +kernel)) (by decide +kernel)
theorem gfX5_19 {x : Ct} {cc : ByteArray} {nL cells slots pc n : Nat} {rm : Room} {w : Wv} {lv : List (Nat × Value)} {st : List Value} {v : Int32} (C : Cx x cc nL RX5 rm) (hn : (wK w)[n]? = some (5, .inl fX5)) (hv : wI w n 0 = v) (d : decode cc pc = .ok (.getfield 19, 3)) (kk : V x cells slots w (pc + 3) lv (.int v :: st)) : V x cells slots w pc lv (.ref (gz (xG x) + n) :: st) := by subst hv; exact r_getI C hn rfl inX5 (by decide) mw1_32 rfl d kk
theorem gfX5_15 {x : Ct} {cc : ByteArray} {nL cells slots pc n : Nat} {rm : Room} {w : Wv} {lv : List (Nat × Value)} {st : List Value} (q : Nat) (C : Cx x cc nL RX5 rm) (hn : (wK w)[n]? = some (5, .inl fX5)) (hX : wX w n 3 = some q) (d : decode cc pc = .ok (.getfield 15, 3)) (kk : V x cells slots w (pc + 3) lv (.ref (gz (xG x) + q) :: st)) : V x cells slots w pc lv (.ref (gz (xG x) + n) :: st) := r_getX C hn rfl inX5 (by decide) mw1_38 rfl hX d kk
theorem pfX5_19 {x : Ct} {cc : ByteArray} {nL cells slots pc n : Nat} {rm : Room} {w : Wv} {lv : List (Nat × Value)} {st : List Value} {v : Int32} (C : Cx x cc nL RX5 rm) (hn : (wK w)[n]? = some (5, .inl fX5)) (d : decode cc pc = .ok (.putfield 19, 3)) (kk : ∀ w', w' = setI w n 0 v → V x cells slots w' (pc + 3) lv st) : V x cells slots w pc lv (.int v :: .ref (gz (xG x) + n) :: st) := r_putI (k := 0) C hn rfl inX5 tyX5 tyX5_ok nmX5 (by decide) mw1_32 rfl rfl rfl rfl d kk
theorem mw3_0 : Cond.methodLink RX5 22 yX9_clear ∈ TT := tt_3 (List.mem_of_getElem? (i := 0) (by decide +kernel)) (by decide +kernel)
theorem mw3_1 : Cond.instanceMethod yX9_clear ∈ TT := tt_3 (List.mem_of_getElem? (i := 1) (by decide +kernel)) (by decide +kernel)
theorem mw3_2 : Cond.selects RX9 yX9_clear yX9_clear ∈ TT := tt_3 (List.mem_of_getElem? (i := 2) (by decide +kernel)) (by decide +kernel)
theorem mw1_3 : Cond.initialized RX9 ∈ TT := tt_1 (List.mem_of_getElem? (i := 3) (by decide +kernel)) (by decide +kernel)
theorem mw3_3 : Cond.code yX9_clear cX9_clear 2 none ∈ TT := tt_3 (List.mem_of_getElem? (i := 3) rfl) rfl
theorem cwX5_22_V : CwV RX5 22 RX9 yX9_clear cX9_clear 2 none 0 := ⟨mw3_0, mw3_1, mw3_2, mw1_3, mw3_3, ⟨by decide, by decide, by decide⟩⟩
theorem mw1_39 : Cond.fieldLink RX5 27 "HeardTunes$Reader" "next" "I" ∈ TT := tt_1 (List.mem_of_getElem? (i := 39) (by decide +kernel)) (by decide +kernel)
theorem pfX5_27 {x : Ct} {cc : ByteArray} {nL cells slots pc n : Nat} {rm : Room} {w : Wv} {lv : List (Nat × Value)} {st : List Value} {v : Int32} (C : Cx x cc nL RX5 rm) (hn : (wK w)[n]? = some (5, .inl fX5)) (d : decode cc pc = .ok (.putfield 27, 3)) (kk : ∀ w', w' = setI w n 4 v → V x cells slots w' (pc + 3) lv st) : V x cells slots w pc lv (.int v :: .ref (gz (xG x) + n) :: st) := r_putI (k := 4) C hn rfl inX5 tyX5 tyX5_ok nmX5 (by decide) mw1_39 rfl rfl rfl rfl d kk
theorem mw1_34 : Cond.fieldLink RX5 30 "HeardTunes$Reader" "fault" "I" ∈ TT := tt_1 (List.mem_of_getElem? (i := 34) (by decide +kernel)) (by decide +kernel)
theorem pfX5_30 {x : Ct} {cc : ByteArray} {nL cells slots pc n : Nat} {rm : Room} {w : Wv} {lv : List (Nat × Value)} {st : List Value} {v : Int32} (C : Cx x cc nL RX5 rm) (hn : (wK w)[n]? = some (5, .inl fX5)) (d : decode cc pc = .ok (.putfield 30, 3)) (kk : ∀ w', w' = setI w n 1 v → V x cells slots w' (pc + 3) lv st) : V x cells slots w pc lv (.int v :: .ref (gz (xG x) + n) :: st) := r_putI (k := 1) C hn rfl inX5 tyX5 tyX5_ok nmX5 (by decide) mw1_34 rfl rfl rfl rfl d kk
theorem mw3_4 : Cond.methodLink RX5 33 yX5_skipBlanks ∈ TT := tt_3 (List.mem_of_getElem? (i := 4) (by decide +kernel)) (by decide +kernel)
theorem mw3_6 : Cond.instanceMethod yX5_skipBlanks ∈ TT := tt_3 (List.mem_of_getElem? (i := 6) (by decide +kernel)) (by decide +kernel)
theorem ms1_3 : Cond.selects RX5 yX5_skipBlanks yX5_skipBlanks ∈ TT := tp_sel (tp_1 (List.mem_of_getElem? (i := 3) (by decide +kernel) : ((yX5_skipBlanks, 6) : MethodName × Nat) ∈ lw_privs_1)) (by decide +kernel)
theorem mw1_2 : Cond.initialized RX5 ∈ TT := tt_1 (List.mem_of_getElem? (i := 2) (by decide +kernel)) (by decide +kernel)
theorem mw3_7 : Cond.code yX5_skipBlanks cX5_skipBlanks 1 none ∈ TT := tt_3 (List.mem_of_getElem? (i := 7) rfl) rfl
theorem cwX5_33_V : CwV RX5 33 RX5 yX5_skipBlanks cX5_skipBlanks 1 none 0 := ⟨mw3_4, mw3_6, ms1_3, mw1_2, mw3_7, ⟨by decide, by decide, by decide⟩⟩
theorem gfX5_27 {x : Ct} {cc : ByteArray} {nL cells slots pc n : Nat} {rm : Room} {w : Wv} {lv : List (Nat × Value)} {st : List Value} {v : Int32} (C : Cx x cc nL RX5 rm) (hn : (wK w)[n]? = some (5, .inl fX5)) (hv : wI w n 4 = v) (d : decode cc pc = .ok (.getfield 27, 3)) (kk : V x cells slots w (pc + 3) lv (.int v :: st)) : V x cells slots w pc lv (.ref (gz (xG x) + n) :: st) := by subst hv; exact r_getI C hn rfl inX5 (by decide) mw1_39 rfl d kk
theorem gfX5_30 {x : Ct} {cc : ByteArray} {nL cells slots pc n : Nat} {rm : Room} {w : Wv} {lv : List (Nat × Value)} {st : List Value} {v : Int32} (C : Cx x cc nL RX5 rm) (hn : (wK w)[n]? = some (5, .inl fX5)) (hv : wI w n 1 = v) (d : decode cc pc = .ok (.getfield 30, 3)) (kk : V x cells slots w (pc + 3) lv (.int v :: st)) : V x cells slots w pc lv (.ref (gz (xG x) + n) :: st) := by subst hv; exact r_getI C hn rfl inX5 (by decide) mw1_34 rfl d kk
theorem mw3_8 : Cond.methodLink RX5 36 yX5_readSentence ∈ TT := tt_3 (List.mem_of_getElem? (i := 8) (by decide +kernel)) (by decide +kernel)
theorem mw3_10 : Cond.instanceMethod yX5_readSentence ∈ TT := tt_3 (List.mem_of_getElem? (i := 10) (by decide +kernel)) (by decide +kernel)
theorem ms1_4 : Cond.selects RX5 yX5_readSentence yX5_readSentence ∈ TT := tp_sel (tp_1 (List.mem_of_getElem? (i := 4) (by decide +kernel) : ((yX5_readSentence, 6) : MethodName × Nat) ∈ lw_privs_1)) (by decide +kernel)
theorem mw3_11 : Cond.code yX5_readSentence cX5_readSentence 4 none ∈ TT := tt_3 (List.mem_of_getElem? (i := 11) rfl) rfl
theorem cwX5_36_V : CwV RX5 36 RX5 yX5_readSentence cX5_readSentence 4 none 1 := ⟨mw3_8, mw3_10, ms1_4, mw1_2, mw3_11, ⟨by decide, by decide, by decide⟩⟩
theorem mw1_63 : Cond.fieldLink RX5 40 "HeardTunes$Town" "width" "I" ∈ TT := tt_1 (List.mem_of_getElem? (i := 63) (by decide +kernel)) (by decide +kernel)
theorem gfX5_40 {x : Ct} {cc : ByteArray} {nL cells slots pc n : Nat} {rm : Room} {w : Wv} {lv : List (Nat × Value)} {st : List Value} {v : Int32} (C : Cx x cc nL RX5 rm) (hn : (wK w)[n]? = some (9, .inl fX9)) (hv : wI w n 0 = v) (d : decode cc pc = .ok (.getfield 40, 3)) (kk : V x cells slots w (pc + 3) lv (.int v :: st)) : V x cells slots w pc lv (.ref (gz (xG x) + n) :: st) := by subst hv; exact r_getI C hn rfl inX9 (by decide) mw1_63 rfl d kk
theorem mw3_76 : Cond.methodLink RX5 43 yX5_blame ∈ TT := tt_3 (List.mem_of_getElem? (i := 76) (by decide +kernel)) (by decide +kernel)
theorem mw3_78 : Cond.instanceMethod yX5_blame ∈ TT := tt_3 (List.mem_of_getElem? (i := 78) (by decide +kernel)) (by decide +kernel)
theorem ms1_7 : Cond.selects RX5 yX5_blame yX5_blame ∈ TT := tp_sel (tp_1 (List.mem_of_getElem? (i := 7) (by decide +kernel) : ((yX5_blame, 6) : MethodName × Nat) ∈ lw_privs_1)) (by decide +kernel)
theorem mw3_79 : Cond.code yX5_blame cX5_blame 3 none ∈ TT := tt_3 (List.mem_of_getElem? (i := 79) rfl) rfl
theorem cwX5_43_V : CwV RX5 43 RX5 yX5_blame cX5_blame 3 none 2 := ⟨mw3_76, mw3_78, ms1_7, mw1_2, mw3_79, ⟨by decide, by decide, by decide⟩⟩
theorem mw3_148 : Cond.methodLink RX5 47 yX9_placePiperIfUntold ∈ TT := tt_3 (List.mem_of_getElem? (i := 148) (by decide +kernel)) (by decide +kernel)
theorem mw3_149 : Cond.instanceMethod yX9_placePiperIfUntold ∈ TT := tt_3 (List.mem_of_getElem? (i := 149) (by decide +kernel)) (by decide +kernel)
theorem mw3_150 : Cond.selects RX9 yX9_placePiperIfUntold yX9_placePiperIfUntold ∈ TT := tt_3 (List.mem_of_getElem? (i := 150) (by decide +kernel)) (by decide +kernel)
theorem mw3_151 : Cond.code yX9_placePiperIfUntold cX9_placePiperIfUntold 2 none ∈ TT := tt_3 (List.mem_of_getElem? (i := 151) rfl) rfl
theorem cwX5_47_V : CwV RX5 47 RX9 yX9_placePiperIfUntold cX9_placePiperIfUntold 2 none 0 := ⟨mw3_148, mw3_149, mw3_150, mw1_3, mw3_151, ⟨by decide, by decide, by decide⟩⟩
theorem mw3_12 : Cond.methodLink RX5 50 yX5_readWord ∈ TT := tt_3 (List.mem_of_getElem? (i := 12) (by decide +kernel)) (by decide +kernel)
theorem mw3_14 : Cond.instanceMethod yX5_readWord ∈ TT := tt_3 (List.mem_of_getElem? (i := 14) (by decide +kernel)) (by decide +kernel)
theorem ms1_5 : Cond.selects RX5 yX5_readWord yX5_readWord ∈ TT := tp_sel (tp_1 (List.mem_of_getElem? (i := 5) (by decide +kernel) : ((yX5_readWord, 6) : MethodName × Nat) ∈ lw_privs_1)) (by decide +kernel)
theorem mw3_15 : Cond.code yX5_readWord cX5_readWord 2 (some .int) ∈ TT := tt_3 (List.mem_of_getElem? (i := 15) rfl) rfl
theorem cwX5_50_V : CwV RX5 50 RX5 yX5_readWord cX5_readWord 2 (some .int) 0 := ⟨mw3_12, mw3_14, ms1_5, mw1_2, mw3_15, ⟨by decide, by decide, by decide⟩⟩
theorem mw3_80 : Cond.methodLink RX5 54 yX5_isTooMany ∈ TT := tt_3 (List.mem_of_getElem? (i := 80) (by decide +kernel)) (by decide +kernel)
theorem mw3_81 : Cond.static yX5_isTooMany ∈ TT := tt_3 (List.mem_of_getElem? (i := 81) (by decide +kernel)) (by decide +kernel)
theorem mw3_82 : Cond.code yX5_isTooMany cX5_isTooMany 2 (some .boolean) ∈ TT := tt_3 (List.mem_of_getElem? (i := 82) rfl) rfl
theorem cwX5_54_S : CwS RX5 54 yX5_isTooMany cX5_isTooMany 2 (some .boolean) 2 := ⟨mw3_80, mw3_81, mw1_2, mw3_82, ⟨by decide, by decide, by decide⟩⟩
theorem mw3_83 : Cond.methodLink RX5 58 yX5_readSize ∈ TT := tt_3 (List.mem_of_getElem? (i := 83) (by decide +kernel)) (by decide +kernel)
theorem mw3_85 : Cond.instanceMethod yX5_readSize ∈ TT := tt_3 (List.mem_of_getElem? (i := 85) (by decide +kernel)) (by decide +kernel)
theorem ms1_8 : Cond.selects RX5 yX5_readSize yX5_readSize ∈ TT := tp_sel (tp_1 (List.mem_of_getElem? (i := 8) (by decide +kernel) : ((yX5_readSize, 6) : MethodName × Nat) ∈ lw_privs_1)) (by decide +kernel)
theorem mw3_86 : Cond.code yX5_readSize cX5_readSize 4 none ∈ TT := tt_3 (List.mem_of_getElem? (i := 86) rfl) rfl
theorem cwX5_58_V : CwV RX5 58 RX5 yX5_readSize cX5_readSize 4 none 1 := ⟨mw3_83, mw3_85, ms1_8, mw1_2, mw3_86, ⟨by decide, by decide, by decide⟩⟩
theorem mw3_92 : Cond.methodLink RX5 61 yX5_readCrowd ∈ TT := tt_3 (List.mem_of_getElem? (i := 92) (by decide +kernel)) (by decide +kernel)
theorem mw3_94 : Cond.instanceMethod yX5_readCrowd ∈ TT := tt_3 (List.mem_of_getElem? (i := 94) (by decide +kernel)) (by decide +kernel)
theorem ms1_10 : Cond.selects RX5 yX5_readCrowd yX5_readCrowd ∈ TT := tp_sel (tp_1 (List.mem_of_getElem? (i := 10) (by decide +kernel) : ((yX5_readCrowd, 6) : MethodName × Nat) ∈ lw_privs_1)) (by decide +kernel)
theorem mw3_95 : Cond.code yX5_readCrowd cX5_readCrowd 7 none ∈ TT := tt_3 (List.mem_of_getElem? (i := 95) rfl) rfl
theorem cwX5_61_V : CwV RX5 61 RX5 yX5_readCrowd cX5_readCrowd 7 none 1 := ⟨mw3_92, mw3_94, ms1_10, mw1_2, mw3_95, ⟨by decide, by decide, by decide⟩⟩
theorem mw3_115 : Cond.methodLink RX5 64 yX5_readTune ∈ TT := tt_3 (List.mem_of_getElem? (i := 115) (by decide +kernel)) (by decide +kernel)
theorem mw3_117 : Cond.instanceMethod yX5_readTune ∈ TT := tt_3 (List.mem_of_getElem? (i := 117) (by decide +kernel)) (by decide +kernel)
theorem ms1_13 : Cond.selects RX5 yX5_readTune yX5_readTune ∈ TT := tp_sel (tp_1 (List.mem_of_getElem? (i := 13) (by decide +kernel) : ((yX5_readTune, 6) : MethodName × Nat) ∈ lw_privs_1)) (by decide +kernel)
theorem mw3_118 : Cond.code yX5_readTune cX5_readTune 4 none ∈ TT := tt_3 (List.mem_of_getElem? (i := 118) rfl) rfl
theorem cwX5_64_V : CwV RX5 64 RX5 yX5_readTune cX5_readTune 4 none 1 := ⟨mw3_115, mw3_117, ms1_13, mw1_2, mw3_118, ⟨by decide, by decide, by decide⟩⟩
theorem mw3_123 : Cond.methodLink RX5 67 yX5_readPiper ∈ TT := tt_3 (List.mem_of_getElem? (i := 123) (by decide +kernel)) (by decide +kernel)
theorem mw3_125 : Cond.instanceMethod yX5_readPiper ∈ TT := tt_3 (List.mem_of_getElem? (i := 125) (by decide +kernel)) (by decide +kernel)
theorem ms1_14 : Cond.selects RX5 yX5_readPiper yX5_readPiper ∈ TT := tp_sel (tp_1 (List.mem_of_getElem? (i := 14) (by decide +kernel) : ((yX5_readPiper, 6) : MethodName × Nat) ∈ lw_privs_1)) (by decide +kernel)
theorem mw3_126 : Cond.code yX5_readPiper cX5_readPiper 3 none ∈ TT := tt_3 (List.mem_of_getElem? (i := 126) rfl) rfl
theorem cwX5_67_V : CwV RX5 67 RX5 yX5_readPiper cX5_readPiper 3 none 1 := ⟨mw3_123, mw3_125, ms1_14, mw1_2, mw3_126, ⟨by decide, by decide, by decide⟩⟩
theorem mw3_127 : Cond.methodLink RX5 70 yX5_readPay ∈ TT := tt_3 (List.mem_of_getElem? (i := 127) (by decide +kernel)) (by decide +kernel)
theorem mw3_129 : Cond.instanceMethod yX5_readPay ∈ TT := tt_3 (List.mem_of_getElem? (i := 129) (by decide +kernel)) (by decide +kernel)
theorem ms1_15 : Cond.selects RX5 yX5_readPay yX5_readPay ∈ TT := tp_sel (tp_1 (List.mem_of_getElem? (i := 15) (by decide +kernel) : ((yX5_readPay, 6) : MethodName × Nat) ∈ lw_privs_1)) (by decide +kernel)
theorem mw3_130 : Cond.code yX5_readPay cX5_readPay 2 none ∈ TT := tt_3 (List.mem_of_getElem? (i := 130) rfl) rfl
theorem cwX5_70_V : CwV RX5 70 RX5 yX5_readPay cX5_readPay 2 none 1 := ⟨mw3_127, mw3_129, ms1_15, mw1_2, mw3_130, ⟨by decide, by decide, by decide⟩⟩
theorem mw3_131 : Cond.methodLink RX5 73 yX5_readSpot ∈ TT := tt_3 (List.mem_of_getElem? (i := 131) (by decide +kernel)) (by decide +kernel)
theorem mw3_133 : Cond.instanceMethod yX5_readSpot ∈ TT := tt_3 (List.mem_of_getElem? (i := 133) (by decide +kernel)) (by decide +kernel)
theorem ms2_0 : Cond.selects RX5 yX5_readSpot yX5_readSpot ∈ TT := tp_sel (tp_2 (List.mem_of_getElem? (i := 0) (by decide +kernel) : ((yX5_readSpot, 6) : MethodName × Nat) ∈ lw_privs_2)) (by decide +kernel)
theorem mw3_134 : Cond.code yX5_readSpot cX5_readSpot 4 none ∈ TT := tt_3 (List.mem_of_getElem? (i := 134) rfl) rfl
theorem cwX5_73_V : CwV RX5 73 RX5 yX5_readSpot cX5_readSpot 4 none 2 := ⟨mw3_131, mw3_133, ms2_0, mw1_2, mw3_134, ⟨by decide, by decide, by decide⟩⟩
theorem mw3_144 : Cond.methodLink RX5 77 yX5_readEnd ∈ TT := tt_3 (List.mem_of_getElem? (i := 144) (by decide +kernel)) (by decide +kernel)
theorem mw3_146 : Cond.instanceMethod yX5_readEnd ∈ TT := tt_3 (List.mem_of_getElem? (i := 146) (by decide +kernel)) (by decide +kernel)
theorem ms2_1 : Cond.selects RX5 yX5_readEnd yX5_readEnd ∈ TT := tp_sel (tp_2 (List.mem_of_getElem? (i := 1) (by decide +kernel) : ((yX5_readEnd, 6) : MethodName × Nat) ∈ lw_privs_2)) (by decide +kernel)
theorem mw3_147 : Cond.code yX5_readEnd cX5_readEnd 1 none ∈ TT := tt_3 (List.mem_of_getElem? (i := 147) rfl) rfl
theorem cwX5_77_V : CwV RX5 77 RX5 yX5_readEnd cX5_readEnd 1 none 0 := ⟨mw3_144, mw3_146, ms2_1, mw1_2, mw3_147, ⟨by decide, by decide, by decide⟩⟩
theorem mw1_74 : Cond.fieldLink RX5 80 "HeardTunes$Town" "crowds" "I" ∈ TT := tt_1 (List.mem_of_getElem? (i := 74) (by decide +kernel)) (by decide +kernel)
theorem gfX5_80 {x : Ct} {cc : ByteArray} {nL cells slots pc n : Nat} {rm : Room} {w : Wv} {lv : List (Nat × Value)} {st : List Value} {v : Int32} (C : Cx x cc nL RX5 rm) (hn : (wK w)[n]? = some (9, .inl fX9)) (hv : wI w n 3 = v) (d : decode cc pc = .ok (.getfield 80, 3)) (kk : V x cells slots w (pc + 3) lv (.int v :: st)) : V x cells slots w pc lv (.ref (gz (xG x) + n) :: st) := by subst hv; exact r_getI C hn rfl inX9 (by decide) mw1_74 rfl d kk
theorem mw1_78 : Cond.fieldLink RX5 83 "HeardTunes$Town" "tunes" "I" ∈ TT := tt_1 (List.mem_of_getElem? (i := 78) (by decide +kernel)) (by decide +kernel)
theorem gfX5_83 {x : Ct} {cc : ByteArray} {nL cells slots pc n : Nat} {rm : Room} {w : Wv} {lv : List (Nat × Value)} {st : List Value} {v : Int32} (C : Cx x cc nL RX5 rm) (hn : (wK w)[n]? = some (9, .inl fX9)) (hv : wI w n 4 = v) (d : decode cc pc = .ok (.getfield 83, 3)) (kk : V x cells slots w (pc + 3) lv (.int v :: st)) : V x cells slots w pc lv (.ref (gz (xG x) + n) :: st) := by subst hv; exact r_getI C hn rfl inX9 (by decide) mw1_78 rfl d kk
theorem mw1_81 : Cond.fieldLink RX5 86 "HeardTunes$Town" "piper" "I" ∈ TT := tt_1 (List.mem_of_getElem? (i := 81) (by decide +kernel)) (by decide +kernel)
theorem gfX5_86 {x : Ct} {cc : ByteArray} {nL cells slots pc n : Nat} {rm : Room} {w : Wv} {lv : List (Nat × Value)} {st : List Value} {v : Int32} (C : Cx x cc nL RX5 rm) (hn : (wK w)[n]? = some (9, .inl fX9)) (hv : wI w n 5 = v) (d : decode cc pc = .ok (.getfield 86, 3)) (kk : V x cells slots w (pc + 3) lv (.int v :: st)) : V x cells slots w pc lv (.ref (gz (xG x) + n) :: st) := by subst hv; exact r_getI C hn rfl inX9 (by decide) mw1_81 rfl d kk
theorem mw1_83 : Cond.fieldLink RX5 89 "HeardTunes$Town" "hasPay" "Z" ∈ TT := tt_1 (List.mem_of_getElem? (i := 83) (by decide +kernel)) (by decide +kernel)
theorem gfX5_89 {x : Ct} {cc : ByteArray} {nL cells slots pc n : Nat} {rm : Room} {w : Wv} {lv : List (Nat × Value)} {st : List Value} {v : Int32} (C : Cx x cc nL RX5 rm) (hn : (wK w)[n]? = some (9, .inl fX9)) (hv : wI w n 6 = v) (d : decode cc pc = .ok (.getfield 89, 3)) (kk : V x cells slots w (pc + 3) lv (.int v :: st)) : V x cells slots w pc lv (.ref (gz (xG x) + n) :: st) := by subst hv; exact r_getI C hn rfl inX9 (by decide) mw1_83 rfl d kk
theorem mw1_70 : Cond.fieldLink RX5 93 "HeardTunes$Town" "spots" "I" ∈ TT := tt_1 (List.mem_of_getElem? (i := 70) (by decide +kernel)) (by decide +kernel)
theorem gfX5_93 {x : Ct} {cc : ByteArray} {nL cells slots pc n : Nat} {rm : Room} {w : Wv} {lv : List (Nat × Value)} {st : List Value} {v : Int32} (C : Cx x cc nL RX5 rm) (hn : (wK w)[n]? = some (9, .inl fX9)) (hv : wI w n 2 = v) (d : decode cc pc = .ok (.getfield 93, 3)) (kk : V x cells slots w (pc + 3) lv (.int v :: st)) : V x cells slots w pc lv (.ref (gz (xG x) + n) :: st) := by subst hv; exact r_getI C hn rfl inX9 (by decide) mw1_70 rfl d kk
theorem mw3_87 : Cond.methodLink RX5 96 yX5_readNumber ∈ TT := tt_3 (List.mem_of_getElem? (i := 87) (by decide +kernel)) (by decide +kernel)
theorem mw3_89 : Cond.instanceMethod yX5_readNumber ∈ TT := tt_3 (List.mem_of_getElem? (i := 89) (by decide +kernel)) (by decide +kernel)
theorem ms1_9 : Cond.selects RX5 yX5_readNumber yX5_readNumber ∈ TT := tp_sel (tp_1 (List.mem_of_getElem? (i := 9) (by decide +kernel) : ((yX5_readNumber, 6) : MethodName × Nat) ∈ lw_privs_1)) (by decide +kernel)
theorem mw3_90 : Cond.code yX5_readNumber cX5_readNumber 4 (some .int) ∈ TT := tt_3 (List.mem_of_getElem? (i := 90) rfl) rfl
theorem cwX5_96_V : CwV RX5 96 RX5 yX5_readNumber cX5_readNumber 4 (some .int) 2 := ⟨mw3_87, mw3_89, ms1_9, mw1_2, mw3_90, ⟨by decide, by decide, by decide⟩⟩
theorem mw3_91 : Cond.methodLink RX5 100 yJ9_min_7cf53 ∈ TT := tt_3 (List.mem_of_getElem? (i := 91) (by decide +kernel)) (by decide +kernel)
theorem pfX5_40 {x : Ct} {cc : ByteArray} {nL cells slots pc n : Nat} {rm : Room} {w : Wv} {lv : List (Nat × Value)} {st : List Value} {v : Int32} (C : Cx x cc nL RX5 rm) (hn : (wK w)[n]? = some (9, .inl fX9)) (d : decode cc pc = .ok (.putfield 40, 3)) (kk : ∀ w', w' = setI w n 0 v → V x cells slots w' (pc + 3) lv st) : V x cells slots w pc lv (.int v :: .ref (gz (xG x) + n) :: st) := r_putI (k := 0) C hn rfl inX9 tyX9 tyX9_ok nmX9 (by decide) mw1_63 rfl rfl rfl rfl d kk
theorem mw1_68 : Cond.fieldLink RX5 105 "HeardTunes$Town" "height" "I" ∈ TT := tt_1 (List.mem_of_getElem? (i := 68) (by decide +kernel)) (by decide +kernel)
theorem pfX5_105 {x : Ct} {cc : ByteArray} {nL cells slots pc n : Nat} {rm : Room} {w : Wv} {lv : List (Nat × Value)} {st : List Value} {v : Int32} (C : Cx x cc nL RX5 rm) (hn : (wK w)[n]? = some (9, .inl fX9)) (d : decode cc pc = .ok (.putfield 105, 3)) (kk : ∀ w', w' = setI w n 1 v → V x cells slots w' (pc + 3) lv st) : V x cells slots w pc lv (.int v :: .ref (gz (xG x) + n) :: st) := r_putI (k := 1) C hn rfl inX9 tyX9 tyX9_ok nmX9 (by decide) mw1_68 rfl rfl rfl rfl d kk
theorem mw3_96 : Cond.methodLink RX5 108 yX5_readCell ∈ TT := tt_3 (List.mem_of_getElem? (i := 96) (by decide +kernel)) (by decide +kernel)
theorem mw3_98 : Cond.instanceMethod yX5_readCell ∈ TT := tt_3 (List.mem_of_getElem? (i := 98) (by decide +kernel)) (by decide +kernel)
theorem ms1_11 : Cond.selects RX5 yX5_readCell yX5_readCell ∈ TT := tp_sel (tp_1 (List.mem_of_getElem? (i := 11) (by decide +kernel) : ((yX5_readCell, 6) : MethodName × Nat) ∈ lw_privs_1)) (by decide +kernel)
theorem mw3_99 : Cond.code yX5_readCell cX5_readCell 4 (some .int) ∈ TT := tt_3 (List.mem_of_getElem? (i := 99) rfl) rfl
theorem cwX5_108_V : CwV RX5 108 RX5 yX5_readCell cX5_readCell 4 (some .int) 1 := ⟨mw3_96, mw3_98, ms1_11, mw1_2, mw3_99, ⟨by decide, by decide, by decide⟩⟩
theorem mw3_135 : Cond.methodLink RX5 112 yX9_isTaken ∈ TT := tt_3 (List.mem_of_getElem? (i := 135) (by decide +kernel)) (by decide +kernel)
theorem mw3_136 : Cond.instanceMethod yX9_isTaken ∈ TT := tt_3 (List.mem_of_getElem? (i := 136) (by decide +kernel)) (by decide +kernel)
theorem mw3_137 : Cond.selects RX9 yX9_isTaken yX9_isTaken ∈ TT := tt_3 (List.mem_of_getElem? (i := 137) (by decide +kernel)) (by decide +kernel)
theorem mw3_138 : Cond.code yX9_isTaken cX9_isTaken 4 (some .boolean) ∈ TT := tt_3 (List.mem_of_getElem? (i := 138) rfl) rfl
theorem cwX5_112_V : CwV RX5 112 RX9 yX9_isTaken cX9_isTaken 4 (some .boolean) 1 := ⟨mw3_135, mw3_136, mw3_137, mw1_3, mw3_138, ⟨by decide, by decide, by decide⟩⟩
theorem mw1_40 : Cond.fieldLink RX5 116 "HeardTunes$Reader" "numberAt" "I" ∈ TT := tt_1 (List.mem_of_getElem? (i := 40) (by decide +kernel)) (by decide +kernel)
theorem gfX5_116 {x : Ct} {cc : ByteArray} {nL cells slots pc n : Nat} {rm : Room} {w : Wv} {lv : List (Nat × Value)} {st : List Value} {v : Int32} (C : Cx x cc nL RX5 rm) (hn : (wK w)[n]? = some (5, .inl fX5)) (hv : wI w n 5 = v) (d : decode cc pc = .ok (.getfield 116, 3)) (kk : V x cells slots w (pc + 3) lv (.int v :: st)) : V x cells slots w pc lv (.ref (gz (xG x) + n) :: st) := by subst hv; exact r_getI C hn rfl inX5 (by decide) mw1_40 rfl d kk
theorem mw3_140 : Cond.methodLink RX5 119 yX9_addSpot ∈ TT := tt_3 (List.mem_of_getElem? (i := 140) (by decide +kernel)) (by decide +kernel)
theorem mw3_141 : Cond.instanceMethod yX9_addSpot ∈ TT := tt_3 (List.mem_of_getElem? (i := 141) (by decide +kernel)) (by decide +kernel)
theorem mw3_142 : Cond.selects RX9 yX9_addSpot yX9_addSpot ∈ TT := tt_3 (List.mem_of_getElem? (i := 142) (by decide +kernel)) (by decide +kernel)
theorem mw3_143 : Cond.code yX9_addSpot cX9_addSpot 3 none ∈ TT := tt_3 (List.mem_of_getElem? (i := 143) rfl) rfl
theorem cwX5_119_V : CwV RX5 119 RX9 yX9_addSpot cX9_addSpot 3 none 2 := ⟨mw3_140, mw3_141, mw3_142, mw1_3, mw3_143, ⟨by decide, by decide, by decide⟩⟩
theorem mw3_100 : Cond.methodLink RX5 122 yX5_blameIfSpot ∈ TT := tt_3 (List.mem_of_getElem? (i := 100) (by decide +kernel)) (by decide +kernel)
theorem mw3_102 : Cond.instanceMethod yX5_blameIfSpot ∈ TT := tt_3 (List.mem_of_getElem? (i := 102) (by decide +kernel)) (by decide +kernel)
theorem ms1_12 : Cond.selects RX5 yX5_blameIfSpot yX5_blameIfSpot ∈ TT := tp_sel (tp_1 (List.mem_of_getElem? (i := 12) (by decide +kernel) : ((yX5_blameIfSpot, 6) : MethodName × Nat) ∈ lw_privs_1)) (by decide +kernel)
theorem mw3_103 : Cond.code yX5_blameIfSpot cX5_blameIfSpot 3 none ∈ TT := tt_3 (List.mem_of_getElem? (i := 103) rfl) rfl
theorem cwX5_122_V : CwV RX5 122 RX5 yX5_blameIfSpot cX5_blameIfSpot 3 none 2 := ⟨mw3_100, mw3_102, ms1_12, mw1_2, mw3_103, ⟨by decide, by decide, by decide⟩⟩
theorem mw3_111 : Cond.methodLink RX5 125 yX9_addCrowd ∈ TT := tt_3 (List.mem_of_getElem? (i := 111) (by decide +kernel)) (by decide +kernel)
theorem mw3_112 : Cond.instanceMethod yX9_addCrowd ∈ TT := tt_3 (List.mem_of_getElem? (i := 112) (by decide +kernel)) (by decide +kernel)
theorem mw3_113 : Cond.selects RX9 yX9_addCrowd yX9_addCrowd ∈ TT := tt_3 (List.mem_of_getElem? (i := 113) (by decide +kernel)) (by decide +kernel)
theorem mw3_114 : Cond.code yX9_addCrowd cX9_addCrowd 6 none ∈ TT := tt_3 (List.mem_of_getElem? (i := 114) rfl) rfl
theorem cwX5_125_V : CwV RX5 125 RX9 yX9_addCrowd cX9_addCrowd 6 none 5 := ⟨mw3_111, mw3_112, mw3_113, mw1_3, mw3_114, ⟨by decide, by decide, by decide⟩⟩
theorem mw3_119 : Cond.methodLink RX5 129 yX9_addTune ∈ TT := tt_3 (List.mem_of_getElem? (i := 119) (by decide +kernel)) (by decide +kernel)
theorem mw3_120 : Cond.instanceMethod yX9_addTune ∈ TT := tt_3 (List.mem_of_getElem? (i := 120) (by decide +kernel)) (by decide +kernel)
theorem mw3_121 : Cond.selects RX9 yX9_addTune yX9_addTune ∈ TT := tt_3 (List.mem_of_getElem? (i := 121) (by decide +kernel)) (by decide +kernel)
theorem mw3_122 : Cond.code yX9_addTune cX9_addTune 3 none ∈ TT := tt_3 (List.mem_of_getElem? (i := 122) rfl) rfl
theorem cwX5_129_V : CwV RX5 129 RX9 yX9_addTune cX9_addTune 3 none 2 := ⟨mw3_119, mw3_120, mw3_121, mw1_3, mw3_122, ⟨by decide, by decide, by decide⟩⟩
theorem pfX5_86 {x : Ct} {cc : ByteArray} {nL cells slots pc n : Nat} {rm : Room} {w : Wv} {lv : List (Nat × Value)} {st : List Value} {v : Int32} (C : Cx x cc nL RX5 rm) (hn : (wK w)[n]? = some (9, .inl fX9)) (d : decode cc pc = .ok (.putfield 86, 3)) (kk : ∀ w', w' = setI w n 5 v → V x cells slots w' (pc + 3) lv st) : V x cells slots w pc lv (.int v :: .ref (gz (xG x) + n) :: st) := r_putI (k := 5) C hn rfl inX9 tyX9 tyX9_ok nmX9 (by decide) mw1_81 rfl rfl rfl rfl d kk
theorem mw1_85 : Cond.fieldLink RX5 132 "HeardTunes$Town" "forOut" "I" ∈ TT := tt_1 (List.mem_of_getElem? (i := 85) (by decide +kernel)) (by decide +kernel)
theorem pfX5_132 {x : Ct} {cc : ByteArray} {nL cells slots pc n : Nat} {rm : Room} {w : Wv} {lv : List (Nat × Value)} {st : List Value} {v : Int32} (C : Cx x cc nL RX5 rm) (hn : (wK w)[n]? = some (9, .inl fX9)) (d : decode cc pc = .ok (.putfield 132, 3)) (kk : ∀ w', w' = setI w n 7 v → V x cells slots w' (pc + 3) lv st) : V x cells slots w pc lv (.int v :: .ref (gz (xG x) + n) :: st) := r_putI (k := 7) C hn rfl inX9 tyX9 tyX9_ok nmX9 (by decide) mw1_85 rfl rfl rfl rfl d kk
theorem mw1_88 : Cond.fieldLink RX5 135 "HeardTunes$Town" "forDrowned" "I" ∈ TT := tt_1 (List.mem_of_getElem? (i := 88) (by decide +kernel)) (by decide +kernel)
theorem pfX5_135 {x : Ct} {cc : ByteArray} {nL cells slots pc n : Nat} {rm : Room} {w : Wv} {lv : List (Nat × Value)} {st : List Value} {v : Int32} (C : Cx x cc nL RX5 rm) (hn : (wK w)[n]? = some (9, .inl fX9)) (d : decode cc pc = .ok (.putfield 135, 3)) (kk : ∀ w', w' = setI w n 8 v → V x cells slots w' (pc + 3) lv st) : V x cells slots w pc lv (.int v :: .ref (gz (xG x) + n) :: st) := r_putI (k := 8) C hn rfl inX9 tyX9 tyX9_ok nmX9 (by decide) mw1_88 rfl rfl rfl rfl d kk
theorem pfX5_89 {x : Ct} {cc : ByteArray} {nL cells slots pc n : Nat} {rm : Room} {w : Wv} {lv : List (Nat × Value)} {st : List Value} {v : Int32} (C : Cx x cc nL RX5 rm) (hn : (wK w)[n]? = some (9, .inl fX9)) (hz : v = 0 ∨ v = 1) (d : decode cc pc = .ok (.putfield 89, 3)) (kk : ∀ w', w' = setI w n 6 v → V x cells slots w' (pc + 3) lv st) : V x cells slots w pc lv (.int v :: .ref (gz (xG x) + n) :: st) := r_putI (k := 6) C hn rfl inX9 tyX9 tyX9_ok nmX9 (by decide) mw1_83 rfl rfl (nar_z hz) (fit_z hz) d kk
theorem gfX5_105 {x : Ct} {cc : ByteArray} {nL cells slots pc n : Nat} {rm : Room} {w : Wv} {lv : List (Nat × Value)} {st : List Value} {v : Int32} (C : Cx x cc nL RX5 rm) (hn : (wK w)[n]? = some (9, .inl fX9)) (hv : wI w n 1 = v) (d : decode cc pc = .ok (.getfield 105, 3)) (kk : V x cells slots w (pc + 3) lv (.int v :: st)) : V x cells slots w pc lv (.ref (gz (xG x) + n) :: st) := by subst hv; exact r_getI C hn rfl inX9 (by decide) mw1_68 rfl d kk
theorem mw3_104 : Cond.methodLink RX5 138 yX9_isSpot ∈ TT := tt_3 (List.mem_of_getElem? (i := 104) (by decide +kernel)) (by decide +kernel)
theorem mw3_105 : Cond.instanceMethod yX9_isSpot ∈ TT := tt_3 (List.mem_of_getElem? (i := 105) (by decide +kernel)) (by decide +kernel)
theorem mw3_106 : Cond.selects RX9 yX9_isSpot yX9_isSpot ∈ TT := tt_3 (List.mem_of_getElem? (i := 106) (by decide +kernel)) (by decide +kernel)
theorem mw3_107 : Cond.code yX9_isSpot cX9_isSpot 2 (some .boolean) ∈ TT := tt_3 (List.mem_of_getElem? (i := 107) rfl) rfl
theorem cwX5_138_V : CwV RX5 138 RX9 yX9_isSpot cX9_isSpot 2 (some .boolean) 1 := ⟨mw3_104, mw3_105, mw3_106, mw1_3, mw3_107, ⟨by decide, by decide, by decide⟩⟩
theorem pfX5_116 {x : Ct} {cc : ByteArray} {nL cells slots pc n : Nat} {rm : Room} {w : Wv} {lv : List (Nat × Value)} {st : List Value} {v : Int32} (C : Cx x cc nL RX5 rm) (hn : (wK w)[n]? = some (5, .inl fX5)) (d : decode cc pc = .ok (.putfield 116, 3)) (kk : ∀ w', w' = setI w n 5 v → V x cells slots w' (pc + 3) lv st) : V x cells slots w pc lv (.int v :: .ref (gz (xG x) + n) :: st) := r_putI (k := 5) C hn rfl inX5 tyX5 tyX5_ok nmX5 (by decide) mw1_40 rfl rfl rfl rfl d kk
theorem mw3_17 : Cond.methodLink RX5 143 yX5_isWord ∈ TT := tt_3 (List.mem_of_getElem? (i := 17) (by decide +kernel)) (by decide +kernel)
theorem mw3_19 : Cond.instanceMethod yX5_isWord ∈ TT := tt_3 (List.mem_of_getElem? (i := 19) (by decide +kernel)) (by decide +kernel)
theorem ms1_6 : Cond.selects RX5 yX5_isWord yX5_isWord ∈ TT := tp_sel (tp_1 (List.mem_of_getElem? (i := 6) (by decide +kernel) : ((yX5_isWord, 6) : MethodName × Nat) ∈ lw_privs_1)) (by decide +kernel)
theorem mw3_20 : Cond.code yX5_isWord cX5_isWord 5 (some .boolean) ∈ TT := tt_3 (List.mem_of_getElem? (i := 20) rfl) rfl
theorem cwX5_143_V : CwV RX5 143 RX5 yX5_isWord cX5_isWord 5 (some .boolean) 2 := ⟨mw3_17, mw3_19, ms1_6, mw1_2, mw3_20, ⟨by decide, by decide, by decide⟩⟩
theorem mw1_193 : Cond.methodLink RX6 3 objectInit ∈ TT := tt_1 (List.mem_of_getElem? (i := 193) (by decide +kernel)) (by decide +kernel)
theorem mw1_199 : Cond.fieldLink RX6 9 "HeardTunes$Scene" "at" "[I" ∈ TT := tt_1 (List.mem_of_getElem? (i := 199) (by decide +kernel)) (by decide +kernel)
theorem pfX6_9 {x : Ct} {cc : ByteArray} {nL cells slots pc n : Nat} {rm : Room} {w : Wv} {lv : List (Nat × Value)} {st : List Value} {q : Nat} (C : Cx x cc nL RX6 rm) (hin2 : (xM x).name = "<init>") (hn : (wK w)[n]? = some (6, .inl fX6)) (d : decode cc pc = .ok (.putfield 9, 3)) (kk : ∀ w', w' = setX w n 2 (some q) → V x cells slots w' (pc + 3) lv st) : V x cells slots w pc lv (.ref (gz (xG x) + q) :: .ref (gz (xG x) + n) :: st) := r_putX C hin2 hn rfl inX6 tyX6 tyX6_ok nmX6 (by decide) mw1_199 rfl rfl rfl rfl rfl d kk
theorem mw1_202 : Cond.fieldLink RX6 15 "HeardTunes$Scene" "goal" "[I" ∈ TT := tt_1 (List.mem_of_getElem? (i := 202) (by decide +kernel)) (by decide +kernel)
theorem pfX6_15 {x : Ct} {cc : ByteArray} {nL cells slots pc n : Nat} {rm : Room} {w : Wv} {lv : List (Nat × Value)} {st : List Value} {q : Nat} (C : Cx x cc nL RX6 rm) (hin2 : (xM x).name = "<init>") (hn : (wK w)[n]? = some (6, .inl fX6)) (d : decode cc pc = .ok (.putfield 15, 3)) (kk : ∀ w', w' = setX w n 3 (some q) → V x cells slots w' (pc + 3) lv st) : V x cells slots w pc lv (.ref (gz (xG x) + q) :: .ref (gz (xG x) + n) :: st) := r_putX C hin2 hn rfl inX6 tyX6 tyX6_ok nmX6 (by decide) mw1_202 rfl rfl rfl rfl rfl d kk
theorem mw1_205 : Cond.fieldLink RX6 18 "HeardTunes$Scene" "town" "LHeardTunes$Town;" ∈ TT := tt_1 (List.mem_of_getElem? (i := 205) (by decide +kernel)) (by decide +kernel)
theorem pfX6_18 {x : Ct} {cc : ByteArray} {nL cells slots pc n : Nat} {rm : Room} {w : Wv} {lv : List (Nat × Value)} {st : List Value} {q : Nat} (C : Cx x cc nL RX6 rm) (hin2 : (xM x).name = "<init>") (hn : (wK w)[n]? = some (6, .inl fX6)) (d : decode cc pc = .ok (.putfield 18, 3)) (kk : ∀ w', w' = setX w n 4 (some q) → V x cells slots w' (pc + 3) lv st) : V x cells slots w pc lv (.ref (gz (xG x) + q) :: .ref (gz (xG x) + n) :: st) := r_putX C hin2 hn rfl inX6 tyX6 tyX6_ok nmX6 (by decide) mw1_205 rfl rfl rfl rfl rfl d kk
theorem mw1_206 : Cond.fieldLink RX6 22 "HeardTunes$Scene" "ground" "LHeardTunes$Ground;" ∈ TT := tt_1 (List.mem_of_getElem? (i := 206) (by decide +kernel)) (by decide +kernel)
theorem pfX6_22 {x : Ct} {cc : ByteArray} {nL cells slots pc n : Nat} {rm : Room} {w : Wv} {lv : List (Nat × Value)} {st : List Value} {q : Nat} (C : Cx x cc nL RX6 rm) (hin2 : (xM x).name = "<init>") (hn : (wK w)[n]? = some (6, .inl fX6)) (d : decode cc pc = .ok (.putfield 22, 3)) (kk : ∀ w', w' = setX w n 5 (some q) → V x cells slots w' (pc + 3) lv st) : V x cells slots w pc lv (.ref (gz (xG x) + q) :: .ref (gz (xG x) + n) :: st) := r_putX C hin2 hn rfl inX6 tyX6 tyX6_ok nmX6 (by decide) mw1_206 rfl rfl rfl rfl rfl d kk
theorem gfX6_18 {x : Ct} {cc : ByteArray} {nL cells slots pc n : Nat} {rm : Room} {w : Wv} {lv : List (Nat × Value)} {st : List Value} (q : Nat) (C : Cx x cc nL RX6 rm) (hn : (wK w)[n]? = some (6, .inl fX6)) (hX : wX w n 4 = some q) (d : decode cc pc = .ok (.getfield 18, 3)) (kk : V x cells slots w (pc + 3) lv (.ref (gz (xG x) + q) :: st)) : V x cells slots w pc lv (.ref (gz (xG x) + n) :: st) := r_getX C hn rfl inX6 (by decide) mw1_205 rfl hX d kk
theorem mw1_79 : Cond.fieldLink RX6 26 "HeardTunes$Town" "piper" "I" ∈ TT := tt_1 (List.mem_of_getElem? (i := 79) (by decide +kernel)) (by decide +kernel)
theorem gfX6_26 {x : Ct} {cc : ByteArray} {nL cells slots pc n : Nat} {rm : Room} {w : Wv} {lv : List (Nat × Value)} {st : List Value} {v : Int32} (C : Cx x cc nL RX6 rm) (hn : (wK w)[n]? = some (9, .inl fX9)) (hv : wI w n 5 = v) (d : decode cc pc = .ok (.getfield 26, 3)) (kk : V x cells slots w (pc + 3) lv (.int v :: st)) : V x cells slots w pc lv (.ref (gz (xG x) + n) :: st) := by subst hv; exact r_getI C hn rfl inX9 (by decide) mw1_79 rfl d kk
theorem mw1_194 : Cond.fieldLink RX6 32 "HeardTunes$Scene" "piper" "I" ∈ TT := tt_1 (List.mem_of_getElem? (i := 194) (by decide +kernel)) (by decide +kernel)
theorem pfX6_32 {x : Ct} {cc : ByteArray} {nL cells slots pc n : Nat} {rm : Room} {w : Wv} {lv : List (Nat × Value)} {st : List Value} {v : Int32} (C : Cx x cc nL RX6 rm) (hn : (wK w)[n]? = some (6, .inl fX6)) (d : decode cc pc = .ok (.putfield 32, 3)) (kk : ∀ w', w' = setI w n 0 v → V x cells slots w' (pc + 3) lv st) : V x cells slots w pc lv (.int v :: .ref (gz (xG x) + n) :: st) := r_putI (k := 0) C hn rfl inX6 tyX6 tyX6_ok nmX6 (by decide) mw1_194 rfl rfl rfl rfl d kk
theorem mw1_197 : Cond.fieldLink RX6 33 "HeardTunes$Scene" "minutes" "I" ∈ TT := tt_1 (List.mem_of_getElem? (i := 197) (by decide +kernel)) (by decide +kernel)
theorem pfX6_33 {x : Ct} {cc : ByteArray} {nL cells slots pc n : Nat} {rm : Room} {w : Wv} {lv : List (Nat × Value)} {st : List Value} {v : Int32} (C : Cx x cc nL RX6 rm) (hn : (wK w)[n]? = some (6, .inl fX6)) (d : decode cc pc = .ok (.putfield 33, 3)) (kk : ∀ w', w' = setI w n 1 v → V x cells slots w' (pc + 3) lv st) : V x cells slots w pc lv (.int v :: .ref (gz (xG x) + n) :: st) := r_putI (k := 1) C hn rfl inX6 tyX6 tyX6_ok nmX6 (by decide) mw1_197 rfl rfl rfl rfl d kk
theorem gfX6_9 {x : Ct} {cc : ByteArray} {nL cells slots pc n : Nat} {rm : Room} {w : Wv} {lv : List (Nat × Value)} {st : List Value} (q : Nat) (C : Cx x cc nL RX6 rm) (hn : (wK w)[n]? = some (6, .inl fX6)) (hX : wX w n 2 = some q) (d : decode cc pc = .ok (.getfield 9, 3)) (kk : V x cells slots w (pc + 3) lv (.ref (gz (xG x) + q) :: st)) : V x cells slots w pc lv (.ref (gz (xG x) + n) :: st) := r_getX C hn rfl inX6 (by decide) mw1_199 rfl hX d kk
theorem mw1_97 : Cond.fieldLink RX6 36 "HeardTunes$Town" "start" "[I" ∈ TT := tt_1 (List.mem_of_getElem? (i := 97) (by decide +kernel)) (by decide +kernel)
theorem gfX6_36 {x : Ct} {cc : ByteArray} {nL cells slots pc n : Nat} {rm : Room} {w : Wv} {lv : List (Nat × Value)} {st : List Value} (q : Nat) (C : Cx x cc nL RX6 rm) (hn : (wK w)[n]? = some (9, .inl fX9)) (hX : wX w n 11 = some q) (d : decode cc pc = .ok (.getfield 36, 3)) (kk : V x cells slots w (pc + 3) lv (.ref (gz (xG x) + q) :: st)) : V x cells slots w pc lv (.ref (gz (xG x) + n) :: st) := r_getX C hn rfl inX9 (by decide) mw1_97 rfl hX d kk
theorem gfX6_15 {x : Ct} {cc : ByteArray} {nL cells slots pc n : Nat} {rm : Room} {w : Wv} {lv : List (Nat × Value)} {st : List Value} (q : Nat) (C : Cx x cc nL RX6 rm) (hn : (wK w)[n]? = some (6, .inl fX6)) (hX : wX w n 3 = some q) (d : decode cc pc = .ok (.getfield 15, 3)) (kk : V x cells slots w (pc + 3) lv (.ref (gz (xG x) + q) :: st)) : V x cells slots w pc lv (.ref (gz (xG x) + n) :: st) := r_getX C hn rfl inX6 (by decide) mw1_202 rfl hX d kk
theorem gfX6_32 {x : Ct} {cc : ByteArray} {nL cells slots pc n : Nat} {rm : Room} {w : Wv} {lv : List (Nat × Value)} {st : List Value} {v : Int32} (C : Cx x cc nL RX6 rm) (hn : (wK w)[n]? = some (6, .inl fX6)) (hv : wI w n 0 = v) (d : decode cc pc = .ok (.getfield 32, 3)) (kk : V x cells slots w (pc + 3) lv (.int v :: st)) : V x cells slots w pc lv (.ref (gz (xG x) + n) :: st) := by subst hv; exact r_getI C hn rfl inX6 (by decide) mw1_194 rfl d kk
theorem gfX6_33 {x : Ct} {cc : ByteArray} {nL cells slots pc n : Nat} {rm : Room} {w : Wv} {lv : List (Nat × Value)} {st : List Value} {v : Int32} (C : Cx x cc nL RX6 rm) (hn : (wK w)[n]? = some (6, .inl fX6)) (hv : wI w n 1 = v) (d : decode cc pc = .ok (.getfield 33, 3)) (kk : V x cells slots w (pc + 3) lv (.int v :: st)) : V x cells slots w pc lv (.ref (gz (xG x) + n) :: st) := by subst hv; exact r_getI C hn rfl inX6 (by decide) mw1_197 rfl d kk
theorem mw1_72 : Cond.fieldLink RX6 39 "HeardTunes$Town" "crowds" "I" ∈ TT := tt_1 (List.mem_of_getElem? (i := 72) (by decide +kernel)) (by decide +kernel)
theorem gfX6_39 {x : Ct} {cc : ByteArray} {nL cells slots pc n : Nat} {rm : Room} {w : Wv} {lv : List (Nat × Value)} {st : List Value} {v : Int32} (C : Cx x cc nL RX6 rm) (hn : (wK w)[n]? = some (9, .inl fX9)) (hv : wI w n 3 = v) (d : decode cc pc = .ok (.getfield 39, 3)) (kk : V x cells slots w (pc + 3) lv (.int v :: st)) : V x cells slots w pc lv (.ref (gz (xG x) + n) :: st) := by subst hv; exact r_getI C hn rfl inX9 (by decide) mw1_72 rfl d kk
theorem gfX6_22 {x : Ct} {cc : ByteArray} {nL cells slots pc n : Nat} {rm : Room} {w : Wv} {lv : List (Nat × Value)} {st : List Value} (q : Nat) (C : Cx x cc nL RX6 rm) (hn : (wK w)[n]? = some (6, .inl fX6)) (hX : wX w n 5 = some q) (d : decode cc pc = .ok (.getfield 22, 3)) (kk : V x cells slots w (pc + 3) lv (.ref (gz (xG x) + q) :: st)) : V x cells slots w pc lv (.ref (gz (xG x) + n) :: st) := r_getX C hn rfl inX6 (by decide) mw1_206 rfl hX d kk
theorem mw1_156 : Cond.fieldLink RX6 42 "HeardTunes$Ground" "count" "I" ∈ TT := tt_1 (List.mem_of_getElem? (i := 156) (by decide +kernel)) (by decide +kernel)
theorem gfX6_42 {x : Ct} {cc : ByteArray} {nL cells slots pc n : Nat} {rm : Room} {w : Wv} {lv : List (Nat × Value)} {st : List Value} {v : Int32} (C : Cx x cc nL RX6 rm) (hn : (wK w)[n]? = some (1, .inl fX1)) (hv : wI w n 0 = v) (d : decode cc pc = .ok (.getfield 42, 3)) (kk : V x cells slots w (pc + 3) lv (.int v :: st)) : V x cells slots w pc lv (.ref (gz (xG x) + n) :: st) := by subst hv; exact r_getI C hn rfl inX1 (by decide) mw1_156 rfl d kk
theorem mw4_24 : Cond.methodLink RX6 47 yX1_beside ∈ TT := tt_4 (List.mem_of_getElem? (i := 24) (by decide +kernel)) (by decide +kernel)
theorem cwX6_47_V : CwV RX6 47 RX1 yX1_beside cX1_beside 4 (some .int) 2 := ⟨mw4_24, mw4_25, mw4_26, mw1_4, mw4_27, ⟨by decide, by decide, by decide⟩⟩
theorem mw4_28 : Cond.methodLink RX6 51 yX1_what ∈ TT := tt_4 (List.mem_of_getElem? (i := 28) (by decide +kernel)) (by decide +kernel)
theorem mw3_200 : Cond.instanceMethod yX1_what ∈ TT := tt_3 (List.mem_of_getElem? (i := 200) (by decide +kernel)) (by decide +kernel)
theorem mw3_201 : Cond.selects RX1 yX1_what yX1_what ∈ TT := tt_3 (List.mem_of_getElem? (i := 201) (by decide +kernel)) (by decide +kernel)
theorem mw3_202 : Cond.code yX1_what cX1_what 2 (some .int) ∈ TT := tt_3 (List.mem_of_getElem? (i := 202) rfl) rfl
theorem cwX6_51_V : CwV RX6 51 RX1 yX1_what cX1_what 2 (some .int) 1 := ⟨mw4_28, mw3_200, mw3_201, mw1_4, mw3_202, ⟨by decide, by decide, by decide⟩⟩
theorem mw3_224 : Cond.methodLink RX6 55 yX6_hears ∈ TT := tt_3 (List.mem_of_getElem? (i := 224) (by decide +kernel)) (by decide +kernel)
theorem mw3_226 : Cond.instanceMethod yX6_hears ∈ TT := tt_3 (List.mem_of_getElem? (i := 226) (by decide +kernel)) (by decide +kernel)
theorem ms2_4 : Cond.selects RX6 yX6_hears yX6_hears ∈ TT := tp_sel (tp_2 (List.mem_of_getElem? (i := 4) (by decide +kernel) : ((yX6_hears, 6) : MethodName × Nat) ∈ lw_privs_2)) (by decide +kernel)
theorem mw3_227 : Cond.code yX6_hears cX6_hears 4 (some .boolean) ∈ TT := tt_3 (List.mem_of_getElem? (i := 227) rfl) rfl
theorem cwX6_55_V : CwV RX6 55 RX6 yX6_hears cX6_hears 4 (some .boolean) 2 := ⟨mw3_224, mw3_226, ms2_4, mw1_5, mw3_227, ⟨by decide, by decide, by decide⟩⟩
theorem mw4_34 : Cond.methodLink RX6 59 yX6_lead ∈ TT := tt_4 (List.mem_of_getElem? (i := 34) (by decide +kernel)) (by decide +kernel)
theorem mw4_36 : Cond.instanceMethod yX6_lead ∈ TT := tt_4 (List.mem_of_getElem? (i := 36) (by decide +kernel)) (by decide +kernel)
theorem ms2_7 : Cond.selects RX6 yX6_lead yX6_lead ∈ TT := tp_sel (tp_2 (List.mem_of_getElem? (i := 7) (by decide +kernel) : ((yX6_lead, 6) : MethodName × Nat) ∈ lw_privs_2)) (by decide +kernel)
theorem mw4_37 : Cond.code yX6_lead cX6_lead 4 none ∈ TT := tt_4 (List.mem_of_getElem? (i := 37) rfl) rfl
theorem cwX6_59_V : CwV RX6 59 RX6 yX6_lead cX6_lead 4 none 1 := ⟨mw4_34, mw4_36, ms2_7, mw1_5, mw4_37, ⟨by decide, by decide, by decide⟩⟩
theorem mw3_228 : Cond.methodLink RX6 63 yX9_isFollower ∈ TT := tt_3 (List.mem_of_getElem? (i := 228) (by decide +kernel)) (by decide +kernel)
theorem mw3_229 : Cond.instanceMethod yX9_isFollower ∈ TT := tt_3 (List.mem_of_getElem? (i := 229) (by decide +kernel)) (by decide +kernel)
theorem mw3_230 : Cond.selects RX9 yX9_isFollower yX9_isFollower ∈ TT := tt_3 (List.mem_of_getElem? (i := 230) (by decide +kernel)) (by decide +kernel)
theorem mw3_231 : Cond.code yX9_isFollower cX9_isFollower 4 (some .boolean) ∈ TT := tt_3 (List.mem_of_getElem? (i := 231) rfl) rfl
theorem cwX6_63_V : CwV RX6 63 RX9 yX9_isFollower cX9_isFollower 4 (some .boolean) 2 := ⟨mw3_228, mw3_229, mw3_230, mw1_3, mw3_231, ⟨by decide, by decide, by decide⟩⟩
theorem mw3_232 : Cond.methodLink RX6 66 yX6_isHere ∈ TT := tt_3 (List.mem_of_getElem? (i := 232) (by decide +kernel)) (by decide +kernel)
theorem mw3_233 : Cond.instanceMethod yX6_isHere ∈ TT := tt_3 (List.mem_of_getElem? (i := 233) (by decide +kernel)) (by decide +kernel)
theorem mw3_234 : Cond.selects RX6 yX6_isHere yX6_isHere ∈ TT := tt_3 (List.mem_of_getElem? (i := 234) (by decide +kernel)) (by decide +kernel)
theorem mw3_235 : Cond.code yX6_isHere cX6_isHere 2 (some .boolean) ∈ TT := tt_3 (List.mem_of_getElem? (i := 235) rfl) rfl
theorem cwX6_66_V : CwV RX6 66 RX6 yX6_isHere cX6_isHere 2 (some .boolean) 1 := ⟨mw3_232, mw3_233, mw3_234, mw1_5, mw3_235, ⟨by decide, by decide, by decide⟩⟩
theorem mw3_236 : Cond.methodLink RX6 70 yX1_steps ∈ TT := tt_3 (List.mem_of_getElem? (i := 236) (by decide +kernel)) (by decide +kernel)
theorem mw3_237 : Cond.instanceMethod yX1_steps ∈ TT := tt_3 (List.mem_of_getElem? (i := 237) (by decide +kernel)) (by decide +kernel)
theorem mw3_238 : Cond.selects RX1 yX1_steps yX1_steps ∈ TT := tt_3 (List.mem_of_getElem? (i := 238) (by decide +kernel)) (by decide +kernel)
theorem mw3_239 : Cond.code yX1_steps cX1_steps 3 (some .int) ∈ TT := tt_3 (List.mem_of_getElem? (i := 239) rfl) rfl
theorem cwX6_70_V : CwV RX6 70 RX1 yX1_steps cX1_steps 3 (some .int) 2 := ⟨mw3_236, mw3_237, mw3_238, mw1_4, mw3_239, ⟨by decide, by decide, by decide⟩⟩
theorem mw1_111 : Cond.fieldLink RX6 73 "HeardTunes$Town" "reach" "[I" ∈ TT := tt_1 (List.mem_of_getElem? (i := 111) (by decide +kernel)) (by decide +kernel)
theorem gfX6_73 {x : Ct} {cc : ByteArray} {nL cells slots pc n : Nat} {rm : Room} {w : Wv} {lv : List (Nat × Value)} {st : List Value} (q : Nat) (C : Cx x cc nL RX6 rm) (hn : (wK w)[n]? = some (9, .inl fX9)) (hX : wX w n 16 = some q) (d : decode cc pc = .ok (.getfield 73, 3)) (kk : V x cells slots w (pc + 3) lv (.ref (gz (xG x) + q) :: st)) : V x cells slots w pc lv (.ref (gz (xG x) + n) :: st) := r_getX C hn rfl inX9 (by decide) mw1_111 rfl hX d kk
theorem mw1_102 : Cond.fieldLink RX6 76 "HeardTunes$Town" "pace" "[I" ∈ TT := tt_1 (List.mem_of_getElem? (i := 102) (by decide +kernel)) (by decide +kernel)
theorem gfX6_76 {x : Ct} {cc : ByteArray} {nL cells slots pc n : Nat} {rm : Room} {w : Wv} {lv : List (Nat × Value)} {st : List Value} (q : Nat) (C : Cx x cc nL RX6 rm) (hn : (wK w)[n]? = some (9, .inl fX9)) (hX : wX w n 13 = some q) (d : decode cc pc = .ok (.getfield 76, 3)) (kk : V x cells slots w (pc + 3) lv (.ref (gz (xG x) + q) :: st)) : V x cells slots w pc lv (.ref (gz (xG x) + n) :: st) := r_getX C hn rfl inX9 (by decide) mw1_102 rfl hX d kk
theorem mw4_38 : Cond.methodLink RX6 79 yX1_onward ∈ TT := tt_4 (List.mem_of_getElem? (i := 38) (by decide +kernel)) (by decide +kernel)
theorem mw4_39 : Cond.instanceMethod yX1_onward ∈ TT := tt_4 (List.mem_of_getElem? (i := 39) (by decide +kernel)) (by decide +kernel)
theorem mw4_40 : Cond.selects RX1 yX1_onward yX1_onward ∈ TT := tt_4 (List.mem_of_getElem? (i := 40) (by decide +kernel)) (by decide +kernel)
theorem mw4_41 : Cond.code yX1_onward cX1_onward 7 (some .int) ∈ TT := tt_4 (List.mem_of_getElem? (i := 41) rfl) rfl
theorem cwX6_79_V : CwV RX6 79 RX1 yX1_onward cX1_onward 7 (some .int) 2 := ⟨mw4_38, mw4_39, mw4_40, mw1_4, mw4_41, ⟨by decide, by decide, by decide⟩⟩
theorem mw3_173 : Cond.methodLink RX6 82 yX6_fate ∈ TT := tt_3 (List.mem_of_getElem? (i := 173) (by decide +kernel)) (by decide +kernel)
theorem mw3_174 : Cond.instanceMethod yX6_fate ∈ TT := tt_3 (List.mem_of_getElem? (i := 174) (by decide +kernel)) (by decide +kernel)
theorem mw3_175 : Cond.selects RX6 yX6_fate yX6_fate ∈ TT := tt_3 (List.mem_of_getElem? (i := 175) (by decide +kernel)) (by decide +kernel)
theorem mw3_176 : Cond.code yX6_fate cX6_fate 4 (some .int) ∈ TT := tt_3 (List.mem_of_getElem? (i := 176) rfl) rfl
theorem cwX6_82_V : CwV RX6 82 RX6 yX6_fate cX6_fate 4 (some .int) 1 := ⟨mw3_173, mw3_174, mw3_175, mw1_5, mw3_176, ⟨by decide, by decide, by decide⟩⟩
theorem mw1_160 : Cond.fieldLink RX6 85 "HeardTunes$Ground" "whats" "[I" ∈ TT := tt_1 (List.mem_of_getElem? (i := 160) (by decide +kernel)) (by decide +kernel)
theorem gfX6_85 {x : Ct} {cc : ByteArray} {nL cells slots pc n : Nat} {rm : Room} {w : Wv} {lv : List (Nat × Value)} {st : List Value} (q : Nat) (C : Cx x cc nL RX6 rm) (hn : (wK w)[n]? = some (1, .inl fX1)) (hX : wX w n 1 = some q) (d : decode cc pc = .ok (.getfield 85, 3)) (kk : V x cells slots w (pc + 3) lv (.ref (gz (xG x) + q) :: st)) : V x cells slots w pc lv (.ref (gz (xG x) + n) :: st) := r_getX C hn rfl inX1 (by decide) mw1_160 rfl hX d kk
theorem mw3_177 : Cond.methodLink RX6 88 yX9_followers ∈ TT := tt_3 (List.mem_of_getElem? (i := 177) (by decide +kernel)) (by decide +kernel)
theorem mw3_178 : Cond.instanceMethod yX9_followers ∈ TT := tt_3 (List.mem_of_getElem? (i := 178) (by decide +kernel)) (by decide +kernel)
theorem mw3_179 : Cond.selects RX9 yX9_followers yX9_followers ∈ TT := tt_3 (List.mem_of_getElem? (i := 179) (by decide +kernel)) (by decide +kernel)
theorem mw3_180 : Cond.code yX9_followers cX9_followers 2 (some .int) ∈ TT := tt_3 (List.mem_of_getElem? (i := 180) rfl) rfl
theorem cwX6_88_V : CwV RX6 88 RX9 yX9_followers cX9_followers 2 (some .int) 1 := ⟨mw3_177, mw3_178, mw3_179, mw1_3, mw3_180, ⟨by decide, by decide, by decide⟩⟩
theorem mw4_50 : Cond.methodLink RX6 91 yX6_isAt ∈ TT := tt_4 (List.mem_of_getElem? (i := 50) (by decide +kernel)) (by decide +kernel)
theorem mw4_51 : Cond.instanceMethod yX6_isAt ∈ TT := tt_4 (List.mem_of_getElem? (i := 51) (by decide +kernel)) (by decide +kernel)
theorem mw4_52 : Cond.selects RX6 yX6_isAt yX6_isAt ∈ TT := tt_4 (List.mem_of_getElem? (i := 52) (by decide +kernel)) (by decide +kernel)
theorem mw4_53 : Cond.code yX6_isAt cX6_isAt 3 (some .boolean) ∈ TT := tt_4 (List.mem_of_getElem? (i := 53) rfl) rfl
theorem cwX6_91_V : CwV RX6 91 RX6 yX6_isAt cX6_isAt 3 (some .boolean) 2 := ⟨mw4_50, mw4_51, mw4_52, mw1_5, mw4_53, ⟨by decide, by decide, by decide⟩⟩
theorem mw1_95 : Cond.fieldLink RX6 94 "HeardTunes$Town" "kind" "[I" ∈ TT := tt_1 (List.mem_of_getElem? (i := 95) (by decide +kernel)) (by decide +kernel)
theorem gfX6_94 {x : Ct} {cc : ByteArray} {nL cells slots pc n : Nat} {rm : Room} {w : Wv} {lv : List (Nat × Value)} {st : List Value} (q : Nat) (C : Cx x cc nL RX6 rm) (hn : (wK w)[n]? = some (9, .inl fX9)) (hX : wX w n 10 = some q) (d : decode cc pc = .ok (.getfield 94, 3)) (kk : V x cells slots w (pc + 3) lv (.ref (gz (xG x) + q) :: st)) : V x cells slots w pc lv (.ref (gz (xG x) + n) :: st) := r_getX C hn rfl inX9 (by decide) mw1_95 rfl hX d kk
theorem mw1_100 : Cond.fieldLink RX6 97 "HeardTunes$Town" "heads" "[I" ∈ TT := tt_1 (List.mem_of_getElem? (i := 100) (by decide +kernel)) (by decide +kernel)
theorem gfX6_97 {x : Ct} {cc : ByteArray} {nL cells slots pc n : Nat} {rm : Room} {w : Wv} {lv : List (Nat × Value)} {st : List Value} (q : Nat) (C : Cx x cc nL RX6 rm) (hn : (wK w)[n]? = some (9, .inl fX9)) (hX : wX w n 12 = some q) (d : decode cc pc = .ok (.getfield 97, 3)) (kk : V x cells slots w (pc + 3) lv (.ref (gz (xG x) + q) :: st)) : V x cells slots w pc lv (.ref (gz (xG x) + n) :: st) := r_getX C hn rfl inX9 (by decide) mw1_100 rfl hX d kk
theorem mw1_107 : Cond.fieldLink RX6 100 "HeardTunes$Town" "deaf" "[I" ∈ TT := tt_1 (List.mem_of_getElem? (i := 107) (by decide +kernel)) (by decide +kernel)
theorem gfX6_100 {x : Ct} {cc : ByteArray} {nL cells slots pc n : Nat} {rm : Room} {w : Wv} {lv : List (Nat × Value)} {st : List Value} (q : Nat) (C : Cx x cc nL RX6 rm) (hn : (wK w)[n]? = some (9, .inl fX9)) (hX : wX w n 14 = some q) (d : decode cc pc = .ok (.getfield 100, 3)) (kk : V x cells slots w (pc + 3) lv (.ref (gz (xG x) + q) :: st)) : V x cells slots w pc lv (.ref (gz (xG x) + n) :: st) := r_getX C hn rfl inX9 (by decide) mw1_107 rfl hX d kk
theorem mw1_86 : Cond.fieldLink RX6 103 "HeardTunes$Town" "forOut" "I" ∈ TT := tt_1 (List.mem_of_getElem? (i := 86) (by decide +kernel)) (by decide +kernel)
theorem gfX6_103 {x : Ct} {cc : ByteArray} {nL cells slots pc n : Nat} {rm : Room} {w : Wv} {lv : List (Nat × Value)} {st : List Value} {v : Int32} (C : Cx x cc nL RX6 rm) (hn : (wK w)[n]? = some (9, .inl fX9)) (hv : wI w n 7 = v) (d : decode cc pc = .ok (.getfield 103, 3)) (kk : V x cells slots w (pc + 3) lv (.int v :: st)) : V x cells slots w pc lv (.ref (gz (xG x) + n) :: st) := by subst hv; exact r_getI C hn rfl inX9 (by decide) mw1_86 rfl d kk
theorem mw3_189 : Cond.methodLink RX6 106 yX6_heads ∈ TT := tt_3 (List.mem_of_getElem? (i := 189) (by decide +kernel)) (by decide +kernel)
theorem mw3_170 : Cond.instanceMethod yX6_heads ∈ TT := tt_3 (List.mem_of_getElem? (i := 170) (by decide +kernel)) (by decide +kernel)
theorem mw3_171 : Cond.selects RX6 yX6_heads yX6_heads ∈ TT := tt_3 (List.mem_of_getElem? (i := 171) (by decide +kernel)) (by decide +kernel)
theorem mw3_172 : Cond.code yX6_heads cX6_heads 5 (some .int) ∈ TT := tt_3 (List.mem_of_getElem? (i := 172) rfl) rfl
theorem cwX6_106_V : CwV RX6 106 RX6 yX6_heads cX6_heads 5 (some .int) 2 := ⟨mw3_189, mw3_170, mw3_171, mw1_5, mw3_172, ⟨by decide, by decide, by decide⟩⟩
theorem mw1_89 : Cond.fieldLink RX6 108 "HeardTunes$Town" "forDrowned" "I" ∈ TT := tt_1 (List.mem_of_getElem? (i := 89) (by decide +kernel)) (by decide +kernel)
theorem gfX6_108 {x : Ct} {cc : ByteArray} {nL cells slots pc n : Nat} {rm : Room} {w : Wv} {lv : List (Nat × Value)} {st : List Value} {v : Int32} (C : Cx x cc nL RX6 rm) (hn : (wK w)[n]? = some (9, .inl fX9)) (hv : wI w n 8 = v) (d : decode cc pc = .ok (.getfield 108, 3)) (kk : V x cells slots w (pc + 3) lv (.int v :: st)) : V x cells slots w pc lv (.ref (gz (xG x) + n) :: st) := by subst hv; exact r_getI C hn rfl inX9 (by decide) mw1_89 rfl d kk
theorem mw2_2 : Cond.methodLink RX7 3 objectInit ∈ TT := tt_2 (List.mem_of_getElem? (i := 2) (by decide +kernel)) (by decide +kernel)
theorem mw2_5 : Cond.fieldLink RX7 9 "HeardTunes$Seen" "crowds" "[I" ∈ TT := tt_2 (List.mem_of_getElem? (i := 5) (by decide +kernel)) (by decide +kernel)
theorem pfX7_9 {x : Ct} {cc : ByteArray} {nL cells slots pc n : Nat} {rm : Room} {w : Wv} {lv : List (Nat × Value)} {st : List Value} {q : Nat} (C : Cx x cc nL RX7 rm) (hin2 : (xM x).name = "<init>") (hn : (wK w)[n]? = some (7, .inl fX7)) (d : decode cc pc = .ok (.putfield 9, 3)) (kk : ∀ w', w' = setX w n 1 (some q) → V x cells slots w' (pc + 3) lv st) : V x cells slots w pc lv (.ref (gz (xG x) + q) :: .ref (gz (xG x) + n) :: st) := r_putX C hin2 hn rfl inX7 tyX7 tyX7_ok nmX7 (by decide) mw2_5 rfl rfl rfl rfl rfl d kk
theorem mw2_6 : Cond.fieldLink RX7 15 "HeardTunes$Seen" "minutes" "[I" ∈ TT := tt_2 (List.mem_of_getElem? (i := 6) (by decide +kernel)) (by decide +kernel)
theorem pfX7_15 {x : Ct} {cc : ByteArray} {nL cells slots pc n : Nat} {rm : Room} {w : Wv} {lv : List (Nat × Value)} {st : List Value} {q : Nat} (C : Cx x cc nL RX7 rm) (hin2 : (xM x).name = "<init>") (hn : (wK w)[n]? = some (7, .inl fX7)) (d : decode cc pc = .ok (.putfield 15, 3)) (kk : ∀ w', w' = setX w n 2 (some q) → V x cells slots w' (pc + 3) lv st) : V x cells slots w pc lv (.ref (gz (xG x) + q) :: .ref (gz (xG x) + n) :: st) := r_putX C hin2 hn rfl inX7 tyX7 tyX7_ok nmX7 (by decide) mw2_6 rfl rfl rfl rfl rfl d kk
theorem mw2_7 : Cond.fieldLink RX7 18 "HeardTunes$Seen" "cells" "[I" ∈ TT := tt_2 (List.mem_of_getElem? (i := 7) (by decide +kernel)) (by decide +kernel)
theorem pfX7_18 {x : Ct} {cc : ByteArray} {nL cells slots pc n : Nat} {rm : Room} {w : Wv} {lv : List (Nat × Value)} {st : List Value} {q : Nat} (C : Cx x cc nL RX7 rm) (hin2 : (xM x).name = "<init>") (hn : (wK w)[n]? = some (7, .inl fX7)) (d : decode cc pc = .ok (.putfield 18, 3)) (kk : ∀ w', w' = setX w n 3 (some q) → V x cells slots w' (pc + 3) lv st) : V x cells slots w pc lv (.ref (gz (xG x) + q) :: .ref (gz (xG x) + n) :: st) := r_putX C hin2 hn rfl inX7 tyX7 tyX7_ok nmX7 (by decide) mw2_7 rfl rfl rfl rfl rfl d kk
theorem mw2_3 : Cond.fieldLink RX7 21 "HeardTunes$Seen" "count" "I" ∈ TT := tt_2 (List.mem_of_getElem? (i := 3) (by decide +kernel)) (by decide +kernel)
theorem gfX7_21 {x : Ct} {cc : ByteArray} {nL cells slots pc n : Nat} {rm : Room} {w : Wv} {lv : List (Nat × Value)} {st : List Value} {v : Int32} (C : Cx x cc nL RX7 rm) (hn : (wK w)[n]? = some (7, .inl fX7)) (hv : wI w n 0 = v) (d : decode cc pc = .ok (.getfield 21, 3)) (kk : V x cells slots w (pc + 3) lv (.int v :: st)) : V x cells slots w pc lv (.ref (gz (xG x) + n) :: st) := by subst hv; exact r_getI C hn rfl inX7 (by decide) mw2_3 rfl d kk
theorem gfX7_9 {x : Ct} {cc : ByteArray} {nL cells slots pc n : Nat} {rm : Room} {w : Wv} {lv : List (Nat × Value)} {st : List Value} (q : Nat) (C : Cx x cc nL RX7 rm) (hn : (wK w)[n]? = some (7, .inl fX7)) (hX : wX w n 1 = some q) (d : decode cc pc = .ok (.getfield 9, 3)) (kk : V x cells slots w (pc + 3) lv (.ref (gz (xG x) + q) :: st)) : V x cells slots w pc lv (.ref (gz (xG x) + n) :: st) := r_getX C hn rfl inX7 (by decide) mw2_5 rfl hX d kk
theorem gfX7_15 {x : Ct} {cc : ByteArray} {nL cells slots pc n : Nat} {rm : Room} {w : Wv} {lv : List (Nat × Value)} {st : List Value} (q : Nat) (C : Cx x cc nL RX7 rm) (hn : (wK w)[n]? = some (7, .inl fX7)) (hX : wX w n 2 = some q) (d : decode cc pc = .ok (.getfield 15, 3)) (kk : V x cells slots w (pc + 3) lv (.ref (gz (xG x) + q) :: st)) : V x cells slots w pc lv (.ref (gz (xG x) + n) :: st) := r_getX C hn rfl inX7 (by decide) mw2_6 rfl hX d kk
theorem gfX7_18 {x : Ct} {cc : ByteArray} {nL cells slots pc n : Nat} {rm : Room} {w : Wv} {lv : List (Nat × Value)} {st : List Value} (q : Nat) (C : Cx x cc nL RX7 rm) (hn : (wK w)[n]? = some (7, .inl fX7)) (hX : wX w n 3 = some q) (d : decode cc pc = .ok (.getfield 18, 3)) (kk : V x cells slots w (pc + 3) lv (.ref (gz (xG x) + q) :: st)) : V x cells slots w pc lv (.ref (gz (xG x) + n) :: st) := r_getX C hn rfl inX7 (by decide) mw2_7 rfl hX d kk
theorem pfX7_21 {x : Ct} {cc : ByteArray} {nL cells slots pc n : Nat} {rm : Room} {w : Wv} {lv : List (Nat × Value)} {st : List Value} {v : Int32} (C : Cx x cc nL RX7 rm) (hn : (wK w)[n]? = some (7, .inl fX7)) (d : decode cc pc = .ok (.putfield 21, 3)) (kk : ∀ w', w' = setI w n 0 v → V x cells slots w' (pc + 3) lv st) : V x cells slots w pc lv (.int v :: .ref (gz (xG x) + n) :: st) := r_putI (k := 0) C hn rfl inX7 tyX7 tyX7_ok nmX7 (by decide) mw2_3 rfl rfl rfl rfl d kk
theorem mw5_11 : Cond.methodLink RX7 25 yX6_isAt ∈ TT := tt_5 (List.mem_of_getElem? (i := 11) (by decide +kernel)) (by decide +kernel)
theorem cwX7_25_V : CwV RX7 25 RX6 yX6_isAt cX6_isAt 3 (some .boolean) 2 := ⟨mw5_11, mw4_51, mw4_52, mw1_5, mw4_53, ⟨by decide, by decide, by decide⟩⟩
theorem mw4_213 : Cond.methodLink RX7 31 yJ9_max_7cf53 ∈ TT := tt_4 (List.mem_of_getElem? (i := 213) (by decide +kernel)) (by decide +kernel)
theorem mw3_153 : Cond.static yJ9_max_7cf53 ∈ TT := tt_3 (List.mem_of_getElem? (i := 153) (by decide +kernel)) (by decide +kernel)
theorem mw3_154 : Cond.code yJ9_max_7cf53 cJ9_max_7cf53 2 (some .int) ∈ TT := tt_3 (List.mem_of_getElem? (i := 154) rfl) rfl
theorem mw2_39 : Cond.methodLink RX8 3 objectInit ∈ TT := tt_2 (List.mem_of_getElem? (i := 39) (by decide +kernel)) (by decide +kernel)
theorem mw2_40 : Cond.classLink RX8 9 RX6 ∈ TT := tt_2 (List.mem_of_getElem? (i := 40) (by decide +kernel)) (by decide +kernel)
theorem mw2_47 : Cond.fieldLink RX8 11 "HeardTunes$Soonest" "levels" "[LHeardTunes$Scene;" ∈ TT := tt_2 (List.mem_of_getElem? (i := 47) (by decide +kernel)) (by decide +kernel)
theorem pfX8_11 {x : Ct} {cc : ByteArray} {nL cells slots pc n : Nat} {rm : Room} {w : Wv} {lv : List (Nat × Value)} {st : List Value} {q : Nat} (C : Cx x cc nL RX8 rm) (hin2 : (xM x).name = "<init>") (hn : (wK w)[n]? = some (8, .inl fX8)) (d : decode cc pc = .ok (.putfield 11, 3)) (kk : ∀ w', w' = setX w n 3 (some q) → V x cells slots w' (pc + 3) lv st) : V x cells slots w pc lv (.ref (gz (xG x) + q) :: .ref (gz (xG x) + n) :: st) := r_putX C hin2 hn rfl inX8 tyX8 tyX8_ok nmX8 (by decide) mw2_47 rfl rfl rfl rfl rfl d kk
theorem mw2_48 : Cond.fieldLink RX8 17 "HeardTunes$Soonest" "steps" "[I" ∈ TT := tt_2 (List.mem_of_getElem? (i := 48) (by decide +kernel)) (by decide +kernel)
theorem pfX8_17 {x : Ct} {cc : ByteArray} {nL cells slots pc n : Nat} {rm : Room} {w : Wv} {lv : List (Nat × Value)} {st : List Value} {q : Nat} (C : Cx x cc nL RX8 rm) (hin2 : (xM x).name = "<init>") (hn : (wK w)[n]? = some (8, .inl fX8)) (d : decode cc pc = .ok (.putfield 17, 3)) (kk : ∀ w', w' = setX w n 4 (some q) → V x cells slots w' (pc + 3) lv st) : V x cells slots w pc lv (.ref (gz (xG x) + q) :: .ref (gz (xG x) + n) :: st) := r_putX C hin2 hn rfl inX8 tyX8 tyX8_ok nmX8 (by decide) mw2_48 rfl rfl rfl rfl rfl d kk
theorem mw2_49 : Cond.fieldLink RX8 21 "HeardTunes$Soonest" "toGate" "[I" ∈ TT := tt_2 (List.mem_of_getElem? (i := 49) (by decide +kernel)) (by decide +kernel)
theorem pfX8_21 {x : Ct} {cc : ByteArray} {nL cells slots pc n : Nat} {rm : Room} {w : Wv} {lv : List (Nat × Value)} {st : List Value} {q : Nat} (C : Cx x cc nL RX8 rm) (hin2 : (xM x).name = "<init>") (hn : (wK w)[n]? = some (8, .inl fX8)) (d : decode cc pc = .ok (.putfield 21, 3)) (kk : ∀ w', w' = setX w n 5 (some q) → V x cells slots w' (pc + 3) lv st) : V x cells slots w pc lv (.ref (gz (xG x) + q) :: .ref (gz (xG x) + n) :: st) := r_putX C hin2 hn rfl inX8 tyX8 tyX8_ok nmX8 (by decide) mw2_49 rfl rfl rfl rfl rfl d kk
theorem mw2_45 : Cond.fieldLink RX8 24 "HeardTunes$Soonest" "town" "LHeardTunes$Town;" ∈ TT := tt_2 (List.mem_of_getElem? (i := 45) (by decide +kernel)) (by decide +kernel)
theorem pfX8_24 {x : Ct} {cc : ByteArray} {nL cells slots pc n : Nat} {rm : Room} {w : Wv} {lv : List (Nat × Value)} {st : List Value} {q : Nat} (C : Cx x cc nL RX8 rm) (hin2 : (xM x).name = "<init>") (hn : (wK w)[n]? = some (8, .inl fX8)) (d : decode cc pc = .ok (.putfield 24, 3)) (kk : ∀ w', w' = setX w n 1 (some q) → V x cells slots w' (pc + 3) lv st) : V x cells slots w pc lv (.ref (gz (xG x) + q) :: .ref (gz (xG x) + n) :: st) := r_putX C hin2 hn rfl inX8 tyX8 tyX8_ok nmX8 (by decide) mw2_45 rfl rfl rfl rfl rfl d kk
theorem mw2_46 : Cond.fieldLink RX8 28 "HeardTunes$Soonest" "ground" "LHeardTunes$Ground;" ∈ TT := tt_2 (List.mem_of_getElem? (i := 46) (by decide +kernel)) (by decide +kernel)
theorem pfX8_28 {x : Ct} {cc : ByteArray} {nL cells slots pc n : Nat} {rm : Room} {w : Wv} {lv : List (Nat × Value)} {st : List Value} {q : Nat} (C : Cx x cc nL RX8 rm) (hin2 : (xM x).name = "<init>") (hn : (wK w)[n]? = some (8, .inl fX8)) (d : decode cc pc = .ok (.putfield 28, 3)) (kk : ∀ w', w' = setX w n 2 (some q) → V x cells slots w' (pc + 3) lv st) : V x cells slots w pc lv (.ref (gz (xG x) + q) :: .ref (gz (xG x) + n) :: st) := r_putX C hin2 hn rfl inX8 tyX8 tyX8_ok nmX8 (by decide) mw2_46 rfl rfl rfl rfl rfl d kk
theorem mw2_50 : Cond.fieldLink RX8 32 "HeardTunes$Soonest" "memo" "LHeardTunes$Memo;" ∈ TT := tt_2 (List.mem_of_getElem? (i := 50) (by decide +kernel)) (by decide +kernel)
theorem pfX8_32 {x : Ct} {cc : ByteArray} {nL cells slots pc n : Nat} {rm : Room} {w : Wv} {lv : List (Nat × Value)} {st : List Value} {q : Nat} (C : Cx x cc nL RX8 rm) (hin2 : (xM x).name = "<init>") (hn : (wK w)[n]? = some (8, .inl fX8)) (d : decode cc pc = .ok (.putfield 32, 3)) (kk : ∀ w', w' = setX w n 6 (some q) → V x cells slots w' (pc + 3) lv st) : V x cells slots w pc lv (.ref (gz (xG x) + q) :: .ref (gz (xG x) + n) :: st) := r_putX C hin2 hn rfl inX8 tyX8 tyX8_ok nmX8 (by decide) mw2_50 rfl rfl rfl rfl rfl d kk
theorem gfX8_11 {x : Ct} {cc : ByteArray} {nL cells slots pc n : Nat} {rm : Room} {w : Wv} {lv : List (Nat × Value)} {st : List Value} (q : Nat) (C : Cx x cc nL RX8 rm) (hn : (wK w)[n]? = some (8, .inl fX8)) (hX : wX w n 3 = some q) (d : decode cc pc = .ok (.getfield 11, 3)) (kk : V x cells slots w (pc + 3) lv (.ref (gz (xG x) + q) :: st)) : V x cells slots w pc lv (.ref (gz (xG x) + n) :: st) := r_getX C hn rfl inX8 (by decide) mw2_47 rfl hX d kk
theorem mw2_42 : Cond.methodLink RX8 36 yX6_init ∈ TT := tt_2 (List.mem_of_getElem? (i := 42) (by decide +kernel)) (by decide +kernel)
theorem cwX8_36_I : CwI RX8 36 yX6_init cX6_init 3 2 := ⟨mw2_42, mw1_191, mw1_5, mw1_192, ⟨by decide, by decide, by decide⟩, rfl⟩
theorem mw2_51 : Cond.fieldLink RX8 39 "HeardTunes$Soonest" "isKnown" "Z" ∈ TT := tt_2 (List.mem_of_getElem? (i := 51) (by decide +kernel)) (by decide +kernel)
theorem pfX8_39 {x : Ct} {cc : ByteArray} {nL cells slots pc n : Nat} {rm : Room} {w : Wv} {lv : List (Nat × Value)} {st : List Value} {v : Int32} (C : Cx x cc nL RX8 rm) (hn : (wK w)[n]? = some (8, .inl fX8)) (hz : v = 0 ∨ v = 1) (d : decode cc pc = .ok (.putfield 39, 3)) (kk : ∀ w', w' = setI w n 7 v → V x cells slots w' (pc + 3) lv st) : V x cells slots w pc lv (.int v :: .ref (gz (xG x) + n) :: st) := r_putI (k := 7) C hn rfl inX8 tyX8 tyX8_ok nmX8 (by decide) mw2_51 rfl rfl (nar_z hz) (fit_z hz) d kk
theorem mw2_43 : Cond.fieldLink RX8 43 "HeardTunes$Soonest" "minutes" "I" ∈ TT := tt_2 (List.mem_of_getElem? (i := 43) (by decide +kernel)) (by decide +kernel)
theorem gfX8_43 {x : Ct} {cc : ByteArray} {nL cells slots pc n : Nat} {rm : Room} {w : Wv} {lv : List (Nat × Value)} {st : List Value} {v : Int32} (C : Cx x cc nL RX8 rm) (hn : (wK w)[n]? = some (8, .inl fX8)) (hv : wI w n 0 = v) (d : decode cc pc = .ok (.getfield 43, 3)) (kk : V x cells slots w (pc + 3) lv (.int v :: st)) : V x cells slots w pc lv (.ref (gz (xG x) + n) :: st) := by subst hv; exact r_getI C hn rfl inX8 (by decide) mw2_43 rfl d kk
theorem gfX8_17 {x : Ct} {cc : ByteArray} {nL cells slots pc n : Nat} {rm : Room} {w : Wv} {lv : List (Nat × Value)} {st : List Value} (q : Nat) (C : Cx x cc nL RX8 rm) (hn : (wK w)[n]? = some (8, .inl fX8)) (hX : wX w n 4 = some q) (d : decode cc pc = .ok (.getfield 17, 3)) (kk : V x cells slots w (pc + 3) lv (.ref (gz (xG x) + q) :: st)) : V x cells slots w pc lv (.ref (gz (xG x) + n) :: st) := r_getX C hn rfl inX8 (by decide) mw2_48 rfl hX d kk
theorem gfX8_39 {x : Ct} {cc : ByteArray} {nL cells slots pc n : Nat} {rm : Room} {w : Wv} {lv : List (Nat × Value)} {st : List Value} {v : Int32} (C : Cx x cc nL RX8 rm) (hn : (wK w)[n]? = some (8, .inl fX8)) (hv : wI w n 7 = v) (d : decode cc pc = .ok (.getfield 39, 3)) (kk : V x cells slots w (pc + 3) lv (.int v :: st)) : V x cells slots w pc lv (.ref (gz (xG x) + n) :: st) := by subst hv; exact r_getI C hn rfl inX8 (by decide) mw2_51 rfl d kk
theorem mw2_52 : Cond.fieldLink RX8 47 "HeardTunes$Soonest" "kind" "I" ∈ TT := tt_2 (List.mem_of_getElem? (i := 52) (by decide +kernel)) (by decide +kernel)
theorem gfX8_47 {x : Ct} {cc : ByteArray} {nL cells slots pc n : Nat} {rm : Room} {w : Wv} {lv : List (Nat × Value)} {st : List Value} {v : Int32} (C : Cx x cc nL RX8 rm) (hn : (wK w)[n]? = some (8, .inl fX8)) (hv : wI w n 8 = v) (d : decode cc pc = .ok (.getfield 47, 3)) (kk : V x cells slots w (pc + 3) lv (.int v :: st)) : V x cells slots w pc lv (.ref (gz (xG x) + n) :: st) := by subst hv; exact r_getI C hn rfl inX8 (by decide) mw2_52 rfl d kk
theorem mw2_53 : Cond.fieldLink RX8 50 "HeardTunes$Soonest" "tune" "I" ∈ TT := tt_2 (List.mem_of_getElem? (i := 53) (by decide +kernel)) (by decide +kernel)
theorem gfX8_50 {x : Ct} {cc : ByteArray} {nL cells slots pc n : Nat} {rm : Room} {w : Wv} {lv : List (Nat × Value)} {st : List Value} {v : Int32} (C : Cx x cc nL RX8 rm) (hn : (wK w)[n]? = some (8, .inl fX8)) (hv : wI w n 9 = v) (d : decode cc pc = .ok (.getfield 50, 3)) (kk : V x cells slots w (pc + 3) lv (.int v :: st)) : V x cells slots w pc lv (.ref (gz (xG x) + n) :: st) := by subst hv; exact r_getI C hn rfl inX8 (by decide) mw2_53 rfl d kk
theorem pfX8_47 {x : Ct} {cc : ByteArray} {nL cells slots pc n : Nat} {rm : Room} {w : Wv} {lv : List (Nat × Value)} {st : List Value} {v : Int32} (C : Cx x cc nL RX8 rm) (hn : (wK w)[n]? = some (8, .inl fX8)) (d : decode cc pc = .ok (.putfield 47, 3)) (kk : ∀ w', w' = setI w n 8 v → V x cells slots w' (pc + 3) lv st) : V x cells slots w pc lv (.int v :: .ref (gz (xG x) + n) :: st) := r_putI (k := 8) C hn rfl inX8 tyX8 tyX8_ok nmX8 (by decide) mw2_52 rfl rfl rfl rfl d kk
theorem pfX8_50 {x : Ct} {cc : ByteArray} {nL cells slots pc n : Nat} {rm : Room} {w : Wv} {lv : List (Nat × Value)} {st : List Value} {v : Int32} (C : Cx x cc nL RX8 rm) (hn : (wK w)[n]? = some (8, .inl fX8)) (d : decode cc pc = .ok (.putfield 50, 3)) (kk : ∀ w', w' = setI w n 9 v → V x cells slots w' (pc + 3) lv st) : V x cells slots w pc lv (.int v :: .ref (gz (xG x) + n) :: st) := r_putI (k := 9) C hn rfl inX8 tyX8 tyX8_ok nmX8 (by decide) mw2_53 rfl rfl rfl rfl d kk
theorem pfX8_43 {x : Ct} {cc : ByteArray} {nL cells slots pc n : Nat} {rm : Room} {w : Wv} {lv : List (Nat × Value)} {st : List Value} {v : Int32} (C : Cx x cc nL RX8 rm) (hn : (wK w)[n]? = some (8, .inl fX8)) (d : decode cc pc = .ok (.putfield 43, 3)) (kk : ∀ w', w' = setI w n 0 v → V x cells slots w' (pc + 3) lv st) : V x cells slots w pc lv (.int v :: .ref (gz (xG x) + n) :: st) := r_putI (k := 0) C hn rfl inX8 tyX8 tyX8_ok nmX8 (by decide) mw2_43 rfl rfl rfl rfl d kk
theorem mw4_119 : Cond.methodLink RX8 53 yX6_copy ∈ TT := tt_4 (List.mem_of_getElem? (i := 119) (by decide +kernel)) (by decide +kernel)
theorem cwX8_53_V : CwV RX8 53 RX6 yX6_copy cX6_copy 3 none 1 := ⟨mw4_119, mw4_91, mw4_92, mw1_5, mw4_93, ⟨by decide, by decide, by decide⟩⟩
theorem gfX8_32 {x : Ct} {cc : ByteArray} {nL cells slots pc n : Nat} {rm : Room} {w : Wv} {lv : List (Nat × Value)} {st : List Value} (q : Nat) (C : Cx x cc nL RX8 rm) (hn : (wK w)[n]? = some (8, .inl fX8)) (hX : wX w n 6 = some q) (d : decode cc pc = .ok (.getfield 32, 3)) (kk : V x cells slots w (pc + 3) lv (.ref (gz (xG x) + q) :: st)) : V x cells slots w pc lv (.ref (gz (xG x) + n) :: st) := r_getX C hn rfl inX8 (by decide) mw2_50 rfl hX d kk
theorem mw4_120 : Cond.methodLink RX8 57 yX3_clear ∈ TT := tt_4 (List.mem_of_getElem? (i := 120) (by decide +kernel)) (by decide +kernel)
theorem cwX8_57_V : CwV RX8 57 RX3 yX3_clear cX3_clear 2 none 0 := ⟨mw4_120, mw4_121, mw4_122, mw1_8, mw4_123, ⟨by decide, by decide, by decide⟩⟩
theorem mw4_124 : Cond.methodLink RX8 62 yX8_findGates ∈ TT := tt_4 (List.mem_of_getElem? (i := 124) (by decide +kernel)) (by decide +kernel)
theorem mw4_126 : Cond.instanceMethod yX8_findGates ∈ TT := tt_4 (List.mem_of_getElem? (i := 126) (by decide +kernel)) (by decide +kernel)
theorem ms2_10 : Cond.selects RX8 yX8_findGates yX8_findGates ∈ TT := tp_sel (tp_2 (List.mem_of_getElem? (i := 10) (by decide +kernel) : ((yX8_findGates, 10) : MethodName × Nat) ∈ lw_privs_2)) (by decide +kernel)
theorem mw1_9 : Cond.initialized RX8 ∈ TT := tt_1 (List.mem_of_getElem? (i := 9) (by decide +kernel)) (by decide +kernel)
theorem mw4_127 : Cond.code yX8_findGates cX8_findGates 4 none ∈ TT := tt_4 (List.mem_of_getElem? (i := 127) rfl) rfl
theorem cwX8_62_V : CwV RX8 62 RX8 yX8_findGates cX8_findGates 4 none 0 := ⟨mw4_124, mw4_126, ms2_10, mw1_9, mw4_127, ⟨by decide, by decide, by decide⟩⟩
theorem mw4_130 : Cond.methodLink RX8 65 yX8_leads ∈ TT := tt_4 (List.mem_of_getElem? (i := 130) (by decide +kernel)) (by decide +kernel)
theorem mw4_132 : Cond.instanceMethod yX8_leads ∈ TT := tt_4 (List.mem_of_getElem? (i := 132) (by decide +kernel)) (by decide +kernel)
theorem ms2_11 : Cond.selects RX8 yX8_leads yX8_leads ∈ TT := tp_sel (tp_2 (List.mem_of_getElem? (i := 11) (by decide +kernel) : ((yX8_leads, 10) : MethodName × Nat) ∈ lw_privs_2)) (by decide +kernel)
theorem mw4_133 : Cond.code yX8_leads cX8_leads 10 (some .boolean) ∈ TT := tt_4 (List.mem_of_getElem? (i := 133) rfl) rfl
theorem cwX8_65_V : CwV RX8 65 RX8 yX8_leads cX8_leads 10 (some .boolean) 2 := ⟨mw4_130, mw4_132, ms2_11, mw1_9, mw4_133, ⟨by decide, by decide, by decide⟩⟩
theorem gfX8_28 {x : Ct} {cc : ByteArray} {nL cells slots pc n : Nat} {rm : Room} {w : Wv} {lv : List (Nat × Value)} {st : List Value} (q : Nat) (C : Cx x cc nL RX8 rm) (hn : (wK w)[n]? = some (8, .inl fX8)) (hX : wX w n 2 = some q) (d : decode cc pc = .ok (.getfield 28, 3)) (kk : V x cells slots w (pc + 3) lv (.ref (gz (xG x) + q) :: st)) : V x cells slots w pc lv (.ref (gz (xG x) + n) :: st) := r_getX C hn rfl inX8 (by decide) mw2_46 rfl hX d kk
theorem mw1_158 : Cond.fieldLink RX8 69 "HeardTunes$Ground" "count" "I" ∈ TT := tt_1 (List.mem_of_getElem? (i := 158) (by decide +kernel)) (by decide +kernel)
theorem gfX8_69 {x : Ct} {cc : ByteArray} {nL cells slots pc n : Nat} {rm : Room} {w : Wv} {lv : List (Nat × Value)} {st : List Value} {v : Int32} (C : Cx x cc nL RX8 rm) (hn : (wK w)[n]? = some (1, .inl fX1)) (hv : wI w n 0 = v) (d : decode cc pc = .ok (.getfield 69, 3)) (kk : V x cells slots w (pc + 3) lv (.int v :: st)) : V x cells slots w pc lv (.ref (gz (xG x) + n) :: st) := by subst hv; exact r_getI C hn rfl inX1 (by decide) mw1_158 rfl d kk
theorem gfX8_21 {x : Ct} {cc : ByteArray} {nL cells slots pc n : Nat} {rm : Room} {w : Wv} {lv : List (Nat × Value)} {st : List Value} (q : Nat) (C : Cx x cc nL RX8 rm) (hn : (wK w)[n]? = some (8, .inl fX8)) (hX : wX w n 5 = some q) (d : decode cc pc = .ok (.getfield 21, 3)) (kk : V x cells slots w (pc + 3) lv (.ref (gz (xG x) + q) :: st)) : V x cells slots w pc lv (.ref (gz (xG x) + n) :: st) := r_getX C hn rfl inX8 (by decide) mw2_49 rfl hX d kk
theorem mw4_128 : Cond.methodLink RX8 74 yX1_what ∈ TT := tt_4 (List.mem_of_getElem? (i := 128) (by decide +kernel)) (by decide +kernel)
theorem cwX8_74_V : CwV RX8 74 RX1 yX1_what cX1_what 2 (some .int) 1 := ⟨mw4_128, mw3_200, mw3_201, mw1_4, mw3_202, ⟨by decide, by decide, by decide⟩⟩
theorem mw4_129 : Cond.methodLink RX8 78 yX1_steps ∈ TT := tt_4 (List.mem_of_getElem? (i := 129) (by decide +kernel)) (by decide +kernel)
theorem cwX8_78_V : CwV RX8 78 RX1 yX1_steps cX1_steps 3 (some .int) 2 := ⟨mw4_129, mw3_237, mw3_238, mw1_4, mw3_239, ⟨by decide, by decide, by decide⟩⟩
theorem mw4_134 : Cond.methodLink RX8 81 yX8_outlook ∈ TT := tt_4 (List.mem_of_getElem? (i := 134) (by decide +kernel)) (by decide +kernel)
theorem mw4_136 : Cond.instanceMethod yX8_outlook ∈ TT := tt_4 (List.mem_of_getElem? (i := 136) (by decide +kernel)) (by decide +kernel)
theorem ms2_12 : Cond.selects RX8 yX8_outlook yX8_outlook ∈ TT := tp_sel (tp_2 (List.mem_of_getElem? (i := 12) (by decide +kernel) : ((yX8_outlook, 10) : MethodName × Nat) ∈ lw_privs_2)) (by decide +kernel)
theorem mw4_137 : Cond.code yX8_outlook cX8_outlook 5 (some .int) ∈ TT := tt_4 (List.mem_of_getElem? (i := 137) rfl) rfl
theorem cwX8_81_V : CwV RX8 81 RX8 yX8_outlook cX8_outlook 5 (some .int) 2 := ⟨mw4_134, mw4_136, ms2_12, mw1_9, mw4_137, ⟨by decide, by decide, by decide⟩⟩
theorem mw4_146 : Cond.methodLink RX8 85 yX6_places ∈ TT := tt_4 (List.mem_of_getElem? (i := 146) (by decide +kernel)) (by decide +kernel)
theorem cwX8_85_V : CwV RX8 85 RX6 yX6_places cX6_places 4 (some .long) 0 := ⟨mw4_146, mw4_147, mw4_148, mw1_5, mw4_149, ⟨by decide, by decide, by decide⟩⟩
theorem mw4_150 : Cond.methodLink RX8 89 yX6_goals ∈ TT := tt_4 (List.mem_of_getElem? (i := 150) (by decide +kernel)) (by decide +kernel)
theorem cwX8_89_V : CwV RX8 89 RX6 yX6_goals cX6_goals 4 (some .long) 0 := ⟨mw4_150, mw4_151, mw4_152, mw1_5, mw4_153, ⟨by decide, by decide, by decide⟩⟩
theorem mw4_154 : Cond.methodLink RX8 92 yX3_value ∈ TT := tt_4 (List.mem_of_getElem? (i := 154) (by decide +kernel)) (by decide +kernel)
theorem cwX8_92_V : CwV RX8 92 RX3 yX3_value cX3_value 6 (some .int) 2 := ⟨mw4_154, mw4_155, mw4_156, mw1_8, mw4_157, ⟨by decide, by decide, by decide⟩⟩
theorem mw4_163 : Cond.methodLink RX8 96 yX8_stepLeads ∈ TT := tt_4 (List.mem_of_getElem? (i := 163) (by decide +kernel)) (by decide +kernel)
theorem mw4_165 : Cond.instanceMethod yX8_stepLeads ∈ TT := tt_4 (List.mem_of_getElem? (i := 165) (by decide +kernel)) (by decide +kernel)
theorem ms2_14 : Cond.selects RX8 yX8_stepLeads yX8_stepLeads ∈ TT := tp_sel (tp_2 (List.mem_of_getElem? (i := 14) (by decide +kernel) : ((yX8_stepLeads, 10) : MethodName × Nat) ∈ lw_privs_2)) (by decide +kernel)
theorem mw4_166 : Cond.code yX8_stepLeads cX8_stepLeads 5 (some .boolean) ∈ TT := tt_4 (List.mem_of_getElem? (i := 166) rfl) rfl
theorem cwX8_96_V : CwV RX8 96 RX8 yX8_stepLeads cX8_stepLeads 5 (some .boolean) 2 := ⟨mw4_163, mw4_165, ms2_14, mw1_9, mw4_166, ⟨by decide, by decide, by decide⟩⟩
theorem mw4_169 : Cond.methodLink RX8 99 yX3_put ∈ TT := tt_4 (List.mem_of_getElem? (i := 169) (by decide +kernel)) (by decide +kernel)
theorem cwX8_99_V : CwV RX8 99 RX3 yX3_put cX3_put 7 none 3 := ⟨mw4_169, mw4_170, mw4_171, mw1_8, mw4_172, ⟨by decide, by decide, by decide⟩⟩
theorem mw4_167 : Cond.methodLink RX8 103 yX6_may ∈ TT := tt_4 (List.mem_of_getElem? (i := 167) (by decide +kernel)) (by decide +kernel)
theorem cwX8_103_V : CwV RX8 103 RX6 yX6_may cX6_may 3 (some .boolean) 1 := ⟨mw4_167, mw4_21, mw4_22, mw1_5, mw4_23, ⟨by decide, by decide, by decide⟩⟩
theorem mw4_168 : Cond.methodLink RX8 107 yX6_pass ∈ TT := tt_4 (List.mem_of_getElem? (i := 168) (by decide +kernel)) (by decide +kernel)
theorem cwX8_107_V : CwV RX8 107 RX6 yX6_pass cX6_pass 4 none 2 := ⟨mw4_168, mw4_31, mw4_32, mw1_5, mw4_33, ⟨by decide, by decide, by decide⟩⟩
theorem gfX8_24 {x : Ct} {cc : ByteArray} {nL cells slots pc n : Nat} {rm : Room} {w : Wv} {lv : List (Nat × Value)} {st : List Value} (q : Nat) (C : Cx x cc nL RX8 rm) (hn : (wK w)[n]? = some (8, .inl fX8)) (hX : wX w n 1 = some q) (d : decode cc pc = .ok (.getfield 24, 3)) (kk : V x cells slots w (pc + 3) lv (.ref (gz (xG x) + q) :: st)) : V x cells slots w pc lv (.ref (gz (xG x) + n) :: st) := r_getX C hn rfl inX8 (by decide) mw2_45 rfl hX d kk
theorem mw1_75 : Cond.fieldLink RX8 111 "HeardTunes$Town" "crowds" "I" ∈ TT := tt_1 (List.mem_of_getElem? (i := 75) (by decide +kernel)) (by decide +kernel)
theorem gfX8_111 {x : Ct} {cc : ByteArray} {nL cells slots pc n : Nat} {rm : Room} {w : Wv} {lv : List (Nat × Value)} {st : List Value} {v : Int32} (C : Cx x cc nL RX8 rm) (hn : (wK w)[n]? = some (9, .inl fX9)) (hv : wI w n 3 = v) (d : decode cc pc = .ok (.getfield 111, 3)) (kk : V x cells slots w (pc + 3) lv (.int v :: st)) : V x cells slots w pc lv (.ref (gz (xG x) + n) :: st) := by subst hv; exact r_getI C hn rfl inX9 (by decide) mw1_75 rfl d kk
theorem mw1_94 : Cond.fieldLink RX8 116 "HeardTunes$Town" "kind" "[I" ∈ TT := tt_1 (List.mem_of_getElem? (i := 94) (by decide +kernel)) (by decide +kernel)
theorem gfX8_116 {x : Ct} {cc : ByteArray} {nL cells slots pc n : Nat} {rm : Room} {w : Wv} {lv : List (Nat × Value)} {st : List Value} (q : Nat) (C : Cx x cc nL RX8 rm) (hn : (wK w)[n]? = some (9, .inl fX9)) (hX : wX w n 10 = some q) (d : decode cc pc = .ok (.getfield 116, 3)) (kk : V x cells slots w (pc + 3) lv (.ref (gz (xG x) + q) :: st)) : V x cells slots w pc lv (.ref (gz (xG x) + n) :: st) := r_getX C hn rfl inX9 (by decide) mw1_94 rfl hX d kk
theorem mw4_138 : Cond.methodLink RX8 118 yX6_fate ∈ TT := tt_4 (List.mem_of_getElem? (i := 138) (by decide +kernel)) (by decide +kernel)
theorem cwX8_118_V : CwV RX8 118 RX6 yX6_fate cX6_fate 4 (some .int) 1 := ⟨mw4_138, mw3_174, mw3_175, mw1_5, mw3_176, ⟨by decide, by decide, by decide⟩⟩
theorem mw4_139 : Cond.methodLink RX8 121 yX6_isHere ∈ TT := tt_4 (List.mem_of_getElem? (i := 139) (by decide +kernel)) (by decide +kernel)
theorem cwX8_121_V : CwV RX8 121 RX6 yX6_isHere cX6_isHere 2 (some .boolean) 1 := ⟨mw4_139, mw3_233, mw3_234, mw1_5, mw3_235, ⟨by decide, by decide, by decide⟩⟩
theorem mw4_140 : Cond.methodLink RX8 124 yX8_canLeave ∈ TT := tt_4 (List.mem_of_getElem? (i := 140) (by decide +kernel)) (by decide +kernel)
theorem mw4_142 : Cond.instanceMethod yX8_canLeave ∈ TT := tt_4 (List.mem_of_getElem? (i := 142) (by decide +kernel)) (by decide +kernel)
theorem ms2_13 : Cond.selects RX8 yX8_canLeave yX8_canLeave ∈ TT := tp_sel (tp_2 (List.mem_of_getElem? (i := 13) (by decide +kernel) : ((yX8_canLeave, 10) : MethodName × Nat) ∈ lw_privs_2)) (by decide +kernel)
theorem mw4_143 : Cond.code yX8_canLeave cX8_canLeave 7 (some .boolean) ∈ TT := tt_4 (List.mem_of_getElem? (i := 143) rfl) rfl
theorem cwX8_124_V : CwV RX8 124 RX8 yX8_canLeave cX8_canLeave 7 (some .boolean) 3 := ⟨mw4_140, mw4_142, ms2_13, mw1_9, mw4_143, ⟨by decide, by decide, by decide⟩⟩
theorem mw1_201 : Cond.fieldLink RX8 128 "HeardTunes$Scene" "at" "[I" ∈ TT := tt_1 (List.mem_of_getElem? (i := 201) (by decide +kernel)) (by decide +kernel)
theorem gfX8_128 {x : Ct} {cc : ByteArray} {nL cells slots pc n : Nat} {rm : Room} {w : Wv} {lv : List (Nat × Value)} {st : List Value} (q : Nat) (C : Cx x cc nL RX8 rm) (hn : (wK w)[n]? = some (6, .inl fX6)) (hX : wX w n 2 = some q) (d : decode cc pc = .ok (.getfield 128, 3)) (kk : V x cells slots w (pc + 3) lv (.ref (gz (xG x) + q) :: st)) : V x cells slots w pc lv (.ref (gz (xG x) + n) :: st) := r_getX C hn rfl inX6 (by decide) mw1_201 rfl hX d kk
theorem mw4_144 : Cond.methodLink RX8 131 yX1_isCell ∈ TT := tt_4 (List.mem_of_getElem? (i := 144) (by decide +kernel)) (by decide +kernel)
theorem cwX8_131_S : CwS RX8 131 yX1_isCell cX1_isCell 1 (some .boolean) 1 := ⟨mw4_144, mw3_109, mw1_4, mw3_110, ⟨by decide, by decide, by decide⟩⟩
theorem mw1_204 : Cond.fieldLink RX8 134 "HeardTunes$Scene" "goal" "[I" ∈ TT := tt_1 (List.mem_of_getElem? (i := 204) (by decide +kernel)) (by decide +kernel)
theorem gfX8_134 {x : Ct} {cc : ByteArray} {nL cells slots pc n : Nat} {rm : Room} {w : Wv} {lv : List (Nat × Value)} {st : List Value} (q : Nat) (C : Cx x cc nL RX8 rm) (hn : (wK w)[n]? = some (6, .inl fX6)) (hX : wX w n 3 = some q) (d : decode cc pc = .ok (.getfield 134, 3)) (kk : V x cells slots w (pc + 3) lv (.ref (gz (xG x) + q) :: st)) : V x cells slots w pc lv (.ref (gz (xG x) + n) :: st) := r_getX C hn rfl inX6 (by decide) mw1_204 rfl hX d kk
theorem mw4_145 : Cond.methodLink RX8 137 yX9_isFollower ∈ TT := tt_4 (List.mem_of_getElem? (i := 145) (by decide +kernel)) (by decide +kernel)
theorem cwX8_137_V : CwV RX8 137 RX9 yX9_isFollower cX9_isFollower 4 (some .boolean) 2 := ⟨mw4_145, mw3_229, mw3_230, mw1_3, mw3_231, ⟨by decide, by decide, by decide⟩⟩
theorem mw1_104 : Cond.fieldLink RX8 140 "HeardTunes$Town" "pace" "[I" ∈ TT := tt_1 (List.mem_of_getElem? (i := 104) (by decide +kernel)) (by decide +kernel)
theorem gfX8_140 {x : Ct} {cc : ByteArray} {nL cells slots pc n : Nat} {rm : Room} {w : Wv} {lv : List (Nat × Value)} {st : List Value} (q : Nat) (C : Cx x cc nL RX8 rm) (hn : (wK w)[n]? = some (9, .inl fX9)) (hX : wX w n 13 = some q) (d : decode cc pc = .ok (.getfield 140, 3)) (kk : V x cells slots w (pc + 3) lv (.ref (gz (xG x) + q) :: st)) : V x cells slots w pc lv (.ref (gz (xG x) + n) :: st) := r_getX C hn rfl inX9 (by decide) mw1_104 rfl hX d kk
theorem mw1_60 : Cond.methodLink RX9 3 objectInit ∈ TT := tt_1 (List.mem_of_getElem? (i := 60) (by decide +kernel)) (by decide +kernel)
theorem mw1_90 : Cond.fieldLink RX9 9 "HeardTunes$Town" "what" "[I" ∈ TT := tt_1 (List.mem_of_getElem? (i := 90) (by decide +kernel)) (by decide +kernel)
theorem pfX9_9 {x : Ct} {cc : ByteArray} {nL cells slots pc n : Nat} {rm : Room} {w : Wv} {lv : List (Nat × Value)} {st : List Value} {q : Nat} (C : Cx x cc nL RX9 rm) (hin2 : (xM x).name = "<init>") (hn : (wK w)[n]? = some (9, .inl fX9)) (d : decode cc pc = .ok (.putfield 9, 3)) (kk : ∀ w', w' = setX w n 9 (some q) → V x cells slots w' (pc + 3) lv st) : V x cells slots w pc lv (.ref (gz (xG x) + q) :: .ref (gz (xG x) + n) :: st) := r_putX C hin2 hn rfl inX9 tyX9 tyX9_ok nmX9 (by decide) mw1_90 rfl rfl rfl rfl rfl d kk
theorem mw1_92 : Cond.fieldLink RX9 15 "HeardTunes$Town" "kind" "[I" ∈ TT := tt_1 (List.mem_of_getElem? (i := 92) (by decide +kernel)) (by decide +kernel)
theorem pfX9_15 {x : Ct} {cc : ByteArray} {nL cells slots pc n : Nat} {rm : Room} {w : Wv} {lv : List (Nat × Value)} {st : List Value} {q : Nat} (C : Cx x cc nL RX9 rm) (hin2 : (xM x).name = "<init>") (hn : (wK w)[n]? = some (9, .inl fX9)) (d : decode cc pc = .ok (.putfield 15, 3)) (kk : ∀ w', w' = setX w n 10 (some q) → V x cells slots w' (pc + 3) lv st) : V x cells slots w pc lv (.ref (gz (xG x) + q) :: .ref (gz (xG x) + n) :: st) := r_putX C hin2 hn rfl inX9 tyX9 tyX9_ok nmX9 (by decide) mw1_92 rfl rfl rfl rfl rfl d kk
theorem mw1_96 : Cond.fieldLink RX9 18 "HeardTunes$Town" "start" "[I" ∈ TT := tt_1 (List.mem_of_getElem? (i := 96) (by decide +kernel)) (by decide +kernel)
theorem pfX9_18 {x : Ct} {cc : ByteArray} {nL cells slots pc n : Nat} {rm : Room} {w : Wv} {lv : List (Nat × Value)} {st : List Value} {q : Nat} (C : Cx x cc nL RX9 rm) (hin2 : (xM x).name = "<init>") (hn : (wK w)[n]? = some (9, .inl fX9)) (d : decode cc pc = .ok (.putfield 18, 3)) (kk : ∀ w', w' = setX w n 11 (some q) → V x cells slots w' (pc + 3) lv st) : V x cells slots w pc lv (.ref (gz (xG x) + q) :: .ref (gz (xG x) + n) :: st) := r_putX C hin2 hn rfl inX9 tyX9 tyX9_ok nmX9 (by decide) mw1_96 rfl rfl rfl rfl rfl d kk
theorem mw1_98 : Cond.fieldLink RX9 21 "HeardTunes$Town" "heads" "[I" ∈ TT := tt_1 (List.mem_of_getElem? (i := 98) (by decide +kernel)) (by decide +kernel)
theorem pfX9_21 {x : Ct} {cc : ByteArray} {nL cells slots pc n : Nat} {rm : Room} {w : Wv} {lv : List (Nat × Value)} {st : List Value} {q : Nat} (C : Cx x cc nL RX9 rm) (hin2 : (xM x).name = "<init>") (hn : (wK w)[n]? = some (9, .inl fX9)) (d : decode cc pc = .ok (.putfield 21, 3)) (kk : ∀ w', w' = setX w n 12 (some q) → V x cells slots w' (pc + 3) lv st) : V x cells slots w pc lv (.ref (gz (xG x) + q) :: .ref (gz (xG x) + n) :: st) := r_putX C hin2 hn rfl inX9 tyX9 tyX9_ok nmX9 (by decide) mw1_98 rfl rfl rfl rfl rfl d kk
theorem mw1_101 : Cond.fieldLink RX9 24 "HeardTunes$Town" "pace" "[I" ∈ TT := tt_1 (List.mem_of_getElem? (i := 101) (by decide +kernel)) (by decide +kernel)
theorem pfX9_24 {x : Ct} {cc : ByteArray} {nL cells slots pc n : Nat} {rm : Room} {w : Wv} {lv : List (Nat × Value)} {st : List Value} {q : Nat} (C : Cx x cc nL RX9 rm) (hin2 : (xM x).name = "<init>") (hn : (wK w)[n]? = some (9, .inl fX9)) (d : decode cc pc = .ok (.putfield 24, 3)) (kk : ∀ w', w' = setX w n 13 (some q) → V x cells slots w' (pc + 3) lv st) : V x cells slots w pc lv (.ref (gz (xG x) + q) :: .ref (gz (xG x) + n) :: st) := r_putX C hin2 hn rfl inX9 tyX9 tyX9_ok nmX9 (by decide) mw1_101 rfl rfl rfl rfl rfl d kk
theorem mw1_105 : Cond.fieldLink RX9 27 "HeardTunes$Town" "deaf" "[I" ∈ TT := tt_1 (List.mem_of_getElem? (i := 105) (by decide +kernel)) (by decide +kernel)
theorem pfX9_27 {x : Ct} {cc : ByteArray} {nL cells slots pc n : Nat} {rm : Room} {w : Wv} {lv : List (Nat × Value)} {st : List Value} {q : Nat} (C : Cx x cc nL RX9 rm) (hin2 : (xM x).name = "<init>") (hn : (wK w)[n]? = some (9, .inl fX9)) (d : decode cc pc = .ok (.putfield 27, 3)) (kk : ∀ w', w' = setX w n 14 (some q) → V x cells slots w' (pc + 3) lv st) : V x cells slots w pc lv (.ref (gz (xG x) + q) :: .ref (gz (xG x) + n) :: st) := r_putX C hin2 hn rfl inX9 tyX9 tyX9_ok nmX9 (by decide) mw1_105 rfl rfl rfl rfl rfl d kk
theorem mw1_108 : Cond.fieldLink RX9 30 "HeardTunes$Town" "follows" "[I" ∈ TT := tt_1 (List.mem_of_getElem? (i := 108) (by decide +kernel)) (by decide +kernel)
theorem pfX9_30 {x : Ct} {cc : ByteArray} {nL cells slots pc n : Nat} {rm : Room} {w : Wv} {lv : List (Nat × Value)} {st : List Value} {q : Nat} (C : Cx x cc nL RX9 rm) (hin2 : (xM x).name = "<init>") (hn : (wK w)[n]? = some (9, .inl fX9)) (d : decode cc pc = .ok (.putfield 30, 3)) (kk : ∀ w', w' = setX w n 15 (some q) → V x cells slots w' (pc + 3) lv st) : V x cells slots w pc lv (.ref (gz (xG x) + q) :: .ref (gz (xG x) + n) :: st) := r_putX C hin2 hn rfl inX9 tyX9 tyX9_ok nmX9 (by decide) mw1_108 rfl rfl rfl rfl rfl d kk
theorem mw1_110 : Cond.fieldLink RX9 33 "HeardTunes$Town" "reach" "[I" ∈ TT := tt_1 (List.mem_of_getElem? (i := 110) (by decide +kernel)) (by decide +kernel)
theorem pfX9_33 {x : Ct} {cc : ByteArray} {nL cells slots pc n : Nat} {rm : Room} {w : Wv} {lv : List (Nat × Value)} {st : List Value} {q : Nat} (C : Cx x cc nL RX9 rm) (hin2 : (xM x).name = "<init>") (hn : (wK w)[n]? = some (9, .inl fX9)) (d : decode cc pc = .ok (.putfield 33, 3)) (kk : ∀ w', w' = setX w n 16 (some q) → V x cells slots w' (pc + 3) lv st) : V x cells slots w pc lv (.ref (gz (xG x) + q) :: .ref (gz (xG x) + n) :: st) := r_putX C hin2 hn rfl inX9 tyX9 tyX9_ok nmX9 (by decide) mw1_110 rfl rfl rfl rfl rfl d kk
theorem mw1_61 : Cond.fieldLink RX9 36 "HeardTunes$Town" "width" "I" ∈ TT := tt_1 (List.mem_of_getElem? (i := 61) (by decide +kernel)) (by decide +kernel)
theorem pfX9_36 {x : Ct} {cc : ByteArray} {nL cells slots pc n : Nat} {rm : Room} {w : Wv} {lv : List (Nat × Value)} {st : List Value} {v : Int32} (C : Cx x cc nL RX9 rm) (hn : (wK w)[n]? = some (9, .inl fX9)) (d : decode cc pc = .ok (.putfield 36, 3)) (kk : ∀ w', w' = setI w n 0 v → V x cells slots w' (pc + 3) lv st) : V x cells slots w pc lv (.int v :: .ref (gz (xG x) + n) :: st) := r_putI (k := 0) C hn rfl inX9 tyX9 tyX9_ok nmX9 (by decide) mw1_61 rfl rfl rfl rfl d kk
theorem mw1_65 : Cond.fieldLink RX9 40 "HeardTunes$Town" "height" "I" ∈ TT := tt_1 (List.mem_of_getElem? (i := 65) (by decide +kernel)) (by decide +kernel)
theorem pfX9_40 {x : Ct} {cc : ByteArray} {nL cells slots pc n : Nat} {rm : Room} {w : Wv} {lv : List (Nat × Value)} {st : List Value} {v : Int32} (C : Cx x cc nL RX9 rm) (hn : (wK w)[n]? = some (9, .inl fX9)) (d : decode cc pc = .ok (.putfield 40, 3)) (kk : ∀ w', w' = setI w n 1 v → V x cells slots w' (pc + 3) lv st) : V x cells slots w pc lv (.int v :: .ref (gz (xG x) + n) :: st) := r_putI (k := 1) C hn rfl inX9 tyX9 tyX9_ok nmX9 (by decide) mw1_65 rfl rfl rfl rfl d kk
theorem mw1_69 : Cond.fieldLink RX9 43 "HeardTunes$Town" "spots" "I" ∈ TT := tt_1 (List.mem_of_getElem? (i := 69) (by decide +kernel)) (by decide +kernel)
theorem pfX9_43 {x : Ct} {cc : ByteArray} {nL cells slots pc n : Nat} {rm : Room} {w : Wv} {lv : List (Nat × Value)} {st : List Value} {v : Int32} (C : Cx x cc nL RX9 rm) (hn : (wK w)[n]? = some (9, .inl fX9)) (d : decode cc pc = .ok (.putfield 43, 3)) (kk : ∀ w', w' = setI w n 2 v → V x cells slots w' (pc + 3) lv st) : V x cells slots w pc lv (.int v :: .ref (gz (xG x) + n) :: st) := r_putI (k := 2) C hn rfl inX9 tyX9 tyX9_ok nmX9 (by decide) mw1_69 rfl rfl rfl rfl d kk
theorem mw1_71 : Cond.fieldLink RX9 46 "HeardTunes$Town" "crowds" "I" ∈ TT := tt_1 (List.mem_of_getElem? (i := 71) (by decide +kernel)) (by decide +kernel)
theorem pfX9_46 {x : Ct} {cc : ByteArray} {nL cells slots pc n : Nat} {rm : Room} {w : Wv} {lv : List (Nat × Value)} {st : List Value} {v : Int32} (C : Cx x cc nL RX9 rm) (hn : (wK w)[n]? = some (9, .inl fX9)) (d : decode cc pc = .ok (.putfield 46, 3)) (kk : ∀ w', w' = setI w n 3 v → V x cells slots w' (pc + 3) lv st) : V x cells slots w pc lv (.int v :: .ref (gz (xG x) + n) :: st) := r_putI (k := 3) C hn rfl inX9 tyX9 tyX9_ok nmX9 (by decide) mw1_71 rfl rfl rfl rfl d kk
theorem mw1_76 : Cond.fieldLink RX9 49 "HeardTunes$Town" "tunes" "I" ∈ TT := tt_1 (List.mem_of_getElem? (i := 76) (by decide +kernel)) (by decide +kernel)
theorem pfX9_49 {x : Ct} {cc : ByteArray} {nL cells slots pc n : Nat} {rm : Room} {w : Wv} {lv : List (Nat × Value)} {st : List Value} {v : Int32} (C : Cx x cc nL RX9 rm) (hn : (wK w)[n]? = some (9, .inl fX9)) (d : decode cc pc = .ok (.putfield 49, 3)) (kk : ∀ w', w' = setI w n 4 v → V x cells slots w' (pc + 3) lv st) : V x cells slots w pc lv (.int v :: .ref (gz (xG x) + n) :: st) := r_putI (k := 4) C hn rfl inX9 tyX9 tyX9_ok nmX9 (by decide) mw1_76 rfl rfl rfl rfl d kk
theorem mw1_80 : Cond.fieldLink RX9 52 "HeardTunes$Town" "piper" "I" ∈ TT := tt_1 (List.mem_of_getElem? (i := 80) (by decide +kernel)) (by decide +kernel)
theorem pfX9_52 {x : Ct} {cc : ByteArray} {nL cells slots pc n : Nat} {rm : Room} {w : Wv} {lv : List (Nat × Value)} {st : List Value} {v : Int32} (C : Cx x cc nL RX9 rm) (hn : (wK w)[n]? = some (9, .inl fX9)) (d : decode cc pc = .ok (.putfield 52, 3)) (kk : ∀ w', w' = setI w n 5 v → V x cells slots w' (pc + 3) lv st) : V x cells slots w pc lv (.int v :: .ref (gz (xG x) + n) :: st) := r_putI (k := 5) C hn rfl inX9 tyX9 tyX9_ok nmX9 (by decide) mw1_80 rfl rfl rfl rfl d kk
theorem mw1_82 : Cond.fieldLink RX9 55 "HeardTunes$Town" "hasPay" "Z" ∈ TT := tt_1 (List.mem_of_getElem? (i := 82) (by decide +kernel)) (by decide +kernel)
theorem pfX9_55 {x : Ct} {cc : ByteArray} {nL cells slots pc n : Nat} {rm : Room} {w : Wv} {lv : List (Nat × Value)} {st : List Value} {v : Int32} (C : Cx x cc nL RX9 rm) (hn : (wK w)[n]? = some (9, .inl fX9)) (hz : v = 0 ∨ v = 1) (d : decode cc pc = .ok (.putfield 55, 3)) (kk : ∀ w', w' = setI w n 6 v → V x cells slots w' (pc + 3) lv st) : V x cells slots w pc lv (.int v :: .ref (gz (xG x) + n) :: st) := r_putI (k := 6) C hn rfl inX9 tyX9 tyX9_ok nmX9 (by decide) mw1_82 rfl rfl (nar_z hz) (fit_z hz) d kk
theorem mw1_84 : Cond.fieldLink RX9 59 "HeardTunes$Town" "forOut" "I" ∈ TT := tt_1 (List.mem_of_getElem? (i := 84) (by decide +kernel)) (by decide +kernel)
theorem pfX9_59 {x : Ct} {cc : ByteArray} {nL cells slots pc n : Nat} {rm : Room} {w : Wv} {lv : List (Nat × Value)} {st : List Value} {v : Int32} (C : Cx x cc nL RX9 rm) (hn : (wK w)[n]? = some (9, .inl fX9)) (d : decode cc pc = .ok (.putfield 59, 3)) (kk : ∀ w', w' = setI w n 7 v → V x cells slots w' (pc + 3) lv st) : V x cells slots w pc lv (.int v :: .ref (gz (xG x) + n) :: st) := r_putI (k := 7) C hn rfl inX9 tyX9 tyX9_ok nmX9 (by decide) mw1_84 rfl rfl rfl rfl d kk
theorem mw1_87 : Cond.fieldLink RX9 62 "HeardTunes$Town" "forDrowned" "I" ∈ TT := tt_1 (List.mem_of_getElem? (i := 87) (by decide +kernel)) (by decide +kernel)
theorem pfX9_62 {x : Ct} {cc : ByteArray} {nL cells slots pc n : Nat} {rm : Room} {w : Wv} {lv : List (Nat × Value)} {st : List Value} {v : Int32} (C : Cx x cc nL RX9 rm) (hn : (wK w)[n]? = some (9, .inl fX9)) (d : decode cc pc = .ok (.putfield 62, 3)) (kk : ∀ w', w' = setI w n 8 v → V x cells slots w' (pc + 3) lv st) : V x cells slots w pc lv (.int v :: .ref (gz (xG x) + n) :: st) := r_putI (k := 8) C hn rfl inX9 tyX9 tyX9_ok nmX9 (by decide) mw1_87 rfl rfl rfl rfl d kk
theorem gfX9_9 {x : Ct} {cc : ByteArray} {nL cells slots pc n : Nat} {rm : Room} {w : Wv} {lv : List (Nat × Value)} {st : List Value} (q : Nat) (C : Cx x cc nL RX9 rm) (hn : (wK w)[n]? = some (9, .inl fX9)) (hX : wX w n 9 = some q) (d : decode cc pc = .ok (.getfield 9, 3)) (kk : V x cells slots w (pc + 3) lv (.ref (gz (xG x) + q) :: st)) : V x cells slots w pc lv (.ref (gz (xG x) + n) :: st) := r_getX C hn rfl inX9 (by decide) mw1_90 rfl hX d kk
theorem gfX9_21 {x : Ct} {cc : ByteArray} {nL cells slots pc n : Nat} {rm : Room} {w : Wv} {lv : List (Nat × Value)} {st : List Value} (q : Nat) (C : Cx x cc nL RX9 rm) (hn : (wK w)[n]? = some (9, .inl fX9)) (hX : wX w n 12 = some q) (d : decode cc pc = .ok (.getfield 21, 3)) (kk : V x cells slots w (pc + 3) lv (.ref (gz (xG x) + q) :: st)) : V x cells slots w pc lv (.ref (gz (xG x) + n) :: st) := r_getX C hn rfl inX9 (by decide) mw1_98 rfl hX d kk
theorem gfX9_27 {x : Ct} {cc : ByteArray} {nL cells slots pc n : Nat} {rm : Room} {w : Wv} {lv : List (Nat × Value)} {st : List Value} (q : Nat) (C : Cx x cc nL RX9 rm) (hn : (wK w)[n]? = some (9, .inl fX9)) (hX : wX w n 14 = some q) (d : decode cc pc = .ok (.getfield 27, 3)) (kk : V x cells slots w (pc + 3) lv (.ref (gz (xG x) + q) :: st)) : V x cells slots w pc lv (.ref (gz (xG x) + n) :: st) := r_getX C hn rfl inX9 (by decide) mw1_105 rfl hX d kk
theorem gfX9_30 {x : Ct} {cc : ByteArray} {nL cells slots pc n : Nat} {rm : Room} {w : Wv} {lv : List (Nat × Value)} {st : List Value} (q : Nat) (C : Cx x cc nL RX9 rm) (hn : (wK w)[n]? = some (9, .inl fX9)) (hX : wX w n 15 = some q) (d : decode cc pc = .ok (.getfield 30, 3)) (kk : V x cells slots w (pc + 3) lv (.ref (gz (xG x) + q) :: st)) : V x cells slots w pc lv (.ref (gz (xG x) + n) :: st) := r_getX C hn rfl inX9 (by decide) mw1_108 rfl hX d kk
theorem gfX9_15 {x : Ct} {cc : ByteArray} {nL cells slots pc n : Nat} {rm : Room} {w : Wv} {lv : List (Nat × Value)} {st : List Value} (q : Nat) (C : Cx x cc nL RX9 rm) (hn : (wK w)[n]? = some (9, .inl fX9)) (hX : wX w n 10 = some q) (d : decode cc pc = .ok (.getfield 15, 3)) (kk : V x cells slots w (pc + 3) lv (.ref (gz (xG x) + q) :: st)) : V x cells slots w pc lv (.ref (gz (xG x) + n) :: st) := r_getX C hn rfl inX9 (by decide) mw1_92 rfl hX d kk
theorem mw3_108 : Cond.methodLink RX9 65 yX1_isCell ∈ TT := tt_3 (List.mem_of_getElem? (i := 108) (by decide +kernel)) (by decide +kernel)
theorem cwX9_65_S : CwS RX9 65 yX1_isCell cX1_isCell 1 (some .boolean) 1 := ⟨mw3_108, mw3_109, mw1_4, mw3_110, ⟨by decide, by decide, by decide⟩⟩
theorem mw3_139 : Cond.methodLink RX9 71 yX9_isSpot ∈ TT := tt_3 (List.mem_of_getElem? (i := 139) (by decide +kernel)) (by decide +kernel)
theorem cwX9_71_V : CwV RX9 71 RX9 yX9_isSpot cX9_isSpot 2 (some .boolean) 1 := ⟨mw3_139, mw3_105, mw3_106, mw1_3, mw3_107, ⟨by decide, by decide, by decide⟩⟩
theorem gfX9_52 {x : Ct} {cc : ByteArray} {nL cells slots pc n : Nat} {rm : Room} {w : Wv} {lv : List (Nat × Value)} {st : List Value} {v : Int32} (C : Cx x cc nL RX9 rm) (hn : (wK w)[n]? = some (9, .inl fX9)) (hv : wI w n 5 = v) (d : decode cc pc = .ok (.getfield 52, 3)) (kk : V x cells slots w (pc + 3) lv (.int v :: st)) : V x cells slots w pc lv (.ref (gz (xG x) + n) :: st) := by subst hv; exact r_getI C hn rfl inX9 (by decide) mw1_80 rfl d kk
theorem gfX9_46 {x : Ct} {cc : ByteArray} {nL cells slots pc n : Nat} {rm : Room} {w : Wv} {lv : List (Nat × Value)} {st : List Value} {v : Int32} (C : Cx x cc nL RX9 rm) (hn : (wK w)[n]? = some (9, .inl fX9)) (hv : wI w n 3 = v) (d : decode cc pc = .ok (.getfield 46, 3)) (kk : V x cells slots w (pc + 3) lv (.int v :: st)) : V x cells slots w pc lv (.ref (gz (xG x) + n) :: st) := by subst hv; exact r_getI C hn rfl inX9 (by decide) mw1_71 rfl d kk
theorem gfX9_18 {x : Ct} {cc : ByteArray} {nL cells slots pc n : Nat} {rm : Room} {w : Wv} {lv : List (Nat × Value)} {st : List Value} (q : Nat) (C : Cx x cc nL RX9 rm) (hn : (wK w)[n]? = some (9, .inl fX9)) (hX : wX w n 11 = some q) (d : decode cc pc = .ok (.getfield 18, 3)) (kk : V x cells slots w (pc + 3) lv (.ref (gz (xG x) + q) :: st)) : V x cells slots w pc lv (.ref (gz (xG x) + n) :: st) := r_getX C hn rfl inX9 (by decide) mw1_96 rfl hX d kk
theorem gfX9_43 {x : Ct} {cc : ByteArray} {nL cells slots pc n : Nat} {rm : Room} {w : Wv} {lv : List (Nat × Value)} {st : List Value} {v : Int32} (C : Cx x cc nL RX9 rm) (hn : (wK w)[n]? = some (9, .inl fX9)) (hv : wI w n 2 = v) (d : decode cc pc = .ok (.getfield 43, 3)) (kk : V x cells slots w (pc + 3) lv (.int v :: st)) : V x cells slots w pc lv (.ref (gz (xG x) + n) :: st) := by subst hv; exact r_getI C hn rfl inX9 (by decide) mw1_69 rfl d kk
theorem gfX9_24 {x : Ct} {cc : ByteArray} {nL cells slots pc n : Nat} {rm : Room} {w : Wv} {lv : List (Nat × Value)} {st : List Value} (q : Nat) (C : Cx x cc nL RX9 rm) (hn : (wK w)[n]? = some (9, .inl fX9)) (hX : wX w n 13 = some q) (d : decode cc pc = .ok (.getfield 24, 3)) (kk : V x cells slots w (pc + 3) lv (.ref (gz (xG x) + q) :: st)) : V x cells slots w pc lv (.ref (gz (xG x) + n) :: st) := r_getX C hn rfl inX9 (by decide) mw1_101 rfl hX d kk
theorem gfX9_49 {x : Ct} {cc : ByteArray} {nL cells slots pc n : Nat} {rm : Room} {w : Wv} {lv : List (Nat × Value)} {st : List Value} {v : Int32} (C : Cx x cc nL RX9 rm) (hn : (wK w)[n]? = some (9, .inl fX9)) (hv : wI w n 4 = v) (d : decode cc pc = .ok (.getfield 49, 3)) (kk : V x cells slots w (pc + 3) lv (.int v :: st)) : V x cells slots w pc lv (.ref (gz (xG x) + n) :: st) := by subst hv; exact r_getI C hn rfl inX9 (by decide) mw1_76 rfl d kk
theorem gfX9_33 {x : Ct} {cc : ByteArray} {nL cells slots pc n : Nat} {rm : Room} {w : Wv} {lv : List (Nat × Value)} {st : List Value} (q : Nat) (C : Cx x cc nL RX9 rm) (hn : (wK w)[n]? = some (9, .inl fX9)) (hX : wX w n 16 = some q) (d : decode cc pc = .ok (.getfield 33, 3)) (kk : V x cells slots w (pc + 3) lv (.ref (gz (xG x) + q) :: st)) : V x cells slots w pc lv (.ref (gz (xG x) + n) :: st) := r_getX C hn rfl inX9 (by decide) mw1_110 rfl hX d kk
theorem gfX9_36 {x : Ct} {cc : ByteArray} {nL cells slots pc n : Nat} {rm : Room} {w : Wv} {lv : List (Nat × Value)} {st : List Value} {v : Int32} (C : Cx x cc nL RX9 rm) (hn : (wK w)[n]? = some (9, .inl fX9)) (hv : wI w n 0 = v) (d : decode cc pc = .ok (.getfield 36, 3)) (kk : V x cells slots w (pc + 3) lv (.int v :: st)) : V x cells slots w pc lv (.ref (gz (xG x) + n) :: st) := by subst hv; exact r_getI C hn rfl inX9 (by decide) mw1_61 rfl d kk
theorem gfX9_40 {x : Ct} {cc : ByteArray} {nL cells slots pc n : Nat} {rm : Room} {w : Wv} {lv : List (Nat × Value)} {st : List Value} {v : Int32} (C : Cx x cc nL RX9 rm) (hn : (wK w)[n]? = some (9, .inl fX9)) (hv : wI w n 1 = v) (d : decode cc pc = .ok (.getfield 40, 3)) (kk : V x cells slots w (pc + 3) lv (.int v :: st)) : V x cells slots w pc lv (.ref (gz (xG x) + n) :: st) := by subst hv; exact r_getI C hn rfl inX9 (by decide) mw1_65 rfl d kk
theorem mw3_152 : Cond.methodLink RX9 74 yJ9_max_7cf53 ∈ TT := tt_3 (List.mem_of_getElem? (i := 152) (by decide +kernel)) (by decide +kernel)
theorem mw1_23 : Cond.methodLink RX10 1 objectInit ∈ TT := tt_1 (List.mem_of_getElem? (i := 23) (by decide +kernel)) (by decide +kernel)
theorem mw1_26 : Cond.classLink RX10 7 RX5 ∈ TT := tt_1 (List.mem_of_getElem? (i := 26) (by decide +kernel)) (by decide +kernel)
theorem mw1_27 : Cond.instantiable RX5 6 ∈ TT := tt_1 (List.mem_of_getElem? (i := 27) (by decide +kernel)) (by decide +kernel)
theorem mw1_28 : Cond.methodLink RX10 9 yX5_init ∈ TT := tt_1 (List.mem_of_getElem? (i := 28) (by decide +kernel)) (by decide +kernel)
theorem mw1_29 : Cond.instanceMethod yX5_init ∈ TT := tt_1 (List.mem_of_getElem? (i := 29) (by decide +kernel)) (by decide +kernel)
theorem mw1_30 : Cond.code yX5_init cX5_init 1 none ∈ TT := tt_1 (List.mem_of_getElem? (i := 30) rfl) rfl
theorem cwX10_9_I : CwI RX10 9 yX5_init cX5_init 1 0 := ⟨mw1_28, mw1_29, mw1_2, mw1_30, ⟨by decide, by decide, by decide⟩, rfl⟩
theorem mw2_176 : Cond.fieldLink RX10 10 "HeardTunes" "reader" "LHeardTunes$Reader;" ∈ TT := tt_2 (List.mem_of_getElem? (i := 176) (by decide +kernel)) (by decide +kernel)
theorem pfX10_10 {x : Ct} {cc : ByteArray} {nL cells slots pc n : Nat} {rm : Room} {w : Wv} {lv : List (Nat × Value)} {st : List Value} {q : Nat} (C : Cx x cc nL RX10 rm) (hin2 : (xM x).name = "<init>") (hn : (wK w)[n]? = some (10, .inl fX10)) (d : decode cc pc = .ok (.putfield 10, 3)) (kk : ∀ w', w' = setX w n 0 (some q) → V x cells slots w' (pc + 3) lv st) : V x cells slots w pc lv (.ref (gz (xG x) + q) :: .ref (gz (xG x) + n) :: st) := r_putX C hin2 hn rfl inX10 tyX10 tyX10_ok nmX10 (by decide) mw2_176 rfl rfl rfl rfl rfl d kk
theorem mw1_55 : Cond.classLink RX10 16 RX9 ∈ TT := tt_1 (List.mem_of_getElem? (i := 55) (by decide +kernel)) (by decide +kernel)
theorem mw1_56 : Cond.instantiable RX9 17 ∈ TT := tt_1 (List.mem_of_getElem? (i := 56) (by decide +kernel)) (by decide +kernel)
theorem mw1_57 : Cond.methodLink RX10 18 yX9_init ∈ TT := tt_1 (List.mem_of_getElem? (i := 57) (by decide +kernel)) (by decide +kernel)
theorem mw1_58 : Cond.instanceMethod yX9_init ∈ TT := tt_1 (List.mem_of_getElem? (i := 58) (by decide +kernel)) (by decide +kernel)
theorem mw1_59 : Cond.code yX9_init cX9_init 1 none ∈ TT := tt_1 (List.mem_of_getElem? (i := 59) rfl) rfl
theorem cwX10_18_I : CwI RX10 18 yX9_init cX9_init 1 0 := ⟨mw1_57, mw1_58, mw1_3, mw1_59, ⟨by decide, by decide, by decide⟩, rfl⟩
theorem mw2_177 : Cond.fieldLink RX10 19 "HeardTunes" "tale" "LHeardTunes$Town;" ∈ TT := tt_2 (List.mem_of_getElem? (i := 177) (by decide +kernel)) (by decide +kernel)
theorem pfX10_19 {x : Ct} {cc : ByteArray} {nL cells slots pc n : Nat} {rm : Room} {w : Wv} {lv : List (Nat × Value)} {st : List Value} {q : Nat} (C : Cx x cc nL RX10 rm) (hin2 : (xM x).name = "<init>") (hn : (wK w)[n]? = some (10, .inl fX10)) (d : decode cc pc = .ok (.putfield 19, 3)) (kk : ∀ w', w' = setX w n 1 (some q) → V x cells slots w' (pc + 3) lv st) : V x cells slots w pc lv (.ref (gz (xG x) + q) :: .ref (gz (xG x) + n) :: st) := r_putX C hin2 hn rfl inX10 tyX10 tyX10_ok nmX10 (by decide) mw2_177 rfl rfl rfl rfl rfl d kk
theorem mw2_178 : Cond.fieldLink RX10 23 "HeardTunes" "draft" "LHeardTunes$Town;" ∈ TT := tt_2 (List.mem_of_getElem? (i := 178) (by decide +kernel)) (by decide +kernel)
theorem pfX10_23 {x : Ct} {cc : ByteArray} {nL cells slots pc n : Nat} {rm : Room} {w : Wv} {lv : List (Nat × Value)} {st : List Value} {q : Nat} (C : Cx x cc nL RX10 rm) (hin2 : (xM x).name = "<init>") (hn : (wK w)[n]? = some (10, .inl fX10)) (d : decode cc pc = .ok (.putfield 23, 3)) (kk : ∀ w', w' = setX w n 2 (some q) → V x cells slots w' (pc + 3) lv st) : V x cells slots w pc lv (.ref (gz (xG x) + q) :: .ref (gz (xG x) + n) :: st) := r_putX C hin2 hn rfl inX10 tyX10 tyX10_ok nmX10 (by decide) mw2_178 rfl rfl rfl rfl rfl d kk
theorem mw1_148 : Cond.classLink RX10 26 RX1 ∈ TT := tt_1 (List.mem_of_getElem? (i := 148) (by decide +kernel)) (by decide +kernel)
theorem mw1_149 : Cond.instantiable RX1 9 ∈ TT := tt_1 (List.mem_of_getElem? (i := 149) (by decide +kernel)) (by decide +kernel)
theorem mw1_150 : Cond.methodLink RX10 28 yX1_init ∈ TT := tt_1 (List.mem_of_getElem? (i := 150) (by decide +kernel)) (by decide +kernel)
theorem mw1_151 : Cond.instanceMethod yX1_init ∈ TT := tt_1 (List.mem_of_getElem? (i := 151) (by decide +kernel)) (by decide +kernel)
theorem mw1_152 : Cond.code yX1_init cX1_init 1 none ∈ TT := tt_1 (List.mem_of_getElem? (i := 152) rfl) rfl
theorem cwX10_28_I : CwI RX10 28 yX1_init cX1_init 1 0 := ⟨mw1_150, mw1_151, mw1_4, mw1_152, ⟨by decide, by decide, by decide⟩, rfl⟩
theorem mw2_179 : Cond.fieldLink RX10 29 "HeardTunes" "ground" "LHeardTunes$Ground;" ∈ TT := tt_2 (List.mem_of_getElem? (i := 179) (by decide +kernel)) (by decide +kernel)
theorem pfX10_29 {x : Ct} {cc : ByteArray} {nL cells slots pc n : Nat} {rm : Room} {w : Wv} {lv : List (Nat × Value)} {st : List Value} {q : Nat} (C : Cx x cc nL RX10 rm) (hin2 : (xM x).name = "<init>") (hn : (wK w)[n]? = some (10, .inl fX10)) (d : decode cc pc = .ok (.putfield 29, 3)) (kk : ∀ w', w' = setX w n 3 (some q) → V x cells slots w' (pc + 3) lv st) : V x cells slots w pc lv (.ref (gz (xG x) + q) :: .ref (gz (xG x) + n) :: st) := r_putX C hin2 hn rfl inX10 tyX10 tyX10_ok nmX10 (by decide) mw2_179 rfl rfl rfl rfl rfl d kk
theorem mw2_180 : Cond.fieldLink RX10 33 "HeardTunes" "walledGround" "LHeardTunes$Ground;" ∈ TT := tt_2 (List.mem_of_getElem? (i := 180) (by decide +kernel)) (by decide +kernel)
theorem pfX10_33 {x : Ct} {cc : ByteArray} {nL cells slots pc n : Nat} {rm : Room} {w : Wv} {lv : List (Nat × Value)} {st : List Value} {q : Nat} (C : Cx x cc nL RX10 rm) (hin2 : (xM x).name = "<init>") (hn : (wK w)[n]? = some (10, .inl fX10)) (d : decode cc pc = .ok (.putfield 33, 3)) (kk : ∀ w', w' = setX w n 4 (some q) → V x cells slots w' (pc + 3) lv st) : V x cells slots w pc lv (.ref (gz (xG x) + q) :: .ref (gz (xG x) + n) :: st) := r_putX C hin2 hn rfl inX10 tyX10 tyX10_ok nmX10 (by decide) mw2_180 rfl rfl rfl rfl rfl d kk
theorem mw1_188 : Cond.classLink RX10 36 RX6 ∈ TT := tt_1 (List.mem_of_getElem? (i := 188) (by decide +kernel)) (by decide +kernel)
theorem gfX10_19 {x : Ct} {cc : ByteArray} {nL cells slots pc n : Nat} {rm : Room} {w : Wv} {lv : List (Nat × Value)} {st : List Value} (q : Nat) (C : Cx x cc nL RX10 rm) (hn : (wK w)[n]? = some (10, .inl fX10)) (hX : wX w n 1 = some q) (d : decode cc pc = .ok (.getfield 19, 3)) (kk : V x cells slots w (pc + 3) lv (.ref (gz (xG x) + q) :: st)) : V x cells slots w pc lv (.ref (gz (xG x) + n) :: st) := r_getX C hn rfl inX10 (by decide) mw2_177 rfl hX d kk
theorem gfX10_29 {x : Ct} {cc : ByteArray} {nL cells slots pc n : Nat} {rm : Room} {w : Wv} {lv : List (Nat × Value)} {st : List Value} (q : Nat) (C : Cx x cc nL RX10 rm) (hn : (wK w)[n]? = some (10, .inl fX10)) (hX : wX w n 3 = some q) (d : decode cc pc = .ok (.getfield 29, 3)) (kk : V x cells slots w (pc + 3) lv (.ref (gz (xG x) + q) :: st)) : V x cells slots w pc lv (.ref (gz (xG x) + n) :: st) := r_getX C hn rfl inX10 (by decide) mw2_179 rfl hX d kk
theorem mw1_190 : Cond.methodLink RX10 38 yX6_init ∈ TT := tt_1 (List.mem_of_getElem? (i := 190) (by decide +kernel)) (by decide +kernel)
theorem cwX10_38_I : CwI RX10 38 yX6_init cX6_init 3 2 := ⟨mw1_190, mw1_191, mw1_5, mw1_192, ⟨by decide, by decide, by decide⟩, rfl⟩
theorem mw2_181 : Cond.fieldLink RX10 41 "HeardTunes" "now" "LHeardTunes$Scene;" ∈ TT := tt_2 (List.mem_of_getElem? (i := 181) (by decide +kernel)) (by decide +kernel)
theorem pfX10_41 {x : Ct} {cc : ByteArray} {nL cells slots pc n : Nat} {rm : Room} {w : Wv} {lv : List (Nat × Value)} {st : List Value} {q : Nat} (C : Cx x cc nL RX10 rm) (hin2 : (xM x).name = "<init>") (hn : (wK w)[n]? = some (10, .inl fX10)) (d : decode cc pc = .ok (.putfield 41, 3)) (kk : ∀ w', w' = setX w n 5 (some q) → V x cells slots w' (pc + 3) lv st) : V x cells slots w pc lv (.ref (gz (xG x) + q) :: .ref (gz (xG x) + n) :: st) := r_putX C hin2 hn rfl inX10 tyX10 tyX10_ok nmX10 (by decide) mw2_181 rfl rfl rfl rfl rfl d kk
theorem mw2_182 : Cond.fieldLink RX10 45 "HeardTunes" "trial" "LHeardTunes$Scene;" ∈ TT := tt_2 (List.mem_of_getElem? (i := 182) (by decide +kernel)) (by decide +kernel)
theorem pfX10_45 {x : Ct} {cc : ByteArray} {nL cells slots pc n : Nat} {rm : Room} {w : Wv} {lv : List (Nat × Value)} {st : List Value} {q : Nat} (C : Cx x cc nL RX10 rm) (hin2 : (xM x).name = "<init>") (hn : (wK w)[n]? = some (10, .inl fX10)) (d : decode cc pc = .ok (.putfield 45, 3)) (kk : ∀ w', w' = setX w n 6 (some q) → V x cells slots w' (pc + 3) lv st) : V x cells slots w pc lv (.ref (gz (xG x) + q) :: .ref (gz (xG x) + n) :: st) := r_putX C hin2 hn rfl inX10 tyX10 tyX10_ok nmX10 (by decide) mw2_182 rfl rfl rfl rfl rfl d kk
theorem gfX10_33 {x : Ct} {cc : ByteArray} {nL cells slots pc n : Nat} {rm : Room} {w : Wv} {lv : List (Nat × Value)} {st : List Value} (q : Nat) (C : Cx x cc nL RX10 rm) (hn : (wK w)[n]? = some (10, .inl fX10)) (hX : wX w n 4 = some q) (d : decode cc pc = .ok (.getfield 33, 3)) (kk : V x cells slots w (pc + 3) lv (.ref (gz (xG x) + q) :: st)) : V x cells slots w pc lv (.ref (gz (xG x) + n) :: st) := r_getX C hn rfl inX10 (by decide) mw2_180 rfl hX d kk
theorem mw2_183 : Cond.fieldLink RX10 48 "HeardTunes" "walledTrial" "LHeardTunes$Scene;" ∈ TT := tt_2 (List.mem_of_getElem? (i := 183) (by decide +kernel)) (by decide +kernel)
theorem pfX10_48 {x : Ct} {cc : ByteArray} {nL cells slots pc n : Nat} {rm : Room} {w : Wv} {lv : List (Nat × Value)} {st : List Value} {q : Nat} (C : Cx x cc nL RX10 rm) (hin2 : (xM x).name = "<init>") (hn : (wK w)[n]? = some (10, .inl fX10)) (d : decode cc pc = .ok (.putfield 48, 3)) (kk : ∀ w', w' = setX w n 7 (some q) → V x cells slots w' (pc + 3) lv st) : V x cells slots w pc lv (.ref (gz (xG x) + q) :: .ref (gz (xG x) + n) :: st) := r_putX C hin2 hn rfl inX10 tyX10 tyX10_ok nmX10 (by decide) mw2_183 rfl rfl rfl rfl rfl d kk
theorem mw1_220 : Cond.classLink RX10 51 RX4 ∈ TT := tt_1 (List.mem_of_getElem? (i := 220) (by decide +kernel)) (by decide +kernel)
theorem mw1_221 : Cond.instantiable RX4 3 ∈ TT := tt_1 (List.mem_of_getElem? (i := 221) (by decide +kernel)) (by decide +kernel)
theorem mw1_6 : Cond.initialized RX4 ∈ TT := tt_1 (List.mem_of_getElem? (i := 6) (by decide +kernel)) (by decide +kernel)
theorem mw1_222 : Cond.methodLink RX10 53 yX4_init ∈ TT := tt_1 (List.mem_of_getElem? (i := 222) (by decide +kernel)) (by decide +kernel)
theorem mw1_223 : Cond.instanceMethod yX4_init ∈ TT := tt_1 (List.mem_of_getElem? (i := 223) (by decide +kernel)) (by decide +kernel)
theorem mw1_224 : Cond.code yX4_init cX4_init 1 none ∈ TT := tt_1 (List.mem_of_getElem? (i := 224) rfl) rfl
theorem cwX10_53_I : CwI RX10 53 yX4_init cX4_init 1 0 := ⟨mw1_222, mw1_223, mw1_6, mw1_224, ⟨by decide, by decide, by decide⟩, rfl⟩
theorem mw2_184 : Cond.fieldLink RX10 54 "HeardTunes" "row" "LHeardTunes$Plan;" ∈ TT := tt_2 (List.mem_of_getElem? (i := 184) (by decide +kernel)) (by decide +kernel)
theorem pfX10_54 {x : Ct} {cc : ByteArray} {nL cells slots pc n : Nat} {rm : Room} {w : Wv} {lv : List (Nat × Value)} {st : List Value} {q : Nat} (C : Cx x cc nL RX10 rm) (hin2 : (xM x).name = "<init>") (hn : (wK w)[n]? = some (10, .inl fX10)) (d : decode cc pc = .ok (.putfield 54, 3)) (kk : ∀ w', w' = setX w n 8 (some q) → V x cells slots w' (pc + 3) lv st) : V x cells slots w pc lv (.ref (gz (xG x) + q) :: .ref (gz (xG x) + n) :: st) := r_putX C hin2 hn rfl inX10 tyX10 tyX10_ok nmX10 (by decide) mw2_184 rfl rfl rfl rfl rfl d kk
theorem mw1_237 : Cond.classLink RX10 58 RX7 ∈ TT := tt_1 (List.mem_of_getElem? (i := 237) (by decide +kernel)) (by decide +kernel)
theorem mw1_238 : Cond.instantiable RX7 4 ∈ TT := tt_1 (List.mem_of_getElem? (i := 238) (by decide +kernel)) (by decide +kernel)
theorem mw1_239 : Cond.methodLink RX10 60 yX7_init ∈ TT := tt_1 (List.mem_of_getElem? (i := 239) (by decide +kernel)) (by decide +kernel)
theorem mw2_0 : Cond.instanceMethod yX7_init ∈ TT := tt_2 (List.mem_of_getElem? (i := 0) (by decide +kernel)) (by decide +kernel)
theorem mw2_1 : Cond.code yX7_init cX7_init 1 none ∈ TT := tt_2 (List.mem_of_getElem? (i := 1) rfl) rfl
theorem cwX10_60_I : CwI RX10 60 yX7_init cX7_init 1 0 := ⟨mw1_239, mw2_0, mw1_7, mw2_1, ⟨by decide, by decide, by decide⟩, rfl⟩
theorem mw2_185 : Cond.fieldLink RX10 61 "HeardTunes" "seen" "LHeardTunes$Seen;" ∈ TT := tt_2 (List.mem_of_getElem? (i := 185) (by decide +kernel)) (by decide +kernel)
theorem pfX10_61 {x : Ct} {cc : ByteArray} {nL cells slots pc n : Nat} {rm : Room} {w : Wv} {lv : List (Nat × Value)} {st : List Value} {q : Nat} (C : Cx x cc nL RX10 rm) (hin2 : (xM x).name = "<init>") (hn : (wK w)[n]? = some (10, .inl fX10)) (d : decode cc pc = .ok (.putfield 61, 3)) (kk : ∀ w', w' = setX w n 9 (some q) → V x cells slots w' (pc + 3) lv st) : V x cells slots w pc lv (.ref (gz (xG x) + q) :: .ref (gz (xG x) + n) :: st) := r_putX C hin2 hn rfl inX10 tyX10 tyX10_ok nmX10 (by decide) mw2_185 rfl rfl rfl rfl rfl d kk
theorem mw2_17 : Cond.classLink RX10 65 RX3 ∈ TT := tt_2 (List.mem_of_getElem? (i := 17) (by decide +kernel)) (by decide +kernel)
theorem mw2_18 : Cond.instantiable RX3 3 ∈ TT := tt_2 (List.mem_of_getElem? (i := 18) (by decide +kernel)) (by decide +kernel)
theorem mw2_19 : Cond.methodLink RX10 67 yX3_init ∈ TT := tt_2 (List.mem_of_getElem? (i := 19) (by decide +kernel)) (by decide +kernel)
theorem mw2_20 : Cond.instanceMethod yX3_init ∈ TT := tt_2 (List.mem_of_getElem? (i := 20) (by decide +kernel)) (by decide +kernel)
theorem mw2_21 : Cond.code yX3_init cX3_init 1 none ∈ TT := tt_2 (List.mem_of_getElem? (i := 21) rfl) rfl
theorem cwX10_67_I : CwI RX10 67 yX3_init cX3_init 1 0 := ⟨mw2_19, mw2_20, mw1_8, mw2_21, ⟨by decide, by decide, by decide⟩, rfl⟩
theorem mw2_186 : Cond.fieldLink RX10 68 "HeardTunes" "memo" "LHeardTunes$Memo;" ∈ TT := tt_2 (List.mem_of_getElem? (i := 186) (by decide +kernel)) (by decide +kernel)
theorem pfX10_68 {x : Ct} {cc : ByteArray} {nL cells slots pc n : Nat} {rm : Room} {w : Wv} {lv : List (Nat × Value)} {st : List Value} {q : Nat} (C : Cx x cc nL RX10 rm) (hin2 : (xM x).name = "<init>") (hn : (wK w)[n]? = some (10, .inl fX10)) (d : decode cc pc = .ok (.putfield 68, 3)) (kk : ∀ w', w' = setX w n 10 (some q) → V x cells slots w' (pc + 3) lv st) : V x cells slots w pc lv (.ref (gz (xG x) + q) :: .ref (gz (xG x) + n) :: st) := r_putX C hin2 hn rfl inX10 tyX10 tyX10_ok nmX10 (by decide) mw2_186 rfl rfl rfl rfl rfl d kk
theorem mw2_34 : Cond.classLink RX10 72 RX8 ∈ TT := tt_2 (List.mem_of_getElem? (i := 34) (by decide +kernel)) (by decide +kernel)
theorem mw2_35 : Cond.instantiable RX8 10 ∈ TT := tt_2 (List.mem_of_getElem? (i := 35) (by decide +kernel)) (by decide +kernel)
theorem gfX10_68 {x : Ct} {cc : ByteArray} {nL cells slots pc n : Nat} {rm : Room} {w : Wv} {lv : List (Nat × Value)} {st : List Value} (q : Nat) (C : Cx x cc nL RX10 rm) (hn : (wK w)[n]? = some (10, .inl fX10)) (hX : wX w n 10 = some q) (d : decode cc pc = .ok (.getfield 68, 3)) (kk : V x cells slots w (pc + 3) lv (.ref (gz (xG x) + q) :: st)) : V x cells slots w pc lv (.ref (gz (xG x) + n) :: st) := r_getX C hn rfl inX10 (by decide) mw2_186 rfl hX d kk
theorem mw2_36 : Cond.methodLink RX10 74 yX8_init ∈ TT := tt_2 (List.mem_of_getElem? (i := 36) (by decide +kernel)) (by decide +kernel)
theorem mw2_37 : Cond.instanceMethod yX8_init ∈ TT := tt_2 (List.mem_of_getElem? (i := 37) (by decide +kernel)) (by decide +kernel)
theorem mw2_38 : Cond.code yX8_init cX8_init 5 none ∈ TT := tt_2 (List.mem_of_getElem? (i := 38) rfl) rfl
theorem cwX10_74_I : CwI RX10 74 yX8_init cX8_init 5 3 := ⟨mw2_36, mw2_37, mw1_9, mw2_38, ⟨by decide, by decide, by decide⟩, rfl⟩
theorem mw2_187 : Cond.fieldLink RX10 77 "HeardTunes" "leading" "LHeardTunes$Soonest;" ∈ TT := tt_2 (List.mem_of_getElem? (i := 187) (by decide +kernel)) (by decide +kernel)
theorem pfX10_77 {x : Ct} {cc : ByteArray} {nL cells slots pc n : Nat} {rm : Room} {w : Wv} {lv : List (Nat × Value)} {st : List Value} {q : Nat} (C : Cx x cc nL RX10 rm) (hin2 : (xM x).name = "<init>") (hn : (wK w)[n]? = some (10, .inl fX10)) (d : decode cc pc = .ok (.putfield 77, 3)) (kk : ∀ w', w' = setX w n 11 (some q) → V x cells slots w' (pc + 3) lv st) : V x cells slots w pc lv (.ref (gz (xG x) + q) :: .ref (gz (xG x) + n) :: st) := r_putX C hin2 hn rfl inX10 tyX10 tyX10_ok nmX10 (by decide) mw2_187 rfl rfl rfl rfl rfl d kk
theorem mw2_75 : Cond.classLink RX10 81 RX0 ∈ TT := tt_2 (List.mem_of_getElem? (i := 75) (by decide +kernel)) (by decide +kernel)
theorem mw2_76 : Cond.instantiable RX0 12 ∈ TT := tt_2 (List.mem_of_getElem? (i := 76) (by decide +kernel)) (by decide +kernel)
theorem gfX10_61 {x : Ct} {cc : ByteArray} {nL cells slots pc n : Nat} {rm : Room} {w : Wv} {lv : List (Nat × Value)} {st : List Value} (q : Nat) (C : Cx x cc nL RX10 rm) (hn : (wK w)[n]? = some (10, .inl fX10)) (hX : wX w n 9 = some q) (d : decode cc pc = .ok (.getfield 61, 3)) (kk : V x cells slots w (pc + 3) lv (.ref (gz (xG x) + q) :: st)) : V x cells slots w pc lv (.ref (gz (xG x) + n) :: st) := r_getX C hn rfl inX10 (by decide) mw2_185 rfl hX d kk
theorem mw2_77 : Cond.methodLink RX10 83 yX0_init ∈ TT := tt_2 (List.mem_of_getElem? (i := 77) (by decide +kernel)) (by decide +kernel)
theorem mw2_78 : Cond.instanceMethod yX0_init ∈ TT := tt_2 (List.mem_of_getElem? (i := 78) (by decide +kernel)) (by decide +kernel)
theorem mw2_79 : Cond.code yX0_init cX0_init 6 none ∈ TT := tt_2 (List.mem_of_getElem? (i := 79) rfl) rfl
theorem cwX10_83_I : CwI RX10 83 yX0_init cX0_init 6 4 := ⟨mw2_77, mw2_78, mw1_10, mw2_79, ⟨by decide, by decide, by decide⟩, rfl⟩
theorem mw2_188 : Cond.fieldLink RX10 86 "HeardTunes" "fitting" "LHeardTunes$Fitting;" ∈ TT := tt_2 (List.mem_of_getElem? (i := 188) (by decide +kernel)) (by decide +kernel)
theorem pfX10_86 {x : Ct} {cc : ByteArray} {nL cells slots pc n : Nat} {rm : Room} {w : Wv} {lv : List (Nat × Value)} {st : List Value} {q : Nat} (C : Cx x cc nL RX10 rm) (hin2 : (xM x).name = "<init>") (hn : (wK w)[n]? = some (10, .inl fX10)) (d : decode cc pc = .ok (.putfield 86, 3)) (kk : ∀ w', w' = setX w n 12 (some q) → V x cells slots w' (pc + 3) lv st) : V x cells slots w pc lv (.ref (gz (xG x) + q) :: .ref (gz (xG x) + n) :: st) := r_putX C hin2 hn rfl inX10 tyX10 tyX10_ok nmX10 (by decide) mw2_188 rfl rfl rfl rfl rfl d kk
theorem mw2_121 : Cond.classLink RX10 90 RX2 ∈ TT := tt_2 (List.mem_of_getElem? (i := 121) (by decide +kernel)) (by decide +kernel)
theorem mw2_189 : Cond.fieldLink RX10 92 "HeardTunes" "images" "[LHeardTunes$Image;" ∈ TT := tt_2 (List.mem_of_getElem? (i := 189) (by decide +kernel)) (by decide +kernel)
theorem pfX10_92 {x : Ct} {cc : ByteArray} {nL cells slots pc n : Nat} {rm : Room} {w : Wv} {lv : List (Nat × Value)} {st : List Value} {q : Nat} (C : Cx x cc nL RX10 rm) (hin2 : (xM x).name = "<init>") (hn : (wK w)[n]? = some (10, .inl fX10)) (d : decode cc pc = .ok (.putfield 92, 3)) (kk : ∀ w', w' = setX w n 13 (some q) → V x cells slots w' (pc + 3) lv st) : V x cells slots w pc lv (.ref (gz (xG x) + q) :: .ref (gz (xG x) + n) :: st) := r_putX C hin2 hn rfl inX10 tyX10 tyX10_ok nmX10 (by decide) mw2_189 rfl rfl rfl rfl rfl d kk
theorem gfX10_92 {x : Ct} {cc : ByteArray} {nL cells slots pc n : Nat} {rm : Room} {w : Wv} {lv : List (Nat × Value)} {st : List Value} (q : Nat) (C : Cx x cc nL RX10 rm) (hn : (wK w)[n]? = some (10, .inl fX10)) (hX : wX w n 13 = some q) (d : decode cc pc = .ok (.getfield 92, 3)) (kk : V x cells slots w (pc + 3) lv (.ref (gz (xG x) + q) :: st)) : V x cells slots w pc lv (.ref (gz (xG x) + n) :: st) := r_getX C hn rfl inX10 (by decide) mw2_189 rfl hX d kk
theorem mw2_123 : Cond.instantiable RX2 4 ∈ TT := tt_2 (List.mem_of_getElem? (i := 123) (by decide +kernel)) (by decide +kernel)
theorem mw1_11 : Cond.initialized RX2 ∈ TT := tt_1 (List.mem_of_getElem? (i := 11) (by decide +kernel)) (by decide +kernel)
theorem mw2_124 : Cond.methodLink RX10 96 yX2_init ∈ TT := tt_2 (List.mem_of_getElem? (i := 124) (by decide +kernel)) (by decide +kernel)
theorem mw2_125 : Cond.instanceMethod yX2_init ∈ TT := tt_2 (List.mem_of_getElem? (i := 125) (by decide +kernel)) (by decide +kernel)
theorem mw2_126 : Cond.code yX2_init cX2_init 3 none ∈ TT := tt_2 (List.mem_of_getElem? (i := 126) rfl) rfl
theorem cwX10_96_I : CwI RX10 96 yX2_init cX2_init 3 2 := ⟨mw2_124, mw2_125, mw1_11, mw2_126, ⟨by decide, by decide, by decide⟩, rfl⟩
theorem mw2_145 : Cond.methodLink RX10 97 yX10_begin ∈ TT := tt_2 (List.mem_of_getElem? (i := 145) (by decide +kernel)) (by decide +kernel)
theorem mw2_147 : Cond.instanceMethod yX10_begin ∈ TT := tt_2 (List.mem_of_getElem? (i := 147) (by decide +kernel)) (by decide +kernel)
theorem ms1_0 : Cond.selects RX10 yX10_begin yX10_begin ∈ TT := tp_sel (tp_1 (List.mem_of_getElem? (i := 0) (by decide +kernel) : ((yX10_begin, 15) : MethodName × Nat) ∈ lw_privs_1)) (by decide +kernel)
theorem mw1_1 : Cond.initialized RX10 ∈ TT := tt_1 (List.mem_of_getElem? (i := 1) (by decide +kernel)) (by decide +kernel)
theorem mw2_148 : Cond.code yX10_begin cX10_begin 2 none ∈ TT := tt_2 (List.mem_of_getElem? (i := 148) rfl) rfl
theorem cwX10_97_V : CwV RX10 97 RX10 yX10_begin cX10_begin 2 none 0 := ⟨mw2_145, mw2_147, ms1_0, mw1_1, mw2_148, ⟨by decide, by decide, by decide⟩⟩
theorem mw2_226 : Cond.constant RX10 100 (-1000000002) ∈ TT := tt_2 (List.mem_of_getElem? (i := 226) (by decide +kernel)) (by decide +kernel)
theorem gfX10_10 {x : Ct} {cc : ByteArray} {nL cells slots pc n : Nat} {rm : Room} {w : Wv} {lv : List (Nat × Value)} {st : List Value} (q : Nat) (C : Cx x cc nL RX10 rm) (hn : (wK w)[n]? = some (10, .inl fX10)) (hX : wX w n 0 = some q) (d : decode cc pc = .ok (.getfield 10, 3)) (kk : V x cells slots w (pc + 3) lv (.ref (gz (xG x) + q) :: st)) : V x cells slots w pc lv (.ref (gz (xG x) + n) :: st) := r_getX C hn rfl inX10 (by decide) mw2_176 rfl hX d kk
theorem mw1_33 : Cond.fieldLink RX10 101 "HeardTunes$Reader" "length" "I" ∈ TT := tt_1 (List.mem_of_getElem? (i := 33) (by decide +kernel)) (by decide +kernel)
theorem gfX10_101 {x : Ct} {cc : ByteArray} {nL cells slots pc n : Nat} {rm : Room} {w : Wv} {lv : List (Nat × Value)} {st : List Value} {v : Int32} (C : Cx x cc nL RX10 rm) (hn : (wK w)[n]? = some (5, .inl fX5)) (hv : wI w n 0 = v) (d : decode cc pc = .ok (.getfield 101, 3)) (kk : V x cells slots w (pc + 3) lv (.int v :: st)) : V x cells slots w pc lv (.ref (gz (xG x) + n) :: st) := by subst hv; exact r_getI C hn rfl inX5 (by decide) mw1_33 rfl d kk
theorem mw2_227 : Cond.constant RX10 105 (-1000000004) ∈ TT := tt_2 (List.mem_of_getElem? (i := 227) (by decide +kernel)) (by decide +kernel)
theorem mw2_228 : Cond.methodLink RX10 106 yX5_add ∈ TT := tt_2 (List.mem_of_getElem? (i := 228) (by decide +kernel)) (by decide +kernel)
theorem mw2_229 : Cond.instanceMethod yX5_add ∈ TT := tt_2 (List.mem_of_getElem? (i := 229) (by decide +kernel)) (by decide +kernel)
theorem mw2_230 : Cond.selects RX5 yX5_add yX5_add ∈ TT := tt_2 (List.mem_of_getElem? (i := 230) (by decide +kernel)) (by decide +kernel)
theorem mw2_231 : Cond.code yX5_add cX5_add 2 none ∈ TT := tt_2 (List.mem_of_getElem? (i := 231) rfl) rfl
theorem cwX10_106_V : CwV RX10 106 RX5 yX5_add cX5_add 2 none 1 := ⟨mw2_228, mw2_229, mw2_230, mw1_2, mw2_231, ⟨by decide, by decide, by decide⟩⟩
theorem gfX10_23 {x : Ct} {cc : ByteArray} {nL cells slots pc n : Nat} {rm : Room} {w : Wv} {lv : List (Nat × Value)} {st : List Value} (q : Nat) (C : Cx x cc nL RX10 rm) (hn : (wK w)[n]? = some (10, .inl fX10)) (hX : wX w n 2 = some q) (d : decode cc pc = .ok (.getfield 23, 3)) (kk : V x cells slots w (pc + 3) lv (.ref (gz (xG x) + q) :: st)) : V x cells slots w pc lv (.ref (gz (xG x) + n) :: st) := r_getX C hn rfl inX10 (by decide) mw2_178 rfl hX d kk
theorem mw2_236 : Cond.methodLink RX10 110 yX5_read ∈ TT := tt_2 (List.mem_of_getElem? (i := 236) (by decide +kernel)) (by decide +kernel)
theorem mw2_237 : Cond.instanceMethod yX5_read ∈ TT := tt_2 (List.mem_of_getElem? (i := 237) (by decide +kernel)) (by decide +kernel)
theorem mw2_238 : Cond.selects RX5 yX5_read yX5_read ∈ TT := tt_2 (List.mem_of_getElem? (i := 238) (by decide +kernel)) (by decide +kernel)
theorem mw2_239 : Cond.code yX5_read cX5_read 3 (some .boolean) ∈ TT := tt_2 (List.mem_of_getElem? (i := 239) rfl) rfl
theorem cwX10_110_V : CwV RX10 110 RX5 yX5_read cX5_read 3 (some .boolean) 1 := ⟨mw2_236, mw2_237, mw2_238, mw1_2, mw2_239, ⟨by decide, by decide, by decide⟩⟩
theorem pfX10_101 {x : Ct} {cc : ByteArray} {nL cells slots pc n : Nat} {rm : Room} {w : Wv} {lv : List (Nat × Value)} {st : List Value} {v : Int32} (C : Cx x cc nL RX10 rm) (hn : (wK w)[n]? = some (5, .inl fX5)) (d : decode cc pc = .ok (.putfield 101, 3)) (kk : ∀ w', w' = setI w n 0 v → V x cells slots w' (pc + 3) lv st) : V x cells slots w pc lv (.int v :: .ref (gz (xG x) + n) :: st) := r_putI (k := 0) C hn rfl inX5 tyX5 tyX5_ok nmX5 (by decide) mw1_33 rfl rfl rfl rfl d kk
theorem mw1_155 : Cond.fieldLink RX10 114 "HeardTunes$Ground" "count" "I" ∈ TT := tt_1 (List.mem_of_getElem? (i := 155) (by decide +kernel)) (by decide +kernel)
theorem gfX10_114 {x : Ct} {cc : ByteArray} {nL cells slots pc n : Nat} {rm : Room} {w : Wv} {lv : List (Nat × Value)} {st : List Value} {v : Int32} (C : Cx x cc nL RX10 rm) (hn : (wK w)[n]? = some (1, .inl fX1)) (hv : wI w n 0 = v) (d : decode cc pc = .ok (.getfield 114, 3)) (kk : V x cells slots w (pc + 3) lv (.int v :: st)) : V x cells slots w pc lv (.ref (gz (xG x) + n) :: st) := by subst hv; exact r_getI C hn rfl inX1 (by decide) mw1_155 rfl d kk
theorem mw1_35 : Cond.fieldLink RX10 117 "HeardTunes$Reader" "fault" "I" ∈ TT := tt_1 (List.mem_of_getElem? (i := 35) (by decide +kernel)) (by decide +kernel)
theorem gfX10_117 {x : Ct} {cc : ByteArray} {nL cells slots pc n : Nat} {rm : Room} {w : Wv} {lv : List (Nat × Value)} {st : List Value} {v : Int32} (C : Cx x cc nL RX10 rm) (hn : (wK w)[n]? = some (5, .inl fX5)) (hv : wI w n 1 = v) (d : decode cc pc = .ok (.getfield 117, 3)) (kk : V x cells slots w (pc + 3) lv (.int v :: st)) : V x cells slots w pc lv (.ref (gz (xG x) + n) :: st) := by subst hv; exact r_getI C hn rfl inX5 (by decide) mw1_35 rfl d kk
theorem mw1_37 : Cond.fieldLink RX10 120 "HeardTunes$Reader" "faultAt" "I" ∈ TT := tt_1 (List.mem_of_getElem? (i := 37) (by decide +kernel)) (by decide +kernel)
theorem gfX10_120 {x : Ct} {cc : ByteArray} {nL cells slots pc n : Nat} {rm : Room} {w : Wv} {lv : List (Nat × Value)} {st : List Value} {v : Int32} (C : Cx x cc nL RX10 rm) (hn : (wK w)[n]? = some (5, .inl fX5)) (hv : wI w n 2 = v) (d : decode cc pc = .ok (.getfield 120, 3)) (kk : V x cells slots w (pc + 3) lv (.int v :: st)) : V x cells slots w pc lv (.ref (gz (xG x) + n) :: st) := by subst hv; exact r_getI C hn rfl inX5 (by decide) mw1_37 rfl d kk
theorem mw1_64 : Cond.fieldLink RX10 123 "HeardTunes$Town" "width" "I" ∈ TT := tt_1 (List.mem_of_getElem? (i := 64) (by decide +kernel)) (by decide +kernel)
theorem gfX10_123 {x : Ct} {cc : ByteArray} {nL cells slots pc n : Nat} {rm : Room} {w : Wv} {lv : List (Nat × Value)} {st : List Value} {v : Int32} (C : Cx x cc nL RX10 rm) (hn : (wK w)[n]? = some (9, .inl fX9)) (hv : wI w n 0 = v) (d : decode cc pc = .ok (.getfield 123, 3)) (kk : V x cells slots w (pc + 3) lv (.int v :: st)) : V x cells slots w pc lv (.ref (gz (xG x) + n) :: st) := by subst hv; exact r_getI C hn rfl inX9 (by decide) mw1_64 rfl d kk
theorem mw1_67 : Cond.fieldLink RX10 126 "HeardTunes$Town" "height" "I" ∈ TT := tt_1 (List.mem_of_getElem? (i := 67) (by decide +kernel)) (by decide +kernel)
theorem gfX10_126 {x : Ct} {cc : ByteArray} {nL cells slots pc n : Nat} {rm : Room} {w : Wv} {lv : List (Nat × Value)} {st : List Value} {v : Int32} (C : Cx x cc nL RX10 rm) (hn : (wK w)[n]? = some (9, .inl fX9)) (hv : wI w n 1 = v) (d : decode cc pc = .ok (.getfield 126, 3)) (kk : V x cells slots w (pc + 3) lv (.int v :: st)) : V x cells slots w pc lv (.ref (gz (xG x) + n) :: st) := by subst hv; exact r_getI C hn rfl inX9 (by decide) mw1_67 rfl d kk
theorem mw1_73 : Cond.fieldLink RX10 129 "HeardTunes$Town" "crowds" "I" ∈ TT := tt_1 (List.mem_of_getElem? (i := 73) (by decide +kernel)) (by decide +kernel)
theorem gfX10_129 {x : Ct} {cc : ByteArray} {nL cells slots pc n : Nat} {rm : Room} {w : Wv} {lv : List (Nat × Value)} {st : List Value} {v : Int32} (C : Cx x cc nL RX10 rm) (hn : (wK w)[n]? = some (9, .inl fX9)) (hv : wI w n 3 = v) (d : decode cc pc = .ok (.getfield 129, 3)) (kk : V x cells slots w (pc + 3) lv (.int v :: st)) : V x cells slots w pc lv (.ref (gz (xG x) + n) :: st) := by subst hv; exact r_getI C hn rfl inX9 (by decide) mw1_73 rfl d kk
theorem mw1_77 : Cond.fieldLink RX10 132 "HeardTunes$Town" "tunes" "I" ∈ TT := tt_1 (List.mem_of_getElem? (i := 77) (by decide +kernel)) (by decide +kernel)
theorem gfX10_132 {x : Ct} {cc : ByteArray} {nL cells slots pc n : Nat} {rm : Room} {w : Wv} {lv : List (Nat × Value)} {st : List Value} {v : Int32} (C : Cx x cc nL RX10 rm) (hn : (wK w)[n]? = some (9, .inl fX9)) (hv : wI w n 4 = v) (d : decode cc pc = .ok (.getfield 132, 3)) (kk : V x cells slots w (pc + 3) lv (.int v :: st)) : V x cells slots w pc lv (.ref (gz (xG x) + n) :: st) := by subst hv; exact r_getI C hn rfl inX9 (by decide) mw1_77 rfl d kk
theorem gfX10_41 {x : Ct} {cc : ByteArray} {nL cells slots pc n : Nat} {rm : Room} {w : Wv} {lv : List (Nat × Value)} {st : List Value} (q : Nat) (C : Cx x cc nL RX10 rm) (hn : (wK w)[n]? = some (10, .inl fX10)) (hX : wX w n 5 = some q) (d : decode cc pc = .ok (.getfield 41, 3)) (kk : V x cells slots w (pc + 3) lv (.ref (gz (xG x) + q) :: st)) : V x cells slots w pc lv (.ref (gz (xG x) + n) :: st) := r_getX C hn rfl inX10 (by decide) mw2_181 rfl hX d kk
theorem mw1_198 : Cond.fieldLink RX10 135 "HeardTunes$Scene" "minutes" "I" ∈ TT := tt_1 (List.mem_of_getElem? (i := 198) (by decide +kernel)) (by decide +kernel)
theorem gfX10_135 {x : Ct} {cc : ByteArray} {nL cells slots pc n : Nat} {rm : Room} {w : Wv} {lv : List (Nat × Value)} {st : List Value} {v : Int32} (C : Cx x cc nL RX10 rm) (hn : (wK w)[n]? = some (6, .inl fX6)) (hv : wI w n 1 = v) (d : decode cc pc = .ok (.getfield 135, 3)) (kk : V x cells slots w (pc + 3) lv (.int v :: st)) : V x cells slots w pc lv (.ref (gz (xG x) + n) :: st) := by subst hv; exact r_getI C hn rfl inX6 (by decide) mw1_198 rfl d kk
theorem mw1_196 : Cond.fieldLink RX10 138 "HeardTunes$Scene" "piper" "I" ∈ TT := tt_1 (List.mem_of_getElem? (i := 196) (by decide +kernel)) (by decide +kernel)
theorem gfX10_138 {x : Ct} {cc : ByteArray} {nL cells slots pc n : Nat} {rm : Room} {w : Wv} {lv : List (Nat × Value)} {st : List Value} {v : Int32} (C : Cx x cc nL RX10 rm) (hn : (wK w)[n]? = some (6, .inl fX6)) (hv : wI w n 0 = v) (d : decode cc pc = .ok (.getfield 138, 3)) (kk : V x cells slots w (pc + 3) lv (.int v :: st)) : V x cells slots w pc lv (.ref (gz (xG x) + n) :: st) := by subst hv; exact r_getI C hn rfl inX6 (by decide) mw1_196 rfl d kk
theorem mw3_164 : Cond.methodLink RX10 141 yX1_code ∈ TT := tt_3 (List.mem_of_getElem? (i := 164) (by decide +kernel)) (by decide +kernel)
theorem mw3_165 : Cond.instanceMethod yX1_code ∈ TT := tt_3 (List.mem_of_getElem? (i := 165) (by decide +kernel)) (by decide +kernel)
theorem mw3_166 : Cond.selects RX1 yX1_code yX1_code ∈ TT := tt_3 (List.mem_of_getElem? (i := 166) (by decide +kernel)) (by decide +kernel)
theorem mw3_167 : Cond.code yX1_code cX1_code 2 (some .int) ∈ TT := tt_3 (List.mem_of_getElem? (i := 167) rfl) rfl
theorem cwX10_141_V : CwV RX10 141 RX1 yX1_code cX1_code 2 (some .int) 1 := ⟨mw3_164, mw3_165, mw3_166, mw1_4, mw3_167, ⟨by decide, by decide, by decide⟩⟩
theorem mw3_169 : Cond.methodLink RX10 145 yX6_heads ∈ TT := tt_3 (List.mem_of_getElem? (i := 169) (by decide +kernel)) (by decide +kernel)
theorem cwX10_145_V : CwV RX10 145 RX6 yX6_heads cX6_heads 5 (some .int) 2 := ⟨mw3_169, mw3_170, mw3_171, mw1_5, mw3_172, ⟨by decide, by decide, by decide⟩⟩
theorem mw3_181 : Cond.methodLink RX10 149 yX6_left ∈ TT := tt_3 (List.mem_of_getElem? (i := 181) (by decide +kernel)) (by decide +kernel)
theorem mw3_182 : Cond.instanceMethod yX6_left ∈ TT := tt_3 (List.mem_of_getElem? (i := 182) (by decide +kernel)) (by decide +kernel)
theorem mw3_183 : Cond.selects RX6 yX6_left yX6_left ∈ TT := tt_3 (List.mem_of_getElem? (i := 183) (by decide +kernel)) (by decide +kernel)
theorem mw3_184 : Cond.code yX6_left cX6_left 3 (some .int) ∈ TT := tt_3 (List.mem_of_getElem? (i := 184) rfl) rfl
theorem cwX10_149_V : CwV RX10 149 RX6 yX6_left cX6_left 3 (some .int) 0 := ⟨mw3_181, mw3_182, mw3_183, mw1_5, mw3_184, ⟨by decide, by decide, by decide⟩⟩
theorem mw3_185 : Cond.methodLink RX10 153 yX6_worth ∈ TT := tt_3 (List.mem_of_getElem? (i := 185) (by decide +kernel)) (by decide +kernel)
theorem mw3_186 : Cond.instanceMethod yX6_worth ∈ TT := tt_3 (List.mem_of_getElem? (i := 186) (by decide +kernel)) (by decide +kernel)
theorem mw3_187 : Cond.selects RX6 yX6_worth yX6_worth ∈ TT := tt_3 (List.mem_of_getElem? (i := 187) (by decide +kernel)) (by decide +kernel)
theorem mw3_188 : Cond.code yX6_worth cX6_worth 1 (some .int) ∈ TT := tt_3 (List.mem_of_getElem? (i := 188) rfl) rfl
theorem cwX10_153_V : CwV RX10 153 RX6 yX6_worth cX6_worth 1 (some .int) 0 := ⟨mw3_185, mw3_186, mw3_187, mw1_5, mw3_188, ⟨by decide, by decide, by decide⟩⟩
theorem gfX10_54 {x : Ct} {cc : ByteArray} {nL cells slots pc n : Nat} {rm : Room} {w : Wv} {lv : List (Nat × Value)} {st : List Value} (q : Nat) (C : Cx x cc nL RX10 rm) (hn : (wK w)[n]? = some (10, .inl fX10)) (hX : wX w n 8 = some q) (d : decode cc pc = .ok (.getfield 54, 3)) (kk : V x cells slots w (pc + 3) lv (.ref (gz (xG x) + q) :: st)) : V x cells slots w pc lv (.ref (gz (xG x) + n) :: st) := r_getX C hn rfl inX10 (by decide) mw2_184 rfl hX d kk
theorem mw1_227 : Cond.fieldLink RX10 156 "HeardTunes$Plan" "count" "I" ∈ TT := tt_1 (List.mem_of_getElem? (i := 227) (by decide +kernel)) (by decide +kernel)
theorem gfX10_156 {x : Ct} {cc : ByteArray} {nL cells slots pc n : Nat} {rm : Room} {w : Wv} {lv : List (Nat × Value)} {st : List Value} {v : Int32} (C : Cx x cc nL RX10 rm) (hn : (wK w)[n]? = some (4, .inl fX4)) (hv : wI w n 0 = v) (d : decode cc pc = .ok (.getfield 156, 3)) (kk : V x cells slots w (pc + 3) lv (.int v :: st)) : V x cells slots w pc lv (.ref (gz (xG x) + n) :: st) := by subst hv; exact r_getI C hn rfl inX4 (by decide) mw1_227 rfl d kk
theorem mw2_4 : Cond.fieldLink RX10 157 "HeardTunes$Seen" "count" "I" ∈ TT := tt_2 (List.mem_of_getElem? (i := 4) (by decide +kernel)) (by decide +kernel)
theorem gfX10_157 {x : Ct} {cc : ByteArray} {nL cells slots pc n : Nat} {rm : Room} {w : Wv} {lv : List (Nat × Value)} {st : List Value} {v : Int32} (C : Cx x cc nL RX10 rm) (hn : (wK w)[n]? = some (7, .inl fX7)) (hv : wI w n 0 = v) (d : decode cc pc = .ok (.getfield 157, 3)) (kk : V x cells slots w (pc + 3) lv (.int v :: st)) : V x cells slots w pc lv (.ref (gz (xG x) + n) :: st) := by subst hv; exact r_getI C hn rfl inX7 (by decide) mw2_4 rfl d kk
theorem mw3_194 : Cond.methodLink RX10 158 yX1_cellAt ∈ TT := tt_3 (List.mem_of_getElem? (i := 194) (by decide +kernel)) (by decide +kernel)
theorem mw3_195 : Cond.instanceMethod yX1_cellAt ∈ TT := tt_3 (List.mem_of_getElem? (i := 195) (by decide +kernel)) (by decide +kernel)
theorem mw3_196 : Cond.selects RX1 yX1_cellAt yX1_cellAt ∈ TT := tt_3 (List.mem_of_getElem? (i := 196) (by decide +kernel)) (by decide +kernel)
theorem mw3_197 : Cond.code yX1_cellAt cX1_cellAt 3 (some .int) ∈ TT := tt_3 (List.mem_of_getElem? (i := 197) rfl) rfl
theorem cwX10_158_V : CwV RX10 158 RX1 yX1_cellAt cX1_cellAt 3 (some .int) 2 := ⟨mw3_194, mw3_195, mw3_196, mw1_4, mw3_197, ⟨by decide, by decide, by decide⟩⟩
theorem mw3_198 : Cond.constant RX10 161 (-1000000001) ∈ TT := tt_3 (List.mem_of_getElem? (i := 198) (by decide +kernel)) (by decide +kernel)
theorem mw3_199 : Cond.methodLink RX10 162 yX1_what ∈ TT := tt_3 (List.mem_of_getElem? (i := 199) (by decide +kernel)) (by decide +kernel)
theorem cwX10_162_V : CwV RX10 162 RX1 yX1_what cX1_what 2 (some .int) 1 := ⟨mw3_199, mw3_200, mw3_201, mw1_4, mw3_202, ⟨by decide, by decide, by decide⟩⟩
theorem mw3_207 : Cond.methodLink RX10 165 yX10_isCrowd ∈ TT := tt_3 (List.mem_of_getElem? (i := 207) (by decide +kernel)) (by decide +kernel)
theorem mw3_209 : Cond.instanceMethod yX10_isCrowd ∈ TT := tt_3 (List.mem_of_getElem? (i := 209) (by decide +kernel)) (by decide +kernel)
theorem ms2_2 : Cond.selects RX10 yX10_isCrowd yX10_isCrowd ∈ TT := tp_sel (tp_2 (List.mem_of_getElem? (i := 2) (by decide +kernel) : ((yX10_isCrowd, 15) : MethodName × Nat) ∈ lw_privs_2)) (by decide +kernel)
theorem mw3_210 : Cond.code yX10_isCrowd cX10_isCrowd 2 (some .boolean) ∈ TT := tt_3 (List.mem_of_getElem? (i := 210) rfl) rfl
theorem cwX10_165_V : CwV RX10 165 RX10 yX10_isCrowd cX10_isCrowd 2 (some .boolean) 1 := ⟨mw3_207, mw3_209, ms2_2, mw1_1, mw3_210, ⟨by decide, by decide, by decide⟩⟩
theorem mw1_93 : Cond.fieldLink RX10 169 "HeardTunes$Town" "kind" "[I" ∈ TT := tt_1 (List.mem_of_getElem? (i := 93) (by decide +kernel)) (by decide +kernel)
theorem gfX10_169 {x : Ct} {cc : ByteArray} {nL cells slots pc n : Nat} {rm : Room} {w : Wv} {lv : List (Nat × Value)} {st : List Value} (q : Nat) (C : Cx x cc nL RX10 rm) (hn : (wK w)[n]? = some (9, .inl fX9)) (hX : wX w n 10 = some q) (d : decode cc pc = .ok (.getfield 169, 3)) (kk : V x cells slots w (pc + 3) lv (.ref (gz (xG x) + q) :: st)) : V x cells slots w pc lv (.ref (gz (xG x) + n) :: st) := r_getX C hn rfl inX9 (by decide) mw1_93 rfl hX d kk
theorem mw1_99 : Cond.fieldLink RX10 173 "HeardTunes$Town" "heads" "[I" ∈ TT := tt_1 (List.mem_of_getElem? (i := 99) (by decide +kernel)) (by decide +kernel)
theorem gfX10_173 {x : Ct} {cc : ByteArray} {nL cells slots pc n : Nat} {rm : Room} {w : Wv} {lv : List (Nat × Value)} {st : List Value} (q : Nat) (C : Cx x cc nL RX10 rm) (hn : (wK w)[n]? = some (9, .inl fX9)) (hX : wX w n 12 = some q) (d : decode cc pc = .ok (.getfield 173, 3)) (kk : V x cells slots w (pc + 3) lv (.ref (gz (xG x) + q) :: st)) : V x cells slots w pc lv (.ref (gz (xG x) + n) :: st) := r_getX C hn rfl inX9 (by decide) mw1_99 rfl hX d kk
theorem mw1_103 : Cond.fieldLink RX10 175 "HeardTunes$Town" "pace" "[I" ∈ TT := tt_1 (List.mem_of_getElem? (i := 103) (by decide +kernel)) (by decide +kernel)
theorem gfX10_175 {x : Ct} {cc : ByteArray} {nL cells slots pc n : Nat} {rm : Room} {w : Wv} {lv : List (Nat × Value)} {st : List Value} (q : Nat) (C : Cx x cc nL RX10 rm) (hn : (wK w)[n]? = some (9, .inl fX9)) (hX : wX w n 13 = some q) (d : decode cc pc = .ok (.getfield 175, 3)) (kk : V x cells slots w (pc + 3) lv (.ref (gz (xG x) + q) :: st)) : V x cells slots w pc lv (.ref (gz (xG x) + n) :: st) := r_getX C hn rfl inX9 (by decide) mw1_103 rfl hX d kk
theorem mw1_106 : Cond.fieldLink RX10 178 "HeardTunes$Town" "deaf" "[I" ∈ TT := tt_1 (List.mem_of_getElem? (i := 106) (by decide +kernel)) (by decide +kernel)
theorem gfX10_178 {x : Ct} {cc : ByteArray} {nL cells slots pc n : Nat} {rm : Room} {w : Wv} {lv : List (Nat × Value)} {st : List Value} (q : Nat) (C : Cx x cc nL RX10 rm) (hn : (wK w)[n]? = some (9, .inl fX9)) (hX : wX w n 14 = some q) (d : decode cc pc = .ok (.getfield 178, 3)) (kk : V x cells slots w (pc + 3) lv (.ref (gz (xG x) + q) :: st)) : V x cells slots w pc lv (.ref (gz (xG x) + n) :: st) := r_getX C hn rfl inX9 (by decide) mw1_106 rfl hX d kk
theorem mw1_200 : Cond.fieldLink RX10 181 "HeardTunes$Scene" "at" "[I" ∈ TT := tt_1 (List.mem_of_getElem? (i := 200) (by decide +kernel)) (by decide +kernel)
theorem gfX10_181 {x : Ct} {cc : ByteArray} {nL cells slots pc n : Nat} {rm : Room} {w : Wv} {lv : List (Nat × Value)} {st : List Value} (q : Nat) (C : Cx x cc nL RX10 rm) (hn : (wK w)[n]? = some (6, .inl fX6)) (hX : wX w n 2 = some q) (d : decode cc pc = .ok (.getfield 181, 3)) (kk : V x cells slots w (pc + 3) lv (.ref (gz (xG x) + q) :: st)) : V x cells slots w pc lv (.ref (gz (xG x) + n) :: st) := r_getX C hn rfl inX6 (by decide) mw1_200 rfl hX d kk
theorem mw1_203 : Cond.fieldLink RX10 184 "HeardTunes$Scene" "goal" "[I" ∈ TT := tt_1 (List.mem_of_getElem? (i := 203) (by decide +kernel)) (by decide +kernel)
theorem gfX10_184 {x : Ct} {cc : ByteArray} {nL cells slots pc n : Nat} {rm : Room} {w : Wv} {lv : List (Nat × Value)} {st : List Value} (q : Nat) (C : Cx x cc nL RX10 rm) (hn : (wK w)[n]? = some (6, .inl fX6)) (hX : wX w n 3 = some q) (d : decode cc pc = .ok (.getfield 184, 3)) (kk : V x cells slots w (pc + 3) lv (.ref (gz (xG x) + q) :: st)) : V x cells slots w pc lv (.ref (gz (xG x) + n) :: st) := r_getX C hn rfl inX6 (by decide) mw1_203 rfl hX d kk
theorem mw3_211 : Cond.methodLink RX10 187 yX6_fate ∈ TT := tt_3 (List.mem_of_getElem? (i := 211) (by decide +kernel)) (by decide +kernel)
theorem cwX10_187_V : CwV RX10 187 RX6 yX6_fate cX6_fate 4 (some .int) 1 := ⟨mw3_211, mw3_174, mw3_175, mw1_5, mw3_176, ⟨by decide, by decide, by decide⟩⟩
theorem mw3_216 : Cond.methodLink RX10 190 yX10_isTune ∈ TT := tt_3 (List.mem_of_getElem? (i := 216) (by decide +kernel)) (by decide +kernel)
theorem mw3_218 : Cond.instanceMethod yX10_isTune ∈ TT := tt_3 (List.mem_of_getElem? (i := 218) (by decide +kernel)) (by decide +kernel)
theorem ms2_3 : Cond.selects RX10 yX10_isTune yX10_isTune ∈ TT := tp_sel (tp_2 (List.mem_of_getElem? (i := 3) (by decide +kernel) : ((yX10_isTune, 15) : MethodName × Nat) ∈ lw_privs_2)) (by decide +kernel)
theorem mw3_219 : Cond.code yX10_isTune cX10_isTune 2 (some .boolean) ∈ TT := tt_3 (List.mem_of_getElem? (i := 219) rfl) rfl
theorem cwX10_190_V : CwV RX10 190 RX10 yX10_isTune cX10_isTune 2 (some .boolean) 1 := ⟨mw3_216, mw3_218, ms2_3, mw1_1, mw3_219, ⟨by decide, by decide, by decide⟩⟩
theorem mw1_109 : Cond.fieldLink RX10 193 "HeardTunes$Town" "follows" "[I" ∈ TT := tt_1 (List.mem_of_getElem? (i := 109) (by decide +kernel)) (by decide +kernel)
theorem gfX10_193 {x : Ct} {cc : ByteArray} {nL cells slots pc n : Nat} {rm : Room} {w : Wv} {lv : List (Nat × Value)} {st : List Value} (q : Nat) (C : Cx x cc nL RX10 rm) (hn : (wK w)[n]? = some (9, .inl fX9)) (hX : wX w n 15 = some q) (d : decode cc pc = .ok (.getfield 193, 3)) (kk : V x cells slots w (pc + 3) lv (.ref (gz (xG x) + q) :: st)) : V x cells slots w pc lv (.ref (gz (xG x) + n) :: st) := r_getX C hn rfl inX9 (by decide) mw1_109 rfl hX d kk
theorem mw1_112 : Cond.fieldLink RX10 196 "HeardTunes$Town" "reach" "[I" ∈ TT := tt_1 (List.mem_of_getElem? (i := 112) (by decide +kernel)) (by decide +kernel)
theorem gfX10_196 {x : Ct} {cc : ByteArray} {nL cells slots pc n : Nat} {rm : Room} {w : Wv} {lv : List (Nat × Value)} {st : List Value} (q : Nat) (C : Cx x cc nL RX10 rm) (hn : (wK w)[n]? = some (9, .inl fX9)) (hX : wX w n 16 = some q) (d : decode cc pc = .ok (.getfield 196, 3)) (kk : V x cells slots w (pc + 3) lv (.ref (gz (xG x) + q) :: st)) : V x cells slots w pc lv (.ref (gz (xG x) + n) :: st) := r_getX C hn rfl inX9 (by decide) mw1_112 rfl hX d kk
theorem mw3_220 : Cond.methodLink RX10 199 yX6_hearers ∈ TT := tt_3 (List.mem_of_getElem? (i := 220) (by decide +kernel)) (by decide +kernel)
theorem mw3_221 : Cond.instanceMethod yX6_hearers ∈ TT := tt_3 (List.mem_of_getElem? (i := 221) (by decide +kernel)) (by decide +kernel)
theorem mw3_222 : Cond.selects RX6 yX6_hearers yX6_hearers ∈ TT := tt_3 (List.mem_of_getElem? (i := 222) (by decide +kernel)) (by decide +kernel)
theorem mw3_223 : Cond.code yX6_hearers cX6_hearers 4 (some .int) ∈ TT := tt_3 (List.mem_of_getElem? (i := 223) rfl) rfl
theorem cwX10_199_V : CwV RX10 199 RX6 yX6_hearers cX6_hearers 4 (some .int) 1 := ⟨mw3_220, mw3_221, mw3_222, mw1_5, mw3_223, ⟨by decide, by decide, by decide⟩⟩
theorem mw4_8 : Cond.methodLink RX10 202 yX1_steps ∈ TT := tt_4 (List.mem_of_getElem? (i := 8) (by decide +kernel)) (by decide +kernel)
theorem cwX10_202_V : CwV RX10 202 RX1 yX1_steps cX1_steps 3 (some .int) 2 := ⟨mw4_8, mw3_237, mw3_238, mw1_4, mw3_239, ⟨by decide, by decide, by decide⟩⟩
theorem mw4_13 : Cond.methodLink RX10 205 yX10_isTuneOrNone ∈ TT := tt_4 (List.mem_of_getElem? (i := 13) (by decide +kernel)) (by decide +kernel)
theorem mw4_15 : Cond.instanceMethod yX10_isTuneOrNone ∈ TT := tt_4 (List.mem_of_getElem? (i := 15) (by decide +kernel)) (by decide +kernel)
theorem ms2_6 : Cond.selects RX10 yX10_isTuneOrNone yX10_isTuneOrNone ∈ TT := tp_sel (tp_2 (List.mem_of_getElem? (i := 6) (by decide +kernel) : ((yX10_isTuneOrNone, 15) : MethodName × Nat) ∈ lw_privs_2)) (by decide +kernel)
theorem mw4_16 : Cond.code yX10_isTuneOrNone cX10_isTuneOrNone 2 (some .boolean) ∈ TT := tt_4 (List.mem_of_getElem? (i := 16) rfl) rfl
theorem cwX10_205_V : CwV RX10 205 RX10 yX10_isTuneOrNone cX10_isTuneOrNone 2 (some .boolean) 1 := ⟨mw4_13, mw4_15, ms2_6, mw1_1, mw4_16, ⟨by decide, by decide, by decide⟩⟩
theorem mw4_17 : Cond.methodLink RX10 208 yX10_isStep ∈ TT := tt_4 (List.mem_of_getElem? (i := 17) (by decide +kernel)) (by decide +kernel)
theorem mw4_18 : Cond.static yX10_isStep ∈ TT := tt_4 (List.mem_of_getElem? (i := 18) (by decide +kernel)) (by decide +kernel)
theorem mw4_19 : Cond.code yX10_isStep cX10_isStep 1 (some .boolean) ∈ TT := tt_4 (List.mem_of_getElem? (i := 19) rfl) rfl
theorem cwX10_208_S : CwS RX10 208 yX10_isStep cX10_isStep 1 (some .boolean) 1 := ⟨mw4_17, mw4_18, mw1_1, mw4_19, ⟨by decide, by decide, by decide⟩⟩
theorem mw4_20 : Cond.methodLink RX10 211 yX6_may ∈ TT := tt_4 (List.mem_of_getElem? (i := 20) (by decide +kernel)) (by decide +kernel)
theorem cwX10_211_V : CwV RX10 211 RX6 yX6_may cX6_may 3 (some .boolean) 1 := ⟨mw4_20, mw4_21, mw4_22, mw1_5, mw4_23, ⟨by decide, by decide, by decide⟩⟩
theorem mw4_29 : Cond.constant RX10 214 (-1000000003) ∈ TT := tt_4 (List.mem_of_getElem? (i := 29) (by decide +kernel)) (by decide +kernel)
theorem mw4_30 : Cond.methodLink RX10 215 yX6_pass ∈ TT := tt_4 (List.mem_of_getElem? (i := 30) (by decide +kernel)) (by decide +kernel)
theorem cwX10_215_V : CwV RX10 215 RX6 yX6_pass cX6_pass 4 none 2 := ⟨mw4_30, mw4_31, mw4_32, mw1_5, mw4_33, ⟨by decide, by decide, by decide⟩⟩
theorem gfX10_77 {x : Ct} {cc : ByteArray} {nL cells slots pc n : Nat} {rm : Room} {w : Wv} {lv : List (Nat × Value)} {st : List Value} (q : Nat) (C : Cx x cc nL RX10 rm) (hn : (wK w)[n]? = some (10, .inl fX10)) (hX : wX w n 11 = some q) (d : decode cc pc = .ok (.getfield 77, 3)) (kk : V x cells slots w (pc + 3) lv (.ref (gz (xG x) + q) :: st)) : V x cells slots w pc lv (.ref (gz (xG x) + n) :: st) := r_getX C hn rfl inX10 (by decide) mw2_187 rfl hX d kk
theorem mw2_172 : Cond.methodLink RX10 219 yX8_forget ∈ TT := tt_2 (List.mem_of_getElem? (i := 172) (by decide +kernel)) (by decide +kernel)
theorem mw2_173 : Cond.instanceMethod yX8_forget ∈ TT := tt_2 (List.mem_of_getElem? (i := 173) (by decide +kernel)) (by decide +kernel)
theorem mw2_174 : Cond.selects RX8 yX8_forget yX8_forget ∈ TT := tt_2 (List.mem_of_getElem? (i := 174) (by decide +kernel)) (by decide +kernel)
theorem mw2_175 : Cond.code yX8_forget cX8_forget 1 none ∈ TT := tt_2 (List.mem_of_getElem? (i := 175) rfl) rfl
theorem cwX10_219_V : CwV RX10 219 RX8 yX8_forget cX8_forget 1 none 0 := ⟨mw2_172, mw2_173, mw2_174, mw1_9, mw2_175, ⟨by decide, by decide, by decide⟩⟩
theorem mw4_46 : Cond.methodLink RX10 222 yX6_holds ∈ TT := tt_4 (List.mem_of_getElem? (i := 46) (by decide +kernel)) (by decide +kernel)
theorem mw4_47 : Cond.instanceMethod yX6_holds ∈ TT := tt_4 (List.mem_of_getElem? (i := 47) (by decide +kernel)) (by decide +kernel)
theorem mw4_48 : Cond.selects RX6 yX6_holds yX6_holds ∈ TT := tt_4 (List.mem_of_getElem? (i := 48) (by decide +kernel)) (by decide +kernel)
theorem mw4_49 : Cond.code yX6_holds cX6_holds 4 (some .boolean) ∈ TT := tt_4 (List.mem_of_getElem? (i := 49) rfl) rfl
theorem cwX10_222_V : CwV RX10 222 RX6 yX6_holds cX6_holds 4 (some .boolean) 1 := ⟨mw4_46, mw4_47, mw4_48, mw1_5, mw4_49, ⟨by decide, by decide, by decide⟩⟩
theorem mw4_54 : Cond.methodLink RX10 225 yX1_put ∈ TT := tt_4 (List.mem_of_getElem? (i := 54) (by decide +kernel)) (by decide +kernel)
theorem mw4_55 : Cond.instanceMethod yX1_put ∈ TT := tt_4 (List.mem_of_getElem? (i := 55) (by decide +kernel)) (by decide +kernel)
theorem mw4_56 : Cond.selects RX1 yX1_put yX1_put ∈ TT := tt_4 (List.mem_of_getElem? (i := 56) (by decide +kernel)) (by decide +kernel)
theorem mw4_57 : Cond.code yX1_put cX1_put 3 none ∈ TT := tt_4 (List.mem_of_getElem? (i := 57) rfl) rfl
theorem cwX10_225_V : CwV RX10 225 RX1 yX1_put cX1_put 3 none 2 := ⟨mw4_54, mw4_55, mw4_56, mw1_4, mw4_57, ⟨by decide, by decide, by decide⟩⟩
theorem mw4_62 : Cond.methodLink RX10 228 yX10_draw ∈ TT := tt_4 (List.mem_of_getElem? (i := 62) (by decide +kernel)) (by decide +kernel)
theorem mw4_64 : Cond.instanceMethod yX10_draw ∈ TT := tt_4 (List.mem_of_getElem? (i := 64) (by decide +kernel)) (by decide +kernel)
theorem ms2_8 : Cond.selects RX10 yX10_draw yX10_draw ∈ TT := tp_sel (tp_2 (List.mem_of_getElem? (i := 8) (by decide +kernel) : ((yX10_draw, 15) : MethodName × Nat) ∈ lw_privs_2)) (by decide +kernel)
theorem mw4_65 : Cond.code yX10_draw cX10_draw 2 (some .int) ∈ TT := tt_4 (List.mem_of_getElem? (i := 65) rfl) rfl
theorem cwX10_228_V : CwV RX10 228 RX10 yX10_draw cX10_draw 2 (some .int) 1 := ⟨mw4_62, mw4_64, ms2_8, mw1_1, mw4_65, ⟨by decide, by decide, by decide⟩⟩
theorem mw4_74 : Cond.methodLink RX10 231 yX4_add ∈ TT := tt_4 (List.mem_of_getElem? (i := 74) (by decide +kernel)) (by decide +kernel)
theorem mw4_75 : Cond.instanceMethod yX4_add ∈ TT := tt_4 (List.mem_of_getElem? (i := 75) (by decide +kernel)) (by decide +kernel)
theorem mw4_76 : Cond.selects RX4 yX4_add yX4_add ∈ TT := tt_4 (List.mem_of_getElem? (i := 76) (by decide +kernel)) (by decide +kernel)
theorem mw4_77 : Cond.code yX4_add cX4_add 3 none ∈ TT := tt_4 (List.mem_of_getElem? (i := 77) rfl) rfl
theorem cwX10_231_V : CwV RX10 231 RX4 yX4_add cX4_add 3 none 2 := ⟨mw4_74, mw4_75, mw4_76, mw1_6, mw4_77, ⟨by decide, by decide, by decide⟩⟩
theorem pfX10_156 {x : Ct} {cc : ByteArray} {nL cells slots pc n : Nat} {rm : Room} {w : Wv} {lv : List (Nat × Value)} {st : List Value} {v : Int32} (C : Cx x cc nL RX10 rm) (hn : (wK w)[n]? = some (4, .inl fX4)) (d : decode cc pc = .ok (.putfield 156, 3)) (kk : ∀ w', w' = setI w n 0 v → V x cells slots w' (pc + 3) lv st) : V x cells slots w pc lv (.int v :: .ref (gz (xG x) + n) :: st) := r_putI (k := 0) C hn rfl inX4 tyX4 tyX4_ok nmX4 (by decide) mw1_227 rfl rfl rfl rfl d kk
theorem mw4_86 : Cond.methodLink RX10 233 yX10_tryPlan ∈ TT := tt_4 (List.mem_of_getElem? (i := 86) (by decide +kernel)) (by decide +kernel)
theorem mw4_88 : Cond.instanceMethod yX10_tryPlan ∈ TT := tt_4 (List.mem_of_getElem? (i := 88) (by decide +kernel)) (by decide +kernel)
theorem ms2_9 : Cond.selects RX10 yX10_tryPlan yX10_tryPlan ∈ TT := tp_sel (tp_2 (List.mem_of_getElem? (i := 9) (by decide +kernel) : ((yX10_tryPlan, 15) : MethodName × Nat) ∈ lw_privs_2)) (by decide +kernel)
theorem mw4_89 : Cond.code yX10_tryPlan cX10_tryPlan 2 (some .int) ∈ TT := tt_4 (List.mem_of_getElem? (i := 89) rfl) rfl
theorem cwX10_233_V : CwV RX10 233 RX10 yX10_tryPlan cX10_tryPlan 2 (some .int) 1 := ⟨mw4_86, mw4_88, ms2_9, mw1_1, mw4_89, ⟨by decide, by decide, by decide⟩⟩
theorem mw4_104 : Cond.methodLink RX10 236 yX10_isKind ∈ TT := tt_4 (List.mem_of_getElem? (i := 104) (by decide +kernel)) (by decide +kernel)
theorem mw4_105 : Cond.static yX10_isKind ∈ TT := tt_4 (List.mem_of_getElem? (i := 105) (by decide +kernel)) (by decide +kernel)
theorem mw4_106 : Cond.code yX10_isKind cX10_isKind 1 (some .boolean) ∈ TT := tt_4 (List.mem_of_getElem? (i := 106) rfl) rfl
theorem cwX10_236_S : CwS RX10 236 yX10_isKind cX10_isKind 1 (some .boolean) 1 := ⟨mw4_104, mw4_105, mw1_1, mw4_106, ⟨by decide, by decide, by decide⟩⟩
theorem gfX10_45 {x : Ct} {cc : ByteArray} {nL cells slots pc n : Nat} {rm : Room} {w : Wv} {lv : List (Nat × Value)} {st : List Value} (q : Nat) (C : Cx x cc nL RX10 rm) (hn : (wK w)[n]? = some (10, .inl fX10)) (hX : wX w n 6 = some q) (d : decode cc pc = .ok (.getfield 45, 3)) (kk : V x cells slots w (pc + 3) lv (.ref (gz (xG x) + q) :: st)) : V x cells slots w pc lv (.ref (gz (xG x) + n) :: st) := r_getX C hn rfl inX10 (by decide) mw2_182 rfl hX d kk
theorem mw4_115 : Cond.methodLink RX10 239 yX8_search ∈ TT := tt_4 (List.mem_of_getElem? (i := 115) (by decide +kernel)) (by decide +kernel)
theorem mw4_116 : Cond.instanceMethod yX8_search ∈ TT := tt_4 (List.mem_of_getElem? (i := 116) (by decide +kernel)) (by decide +kernel)
theorem mw4_117 : Cond.selects RX8 yX8_search yX8_search ∈ TT := tt_4 (List.mem_of_getElem? (i := 117) (by decide +kernel)) (by decide +kernel)
theorem mw4_118 : Cond.code yX8_search cX8_search 5 none ∈ TT := tt_4 (List.mem_of_getElem? (i := 118) rfl) rfl
theorem cwX10_239_V : CwV RX10 239 RX8 yX8_search cX8_search 5 none 3 := ⟨mw4_115, mw4_116, mw4_117, mw1_9, mw4_118, ⟨by decide, by decide, by decide⟩⟩
theorem mw2_44 : Cond.fieldLink RX10 243 "HeardTunes$Soonest" "minutes" "I" ∈ TT := tt_2 (List.mem_of_getElem? (i := 44) (by decide +kernel)) (by decide +kernel)
theorem gfX10_243 {x : Ct} {cc : ByteArray} {nL cells slots pc n : Nat} {rm : Room} {w : Wv} {lv : List (Nat × Value)} {st : List Value} {v : Int32} (C : Cx x cc nL RX10 rm) (hn : (wK w)[n]? = some (8, .inl fX8)) (hv : wI w n 0 = v) (d : decode cc pc = .ok (.getfield 243, 3)) (kk : V x cells slots w (pc + 3) lv (.int v :: st)) : V x cells slots w pc lv (.ref (gz (xG x) + n) :: st) := by subst hv; exact r_getI C hn rfl inX8 (by decide) mw2_44 rfl d kk
theorem mw4_173 : Cond.methodLink RX10 244 yX8_stepAt ∈ TT := tt_4 (List.mem_of_getElem? (i := 173) (by decide +kernel)) (by decide +kernel)
theorem mw4_174 : Cond.instanceMethod yX8_stepAt ∈ TT := tt_4 (List.mem_of_getElem? (i := 174) (by decide +kernel)) (by decide +kernel)
theorem mw4_175 : Cond.selects RX8 yX8_stepAt yX8_stepAt ∈ TT := tt_4 (List.mem_of_getElem? (i := 175) (by decide +kernel)) (by decide +kernel)
theorem mw4_176 : Cond.code yX8_stepAt cX8_stepAt 2 (some .int) ∈ TT := tt_4 (List.mem_of_getElem? (i := 176) rfl) rfl
theorem cwX10_244_V : CwV RX10 244 RX8 yX8_stepAt cX8_stepAt 2 (some .int) 1 := ⟨mw4_173, mw4_174, mw4_175, mw1_9, mw4_176, ⟨by decide, by decide, by decide⟩⟩
theorem mw4_181 : Cond.methodLink RX10 247 yX1_copy ∈ TT := tt_4 (List.mem_of_getElem? (i := 181) (by decide +kernel)) (by decide +kernel)
theorem mw4_182 : Cond.instanceMethod yX1_copy ∈ TT := tt_4 (List.mem_of_getElem? (i := 182) (by decide +kernel)) (by decide +kernel)
theorem mw4_183 : Cond.selects RX1 yX1_copy yX1_copy ∈ TT := tt_4 (List.mem_of_getElem? (i := 183) (by decide +kernel)) (by decide +kernel)
theorem mw4_184 : Cond.code yX1_copy cX1_copy 2 none ∈ TT := tt_4 (List.mem_of_getElem? (i := 184) rfl) rfl
theorem cwX10_247_V : CwV RX10 247 RX1 yX1_copy cX1_copy 2 none 1 := ⟨mw4_181, mw4_182, mw4_183, mw1_4, mw4_184, ⟨by decide, by decide, by decide⟩⟩
theorem mw4_185 : Cond.methodLink RX10 251 yX10_outBehindWall ∈ TT := tt_4 (List.mem_of_getElem? (i := 185) (by decide +kernel)) (by decide +kernel)
theorem mw4_187 : Cond.instanceMethod yX10_outBehindWall ∈ TT := tt_4 (List.mem_of_getElem? (i := 187) (by decide +kernel)) (by decide +kernel)
theorem ms2_15 : Cond.selects RX10 yX10_outBehindWall yX10_outBehindWall ∈ TT := tp_sel (tp_2 (List.mem_of_getElem? (i := 15) (by decide +kernel) : ((yX10_outBehindWall, 15) : MethodName × Nat) ∈ lw_privs_2)) (by decide +kernel)
theorem mw4_188 : Cond.code yX10_outBehindWall cX10_outBehindWall 3 (some .int) ∈ TT := tt_4 (List.mem_of_getElem? (i := 188) rfl) rfl
theorem cwX10_251_V : CwV RX10 251 RX10 yX10_outBehindWall cX10_outBehindWall 3 (some .int) 2 := ⟨mw4_185, mw4_187, ms2_15, mw1_1, mw4_188, ⟨by decide, by decide, by decide⟩⟩
theorem mw4_197 : Cond.methodLink RX10 254 yX7_add ∈ TT := tt_4 (List.mem_of_getElem? (i := 197) (by decide +kernel)) (by decide +kernel)
theorem mw4_198 : Cond.instanceMethod yX7_add ∈ TT := tt_4 (List.mem_of_getElem? (i := 198) (by decide +kernel)) (by decide +kernel)
theorem mw4_199 : Cond.selects RX7 yX7_add yX7_add ∈ TT := tt_4 (List.mem_of_getElem? (i := 199) (by decide +kernel)) (by decide +kernel)
theorem mw4_200 : Cond.code yX7_add cX7_add 4 none ∈ TT := tt_4 (List.mem_of_getElem? (i := 200) rfl) rfl
theorem cwX10_254_V : CwV RX10 254 RX7 yX7_add cX7_add 4 none 3 := ⟨mw4_197, mw4_198, mw4_199, mw1_7, mw4_200, ⟨by decide, by decide, by decide⟩⟩
theorem gfX10_86 {x : Ct} {cc : ByteArray} {nL cells slots pc n : Nat} {rm : Room} {w : Wv} {lv : List (Nat × Value)} {st : List Value} (q : Nat) (C : Cx x cc nL RX10 rm) (hn : (wK w)[n]? = some (10, .inl fX10)) (hX : wX w n 12 = some q) (d : decode cc pc = .ok (.getfield 86, 3)) (kk : V x cells slots w (pc + 3) lv (.ref (gz (xG x) + q) :: st)) : V x cells slots w pc lv (.ref (gz (xG x) + n) :: st) := r_getX C hn rfl inX10 (by decide) mw2_188 rfl hX d kk
theorem mw4_205 : Cond.methodLink RX10 257 yX0_search ∈ TT := tt_4 (List.mem_of_getElem? (i := 205) (by decide +kernel)) (by decide +kernel)
theorem mw4_206 : Cond.instanceMethod yX0_search ∈ TT := tt_4 (List.mem_of_getElem? (i := 206) (by decide +kernel)) (by decide +kernel)
theorem mw4_207 : Cond.selects RX0 yX0_search yX0_search ∈ TT := tt_4 (List.mem_of_getElem? (i := 207) (by decide +kernel)) (by decide +kernel)
theorem mw4_208 : Cond.code yX0_search cX0_search 4 none ∈ TT := tt_4 (List.mem_of_getElem? (i := 208) rfl) rfl
theorem cwX10_257_V : CwV RX10 257 RX0 yX0_search cX0_search 4 none 3 := ⟨mw4_205, mw4_206, mw4_207, mw1_10, mw4_208, ⟨by decide, by decide, by decide⟩⟩
theorem mw2_84 : Cond.fieldLink RX10 258 "HeardTunes$Fitting" "count" "I" ∈ TT := tt_2 (List.mem_of_getElem? (i := 84) (by decide +kernel)) (by decide +kernel)
theorem gfX10_258 {x : Ct} {cc : ByteArray} {nL cells slots pc n : Nat} {rm : Room} {w : Wv} {lv : List (Nat × Value)} {st : List Value} {v : Int32} (C : Cx x cc nL RX10 rm) (hn : (wK w)[n]? = some (0, .inl fX0)) (hv : wI w n 0 = v) (d : decode cc pc = .ok (.getfield 258, 3)) (kk : V x cells slots w (pc + 3) lv (.int v :: st)) : V x cells slots w pc lv (.ref (gz (xG x) + n) :: st) := by subst hv; exact r_getI C hn rfl inX0 (by decide) mw2_84 rfl d kk
theorem mw5_13 : Cond.methodLink RX10 259 yX0_stepAt ∈ TT := tt_5 (List.mem_of_getElem? (i := 13) (by decide +kernel)) (by decide +kernel)
theorem mw5_14 : Cond.instanceMethod yX0_stepAt ∈ TT := tt_5 (List.mem_of_getElem? (i := 14) (by decide +kernel)) (by decide +kernel)
theorem mw5_15 : Cond.selects RX0 yX0_stepAt yX0_stepAt ∈ TT := tt_5 (List.mem_of_getElem? (i := 15) (by decide +kernel)) (by decide +kernel)
theorem mw5_16 : Cond.code yX0_stepAt cX0_stepAt 2 (some .int) ∈ TT := tt_5 (List.mem_of_getElem? (i := 16) rfl) rfl
theorem cwX10_259_V : CwV RX10 259 RX0 yX0_stepAt cX0_stepAt 2 (some .int) 1 := ⟨mw5_13, mw5_14, mw5_15, mw1_10, mw5_16, ⟨by decide, by decide, by decide⟩⟩
theorem pfX10_157 {x : Ct} {cc : ByteArray} {nL cells slots pc n : Nat} {rm : Room} {w : Wv} {lv : List (Nat × Value)} {st : List Value} {v : Int32} (C : Cx x cc nL RX10 rm) (hn : (wK w)[n]? = some (7, .inl fX7)) (d : decode cc pc = .ok (.putfield 157, 3)) (kk : ∀ w', w' = setI w n 0 v → V x cells slots w' (pc + 3) lv st) : V x cells slots w pc lv (.int v :: .ref (gz (xG x) + n) :: st) := r_putI (k := 0) C hn rfl inX7 tyX7 tyX7_ok nmX7 (by decide) mw2_4 rfl rfl rfl rfl d kk
theorem mw2_190 : Cond.fieldLink RX10 260 "HeardTunes" "theSeed" "I" ∈ TT := tt_2 (List.mem_of_getElem? (i := 190) (by decide +kernel)) (by decide +kernel)
theorem gfX10_260 {x : Ct} {cc : ByteArray} {nL cells slots pc n : Nat} {rm : Room} {w : Wv} {lv : List (Nat × Value)} {st : List Value} {v : Int32} (C : Cx x cc nL RX10 rm) (hn : (wK w)[n]? = some (10, .inl fX10)) (hv : wI w n 14 = v) (d : decode cc pc = .ok (.getfield 260, 3)) (kk : V x cells slots w (pc + 3) lv (.int v :: st)) : V x cells slots w pc lv (.ref (gz (xG x) + n) :: st) := by subst hv; exact r_getI C hn rfl inX10 (by decide) mw2_190 rfl d kk
theorem pfX10_260 {x : Ct} {cc : ByteArray} {nL cells slots pc n : Nat} {rm : Room} {w : Wv} {lv : List (Nat × Value)} {st : List Value} {v : Int32} (C : Cx x cc nL RX10 rm) (hn : (wK w)[n]? = some (10, .inl fX10)) (d : decode cc pc = .ok (.putfield 260, 3)) (kk : ∀ w', w' = setI w n 14 v → V x cells slots w' (pc + 3) lv st) : V x cells slots w pc lv (.int v :: .ref (gz (xG x) + n) :: st) := r_putI (k := 14) C hn rfl inX10 tyX10 tyX10_ok nmX10 (by decide) mw2_190 rfl rfl rfl rfl d kk
theorem mw5_29 : Cond.methodLink RX10 263 yX10_isImage ∈ TT := tt_5 (List.mem_of_getElem? (i := 29) (by decide +kernel)) (by decide +kernel)
theorem mw5_30 : Cond.static yX10_isImage ∈ TT := tt_5 (List.mem_of_getElem? (i := 30) (by decide +kernel)) (by decide +kernel)
theorem mw5_31 : Cond.code yX10_isImage cX10_isImage 1 (some .boolean) ∈ TT := tt_5 (List.mem_of_getElem? (i := 31) rfl) rfl
theorem cwX10_263_S : CwS RX10 263 yX10_isImage cX10_isImage 1 (some .boolean) 1 := ⟨mw5_29, mw5_30, mw1_1, mw5_31, ⟨by decide, by decide, by decide⟩⟩
theorem mw5_32 : Cond.methodLink RX10 266 yX2_take ∈ TT := tt_5 (List.mem_of_getElem? (i := 32) (by decide +kernel)) (by decide +kernel)
theorem mw5_33 : Cond.instanceMethod yX2_take ∈ TT := tt_5 (List.mem_of_getElem? (i := 33) (by decide +kernel)) (by decide +kernel)
theorem mw5_34 : Cond.selects RX2 yX2_take yX2_take ∈ TT := tt_5 (List.mem_of_getElem? (i := 34) (by decide +kernel)) (by decide +kernel)
theorem mw5_35 : Cond.code yX2_take cX2_take 4 none ∈ TT := tt_5 (List.mem_of_getElem? (i := 35) rfl) rfl
theorem cwX10_266_V : CwV RX10 266 RX2 yX2_take cX2_take 4 none 3 := ⟨mw5_32, mw5_33, mw5_34, mw1_11, mw5_35, ⟨by decide, by decide, by decide⟩⟩
theorem mw2_131 : Cond.fieldLink RX10 270 "HeardTunes$Image" "isKept" "Z" ∈ TT := tt_2 (List.mem_of_getElem? (i := 131) (by decide +kernel)) (by decide +kernel)
theorem gfX10_270 {x : Ct} {cc : ByteArray} {nL cells slots pc n : Nat} {rm : Room} {w : Wv} {lv : List (Nat × Value)} {st : List Value} {v : Int32} (C : Cx x cc nL RX10 rm) (hn : (wK w)[n]? = some (2, .inl fX2)) (hv : wI w n 0 = v) (d : decode cc pc = .ok (.getfield 270, 3)) (kk : V x cells slots w (pc + 3) lv (.int v :: st)) : V x cells slots w pc lv (.ref (gz (xG x) + n) :: st) := by subst hv; exact r_getI C hn rfl inX2 (by decide) mw2_131 rfl d kk
theorem mw5_45 : Cond.methodLink RX10 274 yX2_give ∈ TT := tt_5 (List.mem_of_getElem? (i := 45) (by decide +kernel)) (by decide +kernel)
theorem mw5_46 : Cond.instanceMethod yX2_give ∈ TT := tt_5 (List.mem_of_getElem? (i := 46) (by decide +kernel)) (by decide +kernel)
theorem mw5_47 : Cond.selects RX2 yX2_give yX2_give ∈ TT := tt_5 (List.mem_of_getElem? (i := 47) (by decide +kernel)) (by decide +kernel)
theorem mw5_48 : Cond.code yX2_give cX2_give 3 none ∈ TT := tt_5 (List.mem_of_getElem? (i := 48) rfl) rfl
theorem cwX10_274_V : CwV RX10 274 RX2 yX2_give cX2_give 3 none 2 := ⟨mw5_45, mw5_46, mw5_47, mw1_11, mw5_48, ⟨by decide, by decide, by decide⟩⟩
theorem mw2_133 : Cond.fieldLink RX10 278 "HeardTunes$Image" "theSeed" "I" ∈ TT := tt_2 (List.mem_of_getElem? (i := 133) (by decide +kernel)) (by decide +kernel)
theorem gfX10_278 {x : Ct} {cc : ByteArray} {nL cells slots pc n : Nat} {rm : Room} {w : Wv} {lv : List (Nat × Value)} {st : List Value} {v : Int32} (C : Cx x cc nL RX10 rm) (hn : (wK w)[n]? = some (2, .inl fX2)) (hv : wI w n 1 = v) (d : decode cc pc = .ok (.getfield 278, 3)) (kk : V x cells slots w (pc + 3) lv (.int v :: st)) : V x cells slots w pc lv (.ref (gz (xG x) + n) :: st) := by subst hv; exact r_getI C hn rfl inX2 (by decide) mw2_133 rfl d kk
theorem mw2_149 : Cond.methodLink RX10 279 yX1_lay ∈ TT := tt_2 (List.mem_of_getElem? (i := 149) (by decide +kernel)) (by decide +kernel)
theorem mw2_150 : Cond.instanceMethod yX1_lay ∈ TT := tt_2 (List.mem_of_getElem? (i := 150) (by decide +kernel)) (by decide +kernel)
theorem mw2_151 : Cond.selects RX1 yX1_lay yX1_lay ∈ TT := tt_2 (List.mem_of_getElem? (i := 151) (by decide +kernel)) (by decide +kernel)
theorem mw2_152 : Cond.code yX1_lay cX1_lay 4 none ∈ TT := tt_2 (List.mem_of_getElem? (i := 152) rfl) rfl
theorem cwX10_279_V : CwV RX10 279 RX1 yX1_lay cX1_lay 4 none 1 := ⟨mw2_149, mw2_150, mw2_151, mw1_4, mw2_152, ⟨by decide, by decide, by decide⟩⟩
theorem mw2_168 : Cond.methodLink RX10 283 yX6_begin ∈ TT := tt_2 (List.mem_of_getElem? (i := 168) (by decide +kernel)) (by decide +kernel)
theorem mw2_169 : Cond.instanceMethod yX6_begin ∈ TT := tt_2 (List.mem_of_getElem? (i := 169) (by decide +kernel)) (by decide +kernel)
theorem mw2_170 : Cond.selects RX6 yX6_begin yX6_begin ∈ TT := tt_2 (List.mem_of_getElem? (i := 170) (by decide +kernel)) (by decide +kernel)
theorem mw2_171 : Cond.code yX6_begin cX6_begin 2 none ∈ TT := tt_2 (List.mem_of_getElem? (i := 171) rfl) rfl
theorem cwX10_283_V : CwV RX10 283 RX6 yX6_begin cX6_begin 2 none 0 := ⟨mw2_168, mw2_169, mw2_170, mw1_5, mw2_171, ⟨by decide, by decide, by decide⟩⟩
theorem pfX10_270 {x : Ct} {cc : ByteArray} {nL cells slots pc n : Nat} {rm : Room} {w : Wv} {lv : List (Nat × Value)} {st : List Value} {v : Int32} (C : Cx x cc nL RX10 rm) (hn : (wK w)[n]? = some (2, .inl fX2)) (hz : v = 0 ∨ v = 1) (d : decode cc pc = .ok (.putfield 270, 3)) (kk : ∀ w', w' = setI w n 0 v → V x cells slots w' (pc + 3) lv st) : V x cells slots w pc lv (.int v :: .ref (gz (xG x) + n) :: st) := r_putI (k := 0) C hn rfl inX2 tyX2 tyX2_ok nmX2 (by decide) mw2_131 rfl rfl (nar_z hz) (fit_z hz) d kk
theorem mw4_66 : Cond.constantLong RX10 284 (1103515245) ∈ TT := tt_4 (List.mem_of_getElem? (i := 66) (by decide +kernel)) (by decide +kernel)
theorem mw4_67 : Cond.constantLong RX10 286 (12345) ∈ TT := tt_4 (List.mem_of_getElem? (i := 67) (by decide +kernel)) (by decide +kernel)
theorem mw4_68 : Cond.constantLong RX10 288 (2147483647) ∈ TT := tt_4 (List.mem_of_getElem? (i := 68) (by decide +kernel)) (by decide +kernel)
theorem mw4_69 : Cond.constant RX10 290 (65536) ∈ TT := tt_4 (List.mem_of_getElem? (i := 69) (by decide +kernel)) (by decide +kernel)
theorem mw4_90 : Cond.methodLink RX10 291 yX6_copy ∈ TT := tt_4 (List.mem_of_getElem? (i := 90) (by decide +kernel)) (by decide +kernel)
theorem cwX10_291_V : CwV RX10 291 RX6 yX6_copy cX6_copy 3 none 1 := ⟨mw4_90, mw4_91, mw4_92, mw1_5, mw4_93, ⟨by decide, by decide, by decide⟩⟩
theorem mw4_94 : Cond.methodLink RX10 294 yX4_run ∈ TT := tt_4 (List.mem_of_getElem? (i := 94) (by decide +kernel)) (by decide +kernel)
theorem mw4_95 : Cond.instanceMethod yX4_run ∈ TT := tt_4 (List.mem_of_getElem? (i := 95) (by decide +kernel)) (by decide +kernel)
theorem mw4_96 : Cond.selects RX4 yX4_run yX4_run ∈ TT := tt_4 (List.mem_of_getElem? (i := 96) (by decide +kernel)) (by decide +kernel)
theorem mw4_97 : Cond.code yX4_run cX4_run 4 (some .int) ∈ TT := tt_4 (List.mem_of_getElem? (i := 97) rfl) rfl
theorem cwX10_294_V : CwV RX10 294 RX4 yX4_run cX4_run 4 (some .int) 2 := ⟨mw4_94, mw4_95, mw4_96, mw1_6, mw4_97, ⟨by decide, by decide, by decide⟩⟩
theorem gfX10_48 {x : Ct} {cc : ByteArray} {nL cells slots pc n : Nat} {rm : Room} {w : Wv} {lv : List (Nat × Value)} {st : List Value} (q : Nat) (C : Cx x cc nL RX10 rm) (hn : (wK w)[n]? = some (10, .inl fX10)) (hX : wX w n 7 = some q) (d : decode cc pc = .ok (.getfield 48, 3)) (kk : V x cells slots w (pc + 3) lv (.ref (gz (xG x) + q) :: st)) : V x cells slots w pc lv (.ref (gz (xG x) + n) :: st) := r_getX C hn rfl inX10 (by decide) mw2_183 rfl hX d kk
theorem mw5_55 : Cond.methodLink RX11 1 objectInit ∈ TT := tt_5 (List.mem_of_getElem? (i := 55) (by decide +kernel)) (by decide +kernel)
theorem mw5_58 : Cond.fieldLink RX11 7 "HeardTunesModel" "cell" "[I" ∈ TT := tt_5 (List.mem_of_getElem? (i := 58) (by decide +kernel)) (by decide +kernel)
theorem pfX11_7 {x : Ct} {cc : ByteArray} {nL cells slots pc n : Nat} {rm : Room} {w : Wv} {lv : List (Nat × Value)} {st : List Value} {q : Nat} (C : Cx x cc nL RX11 rm) (hin2 : (xM x).name = "<init>") (hn : (wK w)[n]? = some (11, .inl fX11)) (d : decode cc pc = .ok (.putfield 7, 3)) (kk : ∀ w', w' = setX w n 2 (some q) → V x cells slots w' (pc + 3) lv st) : V x cells slots w pc lv (.ref (gz (xG x) + q) :: .ref (gz (xG x) + n) :: st) := r_putX C hin2 hn rfl inX11 tyX11 tyX11_ok nmX11 (by decide) mw5_58 rfl rfl rfl rfl rfl d kk
theorem mw5_60 : Cond.fieldLink RX11 13 "HeardTunesModel" "kind" "[I" ∈ TT := tt_5 (List.mem_of_getElem? (i := 60) (by decide +kernel)) (by decide +kernel)
theorem pfX11_13 {x : Ct} {cc : ByteArray} {nL cells slots pc n : Nat} {rm : Room} {w : Wv} {lv : List (Nat × Value)} {st : List Value} {q : Nat} (C : Cx x cc nL RX11 rm) (hin2 : (xM x).name = "<init>") (hn : (wK w)[n]? = some (11, .inl fX11)) (d : decode cc pc = .ok (.putfield 13, 3)) (kk : ∀ w', w' = setX w n 4 (some q) → V x cells slots w' (pc + 3) lv st) : V x cells slots w pc lv (.ref (gz (xG x) + q) :: .ref (gz (xG x) + n) :: st) := r_putX C hin2 hn rfl inX11 tyX11 tyX11_ok nmX11 (by decide) mw5_60 rfl rfl rfl rfl rfl d kk
theorem mw5_61 : Cond.fieldLink RX11 16 "HeardTunesModel" "heads" "[I" ∈ TT := tt_5 (List.mem_of_getElem? (i := 61) (by decide +kernel)) (by decide +kernel)
theorem pfX11_16 {x : Ct} {cc : ByteArray} {nL cells slots pc n : Nat} {rm : Room} {w : Wv} {lv : List (Nat × Value)} {st : List Value} {q : Nat} (C : Cx x cc nL RX11 rm) (hin2 : (xM x).name = "<init>") (hn : (wK w)[n]? = some (11, .inl fX11)) (d : decode cc pc = .ok (.putfield 16, 3)) (kk : ∀ w', w' = setX w n 5 (some q) → V x cells slots w' (pc + 3) lv st) : V x cells slots w pc lv (.ref (gz (xG x) + q) :: .ref (gz (xG x) + n) :: st) := r_putX C hin2 hn rfl inX11 tyX11 tyX11_ok nmX11 (by decide) mw5_61 rfl rfl rfl rfl rfl d kk
theorem mw5_62 : Cond.fieldLink RX11 19 "HeardTunesModel" "pace" "[I" ∈ TT := tt_5 (List.mem_of_getElem? (i := 62) (by decide +kernel)) (by decide +kernel)
theorem pfX11_19 {x : Ct} {cc : ByteArray} {nL cells slots pc n : Nat} {rm : Room} {w : Wv} {lv : List (Nat × Value)} {st : List Value} {q : Nat} (C : Cx x cc nL RX11 rm) (hin2 : (xM x).name = "<init>") (hn : (wK w)[n]? = some (11, .inl fX11)) (d : decode cc pc = .ok (.putfield 19, 3)) (kk : ∀ w', w' = setX w n 6 (some q) → V x cells slots w' (pc + 3) lv st) : V x cells slots w pc lv (.ref (gz (xG x) + q) :: .ref (gz (xG x) + n) :: st) := r_putX C hin2 hn rfl inX11 tyX11 tyX11_ok nmX11 (by decide) mw5_62 rfl rfl rfl rfl rfl d kk
theorem mw5_63 : Cond.fieldLink RX11 22 "HeardTunesModel" "deaf" "[I" ∈ TT := tt_5 (List.mem_of_getElem? (i := 63) (by decide +kernel)) (by decide +kernel)
theorem pfX11_22 {x : Ct} {cc : ByteArray} {nL cells slots pc n : Nat} {rm : Room} {w : Wv} {lv : List (Nat × Value)} {st : List Value} {q : Nat} (C : Cx x cc nL RX11 rm) (hin2 : (xM x).name = "<init>") (hn : (wK w)[n]? = some (11, .inl fX11)) (d : decode cc pc = .ok (.putfield 22, 3)) (kk : ∀ w', w' = setX w n 7 (some q) → V x cells slots w' (pc + 3) lv st) : V x cells slots w pc lv (.ref (gz (xG x) + q) :: .ref (gz (xG x) + n) :: st) := r_putX C hin2 hn rfl inX11 tyX11 tyX11_ok nmX11 (by decide) mw5_63 rfl rfl rfl rfl rfl d kk
theorem mw5_65 : Cond.fieldLink RX11 25 "HeardTunesModel" "follows" "[I" ∈ TT := tt_5 (List.mem_of_getElem? (i := 65) (by decide +kernel)) (by decide +kernel)
theorem pfX11_25 {x : Ct} {cc : ByteArray} {nL cells slots pc n : Nat} {rm : Room} {w : Wv} {lv : List (Nat × Value)} {st : List Value} {q : Nat} (C : Cx x cc nL RX11 rm) (hin2 : (xM x).name = "<init>") (hn : (wK w)[n]? = some (11, .inl fX11)) (d : decode cc pc = .ok (.putfield 25, 3)) (kk : ∀ w', w' = setX w n 9 (some q) → V x cells slots w' (pc + 3) lv st) : V x cells slots w pc lv (.ref (gz (xG x) + q) :: .ref (gz (xG x) + n) :: st) := r_putX C hin2 hn rfl inX11 tyX11 tyX11_ok nmX11 (by decide) mw5_65 rfl rfl rfl rfl rfl d kk
theorem mw5_66 : Cond.fieldLink RX11 28 "HeardTunesModel" "heard" "[I" ∈ TT := tt_5 (List.mem_of_getElem? (i := 66) (by decide +kernel)) (by decide +kernel)
theorem pfX11_28 {x : Ct} {cc : ByteArray} {nL cells slots pc n : Nat} {rm : Room} {w : Wv} {lv : List (Nat × Value)} {st : List Value} {q : Nat} (C : Cx x cc nL RX11 rm) (hin2 : (xM x).name = "<init>") (hn : (wK w)[n]? = some (11, .inl fX11)) (d : decode cc pc = .ok (.putfield 28, 3)) (kk : ∀ w', w' = setX w n 10 (some q) → V x cells slots w' (pc + 3) lv st) : V x cells slots w pc lv (.ref (gz (xG x) + q) :: .ref (gz (xG x) + n) :: st) := r_putX C hin2 hn rfl inX11 tyX11 tyX11_ok nmX11 (by decide) mw5_66 rfl rfl rfl rfl rfl d kk
theorem mw5_67 : Cond.fieldLink RX11 31 "HeardTunesModel" "pay" "I" ∈ TT := tt_5 (List.mem_of_getElem? (i := 67) (by decide +kernel)) (by decide +kernel)
theorem pfX11_31 {x : Ct} {cc : ByteArray} {nL cells slots pc n : Nat} {rm : Room} {w : Wv} {lv : List (Nat × Value)} {st : List Value} {v : Int32} (C : Cx x cc nL RX11 rm) (hn : (wK w)[n]? = some (11, .inl fX11)) (d : decode cc pc = .ok (.putfield 31, 3)) (kk : ∀ w', w' = setI w n 11 v → V x cells slots w' (pc + 3) lv st) : V x cells slots w pc lv (.int v :: .ref (gz (xG x) + n) :: st) := r_putI (k := 11) C hn rfl inX11 tyX11 tyX11_ok nmX11 (by decide) mw5_67 rfl rfl rfl rfl d kk
theorem mw5_68 : Cond.fieldLink RX11 35 "HeardTunesModel" "fine" "I" ∈ TT := tt_5 (List.mem_of_getElem? (i := 68) (by decide +kernel)) (by decide +kernel)
theorem pfX11_35 {x : Ct} {cc : ByteArray} {nL cells slots pc n : Nat} {rm : Room} {w : Wv} {lv : List (Nat × Value)} {st : List Value} {v : Int32} (C : Cx x cc nL RX11 rm) (hn : (wK w)[n]? = some (11, .inl fX11)) (d : decode cc pc = .ok (.putfield 35, 3)) (kk : ∀ w', w' = setI w n 12 v → V x cells slots w' (pc + 3) lv st) : V x cells slots w pc lv (.int v :: .ref (gz (xG x) + n) :: st) := r_putI (k := 12) C hn rfl inX11 tyX11 tyX11_ok nmX11 (by decide) mw5_68 rfl rfl rfl rfl d kk
theorem mw5_70 : Cond.fieldLink RX11 38 "HeardTunesModel" "at" "[I" ∈ TT := tt_5 (List.mem_of_getElem? (i := 70) (by decide +kernel)) (by decide +kernel)
theorem pfX11_38 {x : Ct} {cc : ByteArray} {nL cells slots pc n : Nat} {rm : Room} {w : Wv} {lv : List (Nat × Value)} {st : List Value} {q : Nat} (C : Cx x cc nL RX11 rm) (hin2 : (xM x).name = "<init>") (hn : (wK w)[n]? = some (11, .inl fX11)) (d : decode cc pc = .ok (.putfield 38, 3)) (kk : ∀ w', w' = setX w n 14 (some q) → V x cells slots w' (pc + 3) lv st) : V x cells slots w pc lv (.ref (gz (xG x) + q) :: .ref (gz (xG x) + n) :: st) := r_putX C hin2 hn rfl inX11 tyX11 tyX11_ok nmX11 (by decide) mw5_70 rfl rfl rfl rfl rfl d kk
theorem mw5_71 : Cond.fieldLink RX11 41 "HeardTunesModel" "goal" "[I" ∈ TT := tt_5 (List.mem_of_getElem? (i := 71) (by decide +kernel)) (by decide +kernel)
theorem pfX11_41 {x : Ct} {cc : ByteArray} {nL cells slots pc n : Nat} {rm : Room} {w : Wv} {lv : List (Nat × Value)} {st : List Value} {q : Nat} (C : Cx x cc nL RX11 rm) (hin2 : (xM x).name = "<init>") (hn : (wK w)[n]? = some (11, .inl fX11)) (d : decode cc pc = .ok (.putfield 41, 3)) (kk : ∀ w', w' = setX w n 15 (some q) → V x cells slots w' (pc + 3) lv st) : V x cells slots w pc lv (.ref (gz (xG x) + q) :: .ref (gz (xG x) + n) :: st) := r_putX C hin2 hn rfl inX11 tyX11 tyX11_ok nmX11 (by decide) mw5_71 rfl rfl rfl rfl rfl d kk
theorem mw5_72 : Cond.fieldLink RX11 44 "HeardTunesModel" "fate" "[I" ∈ TT := tt_5 (List.mem_of_getElem? (i := 72) (by decide +kernel)) (by decide +kernel)
theorem pfX11_44 {x : Ct} {cc : ByteArray} {nL cells slots pc n : Nat} {rm : Room} {w : Wv} {lv : List (Nat × Value)} {st : List Value} {q : Nat} (C : Cx x cc nL RX11 rm) (hin2 : (xM x).name = "<init>") (hn : (wK w)[n]? = some (11, .inl fX11)) (d : decode cc pc = .ok (.putfield 44, 3)) (kk : ∀ w', w' = setX w n 16 (some q) → V x cells slots w' (pc + 3) lv st) : V x cells slots w pc lv (.ref (gz (xG x) + q) :: .ref (gz (xG x) + n) :: st) := r_putX C hin2 hn rfl inX11 tyX11 tyX11_ok nmX11 (by decide) mw5_72 rfl rfl rfl rfl rfl d kk
theorem mw5_75 : Cond.fieldLink RX11 47 "HeardTunesModel" "text" "[I" ∈ TT := tt_5 (List.mem_of_getElem? (i := 75) (by decide +kernel)) (by decide +kernel)
theorem pfX11_47 {x : Ct} {cc : ByteArray} {nL cells slots pc n : Nat} {rm : Room} {w : Wv} {lv : List (Nat × Value)} {st : List Value} {q : Nat} (C : Cx x cc nL RX11 rm) (hin2 : (xM x).name = "<init>") (hn : (wK w)[n]? = some (11, .inl fX11)) (d : decode cc pc = .ok (.putfield 47, 3)) (kk : ∀ w', w' = setX w n 19 (some q) → V x cells slots w' (pc + 3) lv st) : V x cells slots w pc lv (.ref (gz (xG x) + q) :: .ref (gz (xG x) + n) :: st) := r_putX C hin2 hn rfl inX11 tyX11 tyX11_ok nmX11 (by decide) mw5_75 rfl rfl rfl rfl rfl d kk
theorem mw5_77 : Cond.fieldLink RX11 50 "HeardTunesModel" "faultPlace" "I" ∈ TT := tt_5 (List.mem_of_getElem? (i := 77) (by decide +kernel)) (by decide +kernel)
theorem pfX11_50 {x : Ct} {cc : ByteArray} {nL cells slots pc n : Nat} {rm : Room} {w : Wv} {lv : List (Nat × Value)} {st : List Value} {v : Int32} (C : Cx x cc nL RX11 rm) (hn : (wK w)[n]? = some (11, .inl fX11)) (d : decode cc pc = .ok (.putfield 50, 3)) (kk : ∀ w', w' = setI w n 21 v → V x cells slots w' (pc + 3) lv st) : V x cells slots w pc lv (.int v :: .ref (gz (xG x) + n) :: st) := r_putI (k := 21) C hn rfl inX11 tyX11 tyX11_ok nmX11 (by decide) mw5_77 rfl rfl rfl rfl d kk
theorem mw5_85 : Cond.fieldLink RX11 53 "HeardTunesModel" "readCell" "[I" ∈ TT := tt_5 (List.mem_of_getElem? (i := 85) (by decide +kernel)) (by decide +kernel)
theorem pfX11_53 {x : Ct} {cc : ByteArray} {nL cells slots pc n : Nat} {rm : Room} {w : Wv} {lv : List (Nat × Value)} {st : List Value} {q : Nat} (C : Cx x cc nL RX11 rm) (hin2 : (xM x).name = "<init>") (hn : (wK w)[n]? = some (11, .inl fX11)) (d : decode cc pc = .ok (.putfield 53, 3)) (kk : ∀ w', w' = setX w n 29 (some q) → V x cells slots w' (pc + 3) lv st) : V x cells slots w pc lv (.ref (gz (xG x) + q) :: .ref (gz (xG x) + n) :: st) := r_putX C hin2 hn rfl inX11 tyX11 tyX11_ok nmX11 (by decide) mw5_85 rfl rfl rfl rfl rfl d kk
theorem mw5_88 : Cond.fieldLink RX11 56 "HeardTunesModel" "readKind" "[I" ∈ TT := tt_5 (List.mem_of_getElem? (i := 88) (by decide +kernel)) (by decide +kernel)
theorem pfX11_56 {x : Ct} {cc : ByteArray} {nL cells slots pc n : Nat} {rm : Room} {w : Wv} {lv : List (Nat × Value)} {st : List Value} {q : Nat} (C : Cx x cc nL RX11 rm) (hin2 : (xM x).name = "<init>") (hn : (wK w)[n]? = some (11, .inl fX11)) (d : decode cc pc = .ok (.putfield 56, 3)) (kk : ∀ w', w' = setX w n 32 (some q) → V x cells slots w' (pc + 3) lv st) : V x cells slots w pc lv (.ref (gz (xG x) + q) :: .ref (gz (xG x) + n) :: st) := r_putX C hin2 hn rfl inX11 tyX11 tyX11_ok nmX11 (by decide) mw5_88 rfl rfl rfl rfl rfl d kk
theorem mw5_89 : Cond.fieldLink RX11 59 "HeardTunesModel" "readAt" "[I" ∈ TT := tt_5 (List.mem_of_getElem? (i := 89) (by decide +kernel)) (by decide +kernel)
theorem pfX11_59 {x : Ct} {cc : ByteArray} {nL cells slots pc n : Nat} {rm : Room} {w : Wv} {lv : List (Nat × Value)} {st : List Value} {q : Nat} (C : Cx x cc nL RX11 rm) (hin2 : (xM x).name = "<init>") (hn : (wK w)[n]? = some (11, .inl fX11)) (d : decode cc pc = .ok (.putfield 59, 3)) (kk : ∀ w', w' = setX w n 33 (some q) → V x cells slots w' (pc + 3) lv st) : V x cells slots w pc lv (.ref (gz (xG x) + q) :: .ref (gz (xG x) + n) :: st) := r_putX C hin2 hn rfl inX11 tyX11 tyX11_ok nmX11 (by decide) mw5_89 rfl rfl rfl rfl rfl d kk
theorem mw5_90 : Cond.fieldLink RX11 62 "HeardTunesModel" "readHeads" "[I" ∈ TT := tt_5 (List.mem_of_getElem? (i := 90) (by decide +kernel)) (by decide +kernel)
theorem pfX11_62 {x : Ct} {cc : ByteArray} {nL cells slots pc n : Nat} {rm : Room} {w : Wv} {lv : List (Nat × Value)} {st : List Value} {q : Nat} (C : Cx x cc nL RX11 rm) (hin2 : (xM x).name = "<init>") (hn : (wK w)[n]? = some (11, .inl fX11)) (d : decode cc pc = .ok (.putfield 62, 3)) (kk : ∀ w', w' = setX w n 34 (some q) → V x cells slots w' (pc + 3) lv st) : V x cells slots w pc lv (.ref (gz (xG x) + q) :: .ref (gz (xG x) + n) :: st) := r_putX C hin2 hn rfl inX11 tyX11 tyX11_ok nmX11 (by decide) mw5_90 rfl rfl rfl rfl rfl d kk
theorem mw5_91 : Cond.fieldLink RX11 65 "HeardTunesModel" "readPace" "[I" ∈ TT := tt_5 (List.mem_of_getElem? (i := 91) (by decide +kernel)) (by decide +kernel)
theorem pfX11_65 {x : Ct} {cc : ByteArray} {nL cells slots pc n : Nat} {rm : Room} {w : Wv} {lv : List (Nat × Value)} {st : List Value} {q : Nat} (C : Cx x cc nL RX11 rm) (hin2 : (xM x).name = "<init>") (hn : (wK w)[n]? = some (11, .inl fX11)) (d : decode cc pc = .ok (.putfield 65, 3)) (kk : ∀ w', w' = setX w n 35 (some q) → V x cells slots w' (pc + 3) lv st) : V x cells slots w pc lv (.ref (gz (xG x) + q) :: .ref (gz (xG x) + n) :: st) := r_putX C hin2 hn rfl inX11 tyX11 tyX11_ok nmX11 (by decide) mw5_91 rfl rfl rfl rfl rfl d kk
theorem mw5_92 : Cond.fieldLink RX11 68 "HeardTunesModel" "readDeaf" "[I" ∈ TT := tt_5 (List.mem_of_getElem? (i := 92) (by decide +kernel)) (by decide +kernel)
theorem pfX11_68 {x : Ct} {cc : ByteArray} {nL cells slots pc n : Nat} {rm : Room} {w : Wv} {lv : List (Nat × Value)} {st : List Value} {q : Nat} (C : Cx x cc nL RX11 rm) (hin2 : (xM x).name = "<init>") (hn : (wK w)[n]? = some (11, .inl fX11)) (d : decode cc pc = .ok (.putfield 68, 3)) (kk : ∀ w', w' = setX w n 36 (some q) → V x cells slots w' (pc + 3) lv st) : V x cells slots w pc lv (.ref (gz (xG x) + q) :: .ref (gz (xG x) + n) :: st) := r_putX C hin2 hn rfl inX11 tyX11 tyX11_ok nmX11 (by decide) mw5_92 rfl rfl rfl rfl rfl d kk
theorem mw5_94 : Cond.fieldLink RX11 71 "HeardTunesModel" "readFollows" "[I" ∈ TT := tt_5 (List.mem_of_getElem? (i := 94) (by decide +kernel)) (by decide +kernel)
theorem pfX11_71 {x : Ct} {cc : ByteArray} {nL cells slots pc n : Nat} {rm : Room} {w : Wv} {lv : List (Nat × Value)} {st : List Value} {q : Nat} (C : Cx x cc nL RX11 rm) (hin2 : (xM x).name = "<init>") (hn : (wK w)[n]? = some (11, .inl fX11)) (d : decode cc pc = .ok (.putfield 71, 3)) (kk : ∀ w', w' = setX w n 38 (some q) → V x cells slots w' (pc + 3) lv st) : V x cells slots w pc lv (.ref (gz (xG x) + q) :: .ref (gz (xG x) + n) :: st) := r_putX C hin2 hn rfl inX11 tyX11 tyX11_ok nmX11 (by decide) mw5_94 rfl rfl rfl rfl rfl d kk
theorem mw5_95 : Cond.fieldLink RX11 74 "HeardTunesModel" "readHeard" "[I" ∈ TT := tt_5 (List.mem_of_getElem? (i := 95) (by decide +kernel)) (by decide +kernel)
theorem pfX11_74 {x : Ct} {cc : ByteArray} {nL cells slots pc n : Nat} {rm : Room} {w : Wv} {lv : List (Nat × Value)} {st : List Value} {q : Nat} (C : Cx x cc nL RX11 rm) (hin2 : (xM x).name = "<init>") (hn : (wK w)[n]? = some (11, .inl fX11)) (d : decode cc pc = .ok (.putfield 74, 3)) (kk : ∀ w', w' = setX w n 39 (some q) → V x cells slots w' (pc + 3) lv st) : V x cells slots w pc lv (.ref (gz (xG x) + q) :: .ref (gz (xG x) + n) :: st) := r_putX C hin2 hn rfl inX11 tyX11 tyX11_ok nmX11 (by decide) mw5_95 rfl rfl rfl rfl rfl d kk
theorem mw5_100 : Cond.fieldLink RX11 77 "HeardTunesModel" "far" "[I" ∈ TT := tt_5 (List.mem_of_getElem? (i := 100) (by decide +kernel)) (by decide +kernel)
theorem pfX11_77 {x : Ct} {cc : ByteArray} {nL cells slots pc n : Nat} {rm : Room} {w : Wv} {lv : List (Nat × Value)} {st : List Value} {q : Nat} (C : Cx x cc nL RX11 rm) (hin2 : (xM x).name = "<init>") (hn : (wK w)[n]? = some (11, .inl fX11)) (d : decode cc pc = .ok (.putfield 77, 3)) (kk : ∀ w', w' = setX w n 44 (some q) → V x cells slots w' (pc + 3) lv st) : V x cells slots w pc lv (.ref (gz (xG x) + q) :: .ref (gz (xG x) + n) :: st) := r_putX C hin2 hn rfl inX11 tyX11 tyX11_ok nmX11 (by decide) mw5_100 rfl rfl rfl rfl rfl d kk
theorem mw5_102 : Cond.fieldLink RX11 80 "HeardTunesModel" "wasAt" "[I" ∈ TT := tt_5 (List.mem_of_getElem? (i := 102) (by decide +kernel)) (by decide +kernel)
theorem pfX11_80 {x : Ct} {cc : ByteArray} {nL cells slots pc n : Nat} {rm : Room} {w : Wv} {lv : List (Nat × Value)} {st : List Value} {q : Nat} (C : Cx x cc nL RX11 rm) (hin2 : (xM x).name = "<init>") (hn : (wK w)[n]? = some (11, .inl fX11)) (d : decode cc pc = .ok (.putfield 80, 3)) (kk : ∀ w', w' = setX w n 46 (some q) → V x cells slots w' (pc + 3) lv st) : V x cells slots w pc lv (.ref (gz (xG x) + q) :: .ref (gz (xG x) + n) :: st) := r_putX C hin2 hn rfl inX11 tyX11 tyX11_ok nmX11 (by decide) mw5_102 rfl rfl rfl rfl rfl d kk
theorem mw5_103 : Cond.fieldLink RX11 83 "HeardTunesModel" "wasGoal" "[I" ∈ TT := tt_5 (List.mem_of_getElem? (i := 103) (by decide +kernel)) (by decide +kernel)
theorem pfX11_83 {x : Ct} {cc : ByteArray} {nL cells slots pc n : Nat} {rm : Room} {w : Wv} {lv : List (Nat × Value)} {st : List Value} {q : Nat} (C : Cx x cc nL RX11 rm) (hin2 : (xM x).name = "<init>") (hn : (wK w)[n]? = some (11, .inl fX11)) (d : decode cc pc = .ok (.putfield 83, 3)) (kk : ∀ w', w' = setX w n 47 (some q) → V x cells slots w' (pc + 3) lv st) : V x cells slots w pc lv (.ref (gz (xG x) + q) :: .ref (gz (xG x) + n) :: st) := r_putX C hin2 hn rfl inX11 tyX11 tyX11_ok nmX11 (by decide) mw5_103 rfl rfl rfl rfl rfl d kk
theorem mw5_104 : Cond.fieldLink RX11 86 "HeardTunesModel" "wasFate" "[I" ∈ TT := tt_5 (List.mem_of_getElem? (i := 104) (by decide +kernel)) (by decide +kernel)
theorem pfX11_86 {x : Ct} {cc : ByteArray} {nL cells slots pc n : Nat} {rm : Room} {w : Wv} {lv : List (Nat × Value)} {st : List Value} {q : Nat} (C : Cx x cc nL RX11 rm) (hin2 : (xM x).name = "<init>") (hn : (wK w)[n]? = some (11, .inl fX11)) (d : decode cc pc = .ok (.putfield 86, 3)) (kk : ∀ w', w' = setX w n 48 (some q) → V x cells slots w' (pc + 3) lv st) : V x cells slots w pc lv (.ref (gz (xG x) + q) :: .ref (gz (xG x) + n) :: st) := r_putX C hin2 hn rfl inX11 tyX11 tyX11_ok nmX11 (by decide) mw5_104 rfl rfl rfl rfl rfl d kk
theorem mw5_106 : Cond.fieldLink RX11 89 "HeardTunesModel" "planStep" "[I" ∈ TT := tt_5 (List.mem_of_getElem? (i := 106) (by decide +kernel)) (by decide +kernel)
theorem pfX11_89 {x : Ct} {cc : ByteArray} {nL cells slots pc n : Nat} {rm : Room} {w : Wv} {lv : List (Nat × Value)} {st : List Value} {q : Nat} (C : Cx x cc nL RX11 rm) (hin2 : (xM x).name = "<init>") (hn : (wK w)[n]? = some (11, .inl fX11)) (d : decode cc pc = .ok (.putfield 89, 3)) (kk : ∀ w', w' = setX w n 50 (some q) → V x cells slots w' (pc + 3) lv st) : V x cells slots w pc lv (.ref (gz (xG x) + q) :: .ref (gz (xG x) + n) :: st) := r_putX C hin2 hn rfl inX11 tyX11 tyX11_ok nmX11 (by decide) mw5_106 rfl rfl rfl rfl rfl d kk
theorem mw5_107 : Cond.fieldLink RX11 92 "HeardTunesModel" "planTune" "[I" ∈ TT := tt_5 (List.mem_of_getElem? (i := 107) (by decide +kernel)) (by decide +kernel)
theorem pfX11_92 {x : Ct} {cc : ByteArray} {nL cells slots pc n : Nat} {rm : Room} {w : Wv} {lv : List (Nat × Value)} {st : List Value} {q : Nat} (C : Cx x cc nL RX11 rm) (hin2 : (xM x).name = "<init>") (hn : (wK w)[n]? = some (11, .inl fX11)) (d : decode cc pc = .ok (.putfield 92, 3)) (kk : ∀ w', w' = setX w n 51 (some q) → V x cells slots w' (pc + 3) lv st) : V x cells slots w pc lv (.ref (gz (xG x) + q) :: .ref (gz (xG x) + n) :: st) := r_putX C hin2 hn rfl inX11 tyX11 tyX11_ok nmX11 (by decide) mw5_107 rfl rfl rfl rfl rfl d kk
theorem mw5_109 : Cond.fieldLink RX11 95 "HeardTunesModel" "seenCrowd" "[I" ∈ TT := tt_5 (List.mem_of_getElem? (i := 109) (by decide +kernel)) (by decide +kernel)
theorem pfX11_95 {x : Ct} {cc : ByteArray} {nL cells slots pc n : Nat} {rm : Room} {w : Wv} {lv : List (Nat × Value)} {st : List Value} {q : Nat} (C : Cx x cc nL RX11 rm) (hin2 : (xM x).name = "<init>") (hn : (wK w)[n]? = some (11, .inl fX11)) (d : decode cc pc = .ok (.putfield 95, 3)) (kk : ∀ w', w' = setX w n 53 (some q) → V x cells slots w' (pc + 3) lv st) : V x cells slots w pc lv (.ref (gz (xG x) + q) :: .ref (gz (xG x) + n) :: st) := r_putX C hin2 hn rfl inX11 tyX11 tyX11_ok nmX11 (by decide) mw5_109 rfl rfl rfl rfl rfl d kk
theorem mw5_110 : Cond.fieldLink RX11 98 "HeardTunesModel" "seenMinute" "[I" ∈ TT := tt_5 (List.mem_of_getElem? (i := 110) (by decide +kernel)) (by decide +kernel)
theorem pfX11_98 {x : Ct} {cc : ByteArray} {nL cells slots pc n : Nat} {rm : Room} {w : Wv} {lv : List (Nat × Value)} {st : List Value} {q : Nat} (C : Cx x cc nL RX11 rm) (hin2 : (xM x).name = "<init>") (hn : (wK w)[n]? = some (11, .inl fX11)) (d : decode cc pc = .ok (.putfield 98, 3)) (kk : ∀ w', w' = setX w n 54 (some q) → V x cells slots w' (pc + 3) lv st) : V x cells slots w pc lv (.ref (gz (xG x) + q) :: .ref (gz (xG x) + n) :: st) := r_putX C hin2 hn rfl inX11 tyX11 tyX11_ok nmX11 (by decide) mw5_110 rfl rfl rfl rfl rfl d kk
theorem mw5_111 : Cond.fieldLink RX11 101 "HeardTunesModel" "seenAt" "[I" ∈ TT := tt_5 (List.mem_of_getElem? (i := 111) (by decide +kernel)) (by decide +kernel)
theorem pfX11_101 {x : Ct} {cc : ByteArray} {nL cells slots pc n : Nat} {rm : Room} {w : Wv} {lv : List (Nat × Value)} {st : List Value} {q : Nat} (C : Cx x cc nL RX11 rm) (hin2 : (xM x).name = "<init>") (hn : (wK w)[n]? = some (11, .inl fX11)) (d : decode cc pc = .ok (.putfield 101, 3)) (kk : ∀ w', w' = setX w n 55 (some q) → V x cells slots w' (pc + 3) lv st) : V x cells slots w pc lv (.ref (gz (xG x) + q) :: .ref (gz (xG x) + n) :: st) := r_putX C hin2 hn rfl inX11 tyX11 tyX11_ok nmX11 (by decide) mw5_111 rfl rfl rfl rfl rfl d kk
theorem mw5_112 : Cond.fieldLink RX11 104 "HeardTunesModel" "images" "[I" ∈ TT := tt_5 (List.mem_of_getElem? (i := 112) (by decide +kernel)) (by decide +kernel)
theorem pfX11_104 {x : Ct} {cc : ByteArray} {nL cells slots pc n : Nat} {rm : Room} {w : Wv} {lv : List (Nat × Value)} {st : List Value} {q : Nat} (C : Cx x cc nL RX11 rm) (hin2 : (xM x).name = "<init>") (hn : (wK w)[n]? = some (11, .inl fX11)) (d : decode cc pc = .ok (.putfield 104, 3)) (kk : ∀ w', w' = setX w n 56 (some q) → V x cells slots w' (pc + 3) lv st) : V x cells slots w pc lv (.ref (gz (xG x) + q) :: .ref (gz (xG x) + n) :: st) := r_putX C hin2 hn rfl inX11 tyX11 tyX11_ok nmX11 (by decide) mw5_112 rfl rfl rfl rfl rfl d kk
theorem mw5_113 : Cond.fieldLink RX11 107 "HeardTunesModel" "isKept" "[Z" ∈ TT := tt_5 (List.mem_of_getElem? (i := 113) (by decide +kernel)) (by decide +kernel)
theorem pfX11_107 {x : Ct} {cc : ByteArray} {nL cells slots pc n : Nat} {rm : Room} {w : Wv} {lv : List (Nat × Value)} {st : List Value} {q : Nat} (C : Cx x cc nL RX11 rm) (hin2 : (xM x).name = "<init>") (hn : (wK w)[n]? = some (11, .inl fX11)) (d : decode cc pc = .ok (.putfield 107, 3)) (kk : ∀ w', w' = setX w n 57 (some q) → V x cells slots w' (pc + 3) lv st) : V x cells slots w pc lv (.ref (gz (xG x) + q) :: .ref (gz (xG x) + n) :: st) := r_putX C hin2 hn rfl inX11 tyX11 tyX11_ok nmX11 (by decide) mw5_113 rfl rfl rfl rfl rfl d kk
theorem mw5_56 : Cond.fieldLink RX11 111 "HeardTunesModel" "wide" "I" ∈ TT := tt_5 (List.mem_of_getElem? (i := 56) (by decide +kernel)) (by decide +kernel)
theorem pfX11_111 {x : Ct} {cc : ByteArray} {nL cells slots pc n : Nat} {rm : Room} {w : Wv} {lv : List (Nat × Value)} {st : List Value} {v : Int32} (C : Cx x cc nL RX11 rm) (hn : (wK w)[n]? = some (11, .inl fX11)) (d : decode cc pc = .ok (.putfield 111, 3)) (kk : ∀ w', w' = setI w n 0 v → V x cells slots w' (pc + 3) lv st) : V x cells slots w pc lv (.int v :: .ref (gz (xG x) + n) :: st) := r_putI (k := 0) C hn rfl inX11 tyX11 tyX11_ok nmX11 (by decide) mw5_56 rfl rfl rfl rfl d kk
theorem gfX11_111 {x : Ct} {cc : ByteArray} {nL cells slots pc n : Nat} {rm : Room} {w : Wv} {lv : List (Nat × Value)} {st : List Value} {v : Int32} (C : Cx x cc nL RX11 rm) (hn : (wK w)[n]? = some (11, .inl fX11)) (hv : wI w n 0 = v) (d : decode cc pc = .ok (.getfield 111, 3)) (kk : V x cells slots w (pc + 3) lv (.int v :: st)) : V x cells slots w pc lv (.ref (gz (xG x) + n) :: st) := by subst hv; exact r_getI C hn rfl inX11 (by decide) mw5_56 rfl d kk
theorem mw5_236 : Cond.methodLink RX11 114 yX11_in ∈ TT := tt_5 (List.mem_of_getElem? (i := 236) (by decide +kernel)) (by decide +kernel)
theorem mw5_237 : Cond.static yX11_in ∈ TT := tt_5 (List.mem_of_getElem? (i := 237) (by decide +kernel)) (by decide +kernel)
theorem mw1_13 : Cond.initialized RX11 ∈ TT := tt_1 (List.mem_of_getElem? (i := 13) (by decide +kernel)) (by decide +kernel)
theorem mw5_238 : Cond.code yX11_in cX11_in 6 (some .boolean) ∈ TT := tt_5 (List.mem_of_getElem? (i := 238) rfl) rfl
theorem cwX11_114_S : CwS RX11 114 yX11_in cX11_in 6 (some .boolean) 3 := ⟨mw5_236, mw5_237, mw1_13, mw5_238, ⟨by decide, by decide, by decide⟩⟩
theorem mw5_57 : Cond.fieldLink RX11 118 "HeardTunesModel" "deep" "I" ∈ TT := tt_5 (List.mem_of_getElem? (i := 57) (by decide +kernel)) (by decide +kernel)
theorem gfX11_118 {x : Ct} {cc : ByteArray} {nL cells slots pc n : Nat} {rm : Room} {w : Wv} {lv : List (Nat × Value)} {st : List Value} {v : Int32} (C : Cx x cc nL RX11 rm) (hn : (wK w)[n]? = some (11, .inl fX11)) (hv : wI w n 1 = v) (d : decode cc pc = .ok (.getfield 118, 3)) (kk : V x cells slots w (pc + 3) lv (.int v :: st)) : V x cells slots w pc lv (.ref (gz (xG x) + n) :: st) := by subst hv; exact r_getI C hn rfl inX11 (by decide) mw5_57 rfl d kk
theorem mw5_59 : Cond.fieldLink RX11 121 "HeardTunesModel" "crowds" "I" ∈ TT := tt_5 (List.mem_of_getElem? (i := 59) (by decide +kernel)) (by decide +kernel)
theorem gfX11_121 {x : Ct} {cc : ByteArray} {nL cells slots pc n : Nat} {rm : Room} {w : Wv} {lv : List (Nat × Value)} {st : List Value} {v : Int32} (C : Cx x cc nL RX11 rm) (hn : (wK w)[n]? = some (11, .inl fX11)) (hv : wI w n 3 = v) (d : decode cc pc = .ok (.getfield 121, 3)) (kk : V x cells slots w (pc + 3) lv (.int v :: st)) : V x cells slots w pc lv (.ref (gz (xG x) + n) :: st) := by subst hv; exact r_getI C hn rfl inX11 (by decide) mw5_59 rfl d kk
theorem mw5_64 : Cond.fieldLink RX11 124 "HeardTunesModel" "tunes" "I" ∈ TT := tt_5 (List.mem_of_getElem? (i := 64) (by decide +kernel)) (by decide +kernel)
theorem gfX11_124 {x : Ct} {cc : ByteArray} {nL cells slots pc n : Nat} {rm : Room} {w : Wv} {lv : List (Nat × Value)} {st : List Value} {v : Int32} (C : Cx x cc nL RX11 rm) (hn : (wK w)[n]? = some (11, .inl fX11)) (hv : wI w n 8 = v) (d : decode cc pc = .ok (.getfield 124, 3)) (kk : V x cells slots w (pc + 3) lv (.int v :: st)) : V x cells slots w pc lv (.ref (gz (xG x) + n) :: st) := by subst hv; exact r_getI C hn rfl inX11 (by decide) mw5_64 rfl d kk
theorem mw5_235 : Cond.constantLong RX11 127 (8) ∈ TT := tt_5 (List.mem_of_getElem? (i := 235) (by decide +kernel)) (by decide +kernel)
theorem mw5_239 : Cond.constant RX11 129 (-1000000002) ∈ TT := tt_5 (List.mem_of_getElem? (i := 239) (by decide +kernel)) (by decide +kernel)
theorem mw5_76 : Cond.fieldLink RX11 130 "HeardTunesModel" "texted" "I" ∈ TT := tt_5 (List.mem_of_getElem? (i := 76) (by decide +kernel)) (by decide +kernel)
theorem gfX11_130 {x : Ct} {cc : ByteArray} {nL cells slots pc n : Nat} {rm : Room} {w : Wv} {lv : List (Nat × Value)} {st : List Value} {v : Int32} (C : Cx x cc nL RX11 rm) (hn : (wK w)[n]? = some (11, .inl fX11)) (hv : wI w n 20 = v) (d : decode cc pc = .ok (.getfield 130, 3)) (kk : V x cells slots w (pc + 3) lv (.int v :: st)) : V x cells slots w pc lv (.ref (gz (xG x) + n) :: st) := by subst hv; exact r_getI C hn rfl inX11 (by decide) mw5_76 rfl d kk
theorem mw6_0 : Cond.constant RX11 133 (-1000000004) ∈ TT := tt_6 (List.mem_of_getElem? (i := 0) (by decide +kernel)) (by decide +kernel)
theorem gfX11_47 {x : Ct} {cc : ByteArray} {nL cells slots pc n : Nat} {rm : Room} {w : Wv} {lv : List (Nat × Value)} {st : List Value} (q : Nat) (C : Cx x cc nL RX11 rm) (hn : (wK w)[n]? = some (11, .inl fX11)) (hX : wX w n 19 = some q) (d : decode cc pc = .ok (.getfield 47, 3)) (kk : V x cells slots w (pc + 3) lv (.ref (gz (xG x) + q) :: st)) : V x cells slots w pc lv (.ref (gz (xG x) + n) :: st) := r_getX C hn rfl inX11 (by decide) mw5_75 rfl hX d kk
theorem mw6_1 : Cond.constantLong RX11 134 (255) ∈ TT := tt_6 (List.mem_of_getElem? (i := 1) (by decide +kernel)) (by decide +kernel)
theorem pfX11_130 {x : Ct} {cc : ByteArray} {nL cells slots pc n : Nat} {rm : Room} {w : Wv} {lv : List (Nat × Value)} {st : List Value} {v : Int32} (C : Cx x cc nL RX11 rm) (hn : (wK w)[n]? = some (11, .inl fX11)) (d : decode cc pc = .ok (.putfield 130, 3)) (kk : ∀ w', w' = setI w n 20 v → V x cells slots w' (pc + 3) lv st) : V x cells slots w pc lv (.int v :: .ref (gz (xG x) + n) :: st) := r_putI (k := 20) C hn rfl inX11 tyX11 tyX11_ok nmX11 (by decide) mw5_76 rfl rfl rfl rfl d kk
theorem mw5_78 : Cond.fieldLink RX11 136 "HeardTunesModel" "at0" "I" ∈ TT := tt_5 (List.mem_of_getElem? (i := 78) (by decide +kernel)) (by decide +kernel)
theorem gfX11_136 {x : Ct} {cc : ByteArray} {nL cells slots pc n : Nat} {rm : Room} {w : Wv} {lv : List (Nat × Value)} {st : List Value} {v : Int32} (C : Cx x cc nL RX11 rm) (hn : (wK w)[n]? = some (11, .inl fX11)) (hv : wI w n 22 = v) (d : decode cc pc = .ok (.getfield 136, 3)) (kk : V x cells slots w (pc + 3) lv (.int v :: st)) : V x cells slots w pc lv (.ref (gz (xG x) + n) :: st) := by subst hv; exact r_getI C hn rfl inX11 (by decide) mw5_78 rfl d kk
theorem pfX11_136 {x : Ct} {cc : ByteArray} {nL cells slots pc n : Nat} {rm : Room} {w : Wv} {lv : List (Nat × Value)} {st : List Value} {v : Int32} (C : Cx x cc nL RX11 rm) (hn : (wK w)[n]? = some (11, .inl fX11)) (d : decode cc pc = .ok (.putfield 136, 3)) (kk : ∀ w', w' = setI w n 22 v → V x cells slots w' (pc + 3) lv st) : V x cells slots w pc lv (.int v :: .ref (gz (xG x) + n) :: st) := r_putI (k := 22) C hn rfl inX11 tyX11 tyX11_ok nmX11 (by decide) mw5_78 rfl rfl rfl rfl d kk
theorem mw6_10 : Cond.methodLink RX11 139 yX11_here ∈ TT := tt_6 (List.mem_of_getElem? (i := 10) (by decide +kernel)) (by decide +kernel)
theorem mw6_12 : Cond.instanceMethod yX11_here ∈ TT := tt_6 (List.mem_of_getElem? (i := 12) (by decide +kernel)) (by decide +kernel)
theorem ms3_7 : Cond.selects RX11 yX11_here yX11_here ∈ TT := tp_sel (tp_3 (List.mem_of_getElem? (i := 7) (by decide +kernel) : ((yX11_here, 58) : MethodName × Nat) ∈ lw_privs_3)) (by decide +kernel)
theorem mw6_13 : Cond.code yX11_here cX11_here 1 (some .int) ∈ TT := tt_6 (List.mem_of_getElem? (i := 13) rfl) rfl
theorem cwX11_139_V : CwV RX11 139 RX11 yX11_here cX11_here 1 (some .int) 0 := ⟨mw6_10, mw6_12, ms3_7, mw1_13, mw6_13, ⟨by decide, by decide, by decide⟩⟩
theorem mw5_79 : Cond.fieldLink RX11 143 "HeardTunesModel" "said" "J" ∈ TT := tt_5 (List.mem_of_getElem? (i := 79) (by decide +kernel)) (by decide +kernel)
theorem pfX11_143 {x : Ct} {cc : ByteArray} {nL cells slots pc n : Nat} {rm : Room} {w : Wv} {lv : List (Nat × Value)} {st : List Value} {v : Int64} (C : Cx x cc nL RX11 rm) (hn : (wK w)[n]? = some (11, .inl fX11)) (d : decode cc pc = .ok (.putfield 143, 3)) (kk : ∀ w', w' = setL w n 23 v → V x cells slots w' (pc + 3) lv st) : V x cells slots w pc lv (.long v :: .ref (gz (xG x) + n) :: st) := r_putL (k := 23) C hn rfl inX11 tyX11 tyX11_ok nmX11 (by decide) mw5_79 rfl rfl rfl rfl d kk
theorem mw5_80 : Cond.fieldLink RX11 147 "HeardTunesModel" "wordEnd" "I" ∈ TT := tt_5 (List.mem_of_getElem? (i := 80) (by decide +kernel)) (by decide +kernel)
theorem pfX11_147 {x : Ct} {cc : ByteArray} {nL cells slots pc n : Nat} {rm : Room} {w : Wv} {lv : List (Nat × Value)} {st : List Value} {v : Int32} (C : Cx x cc nL RX11 rm) (hn : (wK w)[n]? = some (11, .inl fX11)) (d : decode cc pc = .ok (.putfield 147, 3)) (kk : ∀ w', w' = setI w n 24 v → V x cells slots w' (pc + 3) lv st) : V x cells slots w pc lv (.int v :: .ref (gz (xG x) + n) :: st) := r_putI (k := 24) C hn rfl inX11 tyX11 tyX11_ok nmX11 (by decide) mw5_80 rfl rfl rfl rfl d kk
theorem gfX11_147 {x : Ct} {cc : ByteArray} {nL cells slots pc n : Nat} {rm : Room} {w : Wv} {lv : List (Nat × Value)} {st : List Value} {v : Int32} (C : Cx x cc nL RX11 rm) (hn : (wK w)[n]? = some (11, .inl fX11)) (hv : wI w n 24 = v) (d : decode cc pc = .ok (.getfield 147, 3)) (kk : V x cells slots w (pc + 3) lv (.int v :: st)) : V x cells slots w pc lv (.ref (gz (xG x) + n) :: st) := by subst hv; exact r_getI C hn rfl inX11 (by decide) mw5_80 rfl d kk
theorem mw6_22 : Cond.constantLong RX11 150 (97) ∈ TT := tt_6 (List.mem_of_getElem? (i := 22) (by decide +kernel)) (by decide +kernel)
theorem mw6_23 : Cond.constantLong RX11 152 (122) ∈ TT := tt_6 (List.mem_of_getElem? (i := 23) (by decide +kernel)) (by decide +kernel)
theorem gfX11_143 {x : Ct} {cc : ByteArray} {nL cells slots pc n : Nat} {rm : Room} {w : Wv} {lv : List (Nat × Value)} {st : List Value} {v : Int64} (C : Cx x cc nL RX11 rm) (hn : (wK w)[n]? = some (11, .inl fX11)) (hv : wL w n 23 = v) (d : decode cc pc = .ok (.getfield 143, 3)) (kk : V x cells slots w (pc + 3) lv (.long v :: st)) : V x cells slots w pc lv (.ref (gz (xG x) + n) :: st) := by subst hv; exact r_getL C hn rfl inX11 (by decide) mw5_79 rfl d kk
theorem mw6_24 : Cond.constantLong RX11 154 (100000000000000) ∈ TT := tt_6 (List.mem_of_getElem? (i := 24) (by decide +kernel)) (by decide +kernel)
theorem mw6_25 : Cond.constantLong RX11 156 (200000000000000) ∈ TT := tt_6 (List.mem_of_getElem? (i := 25) (by decide +kernel)) (by decide +kernel)
theorem mw6_26 : Cond.constantLong RX11 158 (27) ∈ TT := tt_6 (List.mem_of_getElem? (i := 26) (by decide +kernel)) (by decide +kernel)
theorem mw6_27 : Cond.constantLong RX11 160 (96) ∈ TT := tt_6 (List.mem_of_getElem? (i := 27) (by decide +kernel)) (by decide +kernel)
theorem mw6_50 : Cond.constantLong RX11 162 (48) ∈ TT := tt_6 (List.mem_of_getElem? (i := 50) (by decide +kernel)) (by decide +kernel)
theorem mw6_51 : Cond.constantLong RX11 164 (57) ∈ TT := tt_6 (List.mem_of_getElem? (i := 51) (by decide +kernel)) (by decide +kernel)
theorem mw6_38 : Cond.methodLink RX11 166 yX11_fails ∈ TT := tt_6 (List.mem_of_getElem? (i := 38) (by decide +kernel)) (by decide +kernel)
theorem mw6_40 : Cond.instanceMethod yX11_fails ∈ TT := tt_6 (List.mem_of_getElem? (i := 40) (by decide +kernel)) (by decide +kernel)
theorem ms3_11 : Cond.selects RX11 yX11_fails yX11_fails ∈ TT := tp_sel (tp_3 (List.mem_of_getElem? (i := 11) (by decide +kernel) : ((yX11_fails, 58) : MethodName × Nat) ∈ lw_privs_3)) (by decide +kernel)
theorem mw6_41 : Cond.code yX11_fails cX11_fails 3 (some .int) ∈ TT := tt_6 (List.mem_of_getElem? (i := 41) rfl) rfl
theorem cwX11_166_V : CwV RX11 166 RX11 yX11_fails cX11_fails 3 (some .int) 2 := ⟨mw6_38, mw6_40, ms3_11, mw1_13, mw6_41, ⟨by decide, by decide, by decide⟩⟩
theorem mw5_82 : Cond.fieldLink RX11 170 "HeardTunesModel" "numberAt" "I" ∈ TT := tt_5 (List.mem_of_getElem? (i := 82) (by decide +kernel)) (by decide +kernel)
theorem pfX11_170 {x : Ct} {cc : ByteArray} {nL cells slots pc n : Nat} {rm : Room} {w : Wv} {lv : List (Nat × Value)} {st : List Value} {v : Int32} (C : Cx x cc nL RX11 rm) (hn : (wK w)[n]? = some (11, .inl fX11)) (d : decode cc pc = .ok (.putfield 170, 3)) (kk : ∀ w', w' = setI w n 26 v → V x cells slots w' (pc + 3) lv st) : V x cells slots w pc lv (.int v :: .ref (gz (xG x) + n) :: st) := r_putI (k := 26) C hn rfl inX11 tyX11 tyX11_ok nmX11 (by decide) mw5_82 rfl rfl rfl rfl d kk
theorem mw5_81 : Cond.fieldLink RX11 173 "HeardTunesModel" "number" "I" ∈ TT := tt_5 (List.mem_of_getElem? (i := 81) (by decide +kernel)) (by decide +kernel)
theorem pfX11_173 {x : Ct} {cc : ByteArray} {nL cells slots pc n : Nat} {rm : Room} {w : Wv} {lv : List (Nat × Value)} {st : List Value} {v : Int32} (C : Cx x cc nL RX11 rm) (hn : (wK w)[n]? = some (11, .inl fX11)) (d : decode cc pc = .ok (.putfield 173, 3)) (kk : ∀ w', w' = setI w n 25 v → V x cells slots w' (pc + 3) lv st) : V x cells slots w pc lv (.int v :: .ref (gz (xG x) + n) :: st) := r_putI (k := 25) C hn rfl inX11 tyX11 tyX11_ok nmX11 (by decide) mw5_81 rfl rfl rfl rfl d kk
theorem gfX11_173 {x : Ct} {cc : ByteArray} {nL cells slots pc n : Nat} {rm : Room} {w : Wv} {lv : List (Nat × Value)} {st : List Value} {v : Int32} (C : Cx x cc nL RX11 rm) (hn : (wK w)[n]? = some (11, .inl fX11)) (hv : wI w n 25 = v) (d : decode cc pc = .ok (.getfield 173, 3)) (kk : V x cells slots w (pc + 3) lv (.int v :: st)) : V x cells slots w pc lv (.ref (gz (xG x) + n) :: st) := by subst hv; exact r_getI C hn rfl inX11 (by decide) mw5_81 rfl d kk
theorem gfX11_170 {x : Ct} {cc : ByteArray} {nL cells slots pc n : Nat} {rm : Room} {w : Wv} {lv : List (Nat × Value)} {st : List Value} {v : Int32} (C : Cx x cc nL RX11 rm) (hn : (wK w)[n]? = some (11, .inl fX11)) (hv : wI w n 26 = v) (d : decode cc pc = .ok (.getfield 170, 3)) (kk : V x cells slots w (pc + 3) lv (.int v :: st)) : V x cells slots w pc lv (.ref (gz (xG x) + n) :: st) := by subst hv; exact r_getI C hn rfl inX11 (by decide) mw5_82 rfl d kk
theorem mw6_46 : Cond.methodLink RX11 176 yX11_takeNumber ∈ TT := tt_6 (List.mem_of_getElem? (i := 46) (by decide +kernel)) (by decide +kernel)
theorem mw6_48 : Cond.instanceMethod yX11_takeNumber ∈ TT := tt_6 (List.mem_of_getElem? (i := 48) (by decide +kernel)) (by decide +kernel)
theorem ms3_13 : Cond.selects RX11 yX11_takeNumber yX11_takeNumber ∈ TT := tp_sel (tp_3 (List.mem_of_getElem? (i := 13) (by decide +kernel) : ((yX11_takeNumber, 58) : MethodName × Nat) ∈ lw_privs_3)) (by decide +kernel)
theorem mw6_49 : Cond.code yX11_takeNumber cX11_takeNumber 4 (some .int) ∈ TT := tt_6 (List.mem_of_getElem? (i := 49) rfl) rfl
theorem cwX11_176_V : CwV RX11 176 RX11 yX11_takeNumber cX11_takeNumber 4 (some .int) 2 := ⟨mw6_46, mw6_48, ms3_13, mw1_13, mw6_49, ⟨by decide, by decide, by decide⟩⟩
theorem mw5_83 : Cond.fieldLink RX11 179 "HeardTunesModel" "readWide" "I" ∈ TT := tt_5 (List.mem_of_getElem? (i := 83) (by decide +kernel)) (by decide +kernel)
theorem pfX11_179 {x : Ct} {cc : ByteArray} {nL cells slots pc n : Nat} {rm : Room} {w : Wv} {lv : List (Nat × Value)} {st : List Value} {v : Int32} (C : Cx x cc nL RX11 rm) (hn : (wK w)[n]? = some (11, .inl fX11)) (d : decode cc pc = .ok (.putfield 179, 3)) (kk : ∀ w', w' = setI w n 27 v → V x cells slots w' (pc + 3) lv st) : V x cells slots w pc lv (.int v :: .ref (gz (xG x) + n) :: st) := r_putI (k := 27) C hn rfl inX11 tyX11 tyX11_ok nmX11 (by decide) mw5_83 rfl rfl rfl rfl d kk
theorem mw5_84 : Cond.fieldLink RX11 182 "HeardTunesModel" "readDeep" "I" ∈ TT := tt_5 (List.mem_of_getElem? (i := 84) (by decide +kernel)) (by decide +kernel)
theorem pfX11_182 {x : Ct} {cc : ByteArray} {nL cells slots pc n : Nat} {rm : Room} {w : Wv} {lv : List (Nat × Value)} {st : List Value} {v : Int32} (C : Cx x cc nL RX11 rm) (hn : (wK w)[n]? = some (11, .inl fX11)) (d : decode cc pc = .ok (.putfield 182, 3)) (kk : ∀ w', w' = setI w n 28 v → V x cells slots w' (pc + 3) lv st) : V x cells slots w pc lv (.int v :: .ref (gz (xG x) + n) :: st) := r_putI (k := 28) C hn rfl inX11 tyX11 tyX11_ok nmX11 (by decide) mw5_84 rfl rfl rfl rfl d kk
theorem gfX11_179 {x : Ct} {cc : ByteArray} {nL cells slots pc n : Nat} {rm : Room} {w : Wv} {lv : List (Nat × Value)} {st : List Value} {v : Int32} (C : Cx x cc nL RX11 rm) (hn : (wK w)[n]? = some (11, .inl fX11)) (hv : wI w n 27 = v) (d : decode cc pc = .ok (.getfield 179, 3)) (kk : V x cells slots w (pc + 3) lv (.int v :: st)) : V x cells slots w pc lv (.ref (gz (xG x) + n) :: st) := by subst hv; exact r_getI C hn rfl inX11 (by decide) mw5_83 rfl d kk
theorem gfX11_182 {x : Ct} {cc : ByteArray} {nL cells slots pc n : Nat} {rm : Room} {w : Wv} {lv : List (Nat × Value)} {st : List Value} {v : Int32} (C : Cx x cc nL RX11 rm) (hn : (wK w)[n]? = some (11, .inl fX11)) (hv : wI w n 28 = v) (d : decode cc pc = .ok (.getfield 182, 3)) (kk : V x cells slots w (pc + 3) lv (.int v :: st)) : V x cells slots w pc lv (.ref (gz (xG x) + n) :: st) := by subst hv; exact r_getI C hn rfl inX11 (by decide) mw5_84 rfl d kk
theorem mw5_99 : Cond.fieldLink RX11 185 "HeardTunesModel" "cellRead" "I" ∈ TT := tt_5 (List.mem_of_getElem? (i := 99) (by decide +kernel)) (by decide +kernel)
theorem pfX11_185 {x : Ct} {cc : ByteArray} {nL cells slots pc n : Nat} {rm : Room} {w : Wv} {lv : List (Nat × Value)} {st : List Value} {v : Int32} (C : Cx x cc nL RX11 rm) (hn : (wK w)[n]? = some (11, .inl fX11)) (d : decode cc pc = .ok (.putfield 185, 3)) (kk : ∀ w', w' = setI w n 43 v → V x cells slots w' (pc + 3) lv st) : V x cells slots w pc lv (.int v :: .ref (gz (xG x) + n) :: st) := r_putI (k := 43) C hn rfl inX11 tyX11 tyX11_ok nmX11 (by decide) mw5_99 rfl rfl rfl rfl d kk
theorem gfX11_53 {x : Ct} {cc : ByteArray} {nL cells slots pc n : Nat} {rm : Room} {w : Wv} {lv : List (Nat × Value)} {st : List Value} (q : Nat) (C : Cx x cc nL RX11 rm) (hn : (wK w)[n]? = some (11, .inl fX11)) (hX : wX w n 29 = some q) (d : decode cc pc = .ok (.getfield 53, 3)) (kk : V x cells slots w (pc + 3) lv (.ref (gz (xG x) + q) :: st)) : V x cells slots w pc lv (.ref (gz (xG x) + n) :: st) := r_getX C hn rfl inX11 (by decide) mw5_85 rfl hX d kk
theorem mw5_96 : Cond.fieldLink RX11 188 "HeardTunesModel" "readPiper" "I" ∈ TT := tt_5 (List.mem_of_getElem? (i := 96) (by decide +kernel)) (by decide +kernel)
theorem gfX11_188 {x : Ct} {cc : ByteArray} {nL cells slots pc n : Nat} {rm : Room} {w : Wv} {lv : List (Nat × Value)} {st : List Value} {v : Int32} (C : Cx x cc nL RX11 rm) (hn : (wK w)[n]? = some (11, .inl fX11)) (hv : wI w n 40 = v) (d : decode cc pc = .ok (.getfield 188, 3)) (kk : V x cells slots w (pc + 3) lv (.int v :: st)) : V x cells slots w pc lv (.ref (gz (xG x) + n) :: st) := by subst hv; exact r_getI C hn rfl inX11 (by decide) mw5_96 rfl d kk
theorem mw5_87 : Cond.fieldLink RX11 191 "HeardTunesModel" "readCrowds" "I" ∈ TT := tt_5 (List.mem_of_getElem? (i := 87) (by decide +kernel)) (by decide +kernel)
theorem gfX11_191 {x : Ct} {cc : ByteArray} {nL cells slots pc n : Nat} {rm : Room} {w : Wv} {lv : List (Nat × Value)} {st : List Value} {v : Int32} (C : Cx x cc nL RX11 rm) (hn : (wK w)[n]? = some (11, .inl fX11)) (hv : wI w n 31 = v) (d : decode cc pc = .ok (.getfield 191, 3)) (kk : V x cells slots w (pc + 3) lv (.int v :: st)) : V x cells slots w pc lv (.ref (gz (xG x) + n) :: st) := by subst hv; exact r_getI C hn rfl inX11 (by decide) mw5_87 rfl d kk
theorem gfX11_59 {x : Ct} {cc : ByteArray} {nL cells slots pc n : Nat} {rm : Room} {w : Wv} {lv : List (Nat × Value)} {st : List Value} (q : Nat) (C : Cx x cc nL RX11 rm) (hn : (wK w)[n]? = some (11, .inl fX11)) (hX : wX w n 33 = some q) (d : decode cc pc = .ok (.getfield 59, 3)) (kk : V x cells slots w (pc + 3) lv (.ref (gz (xG x) + q) :: st)) : V x cells slots w pc lv (.ref (gz (xG x) + n) :: st) := r_getX C hn rfl inX11 (by decide) mw5_89 rfl hX d kk
theorem mw5_86 : Cond.fieldLink RX11 194 "HeardTunesModel" "readMarks" "I" ∈ TT := tt_5 (List.mem_of_getElem? (i := 86) (by decide +kernel)) (by decide +kernel)
theorem gfX11_194 {x : Ct} {cc : ByteArray} {nL cells slots pc n : Nat} {rm : Room} {w : Wv} {lv : List (Nat × Value)} {st : List Value} {v : Int32} (C : Cx x cc nL RX11 rm) (hn : (wK w)[n]? = some (11, .inl fX11)) (hv : wI w n 30 = v) (d : decode cc pc = .ok (.getfield 194, 3)) (kk : V x cells slots w (pc + 3) lv (.int v :: st)) : V x cells slots w pc lv (.ref (gz (xG x) + n) :: st) := by subst hv; exact r_getI C hn rfl inX11 (by decide) mw5_86 rfl d kk
theorem pfX11_194 {x : Ct} {cc : ByteArray} {nL cells slots pc n : Nat} {rm : Room} {w : Wv} {lv : List (Nat × Value)} {st : List Value} {v : Int32} (C : Cx x cc nL RX11 rm) (hn : (wK w)[n]? = some (11, .inl fX11)) (d : decode cc pc = .ok (.putfield 194, 3)) (kk : ∀ w', w' = setI w n 30 v → V x cells slots w' (pc + 3) lv st) : V x cells slots w pc lv (.int v :: .ref (gz (xG x) + n) :: st) := r_putI (k := 30) C hn rfl inX11 tyX11 tyX11_ok nmX11 (by decide) mw5_86 rfl rfl rfl rfl d kk
theorem mw6_56 : Cond.methodLink RX11 197 yX11_takeCell ∈ TT := tt_6 (List.mem_of_getElem? (i := 56) (by decide +kernel)) (by decide +kernel)
theorem mw6_58 : Cond.instanceMethod yX11_takeCell ∈ TT := tt_6 (List.mem_of_getElem? (i := 58) (by decide +kernel)) (by decide +kernel)
theorem ms3_15 : Cond.selects RX11 yX11_takeCell yX11_takeCell ∈ TT := tp_sel (tp_3 (List.mem_of_getElem? (i := 15) (by decide +kernel) : ((yX11_takeCell, 58) : MethodName × Nat) ∈ lw_privs_3)) (by decide +kernel)
theorem mw6_59 : Cond.code yX11_takeCell cX11_takeCell 3 (some .int) ∈ TT := tt_6 (List.mem_of_getElem? (i := 59) rfl) rfl
theorem cwX11_197_V : CwV RX11 197 RX11 yX11_takeCell cX11_takeCell 3 (some .int) 0 := ⟨mw6_56, mw6_58, ms3_15, mw1_13, mw6_59, ⟨by decide, by decide, by decide⟩⟩
theorem gfX11_185 {x : Ct} {cc : ByteArray} {nL cells slots pc n : Nat} {rm : Room} {w : Wv} {lv : List (Nat × Value)} {st : List Value} {v : Int32} (C : Cx x cc nL RX11 rm) (hn : (wK w)[n]? = some (11, .inl fX11)) (hv : wI w n 43 = v) (d : decode cc pc = .ok (.getfield 185, 3)) (kk : V x cells slots w (pc + 3) lv (.int v :: st)) : V x cells slots w pc lv (.ref (gz (xG x) + n) :: st) := by subst hv; exact r_getI C hn rfl inX11 (by decide) mw5_99 rfl d kk
theorem mw6_60 : Cond.methodLink RX11 200 yX11_isTakenUp ∈ TT := tt_6 (List.mem_of_getElem? (i := 60) (by decide +kernel)) (by decide +kernel)
theorem mw6_62 : Cond.instanceMethod yX11_isTakenUp ∈ TT := tt_6 (List.mem_of_getElem? (i := 62) (by decide +kernel)) (by decide +kernel)
theorem ms4_0 : Cond.selects RX11 yX11_isTakenUp yX11_isTakenUp ∈ TT := tp_sel (tp_4 (List.mem_of_getElem? (i := 0) (by decide +kernel) : ((yX11_isTakenUp, 58) : MethodName × Nat) ∈ lw_privs_4)) (by decide +kernel)
theorem mw6_63 : Cond.code yX11_isTakenUp cX11_isTakenUp 4 (some .boolean) ∈ TT := tt_6 (List.mem_of_getElem? (i := 63) rfl) rfl
theorem cwX11_200_V : CwV RX11 200 RX11 yX11_isTakenUp cX11_isTakenUp 4 (some .boolean) 1 := ⟨mw6_60, mw6_62, ms4_0, mw1_13, mw6_63, ⟨by decide, by decide, by decide⟩⟩
theorem gfX11_56 {x : Ct} {cc : ByteArray} {nL cells slots pc n : Nat} {rm : Room} {w : Wv} {lv : List (Nat × Value)} {st : List Value} (q : Nat) (C : Cx x cc nL RX11 rm) (hn : (wK w)[n]? = some (11, .inl fX11)) (hX : wX w n 32 = some q) (d : decode cc pc = .ok (.getfield 56, 3)) (kk : V x cells slots w (pc + 3) lv (.ref (gz (xG x) + q) :: st)) : V x cells slots w pc lv (.ref (gz (xG x) + n) :: st) := r_getX C hn rfl inX11 (by decide) mw5_88 rfl hX d kk
theorem mw6_68 : Cond.methodLink RX11 204 yX11_into ∈ TT := tt_6 (List.mem_of_getElem? (i := 68) (by decide +kernel)) (by decide +kernel)
theorem mw6_70 : Cond.instanceMethod yX11_into ∈ TT := tt_6 (List.mem_of_getElem? (i := 70) (by decide +kernel)) (by decide +kernel)
theorem ms4_2 : Cond.selects RX11 yX11_into yX11_into ∈ TT := tp_sel (tp_4 (List.mem_of_getElem? (i := 2) (by decide +kernel) : ((yX11_into, 58) : MethodName × Nat) ∈ lw_privs_4)) (by decide +kernel)
theorem mw6_71 : Cond.code yX11_into cX11_into 6 (some .int) ∈ TT := tt_6 (List.mem_of_getElem? (i := 71) rfl) rfl
theorem cwX11_204_V : CwV RX11 204 RX11 yX11_into cX11_into 6 (some .int) 4 := ⟨mw6_68, mw6_70, ms4_2, mw1_13, mw6_71, ⟨by decide, by decide, by decide⟩⟩
theorem pfX11_191 {x : Ct} {cc : ByteArray} {nL cells slots pc n : Nat} {rm : Room} {w : Wv} {lv : List (Nat × Value)} {st : List Value} {v : Int32} (C : Cx x cc nL RX11 rm) (hn : (wK w)[n]? = some (11, .inl fX11)) (d : decode cc pc = .ok (.putfield 191, 3)) (kk : ∀ w', w' = setI w n 31 v → V x cells slots w' (pc + 3) lv st) : V x cells slots w pc lv (.int v :: .ref (gz (xG x) + n) :: st) := r_putI (k := 31) C hn rfl inX11 tyX11 tyX11_ok nmX11 (by decide) mw5_87 rfl rfl rfl rfl d kk
theorem gfX11_62 {x : Ct} {cc : ByteArray} {nL cells slots pc n : Nat} {rm : Room} {w : Wv} {lv : List (Nat × Value)} {st : List Value} (q : Nat) (C : Cx x cc nL RX11 rm) (hn : (wK w)[n]? = some (11, .inl fX11)) (hX : wX w n 34 = some q) (d : decode cc pc = .ok (.getfield 62, 3)) (kk : V x cells slots w (pc + 3) lv (.ref (gz (xG x) + q) :: st)) : V x cells slots w pc lv (.ref (gz (xG x) + n) :: st) := r_getX C hn rfl inX11 (by decide) mw5_90 rfl hX d kk
theorem gfX11_65 {x : Ct} {cc : ByteArray} {nL cells slots pc n : Nat} {rm : Room} {w : Wv} {lv : List (Nat × Value)} {st : List Value} (q : Nat) (C : Cx x cc nL RX11 rm) (hn : (wK w)[n]? = some (11, .inl fX11)) (hX : wX w n 35 = some q) (d : decode cc pc = .ok (.getfield 65, 3)) (kk : V x cells slots w (pc + 3) lv (.ref (gz (xG x) + q) :: st)) : V x cells slots w pc lv (.ref (gz (xG x) + n) :: st) := r_getX C hn rfl inX11 (by decide) mw5_91 rfl hX d kk
theorem gfX11_68 {x : Ct} {cc : ByteArray} {nL cells slots pc n : Nat} {rm : Room} {w : Wv} {lv : List (Nat × Value)} {st : List Value} (q : Nat) (C : Cx x cc nL RX11 rm) (hn : (wK w)[n]? = some (11, .inl fX11)) (hX : wX w n 36 = some q) (d : decode cc pc = .ok (.getfield 68, 3)) (kk : V x cells slots w (pc + 3) lv (.ref (gz (xG x) + q) :: st)) : V x cells slots w pc lv (.ref (gz (xG x) + n) :: st) := r_getX C hn rfl inX11 (by decide) mw5_92 rfl hX d kk
theorem mw5_93 : Cond.fieldLink RX11 208 "HeardTunesModel" "readTunes" "I" ∈ TT := tt_5 (List.mem_of_getElem? (i := 93) (by decide +kernel)) (by decide +kernel)
theorem gfX11_208 {x : Ct} {cc : ByteArray} {nL cells slots pc n : Nat} {rm : Room} {w : Wv} {lv : List (Nat × Value)} {st : List Value} {v : Int32} (C : Cx x cc nL RX11 rm) (hn : (wK w)[n]? = some (11, .inl fX11)) (hv : wI w n 37 = v) (d : decode cc pc = .ok (.getfield 208, 3)) (kk : V x cells slots w (pc + 3) lv (.int v :: st)) : V x cells slots w pc lv (.ref (gz (xG x) + n) :: st) := by subst hv; exact r_getI C hn rfl inX11 (by decide) mw5_93 rfl d kk
theorem pfX11_208 {x : Ct} {cc : ByteArray} {nL cells slots pc n : Nat} {rm : Room} {w : Wv} {lv : List (Nat × Value)} {st : List Value} {v : Int32} (C : Cx x cc nL RX11 rm) (hn : (wK w)[n]? = some (11, .inl fX11)) (d : decode cc pc = .ok (.putfield 208, 3)) (kk : ∀ w', w' = setI w n 37 v → V x cells slots w' (pc + 3) lv st) : V x cells slots w pc lv (.int v :: .ref (gz (xG x) + n) :: st) := r_putI (k := 37) C hn rfl inX11 tyX11 tyX11_ok nmX11 (by decide) mw5_93 rfl rfl rfl rfl d kk
theorem gfX11_71 {x : Ct} {cc : ByteArray} {nL cells slots pc n : Nat} {rm : Room} {w : Wv} {lv : List (Nat × Value)} {st : List Value} (q : Nat) (C : Cx x cc nL RX11 rm) (hn : (wK w)[n]? = some (11, .inl fX11)) (hX : wX w n 38 = some q) (d : decode cc pc = .ok (.getfield 71, 3)) (kk : V x cells slots w (pc + 3) lv (.ref (gz (xG x) + q) :: st)) : V x cells slots w pc lv (.ref (gz (xG x) + n) :: st) := r_getX C hn rfl inX11 (by decide) mw5_94 rfl hX d kk
theorem gfX11_74 {x : Ct} {cc : ByteArray} {nL cells slots pc n : Nat} {rm : Room} {w : Wv} {lv : List (Nat × Value)} {st : List Value} (q : Nat) (C : Cx x cc nL RX11 rm) (hn : (wK w)[n]? = some (11, .inl fX11)) (hX : wX w n 39 = some q) (d : decode cc pc = .ok (.getfield 74, 3)) (kk : V x cells slots w (pc + 3) lv (.ref (gz (xG x) + q) :: st)) : V x cells slots w pc lv (.ref (gz (xG x) + n) :: st) := r_getX C hn rfl inX11 (by decide) mw5_95 rfl hX d kk
theorem pfX11_188 {x : Ct} {cc : ByteArray} {nL cells slots pc n : Nat} {rm : Room} {w : Wv} {lv : List (Nat × Value)} {st : List Value} {v : Int32} (C : Cx x cc nL RX11 rm) (hn : (wK w)[n]? = some (11, .inl fX11)) (d : decode cc pc = .ok (.putfield 188, 3)) (kk : ∀ w', w' = setI w n 40 v → V x cells slots w' (pc + 3) lv st) : V x cells slots w pc lv (.int v :: .ref (gz (xG x) + n) :: st) := r_putI (k := 40) C hn rfl inX11 tyX11 tyX11_ok nmX11 (by decide) mw5_96 rfl rfl rfl rfl d kk
theorem mw5_97 : Cond.fieldLink RX11 211 "HeardTunesModel" "readPay" "I" ∈ TT := tt_5 (List.mem_of_getElem? (i := 97) (by decide +kernel)) (by decide +kernel)
theorem pfX11_211 {x : Ct} {cc : ByteArray} {nL cells slots pc n : Nat} {rm : Room} {w : Wv} {lv : List (Nat × Value)} {st : List Value} {v : Int32} (C : Cx x cc nL RX11 rm) (hn : (wK w)[n]? = some (11, .inl fX11)) (d : decode cc pc = .ok (.putfield 211, 3)) (kk : ∀ w', w' = setI w n 41 v → V x cells slots w' (pc + 3) lv st) : V x cells slots w pc lv (.int v :: .ref (gz (xG x) + n) :: st) := r_putI (k := 41) C hn rfl inX11 tyX11 tyX11_ok nmX11 (by decide) mw5_97 rfl rfl rfl rfl d kk
theorem mw5_98 : Cond.fieldLink RX11 214 "HeardTunesModel" "readFine" "I" ∈ TT := tt_5 (List.mem_of_getElem? (i := 98) (by decide +kernel)) (by decide +kernel)
theorem pfX11_214 {x : Ct} {cc : ByteArray} {nL cells slots pc n : Nat} {rm : Room} {w : Wv} {lv : List (Nat × Value)} {st : List Value} {v : Int32} (C : Cx x cc nL RX11 rm) (hn : (wK w)[n]? = some (11, .inl fX11)) (d : decode cc pc = .ok (.putfield 214, 3)) (kk : ∀ w', w' = setI w n 42 v → V x cells slots w' (pc + 3) lv st) : V x cells slots w pc lv (.int v :: .ref (gz (xG x) + n) :: st) := r_putI (k := 42) C hn rfl inX11 tyX11 tyX11_ok nmX11 (by decide) mw5_98 rfl rfl rfl rfl d kk
theorem mw6_32 : Cond.methodLink RX11 217 yX11_code ∈ TT := tt_6 (List.mem_of_getElem? (i := 32) (by decide +kernel)) (by decide +kernel)
theorem mw6_33 : Cond.static yX11_code ∈ TT := tt_6 (List.mem_of_getElem? (i := 33) (by decide +kernel)) (by decide +kernel)
theorem mw6_34 : Cond.code yX11_code cX11_code 3 (some .long) ∈ TT := tt_6 (List.mem_of_getElem? (i := 34) rfl) rfl
theorem cwX11_217_S : CwS RX11 217 yX11_code cX11_code 3 (some .long) 3 := ⟨mw6_32, mw6_33, mw1_13, mw6_34, ⟨by decide, by decide, by decide⟩⟩
theorem mw6_35 : Cond.methodLink RX11 221 yX11_more ∈ TT := tt_6 (List.mem_of_getElem? (i := 35) (by decide +kernel)) (by decide +kernel)
theorem mw6_36 : Cond.static yX11_more ∈ TT := tt_6 (List.mem_of_getElem? (i := 36) (by decide +kernel)) (by decide +kernel)
theorem mw6_37 : Cond.code yX11_more cX11_more 3 (some .long) ∈ TT := tt_6 (List.mem_of_getElem? (i := 37) rfl) rfl
theorem cwX11_221_S : CwS RX11 221 yX11_more cX11_more 3 (some .long) 2 := ⟨mw6_35, mw6_36, mw1_13, mw6_37, ⟨by decide, by decide, by decide⟩⟩
theorem mw6_18 : Cond.methodLink RX11 225 yX11_readWord ∈ TT := tt_6 (List.mem_of_getElem? (i := 18) (by decide +kernel)) (by decide +kernel)
theorem mw6_20 : Cond.instanceMethod yX11_readWord ∈ TT := tt_6 (List.mem_of_getElem? (i := 20) (by decide +kernel)) (by decide +kernel)
theorem ms3_9 : Cond.selects RX11 yX11_readWord yX11_readWord ∈ TT := tp_sel (tp_3 (List.mem_of_getElem? (i := 9) (by decide +kernel) : ((yX11_readWord, 58) : MethodName × Nat) ∈ lw_privs_3)) (by decide +kernel)
theorem mw6_21 : Cond.code yX11_readWord cX11_readWord 2 none ∈ TT := tt_6 (List.mem_of_getElem? (i := 21) rfl) rfl
theorem cwX11_225_V : CwV RX11 225 RX11 yX11_readWord cX11_readWord 2 none 0 := ⟨mw6_18, mw6_20, ms3_9, mw1_13, mw6_21, ⟨by decide, by decide, by decide⟩⟩
theorem mw6_28 : Cond.methodLink RX11 228 yX11_kindOfWord ∈ TT := tt_6 (List.mem_of_getElem? (i := 28) (by decide +kernel)) (by decide +kernel)
theorem mw6_30 : Cond.instanceMethod yX11_kindOfWord ∈ TT := tt_6 (List.mem_of_getElem? (i := 30) (by decide +kernel)) (by decide +kernel)
theorem ms3_10 : Cond.selects RX11 yX11_kindOfWord yX11_kindOfWord ∈ TT := tp_sel (tp_3 (List.mem_of_getElem? (i := 10) (by decide +kernel) : ((yX11_kindOfWord, 58) : MethodName × Nat) ∈ lw_privs_3)) (by decide +kernel)
theorem mw6_31 : Cond.code yX11_kindOfWord cX11_kindOfWord 1 (some .int) ∈ TT := tt_6 (List.mem_of_getElem? (i := 31) rfl) rfl
theorem cwX11_228_V : CwV RX11 228 RX11 yX11_kindOfWord cX11_kindOfWord 1 (some .int) 0 := ⟨mw6_28, mw6_30, ms3_10, mw1_13, mw6_31, ⟨by decide, by decide, by decide⟩⟩
theorem gfX11_211 {x : Ct} {cc : ByteArray} {nL cells slots pc n : Nat} {rm : Room} {w : Wv} {lv : List (Nat × Value)} {st : List Value} {v : Int32} (C : Cx x cc nL RX11 rm) (hn : (wK w)[n]? = some (11, .inl fX11)) (hv : wI w n 41 = v) (d : decode cc pc = .ok (.getfield 211, 3)) (kk : V x cells slots w (pc + 3) lv (.int v :: st)) : V x cells slots w pc lv (.ref (gz (xG x) + n) :: st) := by subst hv; exact r_getI C hn rfl inX11 (by decide) mw5_97 rfl d kk
theorem mw6_42 : Cond.methodLink RX11 231 yX11_takeTown ∈ TT := tt_6 (List.mem_of_getElem? (i := 42) (by decide +kernel)) (by decide +kernel)
theorem mw6_44 : Cond.instanceMethod yX11_takeTown ∈ TT := tt_6 (List.mem_of_getElem? (i := 44) (by decide +kernel)) (by decide +kernel)
theorem ms3_12 : Cond.selects RX11 yX11_takeTown yX11_takeTown ∈ TT := tp_sel (tp_3 (List.mem_of_getElem? (i := 12) (by decide +kernel) : ((yX11_takeTown, 58) : MethodName × Nat) ∈ lw_privs_3)) (by decide +kernel)
theorem mw6_45 : Cond.code yX11_takeTown cX11_takeTown 3 (some .int) ∈ TT := tt_6 (List.mem_of_getElem? (i := 45) rfl) rfl
theorem cwX11_231_V : CwV RX11 231 RX11 yX11_takeTown cX11_takeTown 3 (some .int) 0 := ⟨mw6_42, mw6_44, ms3_12, mw1_13, mw6_45, ⟨by decide, by decide, by decide⟩⟩
theorem mw6_52 : Cond.methodLink RX11 234 yX11_takeMark ∈ TT := tt_6 (List.mem_of_getElem? (i := 52) (by decide +kernel)) (by decide +kernel)
theorem mw6_54 : Cond.instanceMethod yX11_takeMark ∈ TT := tt_6 (List.mem_of_getElem? (i := 54) (by decide +kernel)) (by decide +kernel)
theorem ms3_14 : Cond.selects RX11 yX11_takeMark yX11_takeMark ∈ TT := tp_sel (tp_3 (List.mem_of_getElem? (i := 14) (by decide +kernel) : ((yX11_takeMark, 58) : MethodName × Nat) ∈ lw_privs_3)) (by decide +kernel)
theorem mw6_55 : Cond.code yX11_takeMark cX11_takeMark 3 (some .int) ∈ TT := tt_6 (List.mem_of_getElem? (i := 55) rfl) rfl
theorem cwX11_234_V : CwV RX11 234 RX11 yX11_takeMark cX11_takeMark 3 (some .int) 1 := ⟨mw6_52, mw6_54, ms3_14, mw1_13, mw6_55, ⟨by decide, by decide, by decide⟩⟩
theorem mw6_64 : Cond.methodLink RX11 238 yX11_takeCrowd ∈ TT := tt_6 (List.mem_of_getElem? (i := 64) (by decide +kernel)) (by decide +kernel)
theorem mw6_66 : Cond.instanceMethod yX11_takeCrowd ∈ TT := tt_6 (List.mem_of_getElem? (i := 66) (by decide +kernel)) (by decide +kernel)
theorem ms4_1 : Cond.selects RX11 yX11_takeCrowd yX11_takeCrowd ∈ TT := tp_sel (tp_4 (List.mem_of_getElem? (i := 1) (by decide +kernel) : ((yX11_takeCrowd, 58) : MethodName × Nat) ∈ lw_privs_4)) (by decide +kernel)
theorem mw6_67 : Cond.code yX11_takeCrowd cX11_takeCrowd 3 (some .int) ∈ TT := tt_6 (List.mem_of_getElem? (i := 67) rfl) rfl
theorem cwX11_238_V : CwV RX11 238 RX11 yX11_takeCrowd cX11_takeCrowd 3 (some .int) 0 := ⟨mw6_64, mw6_66, ms4_1, mw1_13, mw6_67, ⟨by decide, by decide, by decide⟩⟩
theorem mw6_72 : Cond.methodLink RX11 241 yX11_takeTune ∈ TT := tt_6 (List.mem_of_getElem? (i := 72) (by decide +kernel)) (by decide +kernel)
theorem mw6_74 : Cond.instanceMethod yX11_takeTune ∈ TT := tt_6 (List.mem_of_getElem? (i := 74) (by decide +kernel)) (by decide +kernel)
theorem ms4_3 : Cond.selects RX11 yX11_takeTune yX11_takeTune ∈ TT := tp_sel (tp_4 (List.mem_of_getElem? (i := 3) (by decide +kernel) : ((yX11_takeTune, 58) : MethodName × Nat) ∈ lw_privs_4)) (by decide +kernel)
theorem mw6_75 : Cond.code yX11_takeTune cX11_takeTune 3 (some .int) ∈ TT := tt_6 (List.mem_of_getElem? (i := 75) rfl) rfl
theorem cwX11_241_V : CwV RX11 241 RX11 yX11_takeTune cX11_takeTune 3 (some .int) 0 := ⟨mw6_72, mw6_74, ms4_3, mw1_13, mw6_75, ⟨by decide, by decide, by decide⟩⟩
theorem mw6_76 : Cond.methodLink RX11 244 yX11_takePiper ∈ TT := tt_6 (List.mem_of_getElem? (i := 76) (by decide +kernel)) (by decide +kernel)
theorem mw6_78 : Cond.instanceMethod yX11_takePiper ∈ TT := tt_6 (List.mem_of_getElem? (i := 78) (by decide +kernel)) (by decide +kernel)
theorem ms4_4 : Cond.selects RX11 yX11_takePiper yX11_takePiper ∈ TT := tp_sel (tp_4 (List.mem_of_getElem? (i := 4) (by decide +kernel) : ((yX11_takePiper, 58) : MethodName × Nat) ∈ lw_privs_4)) (by decide +kernel)
theorem mw6_79 : Cond.code yX11_takePiper cX11_takePiper 2 (some .int) ∈ TT := tt_6 (List.mem_of_getElem? (i := 79) rfl) rfl
theorem cwX11_244_V : CwV RX11 244 RX11 yX11_takePiper cX11_takePiper 2 (some .int) 0 := ⟨mw6_76, mw6_78, ms4_4, mw1_13, mw6_79, ⟨by decide, by decide, by decide⟩⟩
theorem mw6_80 : Cond.methodLink RX11 247 yX11_takePay ∈ TT := tt_6 (List.mem_of_getElem? (i := 80) (by decide +kernel)) (by decide +kernel)
theorem mw6_82 : Cond.instanceMethod yX11_takePay ∈ TT := tt_6 (List.mem_of_getElem? (i := 82) (by decide +kernel)) (by decide +kernel)
theorem ms4_5 : Cond.selects RX11 yX11_takePay yX11_takePay ∈ TT := tp_sel (tp_4 (List.mem_of_getElem? (i := 5) (by decide +kernel) : ((yX11_takePay, 58) : MethodName × Nat) ∈ lw_privs_4)) (by decide +kernel)
theorem mw6_83 : Cond.code yX11_takePay cX11_takePay 2 (some .int) ∈ TT := tt_6 (List.mem_of_getElem? (i := 83) rfl) rfl
theorem cwX11_247_V : CwV RX11 247 RX11 yX11_takePay cX11_takePay 2 (some .int) 0 := ⟨mw6_80, mw6_82, ms4_5, mw1_13, mw6_83, ⟨by decide, by decide, by decide⟩⟩
theorem mw6_6 : Cond.methodLink RX11 250 yX11_clear ∈ TT := tt_6 (List.mem_of_getElem? (i := 6) (by decide +kernel)) (by decide +kernel)
theorem mw6_8 : Cond.instanceMethod yX11_clear ∈ TT := tt_6 (List.mem_of_getElem? (i := 8) (by decide +kernel)) (by decide +kernel)
theorem ms3_6 : Cond.selects RX11 yX11_clear yX11_clear ∈ TT := tp_sel (tp_3 (List.mem_of_getElem? (i := 6) (by decide +kernel) : ((yX11_clear, 58) : MethodName × Nat) ∈ lw_privs_3)) (by decide +kernel)
theorem mw6_9 : Cond.code yX11_clear cX11_clear 2 none ∈ TT := tt_6 (List.mem_of_getElem? (i := 9) rfl) rfl
theorem cwX11_250_V : CwV RX11 250 RX11 yX11_clear cX11_clear 2 none 0 := ⟨mw6_6, mw6_8, ms3_6, mw1_13, mw6_9, ⟨by decide, by decide, by decide⟩⟩
theorem mw6_14 : Cond.methodLink RX11 253 yX11_takeClause ∈ TT := tt_6 (List.mem_of_getElem? (i := 14) (by decide +kernel)) (by decide +kernel)
theorem mw6_16 : Cond.instanceMethod yX11_takeClause ∈ TT := tt_6 (List.mem_of_getElem? (i := 16) (by decide +kernel)) (by decide +kernel)
theorem ms3_8 : Cond.selects RX11 yX11_takeClause yX11_takeClause ∈ TT := tp_sel (tp_3 (List.mem_of_getElem? (i := 8) (by decide +kernel) : ((yX11_takeClause, 58) : MethodName × Nat) ∈ lw_privs_3)) (by decide +kernel)
theorem mw6_17 : Cond.code yX11_takeClause cX11_takeClause 4 (some .int) ∈ TT := tt_6 (List.mem_of_getElem? (i := 17) rfl) rfl
theorem cwX11_253_V : CwV RX11 253 RX11 yX11_takeClause cX11_takeClause 4 (some .int) 0 := ⟨mw6_14, mw6_16, ms3_8, mw1_13, mw6_17, ⟨by decide, by decide, by decide⟩⟩
theorem pfX11_118 {x : Ct} {cc : ByteArray} {nL cells slots pc n : Nat} {rm : Room} {w : Wv} {lv : List (Nat × Value)} {st : List Value} {v : Int32} (C : Cx x cc nL RX11 rm) (hn : (wK w)[n]? = some (11, .inl fX11)) (d : decode cc pc = .ok (.putfield 118, 3)) (kk : ∀ w', w' = setI w n 1 v → V x cells slots w' (pc + 3) lv st) : V x cells slots w pc lv (.int v :: .ref (gz (xG x) + n) :: st) := r_putI (k := 1) C hn rfl inX11 tyX11 tyX11_ok nmX11 (by decide) mw5_57 rfl rfl rfl rfl d kk
theorem pfX11_121 {x : Ct} {cc : ByteArray} {nL cells slots pc n : Nat} {rm : Room} {w : Wv} {lv : List (Nat × Value)} {st : List Value} {v : Int32} (C : Cx x cc nL RX11 rm) (hn : (wK w)[n]? = some (11, .inl fX11)) (d : decode cc pc = .ok (.putfield 121, 3)) (kk : ∀ w', w' = setI w n 3 v → V x cells slots w' (pc + 3) lv st) : V x cells slots w pc lv (.int v :: .ref (gz (xG x) + n) :: st) := r_putI (k := 3) C hn rfl inX11 tyX11 tyX11_ok nmX11 (by decide) mw5_59 rfl rfl rfl rfl d kk
theorem pfX11_124 {x : Ct} {cc : ByteArray} {nL cells slots pc n : Nat} {rm : Room} {w : Wv} {lv : List (Nat × Value)} {st : List Value} {v : Int32} (C : Cx x cc nL RX11 rm) (hn : (wK w)[n]? = some (11, .inl fX11)) (d : decode cc pc = .ok (.putfield 124, 3)) (kk : ∀ w', w' = setI w n 8 v → V x cells slots w' (pc + 3) lv st) : V x cells slots w pc lv (.int v :: .ref (gz (xG x) + n) :: st) := r_putI (k := 8) C hn rfl inX11 tyX11 tyX11_ok nmX11 (by decide) mw5_64 rfl rfl rfl rfl d kk
theorem gfX11_214 {x : Ct} {cc : ByteArray} {nL cells slots pc n : Nat} {rm : Room} {w : Wv} {lv : List (Nat × Value)} {st : List Value} {v : Int32} (C : Cx x cc nL RX11 rm) (hn : (wK w)[n]? = some (11, .inl fX11)) (hv : wI w n 42 = v) (d : decode cc pc = .ok (.getfield 214, 3)) (kk : V x cells slots w (pc + 3) lv (.int v :: st)) : V x cells slots w pc lv (.ref (gz (xG x) + n) :: st) := by subst hv; exact r_getI C hn rfl inX11 (by decide) mw5_98 rfl d kk
theorem gfX11_7 {x : Ct} {cc : ByteArray} {nL cells slots pc n : Nat} {rm : Room} {w : Wv} {lv : List (Nat × Value)} {st : List Value} (q : Nat) (C : Cx x cc nL RX11 rm) (hn : (wK w)[n]? = some (11, .inl fX11)) (hX : wX w n 2 = some q) (d : decode cc pc = .ok (.getfield 7, 3)) (kk : V x cells slots w (pc + 3) lv (.ref (gz (xG x) + q) :: st)) : V x cells slots w pc lv (.ref (gz (xG x) + n) :: st) := r_getX C hn rfl inX11 (by decide) mw5_58 rfl hX d kk
theorem gfX11_13 {x : Ct} {cc : ByteArray} {nL cells slots pc n : Nat} {rm : Room} {w : Wv} {lv : List (Nat × Value)} {st : List Value} (q : Nat) (C : Cx x cc nL RX11 rm) (hn : (wK w)[n]? = some (11, .inl fX11)) (hX : wX w n 4 = some q) (d : decode cc pc = .ok (.getfield 13, 3)) (kk : V x cells slots w (pc + 3) lv (.ref (gz (xG x) + q) :: st)) : V x cells slots w pc lv (.ref (gz (xG x) + n) :: st) := r_getX C hn rfl inX11 (by decide) mw5_60 rfl hX d kk
theorem gfX11_16 {x : Ct} {cc : ByteArray} {nL cells slots pc n : Nat} {rm : Room} {w : Wv} {lv : List (Nat × Value)} {st : List Value} (q : Nat) (C : Cx x cc nL RX11 rm) (hn : (wK w)[n]? = some (11, .inl fX11)) (hX : wX w n 5 = some q) (d : decode cc pc = .ok (.getfield 16, 3)) (kk : V x cells slots w (pc + 3) lv (.ref (gz (xG x) + q) :: st)) : V x cells slots w pc lv (.ref (gz (xG x) + n) :: st) := r_getX C hn rfl inX11 (by decide) mw5_61 rfl hX d kk
theorem gfX11_19 {x : Ct} {cc : ByteArray} {nL cells slots pc n : Nat} {rm : Room} {w : Wv} {lv : List (Nat × Value)} {st : List Value} (q : Nat) (C : Cx x cc nL RX11 rm) (hn : (wK w)[n]? = some (11, .inl fX11)) (hX : wX w n 6 = some q) (d : decode cc pc = .ok (.getfield 19, 3)) (kk : V x cells slots w (pc + 3) lv (.ref (gz (xG x) + q) :: st)) : V x cells slots w pc lv (.ref (gz (xG x) + n) :: st) := r_getX C hn rfl inX11 (by decide) mw5_62 rfl hX d kk
theorem gfX11_22 {x : Ct} {cc : ByteArray} {nL cells slots pc n : Nat} {rm : Room} {w : Wv} {lv : List (Nat × Value)} {st : List Value} (q : Nat) (C : Cx x cc nL RX11 rm) (hn : (wK w)[n]? = some (11, .inl fX11)) (hX : wX w n 7 = some q) (d : decode cc pc = .ok (.getfield 22, 3)) (kk : V x cells slots w (pc + 3) lv (.ref (gz (xG x) + q) :: st)) : V x cells slots w pc lv (.ref (gz (xG x) + n) :: st) := r_getX C hn rfl inX11 (by decide) mw5_63 rfl hX d kk
theorem gfX11_38 {x : Ct} {cc : ByteArray} {nL cells slots pc n : Nat} {rm : Room} {w : Wv} {lv : List (Nat × Value)} {st : List Value} (q : Nat) (C : Cx x cc nL RX11 rm) (hn : (wK w)[n]? = some (11, .inl fX11)) (hX : wX w n 14 = some q) (d : decode cc pc = .ok (.getfield 38, 3)) (kk : V x cells slots w (pc + 3) lv (.ref (gz (xG x) + q) :: st)) : V x cells slots w pc lv (.ref (gz (xG x) + n) :: st) := r_getX C hn rfl inX11 (by decide) mw5_70 rfl hX d kk
theorem gfX11_41 {x : Ct} {cc : ByteArray} {nL cells slots pc n : Nat} {rm : Room} {w : Wv} {lv : List (Nat × Value)} {st : List Value} (q : Nat) (C : Cx x cc nL RX11 rm) (hn : (wK w)[n]? = some (11, .inl fX11)) (hX : wX w n 15 = some q) (d : decode cc pc = .ok (.getfield 41, 3)) (kk : V x cells slots w (pc + 3) lv (.ref (gz (xG x) + q) :: st)) : V x cells slots w pc lv (.ref (gz (xG x) + n) :: st) := r_getX C hn rfl inX11 (by decide) mw5_71 rfl hX d kk
theorem gfX11_44 {x : Ct} {cc : ByteArray} {nL cells slots pc n : Nat} {rm : Room} {w : Wv} {lv : List (Nat × Value)} {st : List Value} (q : Nat) (C : Cx x cc nL RX11 rm) (hn : (wK w)[n]? = some (11, .inl fX11)) (hX : wX w n 16 = some q) (d : decode cc pc = .ok (.getfield 44, 3)) (kk : V x cells slots w (pc + 3) lv (.ref (gz (xG x) + q) :: st)) : V x cells slots w pc lv (.ref (gz (xG x) + n) :: st) := r_getX C hn rfl inX11 (by decide) mw5_72 rfl hX d kk
theorem gfX11_25 {x : Ct} {cc : ByteArray} {nL cells slots pc n : Nat} {rm : Room} {w : Wv} {lv : List (Nat × Value)} {st : List Value} (q : Nat) (C : Cx x cc nL RX11 rm) (hn : (wK w)[n]? = some (11, .inl fX11)) (hX : wX w n 9 = some q) (d : decode cc pc = .ok (.getfield 25, 3)) (kk : V x cells slots w (pc + 3) lv (.ref (gz (xG x) + q) :: st)) : V x cells slots w pc lv (.ref (gz (xG x) + n) :: st) := r_getX C hn rfl inX11 (by decide) mw5_65 rfl hX d kk
theorem gfX11_28 {x : Ct} {cc : ByteArray} {nL cells slots pc n : Nat} {rm : Room} {w : Wv} {lv : List (Nat × Value)} {st : List Value} (q : Nat) (C : Cx x cc nL RX11 rm) (hn : (wK w)[n]? = some (11, .inl fX11)) (hX : wX w n 10 = some q) (d : decode cc pc = .ok (.getfield 28, 3)) (kk : V x cells slots w (pc + 3) lv (.ref (gz (xG x) + q) :: st)) : V x cells slots w pc lv (.ref (gz (xG x) + n) :: st) := r_getX C hn rfl inX11 (by decide) mw5_66 rfl hX d kk
theorem mw6_84 : Cond.methodLink RX11 256 yX11_firstFree ∈ TT := tt_6 (List.mem_of_getElem? (i := 84) (by decide +kernel)) (by decide +kernel)
theorem mw6_86 : Cond.instanceMethod yX11_firstFree ∈ TT := tt_6 (List.mem_of_getElem? (i := 86) (by decide +kernel)) (by decide +kernel)
theorem ms4_6 : Cond.selects RX11 yX11_firstFree yX11_firstFree ∈ TT := tp_sel (tp_4 (List.mem_of_getElem? (i := 6) (by decide +kernel) : ((yX11_firstFree, 58) : MethodName × Nat) ∈ lw_privs_4)) (by decide +kernel)
theorem mw6_87 : Cond.code yX11_firstFree cX11_firstFree 2 (some .int) ∈ TT := tt_6 (List.mem_of_getElem? (i := 87) rfl) rfl
theorem cwX11_256_V : CwV RX11 256 RX11 yX11_firstFree cX11_firstFree 2 (some .int) 0 := ⟨mw6_84, mw6_86, ms4_6, mw1_13, mw6_87, ⟨by decide, by decide, by decide⟩⟩
theorem mw5_69 : Cond.fieldLink RX11 259 "HeardTunesModel" "piper" "I" ∈ TT := tt_5 (List.mem_of_getElem? (i := 69) (by decide +kernel)) (by decide +kernel)
theorem pfX11_259 {x : Ct} {cc : ByteArray} {nL cells slots pc n : Nat} {rm : Room} {w : Wv} {lv : List (Nat × Value)} {st : List Value} {v : Int32} (C : Cx x cc nL RX11 rm) (hn : (wK w)[n]? = some (11, .inl fX11)) (d : decode cc pc = .ok (.putfield 259, 3)) (kk : ∀ w', w' = setI w n 13 v → V x cells slots w' (pc + 3) lv st) : V x cells slots w pc lv (.int v :: .ref (gz (xG x) + n) :: st) := r_putI (k := 13) C hn rfl inX11 tyX11 tyX11_ok nmX11 (by decide) mw5_69 rfl rfl rfl rfl d kk
theorem mw5_73 : Cond.fieldLink RX11 262 "HeardTunesModel" "minutes" "I" ∈ TT := tt_5 (List.mem_of_getElem? (i := 73) (by decide +kernel)) (by decide +kernel)
theorem pfX11_262 {x : Ct} {cc : ByteArray} {nL cells slots pc n : Nat} {rm : Room} {w : Wv} {lv : List (Nat × Value)} {st : List Value} {v : Int32} (C : Cx x cc nL RX11 rm) (hn : (wK w)[n]? = some (11, .inl fX11)) (d : decode cc pc = .ok (.putfield 262, 3)) (kk : ∀ w', w' = setI w n 17 v → V x cells slots w' (pc + 3) lv st) : V x cells slots w pc lv (.int v :: .ref (gz (xG x) + n) :: st) := r_putI (k := 17) C hn rfl inX11 tyX11 tyX11_ok nmX11 (by decide) mw5_73 rfl rfl rfl rfl d kk
theorem mw5_105 : Cond.fieldLink RX11 265 "HeardTunesModel" "planned" "I" ∈ TT := tt_5 (List.mem_of_getElem? (i := 105) (by decide +kernel)) (by decide +kernel)
theorem pfX11_265 {x : Ct} {cc : ByteArray} {nL cells slots pc n : Nat} {rm : Room} {w : Wv} {lv : List (Nat × Value)} {st : List Value} {v : Int32} (C : Cx x cc nL RX11 rm) (hn : (wK w)[n]? = some (11, .inl fX11)) (d : decode cc pc = .ok (.putfield 265, 3)) (kk : ∀ w', w' = setI w n 49 v → V x cells slots w' (pc + 3) lv st) : V x cells slots w pc lv (.int v :: .ref (gz (xG x) + n) :: st) := r_putI (k := 49) C hn rfl inX11 tyX11 tyX11_ok nmX11 (by decide) mw5_105 rfl rfl rfl rfl d kk
theorem mw5_108 : Cond.fieldLink RX11 268 "HeardTunesModel" "sights" "I" ∈ TT := tt_5 (List.mem_of_getElem? (i := 108) (by decide +kernel)) (by decide +kernel)
theorem pfX11_268 {x : Ct} {cc : ByteArray} {nL cells slots pc n : Nat} {rm : Room} {w : Wv} {lv : List (Nat × Value)} {st : List Value} {v : Int32} (C : Cx x cc nL RX11 rm) (hn : (wK w)[n]? = some (11, .inl fX11)) (d : decode cc pc = .ok (.putfield 268, 3)) (kk : ∀ w', w' = setI w n 52 v → V x cells slots w' (pc + 3) lv st) : V x cells slots w pc lv (.int v :: .ref (gz (xG x) + n) :: st) := r_putI (k := 52) C hn rfl inX11 tyX11 tyX11_ok nmX11 (by decide) mw5_108 rfl rfl rfl rfl d kk
theorem gfX11_107 {x : Ct} {cc : ByteArray} {nL cells slots pc n : Nat} {rm : Room} {w : Wv} {lv : List (Nat × Value)} {st : List Value} (q : Nat) (C : Cx x cc nL RX11 rm) (hn : (wK w)[n]? = some (11, .inl fX11)) (hX : wX w n 57 = some q) (d : decode cc pc = .ok (.getfield 107, 3)) (kk : V x cells slots w (pc + 3) lv (.ref (gz (xG x) + q) :: st)) : V x cells slots w pc lv (.ref (gz (xG x) + n) :: st) := r_getX C hn rfl inX11 (by decide) mw5_113 rfl hX d kk
theorem mw6_88 : Cond.methodLink RX11 271 yX11_findFar ∈ TT := tt_6 (List.mem_of_getElem? (i := 88) (by decide +kernel)) (by decide +kernel)
theorem mw6_90 : Cond.instanceMethod yX11_findFar ∈ TT := tt_6 (List.mem_of_getElem? (i := 90) (by decide +kernel)) (by decide +kernel)
theorem ms4_7 : Cond.selects RX11 yX11_findFar yX11_findFar ∈ TT := tp_sel (tp_4 (List.mem_of_getElem? (i := 7) (by decide +kernel) : ((yX11_findFar, 58) : MethodName × Nat) ∈ lw_privs_4)) (by decide +kernel)
theorem mw6_91 : Cond.code yX11_findFar cX11_findFar 2 none ∈ TT := tt_6 (List.mem_of_getElem? (i := 91) rfl) rfl
theorem cwX11_271_V : CwV RX11 271 RX11 yX11_findFar cX11_findFar 2 none 0 := ⟨mw6_88, mw6_90, ms4_7, mw1_13, mw6_91, ⟨by decide, by decide, by decide⟩⟩
theorem gfX11_50 {x : Ct} {cc : ByteArray} {nL cells slots pc n : Nat} {rm : Room} {w : Wv} {lv : List (Nat × Value)} {st : List Value} {v : Int32} (C : Cx x cc nL RX11 rm) (hn : (wK w)[n]? = some (11, .inl fX11)) (hv : wI w n 21 = v) (d : decode cc pc = .ok (.getfield 50, 3)) (kk : V x cells slots w (pc + 3) lv (.int v :: st)) : V x cells slots w pc lv (.ref (gz (xG x) + n) :: st) := by subst hv; exact r_getI C hn rfl inX11 (by decide) mw5_77 rfl d kk
theorem mw6_100 : Cond.methodLink RX11 274 yX11_isCell ∈ TT := tt_6 (List.mem_of_getElem? (i := 100) (by decide +kernel)) (by decide +kernel)
theorem mw6_102 : Cond.instanceMethod yX11_isCell ∈ TT := tt_6 (List.mem_of_getElem? (i := 102) (by decide +kernel)) (by decide +kernel)
theorem ms4_10 : Cond.selects RX11 yX11_isCell yX11_isCell ∈ TT := tp_sel (tp_4 (List.mem_of_getElem? (i := 10) (by decide +kernel) : ((yX11_isCell, 58) : MethodName × Nat) ∈ lw_privs_4)) (by decide +kernel)
theorem mw6_103 : Cond.code yX11_isCell cX11_isCell 3 (some .boolean) ∈ TT := tt_6 (List.mem_of_getElem? (i := 103) rfl) rfl
theorem cwX11_274_V : CwV RX11 274 RX11 yX11_isCell cX11_isCell 3 (some .boolean) 2 := ⟨mw6_100, mw6_102, ms4_10, mw1_13, mw6_103, ⟨by decide, by decide, by decide⟩⟩
theorem gfX11_77 {x : Ct} {cc : ByteArray} {nL cells slots pc n : Nat} {rm : Room} {w : Wv} {lv : List (Nat × Value)} {st : List Value} (q : Nat) (C : Cx x cc nL RX11 rm) (hn : (wK w)[n]? = some (11, .inl fX11)) (hX : wX w n 44 = some q) (d : decode cc pc = .ok (.getfield 77, 3)) (kk : V x cells slots w (pc + 3) lv (.ref (gz (xG x) + q) :: st)) : V x cells slots w pc lv (.ref (gz (xG x) + n) :: st) := r_getX C hn rfl inX11 (by decide) mw5_100 rfl hX d kk
theorem mw6_96 : Cond.methodLink RX11 278 yX11_beside ∈ TT := tt_6 (List.mem_of_getElem? (i := 96) (by decide +kernel)) (by decide +kernel)
theorem mw6_98 : Cond.instanceMethod yX11_beside ∈ TT := tt_6 (List.mem_of_getElem? (i := 98) (by decide +kernel)) (by decide +kernel)
theorem ms4_9 : Cond.selects RX11 yX11_beside yX11_beside ∈ TT := tp_sel (tp_4 (List.mem_of_getElem? (i := 9) (by decide +kernel) : ((yX11_beside, 58) : MethodName × Nat) ∈ lw_privs_4)) (by decide +kernel)
theorem mw6_99 : Cond.code yX11_beside cX11_beside 5 (some .int) ∈ TT := tt_6 (List.mem_of_getElem? (i := 99) rfl) rfl
theorem cwX11_278_V : CwV RX11 278 RX11 yX11_beside cX11_beside 5 (some .int) 2 := ⟨mw6_96, mw6_98, ms4_9, mw1_13, mw6_99, ⟨by decide, by decide, by decide⟩⟩
theorem mw6_92 : Cond.methodLink RX11 281 yX11_findFarTo ∈ TT := tt_6 (List.mem_of_getElem? (i := 92) (by decide +kernel)) (by decide +kernel)
theorem mw6_94 : Cond.instanceMethod yX11_findFarTo ∈ TT := tt_6 (List.mem_of_getElem? (i := 94) (by decide +kernel)) (by decide +kernel)
theorem ms4_8 : Cond.selects RX11 yX11_findFarTo yX11_findFarTo ∈ TT := tp_sel (tp_4 (List.mem_of_getElem? (i := 8) (by decide +kernel) : ((yX11_findFarTo, 58) : MethodName × Nat) ∈ lw_privs_4)) (by decide +kernel)
theorem mw6_95 : Cond.code yX11_findFarTo cX11_findFarTo 6 none ∈ TT := tt_6 (List.mem_of_getElem? (i := 95) rfl) rfl
theorem cwX11_281_V : CwV RX11 281 RX11 yX11_findFarTo cX11_findFarTo 6 none 1 := ⟨mw6_92, mw6_94, ms4_8, mw1_13, mw6_95, ⟨by decide, by decide, by decide⟩⟩
theorem mw6_112 : Cond.constant RX11 285 (-1000000001) ∈ TT := tt_6 (List.mem_of_getElem? (i := 112) (by decide +kernel)) (by decide +kernel)
theorem mw6_125 : Cond.methodLink RX11 286 yX11_followers ∈ TT := tt_6 (List.mem_of_getElem? (i := 125) (by decide +kernel)) (by decide +kernel)
theorem mw6_127 : Cond.instanceMethod yX11_followers ∈ TT := tt_6 (List.mem_of_getElem? (i := 127) (by decide +kernel)) (by decide +kernel)
theorem ms4_13 : Cond.selects RX11 yX11_followers yX11_followers ∈ TT := tp_sel (tp_4 (List.mem_of_getElem? (i := 13) (by decide +kernel) : ((yX11_followers, 58) : MethodName × Nat) ∈ lw_privs_4)) (by decide +kernel)
theorem mw6_128 : Cond.code yX11_followers cX11_followers 2 (some .int) ∈ TT := tt_6 (List.mem_of_getElem? (i := 128) rfl) rfl
theorem cwX11_286_V : CwV RX11 286 RX11 yX11_followers cX11_followers 2 (some .int) 1 := ⟨mw6_125, mw6_127, ms4_13, mw1_13, mw6_128, ⟨by decide, by decide, by decide⟩⟩
theorem gfX11_31 {x : Ct} {cc : ByteArray} {nL cells slots pc n : Nat} {rm : Room} {w : Wv} {lv : List (Nat × Value)} {st : List Value} {v : Int32} (C : Cx x cc nL RX11 rm) (hn : (wK w)[n]? = some (11, .inl fX11)) (hv : wI w n 11 = v) (d : decode cc pc = .ok (.getfield 31, 3)) (kk : V x cells slots w (pc + 3) lv (.int v :: st)) : V x cells slots w pc lv (.ref (gz (xG x) + n) :: st) := by subst hv; exact r_getI C hn rfl inX11 (by decide) mw5_67 rfl d kk
theorem mw6_121 : Cond.methodLink RX11 289 yX11_headsBy ∈ TT := tt_6 (List.mem_of_getElem? (i := 121) (by decide +kernel)) (by decide +kernel)
theorem mw6_123 : Cond.instanceMethod yX11_headsBy ∈ TT := tt_6 (List.mem_of_getElem? (i := 123) (by decide +kernel)) (by decide +kernel)
theorem ms4_12 : Cond.selects RX11 yX11_headsBy yX11_headsBy ∈ TT := tp_sel (tp_4 (List.mem_of_getElem? (i := 12) (by decide +kernel) : ((yX11_headsBy, 58) : MethodName × Nat) ∈ lw_privs_4)) (by decide +kernel)
theorem mw6_124 : Cond.code yX11_headsBy cX11_headsBy 5 (some .int) ∈ TT := tt_6 (List.mem_of_getElem? (i := 124) rfl) rfl
theorem cwX11_289_V : CwV RX11 289 RX11 yX11_headsBy cX11_headsBy 5 (some .int) 2 := ⟨mw6_121, mw6_123, ms4_12, mw1_13, mw6_124, ⟨by decide, by decide, by decide⟩⟩
theorem gfX11_35 {x : Ct} {cc : ByteArray} {nL cells slots pc n : Nat} {rm : Room} {w : Wv} {lv : List (Nat × Value)} {st : List Value} {v : Int32} (C : Cx x cc nL RX11 rm) (hn : (wK w)[n]? = some (11, .inl fX11)) (hv : wI w n 12 = v) (d : decode cc pc = .ok (.getfield 35, 3)) (kk : V x cells slots w (pc + 3) lv (.int v :: st)) : V x cells slots w pc lv (.ref (gz (xG x) + n) :: st) := by subst hv; exact r_getI C hn rfl inX11 (by decide) mw5_68 rfl d kk
theorem gfX11_262 {x : Ct} {cc : ByteArray} {nL cells slots pc n : Nat} {rm : Room} {w : Wv} {lv : List (Nat × Value)} {st : List Value} {v : Int32} (C : Cx x cc nL RX11 rm) (hn : (wK w)[n]? = some (11, .inl fX11)) (hv : wI w n 17 = v) (d : decode cc pc = .ok (.getfield 262, 3)) (kk : V x cells slots w (pc + 3) lv (.int v :: st)) : V x cells slots w pc lv (.ref (gz (xG x) + n) :: st) := by subst hv; exact r_getI C hn rfl inX11 (by decide) mw5_73 rfl d kk
theorem gfX11_259 {x : Ct} {cc : ByteArray} {nL cells slots pc n : Nat} {rm : Room} {w : Wv} {lv : List (Nat × Value)} {st : List Value} {v : Int32} (C : Cx x cc nL RX11 rm) (hn : (wK w)[n]? = some (11, .inl fX11)) (hv : wI w n 13 = v) (d : decode cc pc = .ok (.getfield 259, 3)) (kk : V x cells slots w (pc + 3) lv (.int v :: st)) : V x cells slots w pc lv (.ref (gz (xG x) + n) :: st) := by subst hv; exact r_getI C hn rfl inX11 (by decide) mw5_69 rfl d kk
theorem mw6_117 : Cond.methodLink RX11 292 yX11_told10 ∈ TT := tt_6 (List.mem_of_getElem? (i := 117) (by decide +kernel)) (by decide +kernel)
theorem mw6_119 : Cond.instanceMethod yX11_told10 ∈ TT := tt_6 (List.mem_of_getElem? (i := 119) (by decide +kernel)) (by decide +kernel)
theorem ms4_11 : Cond.selects RX11 yX11_told10 yX11_told10 ∈ TT := tp_sel (tp_4 (List.mem_of_getElem? (i := 11) (by decide +kernel) : ((yX11_told10, 58) : MethodName × Nat) ∈ lw_privs_4)) (by decide +kernel)
theorem mw6_120 : Cond.code yX11_told10 cX11_told10 2 (some .int) ∈ TT := tt_6 (List.mem_of_getElem? (i := 120) rfl) rfl
theorem cwX11_292_V : CwV RX11 292 RX11 yX11_told10 cX11_told10 2 (some .int) 1 := ⟨mw6_117, mw6_119, ms4_11, mw1_13, mw6_120, ⟨by decide, by decide, by decide⟩⟩
theorem mw6_129 : Cond.methodLink RX11 295 yX11_allHeads ∈ TT := tt_6 (List.mem_of_getElem? (i := 129) (by decide +kernel)) (by decide +kernel)
theorem mw6_131 : Cond.instanceMethod yX11_allHeads ∈ TT := tt_6 (List.mem_of_getElem? (i := 131) (by decide +kernel)) (by decide +kernel)
theorem ms4_14 : Cond.selects RX11 yX11_allHeads yX11_allHeads ∈ TT := tp_sel (tp_4 (List.mem_of_getElem? (i := 14) (by decide +kernel) : ((yX11_allHeads, 58) : MethodName × Nat) ∈ lw_privs_4)) (by decide +kernel)
theorem mw6_132 : Cond.code yX11_allHeads cX11_allHeads 3 (some .int) ∈ TT := tt_6 (List.mem_of_getElem? (i := 132) rfl) rfl
theorem cwX11_295_V : CwV RX11 295 RX11 yX11_allHeads cX11_allHeads 3 (some .int) 0 := ⟨mw6_129, mw6_131, ms4_14, mw1_13, mw6_132, ⟨by decide, by decide, by decide⟩⟩
theorem mw6_133 : Cond.methodLink RX11 298 yX11_worth ∈ TT := tt_6 (List.mem_of_getElem? (i := 133) (by decide +kernel)) (by decide +kernel)
theorem mw6_135 : Cond.instanceMethod yX11_worth ∈ TT := tt_6 (List.mem_of_getElem? (i := 135) (by decide +kernel)) (by decide +kernel)
theorem ms4_15 : Cond.selects RX11 yX11_worth yX11_worth ∈ TT := tp_sel (tp_4 (List.mem_of_getElem? (i := 15) (by decide +kernel) : ((yX11_worth, 58) : MethodName × Nat) ∈ lw_privs_4)) (by decide +kernel)
theorem mw6_136 : Cond.code yX11_worth cX11_worth 1 (some .int) ∈ TT := tt_6 (List.mem_of_getElem? (i := 136) rfl) rfl
theorem cwX11_298_V : CwV RX11 298 RX11 yX11_worth cX11_worth 1 (some .int) 0 := ⟨mw6_133, mw6_135, ms4_15, mw1_13, mw6_136, ⟨by decide, by decide, by decide⟩⟩
theorem gfX11_265 {x : Ct} {cc : ByteArray} {nL cells slots pc n : Nat} {rm : Room} {w : Wv} {lv : List (Nat × Value)} {st : List Value} {v : Int32} (C : Cx x cc nL RX11 rm) (hn : (wK w)[n]? = some (11, .inl fX11)) (hv : wI w n 49 = v) (d : decode cc pc = .ok (.getfield 265, 3)) (kk : V x cells slots w (pc + 3) lv (.int v :: st)) : V x cells slots w pc lv (.ref (gz (xG x) + n) :: st) := by subst hv; exact r_getI C hn rfl inX11 (by decide) mw5_105 rfl d kk
theorem gfX11_268 {x : Ct} {cc : ByteArray} {nL cells slots pc n : Nat} {rm : Room} {w : Wv} {lv : List (Nat × Value)} {st : List Value} {v : Int32} (C : Cx x cc nL RX11 rm) (hn : (wK w)[n]? = some (11, .inl fX11)) (hv : wI w n 52 = v) (d : decode cc pc = .ok (.getfield 268, 3)) (kk : V x cells slots w (pc + 3) lv (.int v :: st)) : V x cells slots w pc lv (.ref (gz (xG x) + n) :: st) := by subst hv; exact r_getI C hn rfl inX11 (by decide) mw5_108 rfl d kk
theorem mw6_145 : Cond.methodLink RX11 301 yX11_isCrowd ∈ TT := tt_6 (List.mem_of_getElem? (i := 145) (by decide +kernel)) (by decide +kernel)
theorem mw6_147 : Cond.instanceMethod yX11_isCrowd ∈ TT := tt_6 (List.mem_of_getElem? (i := 147) (by decide +kernel)) (by decide +kernel)
theorem ms5_0 : Cond.selects RX11 yX11_isCrowd yX11_isCrowd ∈ TT := tp_sel (tp_5 (List.mem_of_getElem? (i := 0) (by decide +kernel) : ((yX11_isCrowd, 58) : MethodName × Nat) ∈ lw_privs_5)) (by decide +kernel)
theorem mw6_148 : Cond.code yX11_isCrowd cX11_isCrowd 2 (some .boolean) ∈ TT := tt_6 (List.mem_of_getElem? (i := 148) rfl) rfl
theorem cwX11_301_V : CwV RX11 301 RX11 yX11_isCrowd cX11_isCrowd 2 (some .boolean) 1 := ⟨mw6_145, mw6_147, ms5_0, mw1_13, mw6_148, ⟨by decide, by decide, by decide⟩⟩
theorem mw6_161 : Cond.methodLink RX11 304 yX11_isHere ∈ TT := tt_6 (List.mem_of_getElem? (i := 161) (by decide +kernel)) (by decide +kernel)
theorem mw6_163 : Cond.instanceMethod yX11_isHere ∈ TT := tt_6 (List.mem_of_getElem? (i := 163) (by decide +kernel)) (by decide +kernel)
theorem ms5_3 : Cond.selects RX11 yX11_isHere yX11_isHere ∈ TT := tp_sel (tp_5 (List.mem_of_getElem? (i := 3) (by decide +kernel) : ((yX11_isHere, 58) : MethodName × Nat) ∈ lw_privs_5)) (by decide +kernel)
theorem mw6_164 : Cond.code yX11_isHere cX11_isHere 2 (some .boolean) ∈ TT := tt_6 (List.mem_of_getElem? (i := 164) rfl) rfl
theorem cwX11_304_V : CwV RX11 304 RX11 yX11_isHere cX11_isHere 2 (some .boolean) 1 := ⟨mw6_161, mw6_163, ms5_3, mw1_13, mw6_164, ⟨by decide, by decide, by decide⟩⟩
theorem mw6_165 : Cond.methodLink RX11 307 yX11_has ∈ TT := tt_6 (List.mem_of_getElem? (i := 165) (by decide +kernel)) (by decide +kernel)
theorem mw6_166 : Cond.static yX11_has ∈ TT := tt_6 (List.mem_of_getElem? (i := 166) (by decide +kernel)) (by decide +kernel)
theorem mw6_167 : Cond.code yX11_has cX11_has 2 (some .boolean) ∈ TT := tt_6 (List.mem_of_getElem? (i := 167) rfl) rfl
theorem cwX11_307_S : CwS RX11 307 yX11_has cX11_has 2 (some .boolean) 2 := ⟨mw6_165, mw6_166, mw1_13, mw6_167, ⟨by decide, by decide, by decide⟩⟩
theorem mw6_153 : Cond.methodLink RX11 310 yX11_isTune ∈ TT := tt_6 (List.mem_of_getElem? (i := 153) (by decide +kernel)) (by decide +kernel)
theorem mw6_155 : Cond.instanceMethod yX11_isTune ∈ TT := tt_6 (List.mem_of_getElem? (i := 155) (by decide +kernel)) (by decide +kernel)
theorem ms5_1 : Cond.selects RX11 yX11_isTune yX11_isTune ∈ TT := tp_sel (tp_5 (List.mem_of_getElem? (i := 1) (by decide +kernel) : ((yX11_isTune, 58) : MethodName × Nat) ∈ lw_privs_5)) (by decide +kernel)
theorem mw6_156 : Cond.code yX11_isTune cX11_isTune 2 (some .boolean) ∈ TT := tt_6 (List.mem_of_getElem? (i := 156) rfl) rfl
theorem cwX11_310_V : CwV RX11 310 RX11 yX11_isTune cX11_isTune 2 (some .boolean) 1 := ⟨mw6_153, mw6_155, ms5_1, mw1_13, mw6_156, ⟨by decide, by decide, by decide⟩⟩
theorem mw6_157 : Cond.methodLink RX11 313 yX11_hears ∈ TT := tt_6 (List.mem_of_getElem? (i := 157) (by decide +kernel)) (by decide +kernel)
theorem mw6_159 : Cond.instanceMethod yX11_hears ∈ TT := tt_6 (List.mem_of_getElem? (i := 159) (by decide +kernel)) (by decide +kernel)
theorem ms5_2 : Cond.selects RX11 yX11_hears yX11_hears ∈ TT := tp_sel (tp_5 (List.mem_of_getElem? (i := 2) (by decide +kernel) : ((yX11_hears, 58) : MethodName × Nat) ∈ lw_privs_5)) (by decide +kernel)
theorem mw6_160 : Cond.code yX11_hears cX11_hears 3 (some .boolean) ∈ TT := tt_6 (List.mem_of_getElem? (i := 160) rfl) rfl
theorem cwX11_313_V : CwV RX11 313 RX11 yX11_hears cX11_hears 3 (some .boolean) 2 := ⟨mw6_157, mw6_159, ms5_2, mw1_13, mw6_160, ⟨by decide, by decide, by decide⟩⟩
theorem mw6_185 : Cond.methodLink RX11 316 yX11_stepOn ∈ TT := tt_6 (List.mem_of_getElem? (i := 185) (by decide +kernel)) (by decide +kernel)
theorem mw6_187 : Cond.instanceMethod yX11_stepOn ∈ TT := tt_6 (List.mem_of_getElem? (i := 187) (by decide +kernel)) (by decide +kernel)
theorem ms5_7 : Cond.selects RX11 yX11_stepOn yX11_stepOn ∈ TT := tp_sel (tp_5 (List.mem_of_getElem? (i := 7) (by decide +kernel) : ((yX11_stepOn, 58) : MethodName × Nat) ∈ lw_privs_5)) (by decide +kernel)
theorem mw6_188 : Cond.code yX11_stepOn cX11_stepOn 4 none ∈ TT := tt_6 (List.mem_of_getElem? (i := 188) rfl) rfl
theorem cwX11_316_V : CwV RX11 316 RX11 yX11_stepOn cX11_stepOn 4 none 1 := ⟨mw6_185, mw6_187, ms5_7, mw1_13, mw6_188, ⟨by decide, by decide, by decide⟩⟩
theorem mw6_177 : Cond.methodLink RX11 319 yX11_stepTo ∈ TT := tt_6 (List.mem_of_getElem? (i := 177) (by decide +kernel)) (by decide +kernel)
theorem mw6_179 : Cond.instanceMethod yX11_stepTo ∈ TT := tt_6 (List.mem_of_getElem? (i := 179) (by decide +kernel)) (by decide +kernel)
theorem ms5_5 : Cond.selects RX11 yX11_stepTo yX11_stepTo ∈ TT := tp_sel (tp_5 (List.mem_of_getElem? (i := 5) (by decide +kernel) : ((yX11_stepTo, 58) : MethodName × Nat) ∈ lw_privs_5)) (by decide +kernel)
theorem mw6_180 : Cond.code yX11_stepTo cX11_stepTo 3 (some .int) ∈ TT := tt_6 (List.mem_of_getElem? (i := 180) rfl) rfl
theorem cwX11_319_V : CwV RX11 319 RX11 yX11_stepTo cX11_stepTo 3 (some .int) 1 := ⟨mw6_177, mw6_179, ms5_5, mw1_13, mw6_180, ⟨by decide, by decide, by decide⟩⟩
theorem mw6_181 : Cond.methodLink RX11 322 yX11_walkOn ∈ TT := tt_6 (List.mem_of_getElem? (i := 181) (by decide +kernel)) (by decide +kernel)
theorem mw6_183 : Cond.instanceMethod yX11_walkOn ∈ TT := tt_6 (List.mem_of_getElem? (i := 183) (by decide +kernel)) (by decide +kernel)
theorem ms5_6 : Cond.selects RX11 yX11_walkOn yX11_walkOn ∈ TT := tp_sel (tp_5 (List.mem_of_getElem? (i := 6) (by decide +kernel) : ((yX11_walkOn, 58) : MethodName × Nat) ∈ lw_privs_5)) (by decide +kernel)
theorem mw6_184 : Cond.code yX11_walkOn cX11_walkOn 3 none ∈ TT := tt_6 (List.mem_of_getElem? (i := 184) rfl) rfl
theorem cwX11_322_V : CwV RX11 322 RX11 yX11_walkOn cX11_walkOn 3 none 1 := ⟨mw6_181, mw6_183, ms5_6, mw1_13, mw6_184, ⟨by decide, by decide, by decide⟩⟩
theorem mw6_172 : Cond.constantLong RX11 325 (4) ∈ TT := tt_6 (List.mem_of_getElem? (i := 172) (by decide +kernel)) (by decide +kernel)
theorem mw6_173 : Cond.methodLink RX11 327 yX11_minuteBy ∈ TT := tt_6 (List.mem_of_getElem? (i := 173) (by decide +kernel)) (by decide +kernel)
theorem mw6_175 : Cond.instanceMethod yX11_minuteBy ∈ TT := tt_6 (List.mem_of_getElem? (i := 175) (by decide +kernel)) (by decide +kernel)
theorem ms5_4 : Cond.selects RX11 yX11_minuteBy yX11_minuteBy ∈ TT := tp_sel (tp_5 (List.mem_of_getElem? (i := 4) (by decide +kernel) : ((yX11_minuteBy, 58) : MethodName × Nat) ∈ lw_privs_5)) (by decide +kernel)
theorem mw6_176 : Cond.code yX11_minuteBy cX11_minuteBy 5 (some .boolean) ∈ TT := tt_6 (List.mem_of_getElem? (i := 176) rfl) rfl
theorem cwX11_327_V : CwV RX11 327 RX11 yX11_minuteBy cX11_minuteBy 5 (some .boolean) 2 := ⟨mw6_173, mw6_175, ms5_4, mw1_13, mw6_176, ⟨by decide, by decide, by decide⟩⟩
theorem mw6_189 : Cond.constant RX11 330 (-1000000003) ∈ TT := tt_6 (List.mem_of_getElem? (i := 189) (by decide +kernel)) (by decide +kernel)
theorem mw6_194 : Cond.methodLink RX11 331 yX11_isSomebody ∈ TT := tt_6 (List.mem_of_getElem? (i := 194) (by decide +kernel)) (by decide +kernel)
theorem mw6_196 : Cond.instanceMethod yX11_isSomebody ∈ TT := tt_6 (List.mem_of_getElem? (i := 196) (by decide +kernel)) (by decide +kernel)
theorem ms5_8 : Cond.selects RX11 yX11_isSomebody yX11_isSomebody ∈ TT := tp_sel (tp_5 (List.mem_of_getElem? (i := 8) (by decide +kernel) : ((yX11_isSomebody, 58) : MethodName × Nat) ∈ lw_privs_5)) (by decide +kernel)
theorem mw6_197 : Cond.code yX11_isSomebody cX11_isSomebody 4 (some .boolean) ∈ TT := tt_6 (List.mem_of_getElem? (i := 197) rfl) rfl
theorem cwX11_331_V : CwV RX11 331 RX11 yX11_isSomebody cX11_isSomebody 4 (some .boolean) 1 := ⟨mw6_194, mw6_196, ms5_8, mw1_13, mw6_197, ⟨by decide, by decide, by decide⟩⟩
theorem mw5_74 : Cond.fieldLink RX11 334 "HeardTunesModel" "seed" "I" ∈ TT := tt_5 (List.mem_of_getElem? (i := 74) (by decide +kernel)) (by decide +kernel)
theorem gfX11_334 {x : Ct} {cc : ByteArray} {nL cells slots pc n : Nat} {rm : Room} {w : Wv} {lv : List (Nat × Value)} {st : List Value} {v : Int32} (C : Cx x cc nL RX11 rm) (hn : (wK w)[n]? = some (11, .inl fX11)) (hv : wI w n 18 = v) (d : decode cc pc = .ok (.getfield 334, 3)) (kk : V x cells slots w (pc + 3) lv (.int v :: st)) : V x cells slots w pc lv (.ref (gz (xG x) + n) :: st) := by subst hv; exact r_getI C hn rfl inX11 (by decide) mw5_74 rfl d kk
theorem mw6_207 : Cond.constantLong RX11 337 (1103515245) ∈ TT := tt_6 (List.mem_of_getElem? (i := 207) (by decide +kernel)) (by decide +kernel)
theorem mw6_208 : Cond.constantLong RX11 339 (12345) ∈ TT := tt_6 (List.mem_of_getElem? (i := 208) (by decide +kernel)) (by decide +kernel)
theorem mw6_209 : Cond.constantLong RX11 341 (2147483648) ∈ TT := tt_6 (List.mem_of_getElem? (i := 209) (by decide +kernel)) (by decide +kernel)
theorem pfX11_334 {x : Ct} {cc : ByteArray} {nL cells slots pc n : Nat} {rm : Room} {w : Wv} {lv : List (Nat × Value)} {st : List Value} {v : Int32} (C : Cx x cc nL RX11 rm) (hn : (wK w)[n]? = some (11, .inl fX11)) (d : decode cc pc = .ok (.putfield 334, 3)) (kk : ∀ w', w' = setI w n 18 v → V x cells slots w' (pc + 3) lv st) : V x cells slots w pc lv (.int v :: .ref (gz (xG x) + n) :: st) := r_putI (k := 18) C hn rfl inX11 tyX11 tyX11_ok nmX11 (by decide) mw5_74 rfl rfl rfl rfl d kk
theorem mw6_210 : Cond.constant RX11 343 (65536) ∈ TT := tt_6 (List.mem_of_getElem? (i := 210) (by decide +kernel)) (by decide +kernel)
theorem mw6_202 : Cond.constantLong RX11 344 (99) ∈ TT := tt_6 (List.mem_of_getElem? (i := 202) (by decide +kernel)) (by decide +kernel)
theorem mw6_203 : Cond.methodLink RX11 346 yX11_draw ∈ TT := tt_6 (List.mem_of_getElem? (i := 203) (by decide +kernel)) (by decide +kernel)
theorem mw6_205 : Cond.instanceMethod yX11_draw ∈ TT := tt_6 (List.mem_of_getElem? (i := 205) (by decide +kernel)) (by decide +kernel)
theorem ms5_9 : Cond.selects RX11 yX11_draw yX11_draw ∈ TT := tp_sel (tp_5 (List.mem_of_getElem? (i := 9) (by decide +kernel) : ((yX11_draw, 58) : MethodName × Nat) ∈ lw_privs_5)) (by decide +kernel)
theorem mw6_206 : Cond.code yX11_draw cX11_draw 2 (some .int) ∈ TT := tt_6 (List.mem_of_getElem? (i := 206) rfl) rfl
theorem cwX11_346_V : CwV RX11 346 RX11 yX11_draw cX11_draw 2 (some .int) 1 := ⟨mw6_203, mw6_205, ms5_9, mw1_13, mw6_206, ⟨by decide, by decide, by decide⟩⟩
theorem mw6_211 : Cond.methodLink RX11 349 yX11_told ∈ TT := tt_6 (List.mem_of_getElem? (i := 211) (by decide +kernel)) (by decide +kernel)
theorem mw6_114 : Cond.instanceMethod yX11_told ∈ TT := tt_6 (List.mem_of_getElem? (i := 114) (by decide +kernel)) (by decide +kernel)
theorem mw6_115 : Cond.selects RX11 yX11_told yX11_told ∈ TT := tt_6 (List.mem_of_getElem? (i := 115) (by decide +kernel)) (by decide +kernel)
theorem mw6_116 : Cond.code yX11_told cX11_told 2 (some .int) ∈ TT := tt_6 (List.mem_of_getElem? (i := 116) rfl) rfl
theorem cwX11_349_V : CwV RX11 349 RX11 yX11_told cX11_told 2 (some .int) 1 := ⟨mw6_211, mw6_114, mw6_115, mw1_13, mw6_116, ⟨by decide, by decide, by decide⟩⟩
theorem mw5_101 : Cond.fieldLink RX11 352 "HeardTunesModel" "wasPiper" "I" ∈ TT := tt_5 (List.mem_of_getElem? (i := 101) (by decide +kernel)) (by decide +kernel)
theorem pfX11_352 {x : Ct} {cc : ByteArray} {nL cells slots pc n : Nat} {rm : Room} {w : Wv} {lv : List (Nat × Value)} {st : List Value} {v : Int32} (C : Cx x cc nL RX11 rm) (hn : (wK w)[n]? = some (11, .inl fX11)) (d : decode cc pc = .ok (.putfield 352, 3)) (kk : ∀ w', w' = setI w n 45 v → V x cells slots w' (pc + 3) lv st) : V x cells slots w pc lv (.int v :: .ref (gz (xG x) + n) :: st) := r_putI (k := 45) C hn rfl inX11 tyX11 tyX11_ok nmX11 (by decide) mw5_101 rfl rfl rfl rfl d kk
theorem gfX11_80 {x : Ct} {cc : ByteArray} {nL cells slots pc n : Nat} {rm : Room} {w : Wv} {lv : List (Nat × Value)} {st : List Value} (q : Nat) (C : Cx x cc nL RX11 rm) (hn : (wK w)[n]? = some (11, .inl fX11)) (hX : wX w n 46 = some q) (d : decode cc pc = .ok (.getfield 80, 3)) (kk : V x cells slots w (pc + 3) lv (.ref (gz (xG x) + q) :: st)) : V x cells slots w pc lv (.ref (gz (xG x) + n) :: st) := r_getX C hn rfl inX11 (by decide) mw5_102 rfl hX d kk
theorem gfX11_83 {x : Ct} {cc : ByteArray} {nL cells slots pc n : Nat} {rm : Room} {w : Wv} {lv : List (Nat × Value)} {st : List Value} (q : Nat) (C : Cx x cc nL RX11 rm) (hn : (wK w)[n]? = some (11, .inl fX11)) (hX : wX w n 47 = some q) (d : decode cc pc = .ok (.getfield 83, 3)) (kk : V x cells slots w (pc + 3) lv (.ref (gz (xG x) + q) :: st)) : V x cells slots w pc lv (.ref (gz (xG x) + n) :: st) := r_getX C hn rfl inX11 (by decide) mw5_103 rfl hX d kk
theorem gfX11_86 {x : Ct} {cc : ByteArray} {nL cells slots pc n : Nat} {rm : Room} {w : Wv} {lv : List (Nat × Value)} {st : List Value} (q : Nat) (C : Cx x cc nL RX11 rm) (hn : (wK w)[n]? = some (11, .inl fX11)) (hX : wX w n 48 = some q) (d : decode cc pc = .ok (.getfield 86, 3)) (kk : V x cells slots w (pc + 3) lv (.ref (gz (xG x) + q) :: st)) : V x cells slots w pc lv (.ref (gz (xG x) + n) :: st) := r_getX C hn rfl inX11 (by decide) mw5_104 rfl hX d kk
theorem gfX11_352 {x : Ct} {cc : ByteArray} {nL cells slots pc n : Nat} {rm : Room} {w : Wv} {lv : List (Nat × Value)} {st : List Value} {v : Int32} (C : Cx x cc nL RX11 rm) (hn : (wK w)[n]? = some (11, .inl fX11)) (hv : wI w n 45 = v) (d : decode cc pc = .ok (.getfield 352, 3)) (kk : V x cells slots w (pc + 3) lv (.int v :: st)) : V x cells slots w pc lv (.ref (gz (xG x) + n) :: st) := by subst hv; exact r_getI C hn rfl inX11 (by decide) mw5_101 rfl d kk
theorem gfX11_89 {x : Ct} {cc : ByteArray} {nL cells slots pc n : Nat} {rm : Room} {w : Wv} {lv : List (Nat × Value)} {st : List Value} (q : Nat) (C : Cx x cc nL RX11 rm) (hn : (wK w)[n]? = some (11, .inl fX11)) (hX : wX w n 50 = some q) (d : decode cc pc = .ok (.getfield 89, 3)) (kk : V x cells slots w (pc + 3) lv (.ref (gz (xG x) + q) :: st)) : V x cells slots w pc lv (.ref (gz (xG x) + n) :: st) := r_getX C hn rfl inX11 (by decide) mw5_106 rfl hX d kk
theorem gfX11_92 {x : Ct} {cc : ByteArray} {nL cells slots pc n : Nat} {rm : Room} {w : Wv} {lv : List (Nat × Value)} {st : List Value} (q : Nat) (C : Cx x cc nL RX11 rm) (hn : (wK w)[n]? = some (11, .inl fX11)) (hX : wX w n 51 = some q) (d : decode cc pc = .ok (.getfield 92, 3)) (kk : V x cells slots w (pc + 3) lv (.ref (gz (xG x) + q) :: st)) : V x cells slots w pc lv (.ref (gz (xG x) + n) :: st) := r_getX C hn rfl inX11 (by decide) mw5_107 rfl hX d kk
theorem mw6_224 : Cond.methodLink RX11 355 yX11_save ∈ TT := tt_6 (List.mem_of_getElem? (i := 224) (by decide +kernel)) (by decide +kernel)
theorem mw6_226 : Cond.instanceMethod yX11_save ∈ TT := tt_6 (List.mem_of_getElem? (i := 226) (by decide +kernel)) (by decide +kernel)
theorem ms5_10 : Cond.selects RX11 yX11_save yX11_save ∈ TT := tp_sel (tp_5 (List.mem_of_getElem? (i := 10) (by decide +kernel) : ((yX11_save, 58) : MethodName × Nat) ∈ lw_privs_5)) (by decide +kernel)
theorem mw6_227 : Cond.code yX11_save cX11_save 2 none ∈ TT := tt_6 (List.mem_of_getElem? (i := 227) rfl) rfl
theorem cwX11_355_V : CwV RX11 355 RX11 yX11_save cX11_save 2 none 0 := ⟨mw6_224, mw6_226, ms5_10, mw1_13, mw6_227, ⟨by decide, by decide, by decide⟩⟩
theorem mw6_228 : Cond.methodLink RX11 358 yX11_follow ∈ TT := tt_6 (List.mem_of_getElem? (i := 228) (by decide +kernel)) (by decide +kernel)
theorem mw6_230 : Cond.instanceMethod yX11_follow ∈ TT := tt_6 (List.mem_of_getElem? (i := 230) (by decide +kernel)) (by decide +kernel)
theorem ms5_11 : Cond.selects RX11 yX11_follow yX11_follow ∈ TT := tp_sel (tp_5 (List.mem_of_getElem? (i := 11) (by decide +kernel) : ((yX11_follow, 58) : MethodName × Nat) ∈ lw_privs_5)) (by decide +kernel)
theorem mw6_231 : Cond.code yX11_follow cX11_follow 3 (some .int) ∈ TT := tt_6 (List.mem_of_getElem? (i := 231) rfl) rfl
theorem cwX11_358_V : CwV RX11 358 RX11 yX11_follow cX11_follow 3 (some .int) 1 := ⟨mw6_228, mw6_230, ms5_11, mw1_13, mw6_231, ⟨by decide, by decide, by decide⟩⟩
theorem mw6_232 : Cond.methodLink RX11 361 yX11_putBack ∈ TT := tt_6 (List.mem_of_getElem? (i := 232) (by decide +kernel)) (by decide +kernel)
theorem mw6_234 : Cond.instanceMethod yX11_putBack ∈ TT := tt_6 (List.mem_of_getElem? (i := 234) (by decide +kernel)) (by decide +kernel)
theorem ms5_12 : Cond.selects RX11 yX11_putBack yX11_putBack ∈ TT := tp_sel (tp_5 (List.mem_of_getElem? (i := 12) (by decide +kernel) : ((yX11_putBack, 58) : MethodName × Nat) ∈ lw_privs_5)) (by decide +kernel)
theorem mw6_235 : Cond.code yX11_putBack cX11_putBack 2 none ∈ TT := tt_6 (List.mem_of_getElem? (i := 235) rfl) rfl
theorem cwX11_361_V : CwV RX11 361 RX11 yX11_putBack cX11_putBack 2 none 0 := ⟨mw6_232, mw6_234, ms5_12, mw1_13, mw6_235, ⟨by decide, by decide, by decide⟩⟩
theorem mw7_0 : Cond.constantLong RX11 364 (-1) ∈ TT := tt_7 (List.mem_of_getElem? (i := 0) (by decide +kernel)) (by decide +kernel)
theorem mw7_1 : Cond.constantLong RX11 366 (2) ∈ TT := tt_7 (List.mem_of_getElem? (i := 1) (by decide +kernel)) (by decide +kernel)
theorem mw7_6 : Cond.constantLong RX11 368 (30) ∈ TT := tt_7 (List.mem_of_getElem? (i := 6) (by decide +kernel)) (by decide +kernel)
theorem mw7_11 : Cond.methodLink RX11 370 yX11_power ∈ TT := tt_7 (List.mem_of_getElem? (i := 11) (by decide +kernel)) (by decide +kernel)
theorem mw7_12 : Cond.static yX11_power ∈ TT := tt_7 (List.mem_of_getElem? (i := 12) (by decide +kernel)) (by decide +kernel)
theorem mw7_13 : Cond.code yX11_power cX11_power 3 (some .int) ∈ TT := tt_7 (List.mem_of_getElem? (i := 13) rfl) rfl
theorem cwX11_370_S : CwS RX11 370 yX11_power cX11_power 3 (some .int) 1 := ⟨mw7_11, mw7_12, mw1_13, mw7_13, ⟨by decide, by decide, by decide⟩⟩
theorem mw7_18 : Cond.methodLink RX11 373 yX11_stepIn ∈ TT := tt_7 (List.mem_of_getElem? (i := 18) (by decide +kernel)) (by decide +kernel)
theorem mw7_19 : Cond.static yX11_stepIn ∈ TT := tt_7 (List.mem_of_getElem? (i := 19) (by decide +kernel)) (by decide +kernel)
theorem mw7_20 : Cond.code yX11_stepIn cX11_stepIn 3 (some .int) ∈ TT := tt_7 (List.mem_of_getElem? (i := 20) rfl) rfl
theorem cwX11_373_S : CwS RX11 373 yX11_stepIn cX11_stepIn 3 (some .int) 3 := ⟨mw7_18, mw7_19, mw1_13, mw7_20, ⟨by decide, by decide, by decide⟩⟩
theorem mw7_21 : Cond.methodLink RX11 377 yX11_isLedOut ∈ TT := tt_7 (List.mem_of_getElem? (i := 21) (by decide +kernel)) (by decide +kernel)
theorem mw7_23 : Cond.instanceMethod yX11_isLedOut ∈ TT := tt_7 (List.mem_of_getElem? (i := 23) (by decide +kernel)) (by decide +kernel)
theorem ms5_14 : Cond.selects RX11 yX11_isLedOut yX11_isLedOut ∈ TT := tp_sel (tp_5 (List.mem_of_getElem? (i := 14) (by decide +kernel) : ((yX11_isLedOut, 58) : MethodName × Nat) ∈ lw_privs_5)) (by decide +kernel)
theorem mw7_24 : Cond.code yX11_isLedOut cX11_isLedOut 5 (some .boolean) ∈ TT := tt_7 (List.mem_of_getElem? (i := 24) rfl) rfl
theorem cwX11_377_V : CwV RX11 377 RX11 yX11_isLedOut cX11_isLedOut 5 (some .boolean) 1 := ⟨mw7_21, mw7_23, ms5_14, mw1_13, mw7_24, ⟨by decide, by decide, by decide⟩⟩
theorem mw7_14 : Cond.methodLink RX11 380 yX11_leadsOut ∈ TT := tt_7 (List.mem_of_getElem? (i := 14) (by decide +kernel)) (by decide +kernel)
theorem mw7_16 : Cond.instanceMethod yX11_leadsOut ∈ TT := tt_7 (List.mem_of_getElem? (i := 16) (by decide +kernel)) (by decide +kernel)
theorem ms5_13 : Cond.selects RX11 yX11_leadsOut yX11_leadsOut ∈ TT := tp_sel (tp_5 (List.mem_of_getElem? (i := 13) (by decide +kernel) : ((yX11_leadsOut, 58) : MethodName × Nat) ∈ lw_privs_5)) (by decide +kernel)
theorem mw7_17 : Cond.code yX11_leadsOut cX11_leadsOut 7 (some .boolean) ∈ TT := tt_7 (List.mem_of_getElem? (i := 17) rfl) rfl
theorem cwX11_380_V : CwV RX11 380 RX11 yX11_leadsOut cX11_leadsOut 7 (some .boolean) 4 := ⟨mw7_14, mw7_16, ms5_13, mw1_13, mw7_17, ⟨by decide, by decide, by decide⟩⟩
theorem mw7_37 : Cond.constantLong RX11 384 (5) ∈ TT := tt_7 (List.mem_of_getElem? (i := 37) (by decide +kernel)) (by decide +kernel)
theorem gfX11_95 {x : Ct} {cc : ByteArray} {nL cells slots pc n : Nat} {rm : Room} {w : Wv} {lv : List (Nat × Value)} {st : List Value} (q : Nat) (C : Cx x cc nL RX11 rm) (hn : (wK w)[n]? = some (11, .inl fX11)) (hX : wX w n 53 = some q) (d : decode cc pc = .ok (.getfield 95, 3)) (kk : V x cells slots w (pc + 3) lv (.ref (gz (xG x) + q) :: st)) : V x cells slots w pc lv (.ref (gz (xG x) + n) :: st) := r_getX C hn rfl inX11 (by decide) mw5_109 rfl hX d kk
theorem gfX11_98 {x : Ct} {cc : ByteArray} {nL cells slots pc n : Nat} {rm : Room} {w : Wv} {lv : List (Nat × Value)} {st : List Value} (q : Nat) (C : Cx x cc nL RX11 rm) (hn : (wK w)[n]? = some (11, .inl fX11)) (hX : wX w n 54 = some q) (d : decode cc pc = .ok (.getfield 98, 3)) (kk : V x cells slots w (pc + 3) lv (.ref (gz (xG x) + q) :: st)) : V x cells slots w pc lv (.ref (gz (xG x) + n) :: st) := r_getX C hn rfl inX11 (by decide) mw5_110 rfl hX d kk
theorem gfX11_101 {x : Ct} {cc : ByteArray} {nL cells slots pc n : Nat} {rm : Room} {w : Wv} {lv : List (Nat × Value)} {st : List Value} (q : Nat) (C : Cx x cc nL RX11 rm) (hn : (wK w)[n]? = some (11, .inl fX11)) (hX : wX w n 55 = some q) (d : decode cc pc = .ok (.getfield 101, 3)) (kk : V x cells slots w (pc + 3) lv (.ref (gz (xG x) + q) :: st)) : V x cells slots w pc lv (.ref (gz (xG x) + n) :: st) := r_getX C hn rfl inX11 (by decide) mw5_111 rfl hX d kk
theorem mw7_46 : Cond.methodLink RX11 386 yX11_isAsSeen ∈ TT := tt_7 (List.mem_of_getElem? (i := 46) (by decide +kernel)) (by decide +kernel)
theorem mw7_48 : Cond.instanceMethod yX11_isAsSeen ∈ TT := tt_7 (List.mem_of_getElem? (i := 48) (by decide +kernel)) (by decide +kernel)
theorem ms6_0 : Cond.selects RX11 yX11_isAsSeen yX11_isAsSeen ∈ TT := tp_sel (tp_6 (List.mem_of_getElem? (i := 0) (by decide +kernel) : ((yX11_isAsSeen, 58) : MethodName × Nat) ∈ lw_privs_6)) (by decide +kernel)
theorem mw7_49 : Cond.code yX11_isAsSeen cX11_isAsSeen 4 (some .boolean) ∈ TT := tt_7 (List.mem_of_getElem? (i := 49) rfl) rfl
theorem cwX11_386_V : CwV RX11 386 RX11 yX11_isAsSeen cX11_isAsSeen 4 (some .boolean) 1 := ⟨mw7_46, mw7_48, ms6_0, mw1_13, mw7_49, ⟨by decide, by decide, by decide⟩⟩
theorem mw7_42 : Cond.methodLink RX11 389 yX11_isWalk ∈ TT := tt_7 (List.mem_of_getElem? (i := 42) (by decide +kernel)) (by decide +kernel)
theorem mw7_44 : Cond.instanceMethod yX11_isWalk ∈ TT := tt_7 (List.mem_of_getElem? (i := 44) (by decide +kernel)) (by decide +kernel)
theorem ms5_15 : Cond.selects RX11 yX11_isWalk yX11_isWalk ∈ TT := tp_sel (tp_5 (List.mem_of_getElem? (i := 15) (by decide +kernel) : ((yX11_isWalk, 58) : MethodName × Nat) ∈ lw_privs_5)) (by decide +kernel)
theorem mw7_45 : Cond.code yX11_isWalk cX11_isWalk 6 (some .boolean) ∈ TT := tt_7 (List.mem_of_getElem? (i := 45) rfl) rfl
theorem cwX11_389_V : CwV RX11 389 RX11 yX11_isWalk cX11_isWalk 6 (some .boolean) 3 := ⟨mw7_42, mw7_44, ms5_15, mw1_13, mw7_45, ⟨by decide, by decide, by decide⟩⟩
theorem gfX11_104 {x : Ct} {cc : ByteArray} {nL cells slots pc n : Nat} {rm : Room} {w : Wv} {lv : List (Nat × Value)} {st : List Value} (q : Nat) (C : Cx x cc nL RX11 rm) (hn : (wK w)[n]? = some (11, .inl fX11)) (hX : wX w n 56 = some q) (d : decode cc pc = .ok (.getfield 104, 3)) (kk : V x cells slots w (pc + 3) lv (.ref (gz (xG x) + q) :: st)) : V x cells slots w pc lv (.ref (gz (xG x) + n) :: st) := r_getX C hn rfl inX11 (by decide) mw5_112 rfl hX d kk
theorem mw1_18 : Cond.classLink RL 7 RX10 ∈ TT := tt_1 (List.mem_of_getElem? (i := 18) (by decide +kernel)) (by decide +kernel)
theorem mw1_19 : Cond.instantiable RX10 15 ∈ TT := tt_1 (List.mem_of_getElem? (i := 19) (by decide +kernel)) (by decide +kernel)
theorem mw1_20 : Cond.methodLink RL 9 yX10_init ∈ TT := tt_1 (List.mem_of_getElem? (i := 20) (by decide +kernel)) (by decide +kernel)
theorem mw1_21 : Cond.instanceMethod yX10_init ∈ TT := tt_1 (List.mem_of_getElem? (i := 21) (by decide +kernel)) (by decide +kernel)
theorem mw1_22 : Cond.code yX10_init cX10_init 2 none ∈ TT := tt_1 (List.mem_of_getElem? (i := 22) rfl) rfl
theorem cwL_9_I : CwI RL 9 yX10_init cX10_init 2 0 := ⟨mw1_20, mw1_21, mw1_1, mw1_22, ⟨by decide, by decide, by decide⟩, rfl⟩
theorem mw5_50 : Cond.classLink RL 10 RX11 ∈ TT := tt_5 (List.mem_of_getElem? (i := 50) (by decide +kernel)) (by decide +kernel)
theorem mw5_51 : Cond.instantiable RX11 58 ∈ TT := tt_5 (List.mem_of_getElem? (i := 51) (by decide +kernel)) (by decide +kernel)
theorem mw5_52 : Cond.methodLink RL 12 yX11_init ∈ TT := tt_5 (List.mem_of_getElem? (i := 52) (by decide +kernel)) (by decide +kernel)
theorem mw5_53 : Cond.instanceMethod yX11_init ∈ TT := tt_5 (List.mem_of_getElem? (i := 53) (by decide +kernel)) (by decide +kernel)
theorem mw5_54 : Cond.code yX11_init cX11_init 1 none ∈ TT := tt_5 (List.mem_of_getElem? (i := 54) rfl) rfl
theorem cwL_12_I : CwI RL 12 yX11_init cX11_init 1 0 := ⟨mw5_52, mw5_53, mw1_13, mw5_54, ⟨by decide, by decide, by decide⟩, rfl⟩
theorem mw7_66 : Cond.constantLong RL 13 (4294967295) ∈ TT := tt_7 (List.mem_of_getElem? (i := 66) (by decide +kernel)) (by decide +kernel)
theorem mw2_222 : Cond.methodLink RL 15 yX10_feed ∈ TT := tt_2 (List.mem_of_getElem? (i := 222) (by decide +kernel)) (by decide +kernel)
theorem mw2_223 : Cond.instanceMethod yX10_feed ∈ TT := tt_2 (List.mem_of_getElem? (i := 223) (by decide +kernel)) (by decide +kernel)
theorem mw2_224 : Cond.selects RX10 yX10_feed yX10_feed ∈ TT := tt_2 (List.mem_of_getElem? (i := 224) (by decide +kernel)) (by decide +kernel)
theorem mw2_225 : Cond.code yX10_feed cX10_feed 5 (some .int) ∈ TT := tt_2 (List.mem_of_getElem? (i := 225) rfl) rfl
theorem cwL_15_V : CwV RL 15 RX10 yX10_feed cX10_feed 5 (some .int) 2 := ⟨mw2_222, mw2_223, mw2_224, mw1_1, mw2_225, ⟨by decide, by decide, by decide⟩⟩
theorem mw5_231 : Cond.methodLink RL 19 yX11_feed ∈ TT := tt_5 (List.mem_of_getElem? (i := 231) (by decide +kernel)) (by decide +kernel)
theorem mw5_232 : Cond.instanceMethod yX11_feed ∈ TT := tt_5 (List.mem_of_getElem? (i := 232) (by decide +kernel)) (by decide +kernel)
theorem mw5_233 : Cond.selects RX11 yX11_feed yX11_feed ∈ TT := tt_5 (List.mem_of_getElem? (i := 233) (by decide +kernel)) (by decide +kernel)
theorem mw5_234 : Cond.code yX11_feed cX11_feed 5 (some .int) ∈ TT := tt_5 (List.mem_of_getElem? (i := 234) rfl) rfl
theorem cwL_19_V : CwV RL 19 RX11 yX11_feed cX11_feed 5 (some .int) 2 := ⟨mw5_231, mw5_232, mw5_233, mw1_13, mw5_234, ⟨by decide, by decide, by decide⟩⟩
theorem mw2_232 : Cond.methodLink RL 20 yX10_town ∈ TT := tt_2 (List.mem_of_getElem? (i := 232) (by decide +kernel)) (by decide +kernel)
theorem mw2_233 : Cond.instanceMethod yX10_town ∈ TT := tt_2 (List.mem_of_getElem? (i := 233) (by decide +kernel)) (by decide +kernel)
theorem mw2_234 : Cond.selects RX10 yX10_town yX10_town ∈ TT := tt_2 (List.mem_of_getElem? (i := 234) (by decide +kernel)) (by decide +kernel)
theorem mw2_235 : Cond.code yX10_town cX10_town 2 (some .int) ∈ TT := tt_2 (List.mem_of_getElem? (i := 235) rfl) rfl
theorem cwL_20_V : CwV RL 20 RX10 yX10_town cX10_town 2 (some .int) 0 := ⟨mw2_232, mw2_233, mw2_234, mw1_1, mw2_235, ⟨by decide, by decide, by decide⟩⟩
theorem mw6_2 : Cond.methodLink RL 24 yX11_town ∈ TT := tt_6 (List.mem_of_getElem? (i := 2) (by decide +kernel)) (by decide +kernel)
theorem mw6_3 : Cond.instanceMethod yX11_town ∈ TT := tt_6 (List.mem_of_getElem? (i := 3) (by decide +kernel)) (by decide +kernel)
theorem mw6_4 : Cond.selects RX11 yX11_town yX11_town ∈ TT := tt_6 (List.mem_of_getElem? (i := 4) (by decide +kernel)) (by decide +kernel)
theorem mw6_5 : Cond.code yX11_town cX11_town 3 (some .int) ∈ TT := tt_6 (List.mem_of_getElem? (i := 5) rfl) rfl
theorem cwL_24_V : CwV RL 24 RX11 yX11_town cX11_town 3 (some .int) 0 := ⟨mw6_2, mw6_3, mw6_4, mw1_13, mw6_5, ⟨by decide, by decide, by decide⟩⟩
theorem mw3_156 : Cond.methodLink RL 25 yX10_fault ∈ TT := tt_3 (List.mem_of_getElem? (i := 156) (by decide +kernel)) (by decide +kernel)
theorem mw3_157 : Cond.instanceMethod yX10_fault ∈ TT := tt_3 (List.mem_of_getElem? (i := 157) (by decide +kernel)) (by decide +kernel)
theorem mw3_158 : Cond.selects RX10 yX10_fault yX10_fault ∈ TT := tt_3 (List.mem_of_getElem? (i := 158) (by decide +kernel)) (by decide +kernel)
theorem mw3_159 : Cond.code yX10_fault cX10_fault 1 (some .int) ∈ TT := tt_3 (List.mem_of_getElem? (i := 159) rfl) rfl
theorem cwL_25_V : CwV RL 25 RX10 yX10_fault cX10_fault 1 (some .int) 0 := ⟨mw3_156, mw3_157, mw3_158, mw1_1, mw3_159, ⟨by decide, by decide, by decide⟩⟩
theorem mw6_104 : Cond.methodLink RL 28 yX11_fault ∈ TT := tt_6 (List.mem_of_getElem? (i := 104) (by decide +kernel)) (by decide +kernel)
theorem mw6_105 : Cond.instanceMethod yX11_fault ∈ TT := tt_6 (List.mem_of_getElem? (i := 105) (by decide +kernel)) (by decide +kernel)
theorem mw6_106 : Cond.selects RX11 yX11_fault yX11_fault ∈ TT := tt_6 (List.mem_of_getElem? (i := 106) (by decide +kernel)) (by decide +kernel)
theorem mw6_107 : Cond.code yX11_fault cX11_fault 1 (some .int) ∈ TT := tt_6 (List.mem_of_getElem? (i := 107) rfl) rfl
theorem cwL_28_V : CwV RL 28 RX11 yX11_fault cX11_fault 1 (some .int) 0 := ⟨mw6_104, mw6_105, mw6_106, mw1_13, mw6_107, ⟨by decide, by decide, by decide⟩⟩
theorem mw3_160 : Cond.methodLink RL 29 yX10_told ∈ TT := tt_3 (List.mem_of_getElem? (i := 160) (by decide +kernel)) (by decide +kernel)
theorem mw3_161 : Cond.instanceMethod yX10_told ∈ TT := tt_3 (List.mem_of_getElem? (i := 161) (by decide +kernel)) (by decide +kernel)
theorem mw3_162 : Cond.selects RX10 yX10_told yX10_told ∈ TT := tt_3 (List.mem_of_getElem? (i := 162) (by decide +kernel)) (by decide +kernel)
theorem mw3_163 : Cond.code yX10_told cX10_told 2 (some .int) ∈ TT := tt_3 (List.mem_of_getElem? (i := 163) rfl) rfl
theorem cwL_29_V : CwV RL 29 RX10 yX10_told cX10_told 2 (some .int) 1 := ⟨mw3_160, mw3_161, mw3_162, mw1_1, mw3_163, ⟨by decide, by decide, by decide⟩⟩
theorem mw6_113 : Cond.methodLink RL 33 yX11_told ∈ TT := tt_6 (List.mem_of_getElem? (i := 113) (by decide +kernel)) (by decide +kernel)
theorem cwL_33_V : CwV RL 33 RX11 yX11_told cX11_told 2 (some .int) 1 := ⟨mw6_113, mw6_114, mw6_115, mw1_13, mw6_116, ⟨by decide, by decide, by decide⟩⟩
theorem mw3_190 : Cond.methodLink RL 34 yX10_cell ∈ TT := tt_3 (List.mem_of_getElem? (i := 190) (by decide +kernel)) (by decide +kernel)
theorem mw3_191 : Cond.instanceMethod yX10_cell ∈ TT := tt_3 (List.mem_of_getElem? (i := 191) (by decide +kernel)) (by decide +kernel)
theorem mw3_192 : Cond.selects RX10 yX10_cell yX10_cell ∈ TT := tt_3 (List.mem_of_getElem? (i := 192) (by decide +kernel)) (by decide +kernel)
theorem mw3_193 : Cond.code yX10_cell cX10_cell 4 (some .int) ∈ TT := tt_3 (List.mem_of_getElem? (i := 193) rfl) rfl
theorem cwL_34_V : CwV RL 34 RX10 yX10_cell cX10_cell 4 (some .int) 2 := ⟨mw3_190, mw3_191, mw3_192, mw1_1, mw3_193, ⟨by decide, by decide, by decide⟩⟩
theorem mw6_137 : Cond.methodLink RL 38 yX11_cell ∈ TT := tt_6 (List.mem_of_getElem? (i := 137) (by decide +kernel)) (by decide +kernel)
theorem mw6_138 : Cond.instanceMethod yX11_cell ∈ TT := tt_6 (List.mem_of_getElem? (i := 138) (by decide +kernel)) (by decide +kernel)
theorem mw6_139 : Cond.selects RX11 yX11_cell yX11_cell ∈ TT := tt_6 (List.mem_of_getElem? (i := 139) (by decide +kernel)) (by decide +kernel)
theorem mw6_140 : Cond.code yX11_cell cX11_cell 3 (some .int) ∈ TT := tt_6 (List.mem_of_getElem? (i := 140) rfl) rfl
theorem cwL_38_V : CwV RL 38 RX11 yX11_cell cX11_cell 3 (some .int) 2 := ⟨mw6_137, mw6_138, mw6_139, mw1_13, mw6_140, ⟨by decide, by decide, by decide⟩⟩
theorem mw3_203 : Cond.methodLink RL 39 yX10_crowd ∈ TT := tt_3 (List.mem_of_getElem? (i := 203) (by decide +kernel)) (by decide +kernel)
theorem mw3_204 : Cond.instanceMethod yX10_crowd ∈ TT := tt_3 (List.mem_of_getElem? (i := 204) (by decide +kernel)) (by decide +kernel)
theorem mw3_205 : Cond.selects RX10 yX10_crowd yX10_crowd ∈ TT := tt_3 (List.mem_of_getElem? (i := 205) (by decide +kernel)) (by decide +kernel)
theorem mw3_206 : Cond.code yX10_crowd cX10_crowd 3 (some .int) ∈ TT := tt_3 (List.mem_of_getElem? (i := 206) rfl) rfl
theorem cwL_39_V : CwV RL 39 RX10 yX10_crowd cX10_crowd 3 (some .int) 2 := ⟨mw3_203, mw3_204, mw3_205, mw1_1, mw3_206, ⟨by decide, by decide, by decide⟩⟩
theorem mw6_141 : Cond.methodLink RL 42 yX11_crowd ∈ TT := tt_6 (List.mem_of_getElem? (i := 141) (by decide +kernel)) (by decide +kernel)
theorem mw6_142 : Cond.instanceMethod yX11_crowd ∈ TT := tt_6 (List.mem_of_getElem? (i := 142) (by decide +kernel)) (by decide +kernel)
theorem mw6_143 : Cond.selects RX11 yX11_crowd yX11_crowd ∈ TT := tt_6 (List.mem_of_getElem? (i := 143) (by decide +kernel)) (by decide +kernel)
theorem mw6_144 : Cond.code yX11_crowd cX11_crowd 3 (some .int) ∈ TT := tt_6 (List.mem_of_getElem? (i := 144) rfl) rfl
theorem cwL_42_V : CwV RL 42 RX11 yX11_crowd cX11_crowd 3 (some .int) 2 := ⟨mw6_141, mw6_142, mw6_143, mw1_13, mw6_144, ⟨by decide, by decide, by decide⟩⟩
theorem mw3_212 : Cond.methodLink RL 43 yX10_tune ∈ TT := tt_3 (List.mem_of_getElem? (i := 212) (by decide +kernel)) (by decide +kernel)
theorem mw3_213 : Cond.instanceMethod yX10_tune ∈ TT := tt_3 (List.mem_of_getElem? (i := 213) (by decide +kernel)) (by decide +kernel)
theorem mw3_214 : Cond.selects RX10 yX10_tune yX10_tune ∈ TT := tt_3 (List.mem_of_getElem? (i := 214) (by decide +kernel)) (by decide +kernel)
theorem mw3_215 : Cond.code yX10_tune cX10_tune 3 (some .int) ∈ TT := tt_3 (List.mem_of_getElem? (i := 215) rfl) rfl
theorem cwL_43_V : CwV RL 43 RX10 yX10_tune cX10_tune 3 (some .int) 2 := ⟨mw3_212, mw3_213, mw3_214, mw1_1, mw3_215, ⟨by decide, by decide, by decide⟩⟩
theorem mw6_149 : Cond.methodLink RL 46 yX11_tune ∈ TT := tt_6 (List.mem_of_getElem? (i := 149) (by decide +kernel)) (by decide +kernel)
theorem mw6_150 : Cond.instanceMethod yX11_tune ∈ TT := tt_6 (List.mem_of_getElem? (i := 150) (by decide +kernel)) (by decide +kernel)
theorem mw6_151 : Cond.selects RX11 yX11_tune yX11_tune ∈ TT := tt_6 (List.mem_of_getElem? (i := 151) (by decide +kernel)) (by decide +kernel)
theorem mw6_152 : Cond.code yX11_tune cX11_tune 5 (some .int) ∈ TT := tt_6 (List.mem_of_getElem? (i := 152) rfl) rfl
theorem cwL_46_V : CwV RL 46 RX11 yX11_tune cX11_tune 5 (some .int) 2 := ⟨mw6_149, mw6_150, mw6_151, mw1_13, mw6_152, ⟨by decide, by decide, by decide⟩⟩
theorem mw4_4 : Cond.methodLink RL 47 yX10_far ∈ TT := tt_4 (List.mem_of_getElem? (i := 4) (by decide +kernel)) (by decide +kernel)
theorem mw4_5 : Cond.instanceMethod yX10_far ∈ TT := tt_4 (List.mem_of_getElem? (i := 5) (by decide +kernel)) (by decide +kernel)
theorem mw4_6 : Cond.selects RX10 yX10_far yX10_far ∈ TT := tt_4 (List.mem_of_getElem? (i := 6) (by decide +kernel)) (by decide +kernel)
theorem mw4_7 : Cond.code yX10_far cX10_far 7 (some .int) ∈ TT := tt_4 (List.mem_of_getElem? (i := 7) rfl) rfl
theorem cwL_47_V : CwV RL 47 RX10 yX10_far cX10_far 7 (some .int) 4 := ⟨mw4_4, mw4_5, mw4_6, mw1_1, mw4_7, ⟨by decide, by decide, by decide⟩⟩
theorem mw6_108 : Cond.methodLink RL 51 yX11_far ∈ TT := tt_6 (List.mem_of_getElem? (i := 108) (by decide +kernel)) (by decide +kernel)
theorem mw6_109 : Cond.instanceMethod yX11_far ∈ TT := tt_6 (List.mem_of_getElem? (i := 109) (by decide +kernel)) (by decide +kernel)
theorem mw6_110 : Cond.selects RX11 yX11_far yX11_far ∈ TT := tt_6 (List.mem_of_getElem? (i := 110) (by decide +kernel)) (by decide +kernel)
theorem mw6_111 : Cond.code yX11_far cX11_far 6 (some .int) ∈ TT := tt_6 (List.mem_of_getElem? (i := 111) rfl) rfl
theorem cwL_51_V : CwV RL 51 RX11 yX11_far cX11_far 6 (some .int) 4 := ⟨mw6_108, mw6_109, mw6_110, mw1_13, mw6_111, ⟨by decide, by decide, by decide⟩⟩
theorem mw4_9 : Cond.methodLink RL 52 yX10_minute ∈ TT := tt_4 (List.mem_of_getElem? (i := 9) (by decide +kernel)) (by decide +kernel)
theorem mw4_10 : Cond.instanceMethod yX10_minute ∈ TT := tt_4 (List.mem_of_getElem? (i := 10) (by decide +kernel)) (by decide +kernel)
theorem mw4_11 : Cond.selects RX10 yX10_minute yX10_minute ∈ TT := tt_4 (List.mem_of_getElem? (i := 11) (by decide +kernel)) (by decide +kernel)
theorem mw4_12 : Cond.code yX10_minute cX10_minute 3 (some .int) ∈ TT := tt_4 (List.mem_of_getElem? (i := 12) rfl) rfl
theorem cwL_52_V : CwV RL 52 RX10 yX10_minute cX10_minute 3 (some .int) 2 := ⟨mw4_9, mw4_10, mw4_11, mw1_1, mw4_12, ⟨by decide, by decide, by decide⟩⟩
theorem mw6_168 : Cond.methodLink RL 55 yX11_minute ∈ TT := tt_6 (List.mem_of_getElem? (i := 168) (by decide +kernel)) (by decide +kernel)
theorem mw6_169 : Cond.instanceMethod yX11_minute ∈ TT := tt_6 (List.mem_of_getElem? (i := 169) (by decide +kernel)) (by decide +kernel)
theorem mw6_170 : Cond.selects RX11 yX11_minute yX11_minute ∈ TT := tt_6 (List.mem_of_getElem? (i := 170) (by decide +kernel)) (by decide +kernel)
theorem mw6_171 : Cond.code yX11_minute cX11_minute 3 (some .int) ∈ TT := tt_6 (List.mem_of_getElem? (i := 171) rfl) rfl
theorem cwL_55_V : CwV RL 55 RX11 yX11_minute cX11_minute 3 (some .int) 2 := ⟨mw6_168, mw6_169, mw6_170, mw1_13, mw6_171, ⟨by decide, by decide, by decide⟩⟩
theorem mw4_42 : Cond.methodLink RL 56 yX10_wall ∈ TT := tt_4 (List.mem_of_getElem? (i := 42) (by decide +kernel)) (by decide +kernel)
theorem mw4_43 : Cond.instanceMethod yX10_wall ∈ TT := tt_4 (List.mem_of_getElem? (i := 43) (by decide +kernel)) (by decide +kernel)
theorem mw4_44 : Cond.selects RX10 yX10_wall yX10_wall ∈ TT := tt_4 (List.mem_of_getElem? (i := 44) (by decide +kernel)) (by decide +kernel)
theorem mw4_45 : Cond.code yX10_wall cX10_wall 6 (some .int) ∈ TT := tt_4 (List.mem_of_getElem? (i := 45) rfl) rfl
theorem cwL_56_V : CwV RL 56 RX10 yX10_wall cX10_wall 6 (some .int) 3 := ⟨mw4_42, mw4_43, mw4_44, mw1_1, mw4_45, ⟨by decide, by decide, by decide⟩⟩
theorem mw6_190 : Cond.methodLink RL 60 yX11_wall ∈ TT := tt_6 (List.mem_of_getElem? (i := 190) (by decide +kernel)) (by decide +kernel)
theorem mw6_191 : Cond.instanceMethod yX11_wall ∈ TT := tt_6 (List.mem_of_getElem? (i := 191) (by decide +kernel)) (by decide +kernel)
theorem mw6_192 : Cond.selects RX11 yX11_wall yX11_wall ∈ TT := tt_6 (List.mem_of_getElem? (i := 192) (by decide +kernel)) (by decide +kernel)
theorem mw6_193 : Cond.code yX11_wall cX11_wall 6 (some .int) ∈ TT := tt_6 (List.mem_of_getElem? (i := 193) rfl) rfl
theorem cwL_60_V : CwV RL 60 RX11 yX11_wall cX11_wall 6 (some .int) 3 := ⟨mw6_190, mw6_191, mw6_192, mw1_13, mw6_193, ⟨by decide, by decide, by decide⟩⟩
theorem mw4_58 : Cond.methodLink RL 61 yX10_drift ∈ TT := tt_4 (List.mem_of_getElem? (i := 58) (by decide +kernel)) (by decide +kernel)
theorem mw4_59 : Cond.instanceMethod yX10_drift ∈ TT := tt_4 (List.mem_of_getElem? (i := 59) (by decide +kernel)) (by decide +kernel)
theorem mw4_60 : Cond.selects RX10 yX10_drift yX10_drift ∈ TT := tt_4 (List.mem_of_getElem? (i := 60) (by decide +kernel)) (by decide +kernel)
theorem mw4_61 : Cond.code yX10_drift cX10_drift 5 (some .int) ∈ TT := tt_4 (List.mem_of_getElem? (i := 61) rfl) rfl
theorem cwL_61_V : CwV RL 61 RX10 yX10_drift cX10_drift 5 (some .int) 1 := ⟨mw4_58, mw4_59, mw4_60, mw1_1, mw4_61, ⟨by decide, by decide, by decide⟩⟩
theorem mw6_198 : Cond.methodLink RL 64 yX11_drift ∈ TT := tt_6 (List.mem_of_getElem? (i := 198) (by decide +kernel)) (by decide +kernel)
theorem mw6_199 : Cond.instanceMethod yX11_drift ∈ TT := tt_6 (List.mem_of_getElem? (i := 199) (by decide +kernel)) (by decide +kernel)
theorem mw6_200 : Cond.selects RX11 yX11_drift yX11_drift ∈ TT := tt_6 (List.mem_of_getElem? (i := 200) (by decide +kernel)) (by decide +kernel)
theorem mw6_201 : Cond.code yX11_drift cX11_drift 6 (some .int) ∈ TT := tt_6 (List.mem_of_getElem? (i := 201) rfl) rfl
theorem cwL_64_V : CwV RL 64 RX11 yX11_drift cX11_drift 6 (some .int) 1 := ⟨mw6_198, mw6_199, mw6_200, mw1_13, mw6_201, ⟨by decide, by decide, by decide⟩⟩
theorem mw4_70 : Cond.methodLink RL 65 yX10_plan ∈ TT := tt_4 (List.mem_of_getElem? (i := 70) (by decide +kernel)) (by decide +kernel)
theorem mw4_71 : Cond.instanceMethod yX10_plan ∈ TT := tt_4 (List.mem_of_getElem? (i := 71) (by decide +kernel)) (by decide +kernel)
theorem mw4_72 : Cond.selects RX10 yX10_plan yX10_plan ∈ TT := tt_4 (List.mem_of_getElem? (i := 72) (by decide +kernel)) (by decide +kernel)
theorem mw4_73 : Cond.code yX10_plan cX10_plan 3 (some .int) ∈ TT := tt_4 (List.mem_of_getElem? (i := 73) rfl) rfl
theorem cwL_65_V : CwV RL 65 RX10 yX10_plan cX10_plan 3 (some .int) 2 := ⟨mw4_70, mw4_71, mw4_72, mw1_1, mw4_73, ⟨by decide, by decide, by decide⟩⟩
theorem mw6_212 : Cond.methodLink RL 68 yX11_plan ∈ TT := tt_6 (List.mem_of_getElem? (i := 212) (by decide +kernel)) (by decide +kernel)
theorem mw6_213 : Cond.instanceMethod yX11_plan ∈ TT := tt_6 (List.mem_of_getElem? (i := 213) (by decide +kernel)) (by decide +kernel)
theorem mw6_214 : Cond.selects RX11 yX11_plan yX11_plan ∈ TT := tt_6 (List.mem_of_getElem? (i := 214) (by decide +kernel)) (by decide +kernel)
theorem mw6_215 : Cond.code yX11_plan cX11_plan 3 (some .int) ∈ TT := tt_6 (List.mem_of_getElem? (i := 215) rfl) rfl
theorem cwL_68_V : CwV RL 68 RX11 yX11_plan cX11_plan 3 (some .int) 2 := ⟨mw6_212, mw6_213, mw6_214, mw1_13, mw6_215, ⟨by decide, by decide, by decide⟩⟩
theorem mw4_78 : Cond.methodLink RL 69 yX10_drop ∈ TT := tt_4 (List.mem_of_getElem? (i := 78) (by decide +kernel)) (by decide +kernel)
theorem mw4_79 : Cond.instanceMethod yX10_drop ∈ TT := tt_4 (List.mem_of_getElem? (i := 79) (by decide +kernel)) (by decide +kernel)
theorem mw4_80 : Cond.selects RX10 yX10_drop yX10_drop ∈ TT := tt_4 (List.mem_of_getElem? (i := 80) (by decide +kernel)) (by decide +kernel)
theorem mw4_81 : Cond.code yX10_drop cX10_drop 2 (some .int) ∈ TT := tt_4 (List.mem_of_getElem? (i := 81) rfl) rfl
theorem cwL_69_V : CwV RL 69 RX10 yX10_drop cX10_drop 2 (some .int) 0 := ⟨mw4_78, mw4_79, mw4_80, mw1_1, mw4_81, ⟨by decide, by decide, by decide⟩⟩
theorem mw6_216 : Cond.methodLink RL 72 yX11_drop ∈ TT := tt_6 (List.mem_of_getElem? (i := 216) (by decide +kernel)) (by decide +kernel)
theorem mw6_217 : Cond.instanceMethod yX11_drop ∈ TT := tt_6 (List.mem_of_getElem? (i := 217) (by decide +kernel)) (by decide +kernel)
theorem mw6_218 : Cond.selects RX11 yX11_drop yX11_drop ∈ TT := tt_6 (List.mem_of_getElem? (i := 218) (by decide +kernel)) (by decide +kernel)
theorem mw6_219 : Cond.code yX11_drop cX11_drop 2 (some .int) ∈ TT := tt_6 (List.mem_of_getElem? (i := 219) rfl) rfl
theorem cwL_72_V : CwV RL 72 RX11 yX11_drop cX11_drop 2 (some .int) 0 := ⟨mw6_216, mw6_217, mw6_218, mw1_13, mw6_219, ⟨by decide, by decide, by decide⟩⟩
theorem mw4_82 : Cond.methodLink RL 73 yX10_judge ∈ TT := tt_4 (List.mem_of_getElem? (i := 82) (by decide +kernel)) (by decide +kernel)
theorem mw4_83 : Cond.instanceMethod yX10_judge ∈ TT := tt_4 (List.mem_of_getElem? (i := 83) (by decide +kernel)) (by decide +kernel)
theorem mw4_84 : Cond.selects RX10 yX10_judge yX10_judge ∈ TT := tt_4 (List.mem_of_getElem? (i := 84) (by decide +kernel)) (by decide +kernel)
theorem mw4_85 : Cond.code yX10_judge cX10_judge 2 (some .int) ∈ TT := tt_4 (List.mem_of_getElem? (i := 85) rfl) rfl
theorem cwL_73_V : CwV RL 73 RX10 yX10_judge cX10_judge 2 (some .int) 0 := ⟨mw4_82, mw4_83, mw4_84, mw1_1, mw4_85, ⟨by decide, by decide, by decide⟩⟩
theorem mw6_220 : Cond.methodLink RL 76 yX11_judge ∈ TT := tt_6 (List.mem_of_getElem? (i := 220) (by decide +kernel)) (by decide +kernel)
theorem mw6_221 : Cond.instanceMethod yX11_judge ∈ TT := tt_6 (List.mem_of_getElem? (i := 221) (by decide +kernel)) (by decide +kernel)
theorem mw6_222 : Cond.selects RX11 yX11_judge yX11_judge ∈ TT := tt_6 (List.mem_of_getElem? (i := 222) (by decide +kernel)) (by decide +kernel)
theorem mw6_223 : Cond.code yX11_judge cX11_judge 2 (some .int) ∈ TT := tt_6 (List.mem_of_getElem? (i := 223) rfl) rfl
theorem cwL_76_V : CwV RL 76 RX11 yX11_judge cX11_judge 2 (some .int) 0 := ⟨mw6_220, mw6_221, mw6_222, mw1_13, mw6_223, ⟨by decide, by decide, by decide⟩⟩
theorem mw4_100 : Cond.methodLink RL 77 yX10_tried ∈ TT := tt_4 (List.mem_of_getElem? (i := 100) (by decide +kernel)) (by decide +kernel)
theorem mw4_101 : Cond.instanceMethod yX10_tried ∈ TT := tt_4 (List.mem_of_getElem? (i := 101) (by decide +kernel)) (by decide +kernel)
theorem mw4_102 : Cond.selects RX10 yX10_tried yX10_tried ∈ TT := tt_4 (List.mem_of_getElem? (i := 102) (by decide +kernel)) (by decide +kernel)
theorem mw4_103 : Cond.code yX10_tried cX10_tried 3 (some .int) ∈ TT := tt_4 (List.mem_of_getElem? (i := 103) rfl) rfl
theorem cwL_77_V : CwV RL 77 RX10 yX10_tried cX10_tried 3 (some .int) 2 := ⟨mw4_100, mw4_101, mw4_102, mw1_1, mw4_103, ⟨by decide, by decide, by decide⟩⟩
theorem mw6_236 : Cond.methodLink RL 80 yX11_tried ∈ TT := tt_6 (List.mem_of_getElem? (i := 236) (by decide +kernel)) (by decide +kernel)
theorem mw6_237 : Cond.instanceMethod yX11_tried ∈ TT := tt_6 (List.mem_of_getElem? (i := 237) (by decide +kernel)) (by decide +kernel)
theorem mw6_238 : Cond.selects RX11 yX11_tried yX11_tried ∈ TT := tt_6 (List.mem_of_getElem? (i := 238) (by decide +kernel)) (by decide +kernel)
theorem mw6_239 : Cond.code yX11_tried cX11_tried 5 (some .int) ∈ TT := tt_6 (List.mem_of_getElem? (i := 239) rfl) rfl
theorem cwL_80_V : CwV RL 80 RX11 yX11_tried cX11_tried 5 (some .int) 2 := ⟨mw6_236, mw6_237, mw6_238, mw1_13, mw6_239, ⟨by decide, by decide, by decide⟩⟩
theorem mw4_107 : Cond.methodLink RL 81 yX10_where ∈ TT := tt_4 (List.mem_of_getElem? (i := 107) (by decide +kernel)) (by decide +kernel)
theorem mw4_108 : Cond.instanceMethod yX10_where ∈ TT := tt_4 (List.mem_of_getElem? (i := 108) (by decide +kernel)) (by decide +kernel)
theorem mw4_109 : Cond.selects RX10 yX10_where yX10_where ∈ TT := tt_4 (List.mem_of_getElem? (i := 109) (by decide +kernel)) (by decide +kernel)
theorem mw4_110 : Cond.code yX10_where cX10_where 3 (some .int) ∈ TT := tt_4 (List.mem_of_getElem? (i := 110) rfl) rfl
theorem cwL_81_V : CwV RL 81 RX10 yX10_where cX10_where 3 (some .int) 2 := ⟨mw4_107, mw4_108, mw4_109, mw1_1, mw4_110, ⟨by decide, by decide, by decide⟩⟩
theorem mw7_2 : Cond.methodLink RL 84 yX11_where ∈ TT := tt_7 (List.mem_of_getElem? (i := 2) (by decide +kernel)) (by decide +kernel)
theorem mw7_3 : Cond.instanceMethod yX11_where ∈ TT := tt_7 (List.mem_of_getElem? (i := 3) (by decide +kernel)) (by decide +kernel)
theorem mw7_4 : Cond.selects RX11 yX11_where yX11_where ∈ TT := tt_7 (List.mem_of_getElem? (i := 4) (by decide +kernel)) (by decide +kernel)
theorem mw7_5 : Cond.code yX11_where cX11_where 5 (some .int) ∈ TT := tt_7 (List.mem_of_getElem? (i := 5) rfl) rfl
theorem cwL_84_V : CwV RL 84 RX11 yX11_where cX11_where 5 (some .int) 2 := ⟨mw7_2, mw7_3, mw7_4, mw1_13, mw7_5, ⟨by decide, by decide, by decide⟩⟩
theorem mw4_111 : Cond.methodLink RL 85 yX10_soonest ∈ TT := tt_4 (List.mem_of_getElem? (i := 111) (by decide +kernel)) (by decide +kernel)
theorem mw4_112 : Cond.instanceMethod yX10_soonest ∈ TT := tt_4 (List.mem_of_getElem? (i := 112) (by decide +kernel)) (by decide +kernel)
theorem mw4_113 : Cond.selects RX10 yX10_soonest yX10_soonest ∈ TT := tt_4 (List.mem_of_getElem? (i := 113) (by decide +kernel)) (by decide +kernel)
theorem mw4_114 : Cond.code yX10_soonest cX10_soonest 4 (some .int) ∈ TT := tt_4 (List.mem_of_getElem? (i := 114) rfl) rfl
theorem cwL_85_V : CwV RL 85 RX10 yX10_soonest cX10_soonest 4 (some .int) 3 := ⟨mw4_111, mw4_112, mw4_113, mw1_1, mw4_114, ⟨by decide, by decide, by decide⟩⟩
theorem mw7_7 : Cond.methodLink RL 89 yX11_soonest ∈ TT := tt_7 (List.mem_of_getElem? (i := 7) (by decide +kernel)) (by decide +kernel)
theorem mw7_8 : Cond.instanceMethod yX11_soonest ∈ TT := tt_7 (List.mem_of_getElem? (i := 8) (by decide +kernel)) (by decide +kernel)
theorem mw7_9 : Cond.selects RX11 yX11_soonest yX11_soonest ∈ TT := tt_7 (List.mem_of_getElem? (i := 9) (by decide +kernel)) (by decide +kernel)
theorem mw7_10 : Cond.code yX11_soonest cX11_soonest 7 (some .int) ∈ TT := tt_7 (List.mem_of_getElem? (i := 10) rfl) rfl
theorem cwL_89_V : CwV RL 89 RX11 yX11_soonest cX11_soonest 7 (some .int) 3 := ⟨mw7_7, mw7_8, mw7_9, mw1_13, mw7_10, ⟨by decide, by decide, by decide⟩⟩
theorem mw4_177 : Cond.methodLink RL 90 yX10_bestWall ∈ TT := tt_4 (List.mem_of_getElem? (i := 177) (by decide +kernel)) (by decide +kernel)
theorem mw4_178 : Cond.instanceMethod yX10_bestWall ∈ TT := tt_4 (List.mem_of_getElem? (i := 178) (by decide +kernel)) (by decide +kernel)
theorem mw4_179 : Cond.selects RX10 yX10_bestWall yX10_bestWall ∈ TT := tt_4 (List.mem_of_getElem? (i := 179) (by decide +kernel)) (by decide +kernel)
theorem mw4_180 : Cond.code yX10_bestWall cX10_bestWall 8 (some .int) ∈ TT := tt_4 (List.mem_of_getElem? (i := 180) rfl) rfl
theorem cwL_90_V : CwV RL 90 RX10 yX10_bestWall cX10_bestWall 8 (some .int) 2 := ⟨mw4_177, mw4_178, mw4_179, mw1_1, mw4_180, ⟨by decide, by decide, by decide⟩⟩
theorem mw7_25 : Cond.methodLink RL 93 yX11_bestWall ∈ TT := tt_7 (List.mem_of_getElem? (i := 25) (by decide +kernel)) (by decide +kernel)
theorem mw7_26 : Cond.instanceMethod yX11_bestWall ∈ TT := tt_7 (List.mem_of_getElem? (i := 26) (by decide +kernel)) (by decide +kernel)
theorem mw7_27 : Cond.selects RX11 yX11_bestWall yX11_bestWall ∈ TT := tt_7 (List.mem_of_getElem? (i := 27) (by decide +kernel)) (by decide +kernel)
theorem mw7_28 : Cond.code yX11_bestWall cX11_bestWall 9 (some .int) ∈ TT := tt_7 (List.mem_of_getElem? (i := 28) rfl) rfl
theorem cwL_93_V : CwV RL 93 RX11 yX11_bestWall cX11_bestWall 9 (some .int) 2 := ⟨mw7_25, mw7_26, mw7_27, mw1_13, mw7_28, ⟨by decide, by decide, by decide⟩⟩
theorem mw4_189 : Cond.methodLink RL 94 yX10_wax ∈ TT := tt_4 (List.mem_of_getElem? (i := 189) (by decide +kernel)) (by decide +kernel)
theorem mw4_190 : Cond.instanceMethod yX10_wax ∈ TT := tt_4 (List.mem_of_getElem? (i := 190) (by decide +kernel)) (by decide +kernel)
theorem mw4_191 : Cond.selects RX10 yX10_wax yX10_wax ∈ TT := tt_4 (List.mem_of_getElem? (i := 191) (by decide +kernel)) (by decide +kernel)
theorem mw4_192 : Cond.code yX10_wax cX10_wax 4 (some .int) ∈ TT := tt_4 (List.mem_of_getElem? (i := 192) rfl) rfl
theorem cwL_94_V : CwV RL 94 RX10 yX10_wax cX10_wax 4 (some .int) 1 := ⟨mw4_189, mw4_190, mw4_191, mw1_1, mw4_192, ⟨by decide, by decide, by decide⟩⟩
theorem mw7_29 : Cond.methodLink RL 97 yX11_wax ∈ TT := tt_7 (List.mem_of_getElem? (i := 29) (by decide +kernel)) (by decide +kernel)
theorem mw7_30 : Cond.instanceMethod yX11_wax ∈ TT := tt_7 (List.mem_of_getElem? (i := 30) (by decide +kernel)) (by decide +kernel)
theorem mw7_31 : Cond.selects RX11 yX11_wax yX11_wax ∈ TT := tt_7 (List.mem_of_getElem? (i := 31) (by decide +kernel)) (by decide +kernel)
theorem mw7_32 : Cond.code yX11_wax cX11_wax 5 (some .int) ∈ TT := tt_7 (List.mem_of_getElem? (i := 32) rfl) rfl
theorem cwL_97_V : CwV RL 97 RX11 yX11_wax cX11_wax 5 (some .int) 1 := ⟨mw7_29, mw7_30, mw7_31, mw1_13, mw7_32, ⟨by decide, by decide, by decide⟩⟩
theorem mw4_193 : Cond.methodLink RL 98 yX10_see ∈ TT := tt_4 (List.mem_of_getElem? (i := 193) (by decide +kernel)) (by decide +kernel)
theorem mw4_194 : Cond.instanceMethod yX10_see ∈ TT := tt_4 (List.mem_of_getElem? (i := 194) (by decide +kernel)) (by decide +kernel)
theorem mw4_195 : Cond.selects RX10 yX10_see yX10_see ∈ TT := tt_4 (List.mem_of_getElem? (i := 195) (by decide +kernel)) (by decide +kernel)
theorem mw4_196 : Cond.code yX10_see cX10_see 6 (some .int) ∈ TT := tt_4 (List.mem_of_getElem? (i := 196) rfl) rfl
theorem cwL_98_V : CwV RL 98 RX10 yX10_see cX10_see 6 (some .int) 4 := ⟨mw4_193, mw4_194, mw4_195, mw1_1, mw4_196, ⟨by decide, by decide, by decide⟩⟩
theorem mw7_33 : Cond.methodLink RL 101 yX11_see ∈ TT := tt_7 (List.mem_of_getElem? (i := 33) (by decide +kernel)) (by decide +kernel)
theorem mw7_34 : Cond.instanceMethod yX11_see ∈ TT := tt_7 (List.mem_of_getElem? (i := 34) (by decide +kernel)) (by decide +kernel)
theorem mw7_35 : Cond.selects RX11 yX11_see yX11_see ∈ TT := tt_7 (List.mem_of_getElem? (i := 35) (by decide +kernel)) (by decide +kernel)
theorem mw7_36 : Cond.code yX11_see cX11_see 5 (some .int) ∈ TT := tt_7 (List.mem_of_getElem? (i := 36) rfl) rfl
theorem cwL_101_V : CwV RL 101 RX11 yX11_see cX11_see 5 (some .int) 4 := ⟨mw7_33, mw7_34, mw7_35, mw1_13, mw7_36, ⟨by decide, by decide, by decide⟩⟩
theorem mw4_201 : Cond.methodLink RL 102 yX10_walks ∈ TT := tt_4 (List.mem_of_getElem? (i := 201) (by decide +kernel)) (by decide +kernel)
theorem mw4_202 : Cond.instanceMethod yX10_walks ∈ TT := tt_4 (List.mem_of_getElem? (i := 202) (by decide +kernel)) (by decide +kernel)
theorem mw4_203 : Cond.selects RX10 yX10_walks yX10_walks ∈ TT := tt_4 (List.mem_of_getElem? (i := 203) (by decide +kernel)) (by decide +kernel)
theorem mw4_204 : Cond.code yX10_walks cX10_walks 4 (some .int) ∈ TT := tt_4 (List.mem_of_getElem? (i := 204) rfl) rfl
theorem cwL_102_V : CwV RL 102 RX10 yX10_walks cX10_walks 4 (some .int) 3 := ⟨mw4_201, mw4_202, mw4_203, mw1_1, mw4_204, ⟨by decide, by decide, by decide⟩⟩
theorem mw7_38 : Cond.methodLink RL 105 yX11_walks ∈ TT := tt_7 (List.mem_of_getElem? (i := 38) (by decide +kernel)) (by decide +kernel)
theorem mw7_39 : Cond.instanceMethod yX11_walks ∈ TT := tt_7 (List.mem_of_getElem? (i := 39) (by decide +kernel)) (by decide +kernel)
theorem mw7_40 : Cond.selects RX11 yX11_walks yX11_walks ∈ TT := tt_7 (List.mem_of_getElem? (i := 40) (by decide +kernel)) (by decide +kernel)
theorem mw7_41 : Cond.code yX11_walks cX11_walks 8 (some .int) ∈ TT := tt_7 (List.mem_of_getElem? (i := 41) rfl) rfl
theorem cwL_105_V : CwV RL 105 RX11 yX11_walks cX11_walks 8 (some .int) 3 := ⟨mw7_38, mw7_39, mw7_40, mw1_13, mw7_41, ⟨by decide, by decide, by decide⟩⟩
theorem mw5_17 : Cond.methodLink RL 106 yX10_tear ∈ TT := tt_5 (List.mem_of_getElem? (i := 17) (by decide +kernel)) (by decide +kernel)
theorem mw5_18 : Cond.instanceMethod yX10_tear ∈ TT := tt_5 (List.mem_of_getElem? (i := 18) (by decide +kernel)) (by decide +kernel)
theorem mw5_19 : Cond.selects RX10 yX10_tear yX10_tear ∈ TT := tt_5 (List.mem_of_getElem? (i := 19) (by decide +kernel)) (by decide +kernel)
theorem mw5_20 : Cond.code yX10_tear cX10_tear 2 (some .int) ∈ TT := tt_5 (List.mem_of_getElem? (i := 20) rfl) rfl
theorem cwL_106_V : CwV RL 106 RX10 yX10_tear cX10_tear 2 (some .int) 0 := ⟨mw5_17, mw5_18, mw5_19, mw1_1, mw5_20, ⟨by decide, by decide, by decide⟩⟩
theorem mw7_50 : Cond.methodLink RL 109 yX11_tear ∈ TT := tt_7 (List.mem_of_getElem? (i := 50) (by decide +kernel)) (by decide +kernel)
theorem mw7_51 : Cond.instanceMethod yX11_tear ∈ TT := tt_7 (List.mem_of_getElem? (i := 51) (by decide +kernel)) (by decide +kernel)
theorem mw7_52 : Cond.selects RX11 yX11_tear yX11_tear ∈ TT := tt_7 (List.mem_of_getElem? (i := 52) (by decide +kernel)) (by decide +kernel)
theorem mw7_53 : Cond.code yX11_tear cX11_tear 2 (some .int) ∈ TT := tt_7 (List.mem_of_getElem? (i := 53) rfl) rfl
theorem cwL_109_V : CwV RL 109 RX11 yX11_tear cX11_tear 2 (some .int) 0 := ⟨mw7_50, mw7_51, mw7_52, mw1_13, mw7_53, ⟨by decide, by decide, by decide⟩⟩
theorem mw5_21 : Cond.methodLink RL 110 yX10_seed ∈ TT := tt_5 (List.mem_of_getElem? (i := 21) (by decide +kernel)) (by decide +kernel)
theorem mw5_22 : Cond.instanceMethod yX10_seed ∈ TT := tt_5 (List.mem_of_getElem? (i := 22) (by decide +kernel)) (by decide +kernel)
theorem mw5_23 : Cond.selects RX10 yX10_seed yX10_seed ∈ TT := tt_5 (List.mem_of_getElem? (i := 23) (by decide +kernel)) (by decide +kernel)
theorem mw5_24 : Cond.code yX10_seed cX10_seed 3 (some .int) ∈ TT := tt_5 (List.mem_of_getElem? (i := 24) rfl) rfl
theorem cwL_110_V : CwV RL 110 RX10 yX10_seed cX10_seed 3 (some .int) 1 := ⟨mw5_21, mw5_22, mw5_23, mw1_1, mw5_24, ⟨by decide, by decide, by decide⟩⟩
theorem mw7_54 : Cond.methodLink RL 113 yX11_seed ∈ TT := tt_7 (List.mem_of_getElem? (i := 54) (by decide +kernel)) (by decide +kernel)
theorem mw7_55 : Cond.instanceMethod yX11_seed ∈ TT := tt_7 (List.mem_of_getElem? (i := 55) (by decide +kernel)) (by decide +kernel)
theorem mw7_56 : Cond.selects RX11 yX11_seed yX11_seed ∈ TT := tt_7 (List.mem_of_getElem? (i := 56) (by decide +kernel)) (by decide +kernel)
theorem mw7_57 : Cond.code yX11_seed cX11_seed 3 (some .int) ∈ TT := tt_7 (List.mem_of_getElem? (i := 57) rfl) rfl
theorem cwL_113_V : CwV RL 113 RX11 yX11_seed cX11_seed 3 (some .int) 1 := ⟨mw7_54, mw7_55, mw7_56, mw1_13, mw7_57, ⟨by decide, by decide, by decide⟩⟩
theorem mw5_25 : Cond.methodLink RL 114 yX10_keep ∈ TT := tt_5 (List.mem_of_getElem? (i := 25) (by decide +kernel)) (by decide +kernel)
theorem mw5_26 : Cond.instanceMethod yX10_keep ∈ TT := tt_5 (List.mem_of_getElem? (i := 26) (by decide +kernel)) (by decide +kernel)
theorem mw5_27 : Cond.selects RX10 yX10_keep yX10_keep ∈ TT := tt_5 (List.mem_of_getElem? (i := 27) (by decide +kernel)) (by decide +kernel)
theorem mw5_28 : Cond.code yX10_keep cX10_keep 2 (some .int) ∈ TT := tt_5 (List.mem_of_getElem? (i := 28) rfl) rfl
theorem cwL_114_V : CwV RL 114 RX10 yX10_keep cX10_keep 2 (some .int) 1 := ⟨mw5_25, mw5_26, mw5_27, mw1_1, mw5_28, ⟨by decide, by decide, by decide⟩⟩
theorem mw7_58 : Cond.methodLink RL 117 yX11_keep ∈ TT := tt_7 (List.mem_of_getElem? (i := 58) (by decide +kernel)) (by decide +kernel)
theorem mw7_59 : Cond.instanceMethod yX11_keep ∈ TT := tt_7 (List.mem_of_getElem? (i := 59) (by decide +kernel)) (by decide +kernel)
theorem mw7_60 : Cond.selects RX11 yX11_keep yX11_keep ∈ TT := tt_7 (List.mem_of_getElem? (i := 60) (by decide +kernel)) (by decide +kernel)
theorem mw7_61 : Cond.code yX11_keep cX11_keep 4 (some .int) ∈ TT := tt_7 (List.mem_of_getElem? (i := 61) rfl) rfl
theorem cwL_117_V : CwV RL 117 RX11 yX11_keep cX11_keep 4 (some .int) 1 := ⟨mw7_58, mw7_59, mw7_60, mw1_13, mw7_61, ⟨by decide, by decide, by decide⟩⟩
theorem mw5_41 : Cond.methodLink RL 118 yX10_goBack ∈ TT := tt_5 (List.mem_of_getElem? (i := 41) (by decide +kernel)) (by decide +kernel)
theorem mw5_42 : Cond.instanceMethod yX10_goBack ∈ TT := tt_5 (List.mem_of_getElem? (i := 42) (by decide +kernel)) (by decide +kernel)
theorem mw5_43 : Cond.selects RX10 yX10_goBack yX10_goBack ∈ TT := tt_5 (List.mem_of_getElem? (i := 43) (by decide +kernel)) (by decide +kernel)
theorem mw5_44 : Cond.code yX10_goBack cX10_goBack 2 (some .int) ∈ TT := tt_5 (List.mem_of_getElem? (i := 44) rfl) rfl
theorem cwL_118_V : CwV RL 118 RX10 yX10_goBack cX10_goBack 2 (some .int) 1 := ⟨mw5_41, mw5_42, mw5_43, mw1_1, mw5_44, ⟨by decide, by decide, by decide⟩⟩
theorem mw7_62 : Cond.methodLink RL 121 yX11_goBack ∈ TT := tt_7 (List.mem_of_getElem? (i := 62) (by decide +kernel)) (by decide +kernel)
theorem mw7_63 : Cond.instanceMethod yX11_goBack ∈ TT := tt_7 (List.mem_of_getElem? (i := 63) (by decide +kernel)) (by decide +kernel)
theorem mw7_64 : Cond.selects RX11 yX11_goBack yX11_goBack ∈ TT := tt_7 (List.mem_of_getElem? (i := 64) (by decide +kernel)) (by decide +kernel)
theorem mw7_65 : Cond.code yX11_goBack cX11_goBack 4 (some .int) ∈ TT := tt_7 (List.mem_of_getElem? (i := 65) rfl) rfl
theorem cwL_121_V : CwV RL 121 RX11 yX11_goBack cX11_goBack 4 (some .int) 1 := ⟨mw7_62, mw7_63, mw7_64, mw1_13, mw7_65, ⟨by decide, by decide, by decide⟩⟩
end
section
def Str (K : List (Nat × Kd)) (X : List (Nat × Nat × Nat)) (w : Wv) : Prop := (∀ e ∈ K, (wK w)[e.1]? = some e.2) ∧ ∀ e ∈ X, wX w e.1 e.2.1 = some e.2.2
theorem kS {K : List (Nat × Kd)} {X : List (Nat × Nat × Nat)} {w0 w : Wv} {S : List Nat} {n : Nat} {kd : Kd} (s : Str K X w0) (h : Ch S w0 w) (hm : (n, kd) ∈ K) : (wK w)[n]? = some kd := by rw [h.1]; exact s.1 _ hm
theorem xS {K : List (Nat × Kd)} {X : List (Nat × Nat × Nat)} {w0 w : Wv} {S : List Nat} {n k q : Nat} (s : Str K X w0) (h : Ch S w0 w) (hm : (n, k, q) ∈ X) : wX w n k = some q := by rw [h.2.1]; exact s.2 _ hm
theorem sS {K : List (Nat × Kd)} {X : List (Nat × Nat × Nat)} {w0 w : Wv} {S : List Nat} (s : Str K X w0) (h : Ch S w0 w) : Str K X w := ⟨fun e he => by rw [h.1]; exact s.1 e he, fun e he => by rw [h.2.1]; exact s.2 e he⟩
def KC : List (Nat × Kd) := [(0, (10, .inl fX10)), (1, (5, .inl fX5)), (2, (1503, .inr (0, 500, 0))), (3, (9, .inl fX9)), (4, (1909, .inr (0, 42, 0))), (5, (1910, .inr (0, 6, 0))), (6, (1911, .inr (0, 6, 0))), (7, (1912, .inr (0, 6, 0))), (8, (1913, .inr (0, 6, 0))), (9, (1914, .inr (0, 6, 0))), (10, (1915, .inr (0, 3, 0))), (11, (1916, .inr (0, 3, 0))), (12, (9, .inl fX9)), (13, (1909, .inr (0, 42, 0))), (14, (1910, .inr (0, 6, 0))), (15, (1911, .inr (0, 6, 0))), (16, (1912, .inr (0, 6, 0))), (17, (1913, .inr (0, 6, 0))), (18, (1914, .inr (0, 6, 0))), (19, (1915, .inr (0, 3, 0))), (20, (1916, .inr (0, 3, 0))), (21, (1, .inl fX1)), (22, (1101, .inr (0, 42, 0))), (23, (1104, .inr (0, 42, 0))), (24, (1105, .inr (0, 168, 0))), (25, (1106, .inr (0, 1764, 0))), (26, (1107, .inr (1, 42, 0))), (27, (1108, .inr (0, 42, 0))), (28, (1, .inl fX1)), (29, (1101, .inr (0, 42, 0))), (30, (1104, .inr (0, 42, 0))), (31, (1105, .inr (0, 168, 0))), (32, (1106, .inr (0, 1764, 0))), (33, (1107, .inr (1, 42, 0))), (34, (1108, .inr (0, 42, 0))), (35, (6, .inl fX6)), (36, (1602, .inr (0, 6, 0))), (37, (1603, .inr (0, 6, 0))), (38, (6, .inl fX6)), (39, (1602, .inr (0, 6, 0))), (40, (1603, .inr (0, 6, 0))), (41, (6, .inl fX6)), (42, (1602, .inr (0, 6, 0))), (43, (1603, .inr (0, 6, 0))), (44, (4, .inl fX4)), (45, (1401, .inr (0, 30, 0))), (46, (1402, .inr (0, 30, 0))), (47, (7, .inl fX7)), (48, (1701, .inr (0, 10, 0))), (49, (1702, .inr (0, 10, 0))), (50, (1703, .inr (0, 10, 0))), (51, (3, .inl fX3)), (52, (1300, .inr (2, 1024, 1))), (53, (1301, .inr (2, 1024, 1))), (54, (1302, .inr (0, 1024, 0))), (55, (8, .inl fX8)), (56, (1803, .inr (3, 7, 2))), (57, (1804, .inr (0, 6, 0))), (58, (1805, .inr (0, 42, 0))), (59, (6, .inl fX6)), (60, (1602, .inr (0, 6, 0))), (61, (1603, .inr (0, 6, 0))), (62, (6, .inl fX6)), (63, (1602, .inr (0, 6, 0))), (64, (1603, .inr (0, 6, 0))), (65, (6, .inl fX6)), (66, (1602, .inr (0, 6, 0))), (67, (1603, .inr (0, 6, 0))), (68, (6, .inl fX6)), (69, (1602, .inr (0, 6, 0))), (70, (1603, .inr (0, 6, 0))), (71, (6, .inl fX6)), (72, (1602, .inr (0, 6, 0))), (73, (1603, .inr (0, 6, 0))), (74, (6, .inl fX6)), (75, (1602, .inr (0, 6, 0))), (76, (1603, .inr (0, 6, 0))), (77, (6, .inl fX6)), (78, (1602, .inr (0, 6, 0))), (79, (1603, .inr (0, 6, 0))), (80, (0, .inl fX0)), (81, (1003, .inr (3, 6, 2))), (82, (1004, .inr (0, 5, 0))), (83, (1005, .inr (0, 5, 0))), (84, (1006, .inr (0, 252, 0))), (85, (6, .inl fX6)), (86, (1602, .inr (0, 6, 0))), (87, (1603, .inr (0, 6, 0))), (88, (6, .inl fX6)), (89, (1602, .inr (0, 6, 0))), (90, (1603, .inr (0, 6, 0))), (91, (6, .inl fX6)), (92, (1602, .inr (0, 6, 0))), (93, (1603, .inr (0, 6, 0))), (94, (6, .inl fX6)), (95, (1602, .inr (0, 6, 0))), (96, (1603, .inr (0, 6, 0))), (97, (6, .inl fX6)), (98, (1602, .inr (0, 6, 0))), (99, (1603, .inr (0, 6, 0))), (100, (6, .inl fX6)), (101, (1602, .inr (0, 6, 0))), (102, (1603, .inr (0, 6, 0))), (103, (2013, .inr (4, 2, 2))), (104, (2, .inl fX2)), (105, (1203, .inr (0, 42, 0))), (106, (6, .inl fX6)), (107, (1602, .inr (0, 6, 0))), (108, (1603, .inr (0, 6, 0))), (109, (2, .inl fX2)), (110, (1203, .inr (0, 42, 0))), (111, (6, .inl fX6)), (112, (1602, .inr (0, 6, 0))), (113, (1603, .inr (0, 6, 0)))]
def XC : List (Nat × Nat × Nat) := [(0, 0, 1), (0, 1, 3), (0, 2, 12), (0, 3, 21), (0, 4, 28), (0, 5, 35), (0, 6, 38), (0, 7, 41), (0, 8, 44), (0, 9, 47), (0, 10, 51), (0, 11, 55), (0, 12, 80), (0, 13, 103), (1, 3, 2), (3, 9, 4), (3, 10, 5), (3, 11, 6), (3, 12, 7), (3, 13, 8), (3, 14, 9), (3, 15, 10), (3, 16, 11), (12, 9, 13), (12, 10, 14), (12, 11, 15), (12, 12, 16), (12, 13, 17), (12, 14, 18), (12, 15, 19), (12, 16, 20), (21, 1, 22), (21, 4, 23), (21, 5, 24), (21, 6, 25), (21, 7, 26), (21, 8, 27), (28, 1, 29), (28, 4, 30), (28, 5, 31), (28, 6, 32), (28, 7, 33), (28, 8, 34), (35, 2, 36), (35, 3, 37), (35, 4, 3), (35, 5, 21), (38, 2, 39), (38, 3, 40), (38, 4, 3), (38, 5, 21), (41, 2, 42), (41, 3, 43), (41, 4, 3), (41, 5, 28), (44, 1, 45), (44, 2, 46), (47, 1, 48), (47, 2, 49), (47, 3, 50), (51, 0, 52), (51, 1, 53), (51, 2, 54), (55, 1, 3), (55, 2, 21), (55, 3, 56), (55, 4, 57), (55, 5, 58), (55, 6, 51), (56, 0, 59), (56, 1, 62), (56, 2, 65), (56, 3, 68), (56, 4, 71), (56, 5, 74), (56, 6, 77), (59, 2, 60), (59, 3, 61), (59, 4, 3), (59, 5, 21), (62, 2, 63), (62, 3, 64), (62, 4, 3), (62, 5, 21), (65, 2, 66), (65, 3, 67), (65, 4, 3), (65, 5, 21), (68, 2, 69), (68, 3, 70), (68, 4, 3), (68, 5, 21), (71, 2, 72), (71, 3, 73), (71, 4, 3), (71, 5, 21), (74, 2, 75), (74, 3, 76), (74, 4, 3), (74, 5, 21), (77, 2, 78), (77, 3, 79), (77, 4, 3), (77, 5, 21), (80, 1, 47), (80, 2, 21), (80, 3, 81), (80, 4, 82), (80, 5, 83), (80, 6, 84), (80, 7, 51), (81, 0, 85), (81, 1, 88), (81, 2, 91), (81, 3, 94), (81, 4, 97), (81, 5, 100), (85, 2, 86), (85, 3, 87), (85, 4, 3), (85, 5, 21), (88, 2, 89), (88, 3, 90), (88, 4, 3), (88, 5, 21), (91, 2, 92), (91, 3, 93), (91, 4, 3), (91, 5, 21), (94, 2, 95), (94, 3, 96), (94, 4, 3), (94, 5, 21), (97, 2, 98), (97, 3, 99), (97, 4, 3), (97, 5, 21), (100, 2, 101), (100, 3, 102), (100, 4, 3), (100, 5, 21), (103, 0, 104), (103, 1, 109), (104, 2, 106), (104, 3, 105), (106, 2, 107), (106, 3, 108), (106, 4, 3), (106, 5, 21), (109, 2, 111), (109, 3, 110), (111, 2, 112), (111, 3, 113), (111, 4, 3), (111, 5, 21)]
theorem kc_0 : ((0, (10, .inl fX10)) : Nat × Kd) ∈ KC := List.mem_of_getElem? (i := 0) rfl
theorem kc_1 : ((1, (5, .inl fX5)) : Nat × Kd) ∈ KC := List.mem_of_getElem? (i := 1) rfl
theorem kc_2 : ((2, (1503, .inr (0, 500, 0))) : Nat × Kd) ∈ KC := List.mem_of_getElem? (i := 2) rfl
theorem kc_3 : ((3, (9, .inl fX9)) : Nat × Kd) ∈ KC := List.mem_of_getElem? (i := 3) rfl
theorem kc_4 : ((4, (1909, .inr (0, 42, 0))) : Nat × Kd) ∈ KC := List.mem_of_getElem? (i := 4) rfl
theorem kc_5 : ((5, (1910, .inr (0, 6, 0))) : Nat × Kd) ∈ KC := List.mem_of_getElem? (i := 5) rfl
theorem kc_6 : ((6, (1911, .inr (0, 6, 0))) : Nat × Kd) ∈ KC := List.mem_of_getElem? (i := 6) rfl
theorem kc_7 : ((7, (1912, .inr (0, 6, 0))) : Nat × Kd) ∈ KC := List.mem_of_getElem? (i := 7) rfl
theorem kc_8 : ((8, (1913, .inr (0, 6, 0))) : Nat × Kd) ∈ KC := List.mem_of_getElem? (i := 8) rfl
theorem kc_9 : ((9, (1914, .inr (0, 6, 0))) : Nat × Kd) ∈ KC := List.mem_of_getElem? (i := 9) rfl
theorem kc_10 : ((10, (1915, .inr (0, 3, 0))) : Nat × Kd) ∈ KC := List.mem_of_getElem? (i := 10) rfl
theorem kc_11 : ((11, (1916, .inr (0, 3, 0))) : Nat × Kd) ∈ KC := List.mem_of_getElem? (i := 11) rfl
theorem kc_12 : ((12, (9, .inl fX9)) : Nat × Kd) ∈ KC := List.mem_of_getElem? (i := 12) rfl
theorem kc_13 : ((13, (1909, .inr (0, 42, 0))) : Nat × Kd) ∈ KC := List.mem_of_getElem? (i := 13) rfl
theorem kc_14 : ((14, (1910, .inr (0, 6, 0))) : Nat × Kd) ∈ KC := List.mem_of_getElem? (i := 14) rfl
theorem kc_15 : ((15, (1911, .inr (0, 6, 0))) : Nat × Kd) ∈ KC := List.mem_of_getElem? (i := 15) rfl
theorem kc_16 : ((16, (1912, .inr (0, 6, 0))) : Nat × Kd) ∈ KC := List.mem_of_getElem? (i := 16) rfl
theorem kc_17 : ((17, (1913, .inr (0, 6, 0))) : Nat × Kd) ∈ KC := List.mem_of_getElem? (i := 17) rfl
theorem kc_18 : ((18, (1914, .inr (0, 6, 0))) : Nat × Kd) ∈ KC := List.mem_of_getElem? (i := 18) rfl
theorem kc_19 : ((19, (1915, .inr (0, 3, 0))) : Nat × Kd) ∈ KC := List.mem_of_getElem? (i := 19) rfl
theorem kc_20 : ((20, (1916, .inr (0, 3, 0))) : Nat × Kd) ∈ KC := List.mem_of_getElem? (i := 20) rfl
theorem kc_21 : ((21, (1, .inl fX1)) : Nat × Kd) ∈ KC := List.mem_of_getElem? (i := 21) rfl
theorem kc_22 : ((22, (1101, .inr (0, 42, 0))) : Nat × Kd) ∈ KC := List.mem_of_getElem? (i := 22) rfl
theorem kc_23 : ((23, (1104, .inr (0, 42, 0))) : Nat × Kd) ∈ KC := List.mem_of_getElem? (i := 23) rfl
theorem kc_24 : ((24, (1105, .inr (0, 168, 0))) : Nat × Kd) ∈ KC := List.mem_of_getElem? (i := 24) rfl
theorem kc_25 : ((25, (1106, .inr (0, 1764, 0))) : Nat × Kd) ∈ KC := List.mem_of_getElem? (i := 25) rfl
theorem kc_26 : ((26, (1107, .inr (1, 42, 0))) : Nat × Kd) ∈ KC := List.mem_of_getElem? (i := 26) rfl
theorem kc_27 : ((27, (1108, .inr (0, 42, 0))) : Nat × Kd) ∈ KC := List.mem_of_getElem? (i := 27) rfl
theorem kc_28 : ((28, (1, .inl fX1)) : Nat × Kd) ∈ KC := List.mem_of_getElem? (i := 28) rfl
theorem kc_29 : ((29, (1101, .inr (0, 42, 0))) : Nat × Kd) ∈ KC := List.mem_of_getElem? (i := 29) rfl
theorem kc_30 : ((30, (1104, .inr (0, 42, 0))) : Nat × Kd) ∈ KC := List.mem_of_getElem? (i := 30) rfl
theorem kc_31 : ((31, (1105, .inr (0, 168, 0))) : Nat × Kd) ∈ KC := List.mem_of_getElem? (i := 31) rfl
theorem kc_32 : ((32, (1106, .inr (0, 1764, 0))) : Nat × Kd) ∈ KC := List.mem_of_getElem? (i := 32) rfl
theorem kc_33 : ((33, (1107, .inr (1, 42, 0))) : Nat × Kd) ∈ KC := List.mem_of_getElem? (i := 33) rfl
theorem kc_34 : ((34, (1108, .inr (0, 42, 0))) : Nat × Kd) ∈ KC := List.mem_of_getElem? (i := 34) rfl
theorem kc_35 : ((35, (6, .inl fX6)) : Nat × Kd) ∈ KC := List.mem_of_getElem? (i := 35) rfl
theorem kc_36 : ((36, (1602, .inr (0, 6, 0))) : Nat × Kd) ∈ KC := List.mem_of_getElem? (i := 36) rfl
theorem kc_37 : ((37, (1603, .inr (0, 6, 0))) : Nat × Kd) ∈ KC := List.mem_of_getElem? (i := 37) rfl
theorem kc_38 : ((38, (6, .inl fX6)) : Nat × Kd) ∈ KC := List.mem_of_getElem? (i := 38) rfl
theorem kc_39 : ((39, (1602, .inr (0, 6, 0))) : Nat × Kd) ∈ KC := List.mem_of_getElem? (i := 39) rfl
theorem kc_40 : ((40, (1603, .inr (0, 6, 0))) : Nat × Kd) ∈ KC := List.mem_of_getElem? (i := 40) rfl
theorem kc_41 : ((41, (6, .inl fX6)) : Nat × Kd) ∈ KC := List.mem_of_getElem? (i := 41) rfl
theorem kc_42 : ((42, (1602, .inr (0, 6, 0))) : Nat × Kd) ∈ KC := List.mem_of_getElem? (i := 42) rfl
theorem kc_43 : ((43, (1603, .inr (0, 6, 0))) : Nat × Kd) ∈ KC := List.mem_of_getElem? (i := 43) rfl
theorem kc_44 : ((44, (4, .inl fX4)) : Nat × Kd) ∈ KC := List.mem_of_getElem? (i := 44) rfl
theorem kc_45 : ((45, (1401, .inr (0, 30, 0))) : Nat × Kd) ∈ KC := List.mem_of_getElem? (i := 45) rfl
theorem kc_46 : ((46, (1402, .inr (0, 30, 0))) : Nat × Kd) ∈ KC := List.mem_of_getElem? (i := 46) rfl
theorem kc_47 : ((47, (7, .inl fX7)) : Nat × Kd) ∈ KC := List.mem_of_getElem? (i := 47) rfl
theorem kc_48 : ((48, (1701, .inr (0, 10, 0))) : Nat × Kd) ∈ KC := List.mem_of_getElem? (i := 48) rfl
theorem kc_49 : ((49, (1702, .inr (0, 10, 0))) : Nat × Kd) ∈ KC := List.mem_of_getElem? (i := 49) rfl
theorem kc_50 : ((50, (1703, .inr (0, 10, 0))) : Nat × Kd) ∈ KC := List.mem_of_getElem? (i := 50) rfl
theorem kc_51 : ((51, (3, .inl fX3)) : Nat × Kd) ∈ KC := List.mem_of_getElem? (i := 51) rfl
theorem kc_52 : ((52, (1300, .inr (2, 1024, 1))) : Nat × Kd) ∈ KC := List.mem_of_getElem? (i := 52) rfl
theorem kc_53 : ((53, (1301, .inr (2, 1024, 1))) : Nat × Kd) ∈ KC := List.mem_of_getElem? (i := 53) rfl
theorem kc_54 : ((54, (1302, .inr (0, 1024, 0))) : Nat × Kd) ∈ KC := List.mem_of_getElem? (i := 54) rfl
theorem kc_55 : ((55, (8, .inl fX8)) : Nat × Kd) ∈ KC := List.mem_of_getElem? (i := 55) rfl
theorem kc_56 : ((56, (1803, .inr (3, 7, 2))) : Nat × Kd) ∈ KC := List.mem_of_getElem? (i := 56) rfl
theorem kc_57 : ((57, (1804, .inr (0, 6, 0))) : Nat × Kd) ∈ KC := List.mem_of_getElem? (i := 57) rfl
theorem kc_58 : ((58, (1805, .inr (0, 42, 0))) : Nat × Kd) ∈ KC := List.mem_of_getElem? (i := 58) rfl
theorem kc_59 : ((59, (6, .inl fX6)) : Nat × Kd) ∈ KC := List.mem_of_getElem? (i := 59) rfl
theorem kc_60 : ((60, (1602, .inr (0, 6, 0))) : Nat × Kd) ∈ KC := List.mem_of_getElem? (i := 60) rfl
theorem kc_61 : ((61, (1603, .inr (0, 6, 0))) : Nat × Kd) ∈ KC := List.mem_of_getElem? (i := 61) rfl
theorem kc_62 : ((62, (6, .inl fX6)) : Nat × Kd) ∈ KC := List.mem_of_getElem? (i := 62) rfl
theorem kc_63 : ((63, (1602, .inr (0, 6, 0))) : Nat × Kd) ∈ KC := List.mem_of_getElem? (i := 63) rfl
theorem kc_64 : ((64, (1603, .inr (0, 6, 0))) : Nat × Kd) ∈ KC := List.mem_of_getElem? (i := 64) rfl
theorem kc_65 : ((65, (6, .inl fX6)) : Nat × Kd) ∈ KC := List.mem_of_getElem? (i := 65) rfl
theorem kc_66 : ((66, (1602, .inr (0, 6, 0))) : Nat × Kd) ∈ KC := List.mem_of_getElem? (i := 66) rfl
theorem kc_67 : ((67, (1603, .inr (0, 6, 0))) : Nat × Kd) ∈ KC := List.mem_of_getElem? (i := 67) rfl
theorem kc_68 : ((68, (6, .inl fX6)) : Nat × Kd) ∈ KC := List.mem_of_getElem? (i := 68) rfl
theorem kc_69 : ((69, (1602, .inr (0, 6, 0))) : Nat × Kd) ∈ KC := List.mem_of_getElem? (i := 69) rfl
theorem kc_70 : ((70, (1603, .inr (0, 6, 0))) : Nat × Kd) ∈ KC := List.mem_of_getElem? (i := 70) rfl
theorem kc_71 : ((71, (6, .inl fX6)) : Nat × Kd) ∈ KC := List.mem_of_getElem? (i := 71) rfl
theorem kc_72 : ((72, (1602, .inr (0, 6, 0))) : Nat × Kd) ∈ KC := List.mem_of_getElem? (i := 72) rfl
theorem kc_73 : ((73, (1603, .inr (0, 6, 0))) : Nat × Kd) ∈ KC := List.mem_of_getElem? (i := 73) rfl
theorem kc_74 : ((74, (6, .inl fX6)) : Nat × Kd) ∈ KC := List.mem_of_getElem? (i := 74) rfl
theorem kc_75 : ((75, (1602, .inr (0, 6, 0))) : Nat × Kd) ∈ KC := List.mem_of_getElem? (i := 75) rfl
theorem kc_76 : ((76, (1603, .inr (0, 6, 0))) : Nat × Kd) ∈ KC := List.mem_of_getElem? (i := 76) rfl
theorem kc_77 : ((77, (6, .inl fX6)) : Nat × Kd) ∈ KC := List.mem_of_getElem? (i := 77) rfl
theorem kc_78 : ((78, (1602, .inr (0, 6, 0))) : Nat × Kd) ∈ KC := List.mem_of_getElem? (i := 78) rfl
theorem kc_79 : ((79, (1603, .inr (0, 6, 0))) : Nat × Kd) ∈ KC := List.mem_of_getElem? (i := 79) rfl
theorem kc_80 : ((80, (0, .inl fX0)) : Nat × Kd) ∈ KC := List.mem_of_getElem? (i := 80) rfl
theorem kc_81 : ((81, (1003, .inr (3, 6, 2))) : Nat × Kd) ∈ KC := List.mem_of_getElem? (i := 81) rfl
theorem kc_82 : ((82, (1004, .inr (0, 5, 0))) : Nat × Kd) ∈ KC := List.mem_of_getElem? (i := 82) rfl
theorem kc_83 : ((83, (1005, .inr (0, 5, 0))) : Nat × Kd) ∈ KC := List.mem_of_getElem? (i := 83) rfl
theorem kc_84 : ((84, (1006, .inr (0, 252, 0))) : Nat × Kd) ∈ KC := List.mem_of_getElem? (i := 84) rfl
theorem kc_85 : ((85, (6, .inl fX6)) : Nat × Kd) ∈ KC := List.mem_of_getElem? (i := 85) rfl
theorem kc_86 : ((86, (1602, .inr (0, 6, 0))) : Nat × Kd) ∈ KC := List.mem_of_getElem? (i := 86) rfl
theorem kc_87 : ((87, (1603, .inr (0, 6, 0))) : Nat × Kd) ∈ KC := List.mem_of_getElem? (i := 87) rfl
theorem kc_88 : ((88, (6, .inl fX6)) : Nat × Kd) ∈ KC := List.mem_of_getElem? (i := 88) rfl
theorem kc_89 : ((89, (1602, .inr (0, 6, 0))) : Nat × Kd) ∈ KC := List.mem_of_getElem? (i := 89) rfl
theorem kc_90 : ((90, (1603, .inr (0, 6, 0))) : Nat × Kd) ∈ KC := List.mem_of_getElem? (i := 90) rfl
theorem kc_91 : ((91, (6, .inl fX6)) : Nat × Kd) ∈ KC := List.mem_of_getElem? (i := 91) rfl
theorem kc_92 : ((92, (1602, .inr (0, 6, 0))) : Nat × Kd) ∈ KC := List.mem_of_getElem? (i := 92) rfl
theorem kc_93 : ((93, (1603, .inr (0, 6, 0))) : Nat × Kd) ∈ KC := List.mem_of_getElem? (i := 93) rfl
theorem kc_94 : ((94, (6, .inl fX6)) : Nat × Kd) ∈ KC := List.mem_of_getElem? (i := 94) rfl
theorem kc_95 : ((95, (1602, .inr (0, 6, 0))) : Nat × Kd) ∈ KC := List.mem_of_getElem? (i := 95) rfl
theorem kc_96 : ((96, (1603, .inr (0, 6, 0))) : Nat × Kd) ∈ KC := List.mem_of_getElem? (i := 96) rfl
theorem kc_97 : ((97, (6, .inl fX6)) : Nat × Kd) ∈ KC := List.mem_of_getElem? (i := 97) rfl
theorem kc_98 : ((98, (1602, .inr (0, 6, 0))) : Nat × Kd) ∈ KC := List.mem_of_getElem? (i := 98) rfl
theorem kc_99 : ((99, (1603, .inr (0, 6, 0))) : Nat × Kd) ∈ KC := List.mem_of_getElem? (i := 99) rfl
theorem kc_100 : ((100, (6, .inl fX6)) : Nat × Kd) ∈ KC := List.mem_of_getElem? (i := 100) rfl
theorem kc_101 : ((101, (1602, .inr (0, 6, 0))) : Nat × Kd) ∈ KC := List.mem_of_getElem? (i := 101) rfl
theorem kc_102 : ((102, (1603, .inr (0, 6, 0))) : Nat × Kd) ∈ KC := List.mem_of_getElem? (i := 102) rfl
theorem kc_103 : ((103, (2013, .inr (4, 2, 2))) : Nat × Kd) ∈ KC := List.mem_of_getElem? (i := 103) rfl
theorem kc_104 : ((104, (2, .inl fX2)) : Nat × Kd) ∈ KC := List.mem_of_getElem? (i := 104) rfl
theorem kc_105 : ((105, (1203, .inr (0, 42, 0))) : Nat × Kd) ∈ KC := List.mem_of_getElem? (i := 105) rfl
theorem kc_106 : ((106, (6, .inl fX6)) : Nat × Kd) ∈ KC := List.mem_of_getElem? (i := 106) rfl
theorem kc_107 : ((107, (1602, .inr (0, 6, 0))) : Nat × Kd) ∈ KC := List.mem_of_getElem? (i := 107) rfl
theorem kc_108 : ((108, (1603, .inr (0, 6, 0))) : Nat × Kd) ∈ KC := List.mem_of_getElem? (i := 108) rfl
theorem kc_109 : ((109, (2, .inl fX2)) : Nat × Kd) ∈ KC := List.mem_of_getElem? (i := 109) rfl
theorem kc_110 : ((110, (1203, .inr (0, 42, 0))) : Nat × Kd) ∈ KC := List.mem_of_getElem? (i := 110) rfl
theorem kc_111 : ((111, (6, .inl fX6)) : Nat × Kd) ∈ KC := List.mem_of_getElem? (i := 111) rfl
theorem kc_112 : ((112, (1602, .inr (0, 6, 0))) : Nat × Kd) ∈ KC := List.mem_of_getElem? (i := 112) rfl
theorem kc_113 : ((113, (1603, .inr (0, 6, 0))) : Nat × Kd) ∈ KC := List.mem_of_getElem? (i := 113) rfl
theorem xc_0_0 : ((0, 0, 1) : Nat × Nat × Nat) ∈ XC := List.mem_of_getElem? (i := 0) rfl
theorem xc_0_1 : ((0, 1, 3) : Nat × Nat × Nat) ∈ XC := List.mem_of_getElem? (i := 1) rfl
theorem xc_0_2 : ((0, 2, 12) : Nat × Nat × Nat) ∈ XC := List.mem_of_getElem? (i := 2) rfl
theorem xc_0_3 : ((0, 3, 21) : Nat × Nat × Nat) ∈ XC := List.mem_of_getElem? (i := 3) rfl
theorem xc_0_4 : ((0, 4, 28) : Nat × Nat × Nat) ∈ XC := List.mem_of_getElem? (i := 4) rfl
theorem xc_0_5 : ((0, 5, 35) : Nat × Nat × Nat) ∈ XC := List.mem_of_getElem? (i := 5) rfl
theorem xc_0_6 : ((0, 6, 38) : Nat × Nat × Nat) ∈ XC := List.mem_of_getElem? (i := 6) rfl
theorem xc_0_7 : ((0, 7, 41) : Nat × Nat × Nat) ∈ XC := List.mem_of_getElem? (i := 7) rfl
theorem xc_0_8 : ((0, 8, 44) : Nat × Nat × Nat) ∈ XC := List.mem_of_getElem? (i := 8) rfl
theorem xc_0_9 : ((0, 9, 47) : Nat × Nat × Nat) ∈ XC := List.mem_of_getElem? (i := 9) rfl
theorem xc_0_10 : ((0, 10, 51) : Nat × Nat × Nat) ∈ XC := List.mem_of_getElem? (i := 10) rfl
theorem xc_0_11 : ((0, 11, 55) : Nat × Nat × Nat) ∈ XC := List.mem_of_getElem? (i := 11) rfl
theorem xc_0_12 : ((0, 12, 80) : Nat × Nat × Nat) ∈ XC := List.mem_of_getElem? (i := 12) rfl
theorem xc_0_13 : ((0, 13, 103) : Nat × Nat × Nat) ∈ XC := List.mem_of_getElem? (i := 13) rfl
theorem xc_1_3 : ((1, 3, 2) : Nat × Nat × Nat) ∈ XC := List.mem_of_getElem? (i := 14) rfl
theorem xc_3_9 : ((3, 9, 4) : Nat × Nat × Nat) ∈ XC := List.mem_of_getElem? (i := 15) rfl
theorem xc_3_10 : ((3, 10, 5) : Nat × Nat × Nat) ∈ XC := List.mem_of_getElem? (i := 16) rfl
theorem xc_3_11 : ((3, 11, 6) : Nat × Nat × Nat) ∈ XC := List.mem_of_getElem? (i := 17) rfl
theorem xc_3_12 : ((3, 12, 7) : Nat × Nat × Nat) ∈ XC := List.mem_of_getElem? (i := 18) rfl
theorem xc_3_13 : ((3, 13, 8) : Nat × Nat × Nat) ∈ XC := List.mem_of_getElem? (i := 19) rfl
theorem xc_3_14 : ((3, 14, 9) : Nat × Nat × Nat) ∈ XC := List.mem_of_getElem? (i := 20) rfl
theorem xc_3_15 : ((3, 15, 10) : Nat × Nat × Nat) ∈ XC := List.mem_of_getElem? (i := 21) rfl
theorem xc_3_16 : ((3, 16, 11) : Nat × Nat × Nat) ∈ XC := List.mem_of_getElem? (i := 22) rfl
theorem xc_12_9 : ((12, 9, 13) : Nat × Nat × Nat) ∈ XC := List.mem_of_getElem? (i := 23) rfl
theorem xc_12_10 : ((12, 10, 14) : Nat × Nat × Nat) ∈ XC := List.mem_of_getElem? (i := 24) rfl
theorem xc_12_11 : ((12, 11, 15) : Nat × Nat × Nat) ∈ XC := List.mem_of_getElem? (i := 25) rfl
theorem xc_12_12 : ((12, 12, 16) : Nat × Nat × Nat) ∈ XC := List.mem_of_getElem? (i := 26) rfl
theorem xc_12_13 : ((12, 13, 17) : Nat × Nat × Nat) ∈ XC := List.mem_of_getElem? (i := 27) rfl
theorem xc_12_14 : ((12, 14, 18) : Nat × Nat × Nat) ∈ XC := List.mem_of_getElem? (i := 28) rfl
theorem xc_12_15 : ((12, 15, 19) : Nat × Nat × Nat) ∈ XC := List.mem_of_getElem? (i := 29) rfl
theorem xc_12_16 : ((12, 16, 20) : Nat × Nat × Nat) ∈ XC := List.mem_of_getElem? (i := 30) rfl
theorem xc_21_1 : ((21, 1, 22) : Nat × Nat × Nat) ∈ XC := List.mem_of_getElem? (i := 31) rfl
theorem xc_21_4 : ((21, 4, 23) : Nat × Nat × Nat) ∈ XC := List.mem_of_getElem? (i := 32) rfl
theorem xc_21_5 : ((21, 5, 24) : Nat × Nat × Nat) ∈ XC := List.mem_of_getElem? (i := 33) rfl
theorem xc_21_6 : ((21, 6, 25) : Nat × Nat × Nat) ∈ XC := List.mem_of_getElem? (i := 34) rfl
theorem xc_21_7 : ((21, 7, 26) : Nat × Nat × Nat) ∈ XC := List.mem_of_getElem? (i := 35) rfl
theorem xc_21_8 : ((21, 8, 27) : Nat × Nat × Nat) ∈ XC := List.mem_of_getElem? (i := 36) rfl
theorem xc_28_1 : ((28, 1, 29) : Nat × Nat × Nat) ∈ XC := List.mem_of_getElem? (i := 37) rfl
theorem xc_28_4 : ((28, 4, 30) : Nat × Nat × Nat) ∈ XC := List.mem_of_getElem? (i := 38) rfl
theorem xc_28_5 : ((28, 5, 31) : Nat × Nat × Nat) ∈ XC := List.mem_of_getElem? (i := 39) rfl
theorem xc_28_6 : ((28, 6, 32) : Nat × Nat × Nat) ∈ XC := List.mem_of_getElem? (i := 40) rfl
theorem xc_28_7 : ((28, 7, 33) : Nat × Nat × Nat) ∈ XC := List.mem_of_getElem? (i := 41) rfl
theorem xc_28_8 : ((28, 8, 34) : Nat × Nat × Nat) ∈ XC := List.mem_of_getElem? (i := 42) rfl
theorem xc_35_2 : ((35, 2, 36) : Nat × Nat × Nat) ∈ XC := List.mem_of_getElem? (i := 43) rfl
theorem xc_35_3 : ((35, 3, 37) : Nat × Nat × Nat) ∈ XC := List.mem_of_getElem? (i := 44) rfl
theorem xc_35_4 : ((35, 4, 3) : Nat × Nat × Nat) ∈ XC := List.mem_of_getElem? (i := 45) rfl
theorem xc_35_5 : ((35, 5, 21) : Nat × Nat × Nat) ∈ XC := List.mem_of_getElem? (i := 46) rfl
theorem xc_38_2 : ((38, 2, 39) : Nat × Nat × Nat) ∈ XC := List.mem_of_getElem? (i := 47) rfl
theorem xc_38_3 : ((38, 3, 40) : Nat × Nat × Nat) ∈ XC := List.mem_of_getElem? (i := 48) rfl
theorem xc_38_4 : ((38, 4, 3) : Nat × Nat × Nat) ∈ XC := List.mem_of_getElem? (i := 49) rfl
theorem xc_38_5 : ((38, 5, 21) : Nat × Nat × Nat) ∈ XC := List.mem_of_getElem? (i := 50) rfl
theorem xc_41_2 : ((41, 2, 42) : Nat × Nat × Nat) ∈ XC := List.mem_of_getElem? (i := 51) rfl
theorem xc_41_3 : ((41, 3, 43) : Nat × Nat × Nat) ∈ XC := List.mem_of_getElem? (i := 52) rfl
theorem xc_41_4 : ((41, 4, 3) : Nat × Nat × Nat) ∈ XC := List.mem_of_getElem? (i := 53) rfl
theorem xc_41_5 : ((41, 5, 28) : Nat × Nat × Nat) ∈ XC := List.mem_of_getElem? (i := 54) rfl
theorem xc_44_1 : ((44, 1, 45) : Nat × Nat × Nat) ∈ XC := List.mem_of_getElem? (i := 55) rfl
theorem xc_44_2 : ((44, 2, 46) : Nat × Nat × Nat) ∈ XC := List.mem_of_getElem? (i := 56) rfl
theorem xc_47_1 : ((47, 1, 48) : Nat × Nat × Nat) ∈ XC := List.mem_of_getElem? (i := 57) rfl
theorem xc_47_2 : ((47, 2, 49) : Nat × Nat × Nat) ∈ XC := List.mem_of_getElem? (i := 58) rfl
theorem xc_47_3 : ((47, 3, 50) : Nat × Nat × Nat) ∈ XC := List.mem_of_getElem? (i := 59) rfl
theorem xc_51_0 : ((51, 0, 52) : Nat × Nat × Nat) ∈ XC := List.mem_of_getElem? (i := 60) rfl
theorem xc_51_1 : ((51, 1, 53) : Nat × Nat × Nat) ∈ XC := List.mem_of_getElem? (i := 61) rfl
theorem xc_51_2 : ((51, 2, 54) : Nat × Nat × Nat) ∈ XC := List.mem_of_getElem? (i := 62) rfl
theorem xc_55_1 : ((55, 1, 3) : Nat × Nat × Nat) ∈ XC := List.mem_of_getElem? (i := 63) rfl
theorem xc_55_2 : ((55, 2, 21) : Nat × Nat × Nat) ∈ XC := List.mem_of_getElem? (i := 64) rfl
theorem xc_55_3 : ((55, 3, 56) : Nat × Nat × Nat) ∈ XC := List.mem_of_getElem? (i := 65) rfl
theorem xc_55_4 : ((55, 4, 57) : Nat × Nat × Nat) ∈ XC := List.mem_of_getElem? (i := 66) rfl
theorem xc_55_5 : ((55, 5, 58) : Nat × Nat × Nat) ∈ XC := List.mem_of_getElem? (i := 67) rfl
theorem xc_55_6 : ((55, 6, 51) : Nat × Nat × Nat) ∈ XC := List.mem_of_getElem? (i := 68) rfl
theorem xc_56_0 : ((56, 0, 59) : Nat × Nat × Nat) ∈ XC := List.mem_of_getElem? (i := 69) rfl
theorem xc_56_1 : ((56, 1, 62) : Nat × Nat × Nat) ∈ XC := List.mem_of_getElem? (i := 70) rfl
theorem xc_56_2 : ((56, 2, 65) : Nat × Nat × Nat) ∈ XC := List.mem_of_getElem? (i := 71) rfl
theorem xc_56_3 : ((56, 3, 68) : Nat × Nat × Nat) ∈ XC := List.mem_of_getElem? (i := 72) rfl
theorem xc_56_4 : ((56, 4, 71) : Nat × Nat × Nat) ∈ XC := List.mem_of_getElem? (i := 73) rfl
theorem xc_56_5 : ((56, 5, 74) : Nat × Nat × Nat) ∈ XC := List.mem_of_getElem? (i := 74) rfl
theorem xc_56_6 : ((56, 6, 77) : Nat × Nat × Nat) ∈ XC := List.mem_of_getElem? (i := 75) rfl
theorem xc_59_2 : ((59, 2, 60) : Nat × Nat × Nat) ∈ XC := List.mem_of_getElem? (i := 76) rfl
theorem xc_59_3 : ((59, 3, 61) : Nat × Nat × Nat) ∈ XC := List.mem_of_getElem? (i := 77) rfl
theorem xc_59_4 : ((59, 4, 3) : Nat × Nat × Nat) ∈ XC := List.mem_of_getElem? (i := 78) rfl
theorem xc_59_5 : ((59, 5, 21) : Nat × Nat × Nat) ∈ XC := List.mem_of_getElem? (i := 79) rfl
theorem xc_62_2 : ((62, 2, 63) : Nat × Nat × Nat) ∈ XC := List.mem_of_getElem? (i := 80) rfl
theorem xc_62_3 : ((62, 3, 64) : Nat × Nat × Nat) ∈ XC := List.mem_of_getElem? (i := 81) rfl
theorem xc_62_4 : ((62, 4, 3) : Nat × Nat × Nat) ∈ XC := List.mem_of_getElem? (i := 82) rfl
theorem xc_62_5 : ((62, 5, 21) : Nat × Nat × Nat) ∈ XC := List.mem_of_getElem? (i := 83) rfl
theorem xc_65_2 : ((65, 2, 66) : Nat × Nat × Nat) ∈ XC := List.mem_of_getElem? (i := 84) rfl
theorem xc_65_3 : ((65, 3, 67) : Nat × Nat × Nat) ∈ XC := List.mem_of_getElem? (i := 85) rfl
theorem xc_65_4 : ((65, 4, 3) : Nat × Nat × Nat) ∈ XC := List.mem_of_getElem? (i := 86) rfl
theorem xc_65_5 : ((65, 5, 21) : Nat × Nat × Nat) ∈ XC := List.mem_of_getElem? (i := 87) rfl
theorem xc_68_2 : ((68, 2, 69) : Nat × Nat × Nat) ∈ XC := List.mem_of_getElem? (i := 88) rfl
theorem xc_68_3 : ((68, 3, 70) : Nat × Nat × Nat) ∈ XC := List.mem_of_getElem? (i := 89) rfl
theorem xc_68_4 : ((68, 4, 3) : Nat × Nat × Nat) ∈ XC := List.mem_of_getElem? (i := 90) rfl
theorem xc_68_5 : ((68, 5, 21) : Nat × Nat × Nat) ∈ XC := List.mem_of_getElem? (i := 91) rfl
theorem xc_71_2 : ((71, 2, 72) : Nat × Nat × Nat) ∈ XC := List.mem_of_getElem? (i := 92) rfl
theorem xc_71_3 : ((71, 3, 73) : Nat × Nat × Nat) ∈ XC := List.mem_of_getElem? (i := 93) rfl
theorem xc_71_4 : ((71, 4, 3) : Nat × Nat × Nat) ∈ XC := List.mem_of_getElem? (i := 94) rfl
theorem xc_71_5 : ((71, 5, 21) : Nat × Nat × Nat) ∈ XC := List.mem_of_getElem? (i := 95) rfl
theorem xc_74_2 : ((74, 2, 75) : Nat × Nat × Nat) ∈ XC := List.mem_of_getElem? (i := 96) rfl
theorem xc_74_3 : ((74, 3, 76) : Nat × Nat × Nat) ∈ XC := List.mem_of_getElem? (i := 97) rfl
theorem xc_74_4 : ((74, 4, 3) : Nat × Nat × Nat) ∈ XC := List.mem_of_getElem? (i := 98) rfl
theorem xc_74_5 : ((74, 5, 21) : Nat × Nat × Nat) ∈ XC := List.mem_of_getElem? (i := 99) rfl
theorem xc_77_2 : ((77, 2, 78) : Nat × Nat × Nat) ∈ XC := List.mem_of_getElem? (i := 100) rfl
theorem xc_77_3 : ((77, 3, 79) : Nat × Nat × Nat) ∈ XC := List.mem_of_getElem? (i := 101) rfl
theorem xc_77_4 : ((77, 4, 3) : Nat × Nat × Nat) ∈ XC := List.mem_of_getElem? (i := 102) rfl
theorem xc_77_5 : ((77, 5, 21) : Nat × Nat × Nat) ∈ XC := List.mem_of_getElem? (i := 103) rfl
theorem xc_80_1 : ((80, 1, 47) : Nat × Nat × Nat) ∈ XC := List.mem_of_getElem? (i := 104) rfl
theorem xc_80_2 : ((80, 2, 21) : Nat × Nat × Nat) ∈ XC := List.mem_of_getElem? (i := 105) rfl
theorem xc_80_3 : ((80, 3, 81) : Nat × Nat × Nat) ∈ XC := List.mem_of_getElem? (i := 106) rfl
theorem xc_80_4 : ((80, 4, 82) : Nat × Nat × Nat) ∈ XC := List.mem_of_getElem? (i := 107) rfl
theorem xc_80_5 : ((80, 5, 83) : Nat × Nat × Nat) ∈ XC := List.mem_of_getElem? (i := 108) rfl
theorem xc_80_6 : ((80, 6, 84) : Nat × Nat × Nat) ∈ XC := List.mem_of_getElem? (i := 109) rfl
theorem xc_80_7 : ((80, 7, 51) : Nat × Nat × Nat) ∈ XC := List.mem_of_getElem? (i := 110) rfl
theorem xc_81_0 : ((81, 0, 85) : Nat × Nat × Nat) ∈ XC := List.mem_of_getElem? (i := 111) rfl
theorem xc_81_1 : ((81, 1, 88) : Nat × Nat × Nat) ∈ XC := List.mem_of_getElem? (i := 112) rfl
theorem xc_81_2 : ((81, 2, 91) : Nat × Nat × Nat) ∈ XC := List.mem_of_getElem? (i := 113) rfl
theorem xc_81_3 : ((81, 3, 94) : Nat × Nat × Nat) ∈ XC := List.mem_of_getElem? (i := 114) rfl
theorem xc_81_4 : ((81, 4, 97) : Nat × Nat × Nat) ∈ XC := List.mem_of_getElem? (i := 115) rfl
theorem xc_81_5 : ((81, 5, 100) : Nat × Nat × Nat) ∈ XC := List.mem_of_getElem? (i := 116) rfl
theorem xc_85_2 : ((85, 2, 86) : Nat × Nat × Nat) ∈ XC := List.mem_of_getElem? (i := 117) rfl
theorem xc_85_3 : ((85, 3, 87) : Nat × Nat × Nat) ∈ XC := List.mem_of_getElem? (i := 118) rfl
theorem xc_85_4 : ((85, 4, 3) : Nat × Nat × Nat) ∈ XC := List.mem_of_getElem? (i := 119) rfl
theorem xc_85_5 : ((85, 5, 21) : Nat × Nat × Nat) ∈ XC := List.mem_of_getElem? (i := 120) rfl
theorem xc_88_2 : ((88, 2, 89) : Nat × Nat × Nat) ∈ XC := List.mem_of_getElem? (i := 121) rfl
theorem xc_88_3 : ((88, 3, 90) : Nat × Nat × Nat) ∈ XC := List.mem_of_getElem? (i := 122) rfl
theorem xc_88_4 : ((88, 4, 3) : Nat × Nat × Nat) ∈ XC := List.mem_of_getElem? (i := 123) rfl
theorem xc_88_5 : ((88, 5, 21) : Nat × Nat × Nat) ∈ XC := List.mem_of_getElem? (i := 124) rfl
theorem xc_91_2 : ((91, 2, 92) : Nat × Nat × Nat) ∈ XC := List.mem_of_getElem? (i := 125) rfl
theorem xc_91_3 : ((91, 3, 93) : Nat × Nat × Nat) ∈ XC := List.mem_of_getElem? (i := 126) rfl
theorem xc_91_4 : ((91, 4, 3) : Nat × Nat × Nat) ∈ XC := List.mem_of_getElem? (i := 127) rfl
theorem xc_91_5 : ((91, 5, 21) : Nat × Nat × Nat) ∈ XC := List.mem_of_getElem? (i := 128) rfl
theorem xc_94_2 : ((94, 2, 95) : Nat × Nat × Nat) ∈ XC := List.mem_of_getElem? (i := 129) rfl
theorem xc_94_3 : ((94, 3, 96) : Nat × Nat × Nat) ∈ XC := List.mem_of_getElem? (i := 130) rfl
theorem xc_94_4 : ((94, 4, 3) : Nat × Nat × Nat) ∈ XC := List.mem_of_getElem? (i := 131) rfl
theorem xc_94_5 : ((94, 5, 21) : Nat × Nat × Nat) ∈ XC := List.mem_of_getElem? (i := 132) rfl
theorem xc_97_2 : ((97, 2, 98) : Nat × Nat × Nat) ∈ XC := List.mem_of_getElem? (i := 133) rfl
theorem xc_97_3 : ((97, 3, 99) : Nat × Nat × Nat) ∈ XC := List.mem_of_getElem? (i := 134) rfl
theorem xc_97_4 : ((97, 4, 3) : Nat × Nat × Nat) ∈ XC := List.mem_of_getElem? (i := 135) rfl
theorem xc_97_5 : ((97, 5, 21) : Nat × Nat × Nat) ∈ XC := List.mem_of_getElem? (i := 136) rfl
theorem xc_100_2 : ((100, 2, 101) : Nat × Nat × Nat) ∈ XC := List.mem_of_getElem? (i := 137) rfl
theorem xc_100_3 : ((100, 3, 102) : Nat × Nat × Nat) ∈ XC := List.mem_of_getElem? (i := 138) rfl
theorem xc_100_4 : ((100, 4, 3) : Nat × Nat × Nat) ∈ XC := List.mem_of_getElem? (i := 139) rfl
theorem xc_100_5 : ((100, 5, 21) : Nat × Nat × Nat) ∈ XC := List.mem_of_getElem? (i := 140) rfl
theorem xc_103_0 : ((103, 0, 104) : Nat × Nat × Nat) ∈ XC := List.mem_of_getElem? (i := 141) rfl
theorem xc_103_1 : ((103, 1, 109) : Nat × Nat × Nat) ∈ XC := List.mem_of_getElem? (i := 142) rfl
theorem xc_104_2 : ((104, 2, 106) : Nat × Nat × Nat) ∈ XC := List.mem_of_getElem? (i := 143) rfl
theorem xc_104_3 : ((104, 3, 105) : Nat × Nat × Nat) ∈ XC := List.mem_of_getElem? (i := 144) rfl
theorem xc_106_2 : ((106, 2, 107) : Nat × Nat × Nat) ∈ XC := List.mem_of_getElem? (i := 145) rfl
theorem xc_106_3 : ((106, 3, 108) : Nat × Nat × Nat) ∈ XC := List.mem_of_getElem? (i := 146) rfl
theorem xc_106_4 : ((106, 4, 3) : Nat × Nat × Nat) ∈ XC := List.mem_of_getElem? (i := 147) rfl
theorem xc_106_5 : ((106, 5, 21) : Nat × Nat × Nat) ∈ XC := List.mem_of_getElem? (i := 148) rfl
theorem xc_109_2 : ((109, 2, 111) : Nat × Nat × Nat) ∈ XC := List.mem_of_getElem? (i := 149) rfl
theorem xc_109_3 : ((109, 3, 110) : Nat × Nat × Nat) ∈ XC := List.mem_of_getElem? (i := 150) rfl
theorem xc_111_2 : ((111, 2, 112) : Nat × Nat × Nat) ∈ XC := List.mem_of_getElem? (i := 151) rfl
theorem xc_111_3 : ((111, 3, 113) : Nat × Nat × Nat) ∈ XC := List.mem_of_getElem? (i := 152) rfl
theorem xc_111_4 : ((111, 4, 3) : Nat × Nat × Nat) ∈ XC := List.mem_of_getElem? (i := 153) rfl
theorem xc_111_5 : ((111, 5, 21) : Nat × Nat × Nat) ∈ XC := List.mem_of_getElem? (i := 154) rfl
def KM : List (Nat × Kd) := [(114, (11, .inl fX11)), (115, (2102, .inr (0, 42, 0))), (116, (2104, .inr (0, 6, 0))), (117, (2105, .inr (0, 6, 0))), (118, (2106, .inr (0, 6, 0))), (119, (2107, .inr (0, 6, 0))), (120, (2109, .inr (0, 3, 0))), (121, (2110, .inr (0, 3, 0))), (122, (2114, .inr (0, 6, 0))), (123, (2115, .inr (0, 6, 0))), (124, (2116, .inr (0, 6, 0))), (125, (2119, .inr (0, 500, 0))), (126, (2129, .inr (0, 42, 0))), (127, (2132, .inr (0, 6, 0))), (128, (2133, .inr (0, 6, 0))), (129, (2134, .inr (0, 6, 0))), (130, (2135, .inr (0, 6, 0))), (131, (2136, .inr (0, 6, 0))), (132, (2138, .inr (0, 3, 0))), (133, (2139, .inr (0, 3, 0))), (134, (2144, .inr (0, 1764, 0))), (135, (2146, .inr (0, 6, 0))), (136, (2147, .inr (0, 6, 0))), (137, (2148, .inr (0, 6, 0))), (138, (2150, .inr (0, 30, 0))), (139, (2151, .inr (0, 30, 0))), (140, (2153, .inr (0, 10, 0))), (141, (2154, .inr (0, 10, 0))), (142, (2155, .inr (0, 10, 0))), (143, (2156, .inr (0, 140, 0))), (144, (2157, .inr (1, 2, 0)))]
def XM : List (Nat × Nat × Nat) := [(114, 2, 115), (114, 4, 116), (114, 5, 117), (114, 6, 118), (114, 7, 119), (114, 9, 120), (114, 10, 121), (114, 14, 122), (114, 15, 123), (114, 16, 124), (114, 19, 125), (114, 29, 126), (114, 32, 127), (114, 33, 128), (114, 34, 129), (114, 35, 130), (114, 36, 131), (114, 38, 132), (114, 39, 133), (114, 44, 134), (114, 46, 135), (114, 47, 136), (114, 48, 137), (114, 50, 138), (114, 51, 139), (114, 53, 140), (114, 54, 141), (114, 55, 142), (114, 56, 143), (114, 57, 144)]
theorem kc_114 : ((114, (11, .inl fX11)) : Nat × Kd) ∈ KM := List.mem_of_getElem? (i := 0) rfl
theorem kc_115 : ((115, (2102, .inr (0, 42, 0))) : Nat × Kd) ∈ KM := List.mem_of_getElem? (i := 1) rfl
theorem kc_116 : ((116, (2104, .inr (0, 6, 0))) : Nat × Kd) ∈ KM := List.mem_of_getElem? (i := 2) rfl
theorem kc_117 : ((117, (2105, .inr (0, 6, 0))) : Nat × Kd) ∈ KM := List.mem_of_getElem? (i := 3) rfl
theorem kc_118 : ((118, (2106, .inr (0, 6, 0))) : Nat × Kd) ∈ KM := List.mem_of_getElem? (i := 4) rfl
theorem kc_119 : ((119, (2107, .inr (0, 6, 0))) : Nat × Kd) ∈ KM := List.mem_of_getElem? (i := 5) rfl
theorem kc_120 : ((120, (2109, .inr (0, 3, 0))) : Nat × Kd) ∈ KM := List.mem_of_getElem? (i := 6) rfl
theorem kc_121 : ((121, (2110, .inr (0, 3, 0))) : Nat × Kd) ∈ KM := List.mem_of_getElem? (i := 7) rfl
theorem kc_122 : ((122, (2114, .inr (0, 6, 0))) : Nat × Kd) ∈ KM := List.mem_of_getElem? (i := 8) rfl
theorem kc_123 : ((123, (2115, .inr (0, 6, 0))) : Nat × Kd) ∈ KM := List.mem_of_getElem? (i := 9) rfl
theorem kc_124 : ((124, (2116, .inr (0, 6, 0))) : Nat × Kd) ∈ KM := List.mem_of_getElem? (i := 10) rfl
theorem kc_125 : ((125, (2119, .inr (0, 500, 0))) : Nat × Kd) ∈ KM := List.mem_of_getElem? (i := 11) rfl
theorem kc_126 : ((126, (2129, .inr (0, 42, 0))) : Nat × Kd) ∈ KM := List.mem_of_getElem? (i := 12) rfl
theorem kc_127 : ((127, (2132, .inr (0, 6, 0))) : Nat × Kd) ∈ KM := List.mem_of_getElem? (i := 13) rfl
theorem kc_128 : ((128, (2133, .inr (0, 6, 0))) : Nat × Kd) ∈ KM := List.mem_of_getElem? (i := 14) rfl
theorem kc_129 : ((129, (2134, .inr (0, 6, 0))) : Nat × Kd) ∈ KM := List.mem_of_getElem? (i := 15) rfl
theorem kc_130 : ((130, (2135, .inr (0, 6, 0))) : Nat × Kd) ∈ KM := List.mem_of_getElem? (i := 16) rfl
theorem kc_131 : ((131, (2136, .inr (0, 6, 0))) : Nat × Kd) ∈ KM := List.mem_of_getElem? (i := 17) rfl
theorem kc_132 : ((132, (2138, .inr (0, 3, 0))) : Nat × Kd) ∈ KM := List.mem_of_getElem? (i := 18) rfl
theorem kc_133 : ((133, (2139, .inr (0, 3, 0))) : Nat × Kd) ∈ KM := List.mem_of_getElem? (i := 19) rfl
theorem kc_134 : ((134, (2144, .inr (0, 1764, 0))) : Nat × Kd) ∈ KM := List.mem_of_getElem? (i := 20) rfl
theorem kc_135 : ((135, (2146, .inr (0, 6, 0))) : Nat × Kd) ∈ KM := List.mem_of_getElem? (i := 21) rfl
theorem kc_136 : ((136, (2147, .inr (0, 6, 0))) : Nat × Kd) ∈ KM := List.mem_of_getElem? (i := 22) rfl
theorem kc_137 : ((137, (2148, .inr (0, 6, 0))) : Nat × Kd) ∈ KM := List.mem_of_getElem? (i := 23) rfl
theorem kc_138 : ((138, (2150, .inr (0, 30, 0))) : Nat × Kd) ∈ KM := List.mem_of_getElem? (i := 24) rfl
theorem kc_139 : ((139, (2151, .inr (0, 30, 0))) : Nat × Kd) ∈ KM := List.mem_of_getElem? (i := 25) rfl
theorem kc_140 : ((140, (2153, .inr (0, 10, 0))) : Nat × Kd) ∈ KM := List.mem_of_getElem? (i := 26) rfl
theorem kc_141 : ((141, (2154, .inr (0, 10, 0))) : Nat × Kd) ∈ KM := List.mem_of_getElem? (i := 27) rfl
theorem kc_142 : ((142, (2155, .inr (0, 10, 0))) : Nat × Kd) ∈ KM := List.mem_of_getElem? (i := 28) rfl
theorem kc_143 : ((143, (2156, .inr (0, 140, 0))) : Nat × Kd) ∈ KM := List.mem_of_getElem? (i := 29) rfl
theorem kc_144 : ((144, (2157, .inr (1, 2, 0))) : Nat × Kd) ∈ KM := List.mem_of_getElem? (i := 30) rfl
theorem xc_114_2 : ((114, 2, 115) : Nat × Nat × Nat) ∈ XM := List.mem_of_getElem? (i := 0) rfl
theorem xc_114_4 : ((114, 4, 116) : Nat × Nat × Nat) ∈ XM := List.mem_of_getElem? (i := 1) rfl
theorem xc_114_5 : ((114, 5, 117) : Nat × Nat × Nat) ∈ XM := List.mem_of_getElem? (i := 2) rfl
theorem xc_114_6 : ((114, 6, 118) : Nat × Nat × Nat) ∈ XM := List.mem_of_getElem? (i := 3) rfl
theorem xc_114_7 : ((114, 7, 119) : Nat × Nat × Nat) ∈ XM := List.mem_of_getElem? (i := 4) rfl
theorem xc_114_9 : ((114, 9, 120) : Nat × Nat × Nat) ∈ XM := List.mem_of_getElem? (i := 5) rfl
theorem xc_114_10 : ((114, 10, 121) : Nat × Nat × Nat) ∈ XM := List.mem_of_getElem? (i := 6) rfl
theorem xc_114_14 : ((114, 14, 122) : Nat × Nat × Nat) ∈ XM := List.mem_of_getElem? (i := 7) rfl
theorem xc_114_15 : ((114, 15, 123) : Nat × Nat × Nat) ∈ XM := List.mem_of_getElem? (i := 8) rfl
theorem xc_114_16 : ((114, 16, 124) : Nat × Nat × Nat) ∈ XM := List.mem_of_getElem? (i := 9) rfl
theorem xc_114_19 : ((114, 19, 125) : Nat × Nat × Nat) ∈ XM := List.mem_of_getElem? (i := 10) rfl
theorem xc_114_29 : ((114, 29, 126) : Nat × Nat × Nat) ∈ XM := List.mem_of_getElem? (i := 11) rfl
theorem xc_114_32 : ((114, 32, 127) : Nat × Nat × Nat) ∈ XM := List.mem_of_getElem? (i := 12) rfl
theorem xc_114_33 : ((114, 33, 128) : Nat × Nat × Nat) ∈ XM := List.mem_of_getElem? (i := 13) rfl
theorem xc_114_34 : ((114, 34, 129) : Nat × Nat × Nat) ∈ XM := List.mem_of_getElem? (i := 14) rfl
theorem xc_114_35 : ((114, 35, 130) : Nat × Nat × Nat) ∈ XM := List.mem_of_getElem? (i := 15) rfl
theorem xc_114_36 : ((114, 36, 131) : Nat × Nat × Nat) ∈ XM := List.mem_of_getElem? (i := 16) rfl
theorem xc_114_38 : ((114, 38, 132) : Nat × Nat × Nat) ∈ XM := List.mem_of_getElem? (i := 17) rfl
theorem xc_114_39 : ((114, 39, 133) : Nat × Nat × Nat) ∈ XM := List.mem_of_getElem? (i := 18) rfl
theorem xc_114_44 : ((114, 44, 134) : Nat × Nat × Nat) ∈ XM := List.mem_of_getElem? (i := 19) rfl
theorem xc_114_46 : ((114, 46, 135) : Nat × Nat × Nat) ∈ XM := List.mem_of_getElem? (i := 20) rfl
theorem xc_114_47 : ((114, 47, 136) : Nat × Nat × Nat) ∈ XM := List.mem_of_getElem? (i := 21) rfl
theorem xc_114_48 : ((114, 48, 137) : Nat × Nat × Nat) ∈ XM := List.mem_of_getElem? (i := 22) rfl
theorem xc_114_50 : ((114, 50, 138) : Nat × Nat × Nat) ∈ XM := List.mem_of_getElem? (i := 23) rfl
theorem xc_114_51 : ((114, 51, 139) : Nat × Nat × Nat) ∈ XM := List.mem_of_getElem? (i := 24) rfl
theorem xc_114_53 : ((114, 53, 140) : Nat × Nat × Nat) ∈ XM := List.mem_of_getElem? (i := 25) rfl
theorem xc_114_54 : ((114, 54, 141) : Nat × Nat × Nat) ∈ XM := List.mem_of_getElem? (i := 26) rfl
theorem xc_114_55 : ((114, 55, 142) : Nat × Nat × Nat) ∈ XM := List.mem_of_getElem? (i := 27) rfl
theorem xc_114_56 : ((114, 56, 143) : Nat × Nat × Nat) ∈ XM := List.mem_of_getElem? (i := 28) rfl
theorem xc_114_57 : ((114, 57, 144) : Nat × Nat × Nat) ∈ XM := List.mem_of_getElem? (i := 29) rfl
end
section
theorem dX10_isCrowd_0 : decode cX10_isCrowd 0 = .ok (.iload_n 1, 1) := by decide +kernel
theorem dX10_isCrowd_1 : decode cX10_isCrowd 1 = .ok (.ifCond .lt 18, 3) := by decide +kernel
theorem dX10_isCrowd_4 : decode cX10_isCrowd 4 = .ok (.iload_n 1, 1) := by decide +kernel
theorem dX10_isCrowd_5 : decode cX10_isCrowd 5 = .ok (.aload_n 0, 1) := by decide +kernel
theorem dX10_isCrowd_6 : decode cX10_isCrowd 6 = .ok (.getfield 19, 3) := by decide +kernel
theorem dX10_isCrowd_9 : decode cX10_isCrowd 9 = .ok (.getfield 129, 3) := by decide +kernel
theorem dX10_isCrowd_12 : decode cX10_isCrowd 12 = .ok (.if_icmp .ge 7, 3) := by decide +kernel
theorem dX10_isCrowd_15 : decode cX10_isCrowd 15 = .ok (.iconst 1, 1) := by decide +kernel
theorem dX10_isCrowd_16 : decode cX10_isCrowd 16 = .ok (.goto 4, 3) := by decide +kernel
theorem dX10_isCrowd_19 : decode cX10_isCrowd 19 = .ok (.iconst 0, 1) := by decide +kernel
theorem dX10_isCrowd_20 : decode cX10_isCrowd 20 = .ok (.ireturn, 1) := by decide +kernel
theorem dX10_isImage_0 : decode cX10_isImage 0 = .ok (.iload_n 0, 1) := by decide +kernel
theorem dX10_isImage_1 : decode cX10_isImage 1 = .ok (.ifCond .lt 12, 3) := by decide +kernel
theorem dX10_isImage_4 : decode cX10_isImage 4 = .ok (.iload_n 0, 1) := by decide +kernel
theorem dX10_isImage_5 : decode cX10_isImage 5 = .ok (.iconst 2, 1) := by decide +kernel
theorem dX10_isImage_6 : decode cX10_isImage 6 = .ok (.if_icmp .ge 7, 3) := by decide +kernel
theorem dX10_isImage_9 : decode cX10_isImage 9 = .ok (.iconst 1, 1) := by decide +kernel
theorem dX10_isImage_10 : decode cX10_isImage 10 = .ok (.goto 4, 3) := by decide +kernel
theorem dX10_isImage_13 : decode cX10_isImage 13 = .ok (.iconst 0, 1) := by decide +kernel
theorem dX10_isImage_14 : decode cX10_isImage 14 = .ok (.ireturn, 1) := by decide +kernel
theorem dX10_isKind_0 : decode cX10_isKind 0 = .ok (.iload_n 0, 1) := by decide +kernel
theorem dX10_isKind_1 : decode cX10_isKind 1 = .ok (.ifCond .lt 12, 3) := by decide +kernel
theorem dX10_isKind_4 : decode cX10_isKind 4 = .ok (.iload_n 0, 1) := by decide +kernel
theorem dX10_isKind_5 : decode cX10_isKind 5 = .ok (.iconst 3, 1) := by decide +kernel
theorem dX10_isKind_6 : decode cX10_isKind 6 = .ok (.if_icmp .ge 7, 3) := by decide +kernel
theorem dX10_isKind_9 : decode cX10_isKind 9 = .ok (.iconst 1, 1) := by decide +kernel
theorem dX10_isKind_10 : decode cX10_isKind 10 = .ok (.goto 4, 3) := by decide +kernel
theorem dX10_isKind_13 : decode cX10_isKind 13 = .ok (.iconst 0, 1) := by decide +kernel
theorem dX10_isKind_14 : decode cX10_isKind 14 = .ok (.ireturn, 1) := by decide +kernel
theorem dX10_isStep_0 : decode cX10_isStep 0 = .ok (.iload_n 0, 1) := by decide +kernel
theorem dX10_isStep_1 : decode cX10_isStep 1 = .ok (.ifCond .lt 12, 3) := by decide +kernel
theorem dX10_isStep_4 : decode cX10_isStep 4 = .ok (.iload_n 0, 1) := by decide +kernel
theorem dX10_isStep_5 : decode cX10_isStep 5 = .ok (.iconst 4, 1) := by decide +kernel
theorem dX10_isStep_6 : decode cX10_isStep 6 = .ok (.if_icmp .gt 7, 3) := by decide +kernel
theorem dX10_isStep_9 : decode cX10_isStep 9 = .ok (.iconst 1, 1) := by decide +kernel
theorem dX10_isStep_10 : decode cX10_isStep 10 = .ok (.goto 4, 3) := by decide +kernel
theorem dX10_isStep_13 : decode cX10_isStep 13 = .ok (.iconst 0, 1) := by decide +kernel
theorem dX10_isStep_14 : decode cX10_isStep 14 = .ok (.ireturn, 1) := by decide +kernel
theorem dX10_isTune_0 : decode cX10_isTune 0 = .ok (.iload_n 1, 1) := by decide +kernel
theorem dX10_isTune_1 : decode cX10_isTune 1 = .ok (.ifCond .lt 18, 3) := by decide +kernel
theorem dX10_isTune_4 : decode cX10_isTune 4 = .ok (.iload_n 1, 1) := by decide +kernel
theorem dX10_isTune_5 : decode cX10_isTune 5 = .ok (.aload_n 0, 1) := by decide +kernel
theorem dX10_isTune_6 : decode cX10_isTune 6 = .ok (.getfield 19, 3) := by decide +kernel
theorem dX10_isTune_9 : decode cX10_isTune 9 = .ok (.getfield 132, 3) := by decide +kernel
theorem dX10_isTune_12 : decode cX10_isTune 12 = .ok (.if_icmp .ge 7, 3) := by decide +kernel
theorem dX10_isTune_15 : decode cX10_isTune 15 = .ok (.iconst 1, 1) := by decide +kernel
theorem dX10_isTune_16 : decode cX10_isTune 16 = .ok (.goto 4, 3) := by decide +kernel
theorem dX10_isTune_19 : decode cX10_isTune 19 = .ok (.iconst 0, 1) := by decide +kernel
theorem dX10_isTune_20 : decode cX10_isTune 20 = .ok (.ireturn, 1) := by decide +kernel
theorem dX10_isTuneOrNone_0 : decode cX10_isTuneOrNone 0 = .ok (.iload_n 1, 1) := by decide +kernel
theorem dX10_isTuneOrNone_1 : decode cX10_isTuneOrNone 1 = .ok (.iconst (-1), 1) := by decide +kernel
theorem dX10_isTuneOrNone_2 : decode cX10_isTuneOrNone 2 = .ok (.if_icmp .eq 11, 3) := by decide +kernel
theorem dX10_isTuneOrNone_5 : decode cX10_isTuneOrNone 5 = .ok (.aload_n 0, 1) := by decide +kernel
theorem dX10_isTuneOrNone_6 : decode cX10_isTuneOrNone 6 = .ok (.iload_n 1, 1) := by decide +kernel
theorem dX10_isTuneOrNone_7 : decode cX10_isTuneOrNone 7 = .ok (.invokevirtual 190, 3) := by decide +kernel
theorem dX10_isTuneOrNone_10 : decode cX10_isTuneOrNone 10 = .ok (.ifCond .eq 7, 3) := by decide +kernel
theorem dX10_isTuneOrNone_13 : decode cX10_isTuneOrNone 13 = .ok (.iconst 1, 1) := by decide +kernel
theorem dX10_isTuneOrNone_14 : decode cX10_isTuneOrNone 14 = .ok (.goto 4, 3) := by decide +kernel
theorem dX10_isTuneOrNone_17 : decode cX10_isTuneOrNone 17 = .ok (.iconst 0, 1) := by decide +kernel
theorem dX10_isTuneOrNone_18 : decode cX10_isTuneOrNone 18 = .ok (.ireturn, 1) := by decide +kernel
theorem dX1_cellAt_0 : decode cX1_cellAt 0 = .ok (.iload_n 1, 1) := by decide +kernel
theorem dX1_cellAt_1 : decode cX1_cellAt 1 = .ok (.ifCond .lt 34, 3) := by decide +kernel
theorem dX1_cellAt_4 : decode cX1_cellAt 4 = .ok (.iload_n 1, 1) := by decide +kernel
theorem dX1_cellAt_5 : decode cX1_cellAt 5 = .ok (.aload_n 0, 1) := by decide +kernel
theorem dX1_cellAt_6 : decode cX1_cellAt 6 = .ok (.getfield 37, 3) := by decide +kernel
theorem dX1_cellAt_9 : decode cX1_cellAt 9 = .ok (.if_icmp .ge 26, 3) := by decide +kernel
theorem dX1_cellAt_12 : decode cX1_cellAt 12 = .ok (.iload_n 2, 1) := by decide +kernel
theorem dX1_cellAt_13 : decode cX1_cellAt 13 = .ok (.ifCond .lt 22, 3) := by decide +kernel
theorem dX1_cellAt_16 : decode cX1_cellAt 16 = .ok (.iload_n 2, 1) := by decide +kernel
theorem dX1_cellAt_17 : decode cX1_cellAt 17 = .ok (.aload_n 0, 1) := by decide +kernel
theorem dX1_cellAt_18 : decode cX1_cellAt 18 = .ok (.getfield 41, 3) := by decide +kernel
theorem dX1_cellAt_21 : decode cX1_cellAt 21 = .ok (.if_icmp .ge 14, 3) := by decide +kernel
theorem dX1_cellAt_24 : decode cX1_cellAt 24 = .ok (.iload_n 2, 1) := by decide +kernel
theorem dX1_cellAt_25 : decode cX1_cellAt 25 = .ok (.aload_n 0, 1) := by decide +kernel
theorem dX1_cellAt_26 : decode cX1_cellAt 26 = .ok (.getfield 37, 3) := by decide +kernel
theorem dX1_cellAt_29 : decode cX1_cellAt 29 = .ok (.imul, 1) := by decide +kernel
theorem dX1_cellAt_30 : decode cX1_cellAt 30 = .ok (.iload_n 1, 1) := by decide +kernel
theorem dX1_cellAt_31 : decode cX1_cellAt 31 = .ok (.iadd, 1) := by decide +kernel
theorem dX1_cellAt_32 : decode cX1_cellAt 32 = .ok (.goto 4, 3) := by decide +kernel
theorem dX1_cellAt_35 : decode cX1_cellAt 35 = .ok (.iconst (-1), 1) := by decide +kernel
theorem dX1_cellAt_36 : decode cX1_cellAt 36 = .ok (.ireturn, 1) := by decide +kernel
theorem dX1_code_0 : decode cX1_code 0 = .ok (.iload_n 1, 1) := by decide +kernel
theorem dX1_code_1 : decode cX1_code 1 = .ok (.invokestatic 65, 3) := by decide +kernel
theorem dX1_code_4 : decode cX1_code 4 = .ok (.ifCond .eq 12, 3) := by decide +kernel
theorem dX1_code_7 : decode cX1_code 7 = .ok (.aload_n 0, 1) := by decide +kernel
theorem dX1_code_8 : decode cX1_code 8 = .ok (.getfield 15, 3) := by decide +kernel
theorem dX1_code_11 : decode cX1_code 11 = .ok (.iload_n 1, 1) := by decide +kernel
theorem dX1_code_12 : decode cX1_code 12 = .ok (.iaload, 1) := by decide +kernel
theorem dX1_code_13 : decode cX1_code 13 = .ok (.goto 4, 3) := by decide +kernel
theorem dX1_code_16 : decode cX1_code 16 = .ok (.iconst (-1), 1) := by decide +kernel
theorem dX1_code_17 : decode cX1_code 17 = .ok (.ireturn, 1) := by decide +kernel
theorem dX1_forgetWays_0 : decode cX1_forgetWays 0 = .ok (.iconst 0, 1) := by decide +kernel
theorem dX1_forgetWays_1 : decode cX1_forgetWays 1 = .ok (.istore_n 1, 1) := by decide +kernel
theorem dX1_forgetWays_2 : decode cX1_forgetWays 2 = .ok (.iload_n 1, 1) := by decide +kernel
theorem dX1_forgetWays_3 : decode cX1_forgetWays 3 = .ok (.bipush 42, 2) := by decide +kernel
theorem dX1_forgetWays_5 : decode cX1_forgetWays 5 = .ok (.if_icmp .ge 16, 3) := by decide +kernel
theorem dX1_forgetWays_8 : decode cX1_forgetWays 8 = .ok (.aload_n 0, 1) := by decide +kernel
theorem dX1_forgetWays_9 : decode cX1_forgetWays 9 = .ok (.getfield 24, 3) := by decide +kernel
theorem dX1_forgetWays_12 : decode cX1_forgetWays 12 = .ok (.iload_n 1, 1) := by decide +kernel
theorem dX1_forgetWays_13 : decode cX1_forgetWays 13 = .ok (.iconst 0, 1) := by decide +kernel
theorem dX1_forgetWays_14 : decode cX1_forgetWays 14 = .ok (.bastore, 1) := by decide +kernel
theorem dX1_forgetWays_15 : decode cX1_forgetWays 15 = .ok (.iinc 1 1, 3) := by decide +kernel
theorem dX1_forgetWays_18 : decode cX1_forgetWays 18 = .ok (.goto (-16), 3) := by decide +kernel
theorem dX1_forgetWays_21 : decode cX1_forgetWays 21 = .ok (.return_, 1) := by decide +kernel
theorem dX1_isCell_0 : decode cX1_isCell 0 = .ok (.iload_n 0, 1) := by decide +kernel
theorem dX1_isCell_1 : decode cX1_isCell 1 = .ok (.ifCond .lt 13, 3) := by decide +kernel
theorem dX1_isCell_4 : decode cX1_isCell 4 = .ok (.iload_n 0, 1) := by decide +kernel
theorem dX1_isCell_5 : decode cX1_isCell 5 = .ok (.bipush 42, 2) := by decide +kernel
theorem dX1_isCell_7 : decode cX1_isCell 7 = .ok (.if_icmp .ge 7, 3) := by decide +kernel
theorem dX1_isCell_10 : decode cX1_isCell 10 = .ok (.iconst 1, 1) := by decide +kernel
theorem dX1_isCell_11 : decode cX1_isCell 11 = .ok (.goto 4, 3) := by decide +kernel
theorem dX1_isCell_14 : decode cX1_isCell 14 = .ok (.iconst 0, 1) := by decide +kernel
theorem dX1_isCell_15 : decode cX1_isCell 15 = .ok (.ireturn, 1) := by decide +kernel
end
section
set_option maxHeartbeats 4000000 in
set_option maxRecDepth 100000 in
theorem ctX1_isCell (l : Launch) (G : Gt) (w : Wv) (a1 : Int32) : CtI l G yX1_isCell cX1_isCell 1 .boolean ({ frames := 0, cells := 0, slots := 0, locals := 0 } : Room) [.int a1] w (fun r w' => Ch [] w w' ∧ ((0 ≤ a1.toInt ∧ a1.toInt < 42 → r.toInt = 1) ∧ (a1.toInt < 0 ∨ 42 ≤ a1.toInt → r.toInt = 0))) := by
  refine enterI (by decide) (Nat.le_of_ble_eq_true rfl) ?_
  intro x el eG C hret
  subst el; subst eG
  show V x 0 0 w 0 [(0, .int a1)] []
  have h0 : Ch [] w w := Ch.rf
  have q0 : (0 : Int32).toInt = 0 := by decide
  have q1 : (1 : Int32).toInt = 1 := by decide
  have q42 : (42 : Int32).toInt = 42 := by decide
  refine r_iload_n 0 C dX1_isCell_0 rfl ?_
  refine r_if_lt 14 C dX1_isCell_1 (by decide) (fun c1 => ?_) (fun c1 => ?_)
  · have c1' := i_lt c1
    refine r_iconst (v := 0) C dX1_isCell_14 (by decide) ?_
    exact hret _ _ _ _ dX1_isCell_15 (nar_z (z_of (by omega))) ⟨h0, by omega⟩
  · have c1' := i_nlt c1
    refine r_iload_n 0 C dX1_isCell_4 rfl ?_
    refine r_bipush (v := 42) C dX1_isCell_5 (by decide) ?_
    refine r_icmp_ge 14 C dX1_isCell_7 (by decide) (fun c2 => ?_) (fun c2 => ?_)
    · have c2' := i_le c2
      refine r_iconst (v := 0) C dX1_isCell_14 (by decide) ?_
      exact hret _ _ _ _ dX1_isCell_15 (nar_z (z_of (by omega))) ⟨h0, by omega⟩
    · have c2' := i_nle c2
      refine r_iconst (v := 1) C dX1_isCell_10 (by decide) ?_
      refine r_goto 15 C dX1_isCell_11 (by decide) ?_
      exact hret _ _ _ _ dX1_isCell_15 (nar_z (z_of (by omega))) ⟨h0, by omega⟩
set_option maxHeartbeats 4000000 in
set_option maxRecDepth 100000 in
theorem ctX10_isKind (l : Launch) (G : Gt) (w : Wv) (a1 : Int32) : CtI l G yX10_isKind cX10_isKind 1 .boolean ({ frames := 0, cells := 0, slots := 0, locals := 0 } : Room) [.int a1] w (fun r w' => Ch [] w w' ∧ ((0 ≤ a1.toInt ∧ a1.toInt < 3 → r.toInt = 1) ∧ (a1.toInt < 0 ∨ 3 ≤ a1.toInt → r.toInt = 0))) := by
  refine enterI (by decide) (Nat.le_of_ble_eq_true rfl) ?_
  intro x el eG C hret
  subst el; subst eG
  show V x 0 0 w 0 [(0, .int a1)] []
  have h0 : Ch [] w w := Ch.rf
  have q0 : (0 : Int32).toInt = 0 := by decide
  have q1 : (1 : Int32).toInt = 1 := by decide
  have q3 : (3 : Int32).toInt = 3 := by decide
  refine r_iload_n 0 C dX10_isKind_0 rfl ?_
  refine r_if_lt 13 C dX10_isKind_1 (by decide) (fun c1 => ?_) (fun c1 => ?_)
  · have c1' := i_lt c1
    refine r_iconst (v := 0) C dX10_isKind_13 (by decide) ?_
    exact hret _ _ _ _ dX10_isKind_14 (nar_z (z_of (by omega))) ⟨h0, by omega⟩
  · have c1' := i_nlt c1
    refine r_iload_n 0 C dX10_isKind_4 rfl ?_
    refine r_iconst (v := 3) C dX10_isKind_5 (by decide) ?_
    refine r_icmp_ge 13 C dX10_isKind_6 (by decide) (fun c2 => ?_) (fun c2 => ?_)
    · have c2' := i_le c2
      refine r_iconst (v := 0) C dX10_isKind_13 (by decide) ?_
      exact hret _ _ _ _ dX10_isKind_14 (nar_z (z_of (by omega))) ⟨h0, by omega⟩
    · have c2' := i_nle c2
      refine r_iconst (v := 1) C dX10_isKind_9 (by decide) ?_
      refine r_goto 14 C dX10_isKind_10 (by decide) ?_
      exact hret _ _ _ _ dX10_isKind_14 (nar_z (z_of (by omega))) ⟨h0, by omega⟩
set_option maxHeartbeats 4000000 in
set_option maxRecDepth 100000 in
theorem ctX10_isStep (l : Launch) (G : Gt) (w : Wv) (a1 : Int32) : CtI l G yX10_isStep cX10_isStep 1 .boolean ({ frames := 0, cells := 0, slots := 0, locals := 0 } : Room) [.int a1] w (fun r w' => Ch [] w w' ∧ ((0 ≤ a1.toInt ∧ a1.toInt ≤ 4 → r.toInt = 1) ∧ (a1.toInt < 0 ∨ 4 < a1.toInt → r.toInt = 0))) := by
  refine enterI (by decide) (Nat.le_of_ble_eq_true rfl) ?_
  intro x el eG C hret
  subst el; subst eG
  show V x 0 0 w 0 [(0, .int a1)] []
  have h0 : Ch [] w w := Ch.rf
  have q0 : (0 : Int32).toInt = 0 := by decide
  have q1 : (1 : Int32).toInt = 1 := by decide
  have q4 : (4 : Int32).toInt = 4 := by decide
  refine r_iload_n 0 C dX10_isStep_0 rfl ?_
  refine r_if_lt 13 C dX10_isStep_1 (by decide) (fun c1 => ?_) (fun c1 => ?_)
  · have c1' := i_lt c1
    refine r_iconst (v := 0) C dX10_isStep_13 (by decide) ?_
    exact hret _ _ _ _ dX10_isStep_14 (nar_z (z_of (by omega))) ⟨h0, by omega⟩
  · have c1' := i_nlt c1
    refine r_iload_n 0 C dX10_isStep_4 rfl ?_
    refine r_iconst (v := 4) C dX10_isStep_5 (by decide) ?_
    refine r_icmp_gt 13 C dX10_isStep_6 (by decide) (fun c2 => ?_) (fun c2 => ?_)
    · have c2' := i_lt c2
      refine r_iconst (v := 0) C dX10_isStep_13 (by decide) ?_
      exact hret _ _ _ _ dX10_isStep_14 (nar_z (z_of (by omega))) ⟨h0, by omega⟩
    · have c2' := i_nlt c2
      refine r_iconst (v := 1) C dX10_isStep_9 (by decide) ?_
      refine r_goto 14 C dX10_isStep_10 (by decide) ?_
      exact hret _ _ _ _ dX10_isStep_14 (nar_z (z_of (by omega))) ⟨h0, by omega⟩
set_option maxHeartbeats 4000000 in
set_option maxRecDepth 100000 in
theorem ctX10_isImage (l : Launch) (G : Gt) (w : Wv) (a1 : Int32) : CtI l G yX10_isImage cX10_isImage 1 .boolean ({ frames := 0, cells := 0, slots := 0, locals := 0 } : Room) [.int a1] w (fun r w' => Ch [] w w' ∧ ((0 ≤ a1.toInt ∧ a1.toInt < 2 → r.toInt = 1) ∧ (a1.toInt < 0 ∨ 2 ≤ a1.toInt → r.toInt = 0))) := by
  refine enterI (by decide) (Nat.le_of_ble_eq_true rfl) ?_
  intro x el eG C hret
  subst el; subst eG
  show V x 0 0 w 0 [(0, .int a1)] []
  have h0 : Ch [] w w := Ch.rf
  have q0 : (0 : Int32).toInt = 0 := by decide
  have q1 : (1 : Int32).toInt = 1 := by decide
  have q2 : (2 : Int32).toInt = 2 := by decide
  refine r_iload_n 0 C dX10_isImage_0 rfl ?_
  refine r_if_lt 13 C dX10_isImage_1 (by decide) (fun c1 => ?_) (fun c1 => ?_)
  · have c1' := i_lt c1
    refine r_iconst (v := 0) C dX10_isImage_13 (by decide) ?_
    exact hret _ _ _ _ dX10_isImage_14 (nar_z (z_of (by omega))) ⟨h0, by omega⟩
  · have c1' := i_nlt c1
    refine r_iload_n 0 C dX10_isImage_4 rfl ?_
    refine r_iconst (v := 2) C dX10_isImage_5 (by decide) ?_
    refine r_icmp_ge 13 C dX10_isImage_6 (by decide) (fun c2 => ?_) (fun c2 => ?_)
    · have c2' := i_le c2
      refine r_iconst (v := 0) C dX10_isImage_13 (by decide) ?_
      exact hret _ _ _ _ dX10_isImage_14 (nar_z (z_of (by omega))) ⟨h0, by omega⟩
    · have c2' := i_nle c2
      refine r_iconst (v := 1) C dX10_isImage_9 (by decide) ?_
      refine r_goto 14 C dX10_isImage_10 (by decide) ?_
      exact hret _ _ _ _ dX10_isImage_14 (nar_z (z_of (by omega))) ⟨h0, by omega⟩
set_option maxHeartbeats 4000000 in
set_option maxRecDepth 100000 in
theorem ctX10_isCrowd_0 (l : Launch) (G : Gt) (w : Wv) (sC : Str KC XC w) (p0 : wI w 3 3 = 0) (a1 : Int32) : CtI l G yX10_isCrowd cX10_isCrowd 2 .boolean ({ frames := 0, cells := 0, slots := 0, locals := 0 } : Room) [.ref (gz G + 0), .int a1] w (fun r w' => Ch [] w w' ∧ (r.toInt = 0)) := by
  refine enterI (by decide) (Nat.le_of_ble_eq_true rfl) ?_
  intro x el eG C hret
  subst el; subst eG
  show V x 0 0 w 0 [(0, .ref (gz (xG x) + 0)), (1, .int a1)] []
  have h0 : Ch [] w w := Ch.rf
  have q0 : (0 : Int32).toInt = 0 := by decide
  refine r_iload_n 1 C dX10_isCrowd_0 rfl ?_
  refine r_if_lt 19 C dX10_isCrowd_1 (by decide) (fun c1 => ?_) (fun c1 => ?_)
  · have c1' := i_lt c1
    refine r_iconst (v := 0) C dX10_isCrowd_19 (by decide) ?_
    exact hret _ _ _ _ dX10_isCrowd_20 (nar_z (z_of (by omega))) ⟨h0, by omega⟩
  · have c1' := i_nlt c1
    refine r_iload_n 1 C dX10_isCrowd_4 rfl ?_
    refine r_aload_n 0 C dX10_isCrowd_5 rfl ?_
    refine gfX10_19 3 C (kS sC h0 kc_0) (xS sC h0 xc_0_1) dX10_isCrowd_6 ?_
    refine gfX10_129 (v := 0) C (kS sC h0 kc_3) p0 dX10_isCrowd_9 ?_
    refine r_icmp_ge 19 C dX10_isCrowd_12 (by decide) (fun c2 => ?_) (fun c2 => ?_)
    · have c2' := i_le c2
      refine r_iconst (v := 0) C dX10_isCrowd_19 (by decide) ?_
      exact hret _ _ _ _ dX10_isCrowd_20 (nar_z (z_of (by omega))) ⟨h0, by omega⟩
    · have c2' := i_nle c2
      exfalso; omega
set_option maxHeartbeats 4000000 in
set_option maxRecDepth 100000 in
theorem ctX10_isTune_0 (l : Launch) (G : Gt) (w : Wv) (sC : Str KC XC w) (p0 : wI w 3 4 = 0) (a1 : Int32) : CtI l G yX10_isTune cX10_isTune 2 .boolean ({ frames := 0, cells := 0, slots := 0, locals := 0 } : Room) [.ref (gz G + 0), .int a1] w (fun r w' => Ch [] w w' ∧ (r.toInt = 0)) := by
  refine enterI (by decide) (Nat.le_of_ble_eq_true rfl) ?_
  intro x el eG C hret
  subst el; subst eG
  show V x 0 0 w 0 [(0, .ref (gz (xG x) + 0)), (1, .int a1)] []
  have h0 : Ch [] w w := Ch.rf
  have q0 : (0 : Int32).toInt = 0 := by decide
  refine r_iload_n 1 C dX10_isTune_0 rfl ?_
  refine r_if_lt 19 C dX10_isTune_1 (by decide) (fun c1 => ?_) (fun c1 => ?_)
  · have c1' := i_lt c1
    refine r_iconst (v := 0) C dX10_isTune_19 (by decide) ?_
    exact hret _ _ _ _ dX10_isTune_20 (nar_z (z_of (by omega))) ⟨h0, by omega⟩
  · have c1' := i_nlt c1
    refine r_iload_n 1 C dX10_isTune_4 rfl ?_
    refine r_aload_n 0 C dX10_isTune_5 rfl ?_
    refine gfX10_19 3 C (kS sC h0 kc_0) (xS sC h0 xc_0_1) dX10_isTune_6 ?_
    refine gfX10_132 (v := 0) C (kS sC h0 kc_3) p0 dX10_isTune_9 ?_
    refine r_icmp_ge 19 C dX10_isTune_12 (by decide) (fun c2 => ?_) (fun c2 => ?_)
    · have c2' := i_le c2
      refine r_iconst (v := 0) C dX10_isTune_19 (by decide) ?_
      exact hret _ _ _ _ dX10_isTune_20 (nar_z (z_of (by omega))) ⟨h0, by omega⟩
    · have c2' := i_nle c2
      exfalso; omega
set_option maxHeartbeats 4000000 in
set_option maxRecDepth 100000 in
theorem ctX10_isTuneOrNone_0 (l : Launch) (G : Gt) (w : Wv) (sC : Str KC XC w) (p0 : wI w 3 4 = 0) (a1 : Int32) : CtI l G yX10_isTuneOrNone cX10_isTuneOrNone 2 .boolean ({ frames := 1, cells := 0, slots := 0, locals := 21 } : Room) [.ref (gz G + 0), .int a1] w (fun r w' => Ch [] w w' ∧ ((a1.toInt = -1 → r.toInt = 1) ∧ (¬ a1.toInt = -1 → r.toInt = 0))) := by
  refine enterI (by decide) (Nat.le_of_ble_eq_true rfl) ?_
  intro x el eG C hret
  subst el; subst eG
  show V x 0 0 w 0 [(0, .ref (gz (xG x) + 0)), (1, .int a1)] []
  have h0 : Ch [] w w := Ch.rf
  have qm1 : ((-1) : Int32).toInt = (-1) := by decide
  have q0 : (0 : Int32).toInt = 0 := by decide
  have q1 : (1 : Int32).toInt = 1 := by decide
  refine r_iload_n 1 C dX10_isTuneOrNone_0 rfl ?_
  refine r_iconst (v := (-1)) C dX10_isTuneOrNone_1 (by decide) ?_
  refine r_icmp_eq 13 C dX10_isTuneOrNone_2 (by decide) (fun c1 => ?_) (fun c1 => ?_)
  · have c1' := i_eq c1
    refine r_iconst (v := 1) C dX10_isTuneOrNone_13 (by decide) ?_
    refine r_goto 18 C dX10_isTuneOrNone_14 (by decide) ?_
    exact hret _ _ _ _ dX10_isTuneOrNone_18 (nar_z (z_of (by omega))) ⟨h0, by omega⟩
  · have c1' := i_ne c1
    refine r_aload_n 0 C dX10_isTuneOrNone_5 rfl ?_
    refine r_iload_n 1 C dX10_isTuneOrNone_6 rfl ?_
    refine callVI C cwX10_190_V (ctX10_isTune_0 _ _ w (sS sC h0) p0 a1 ) (by decide) (kS sC h0 kc_0) rfl rfl rfl (Nat.le_of_ble_eq_true rfl) (by decide) dX10_isTuneOrNone_7 (fun r4 w3 p2 => ?_)
    show V x 0 0 w3 10 [(0, .ref (gz (xG x) + 0)), (1, .int a1)] [.int r4]
    obtain ⟨h5, g6⟩ := p2
    have h7 := Ch.tr h0 h5 (by decide)
    refine r_if_eq 17 C dX10_isTuneOrNone_10 (by decide) (fun c8 => ?_) (fun c8 => ?_)
    · have c8' := i_eq c8
      refine r_iconst (v := 0) C dX10_isTuneOrNone_17 (by decide) ?_
      exact hret _ _ _ _ dX10_isTuneOrNone_18 (nar_z (z_of (by omega))) ⟨h7, by omega⟩
    · have c8' := i_ne c8
      exfalso; omega
set_option maxHeartbeats 4000000 in
set_option maxRecDepth 100000 in
theorem ctX1_cellAt_21 (l : Launch) (G : Gt) (w : Wv) (sC : Str KC XC w) (p0 : wI w 21 2 = 0) (p1 : wI w 21 3 = 0) (a1 : Int32) (a2 : Int32) : CtI l G yX1_cellAt cX1_cellAt 3 .int ({ frames := 0, cells := 0, slots := 0, locals := 0 } : Room) [.ref (gz G + 21), .int a1, .int a2] w (fun r w' => Ch [] w w' ∧ (r.toInt = -1)) := by
  refine enterI (by decide) (Nat.le_of_ble_eq_true rfl) ?_
  intro x el eG C hret
  subst el; subst eG
  show V x 0 0 w 0 [(0, .ref (gz (xG x) + 21)), (1, .int a1), (2, .int a2)] []
  have h0 : Ch [] w w := Ch.rf
  have qm1 : ((-1) : Int32).toInt = (-1) := by decide
  have q0 : (0 : Int32).toInt = 0 := by decide
  refine r_iload_n 1 C dX1_cellAt_0 rfl ?_
  refine r_if_lt 35 C dX1_cellAt_1 (by decide) (fun c1 => ?_) (fun c1 => ?_)
  · have c1' := i_lt c1
    refine r_iconst (v := (-1)) C dX1_cellAt_35 (by decide) ?_
    exact hret _ _ _ _ dX1_cellAt_36 rfl ⟨h0, by omega⟩
  · have c1' := i_nlt c1
    refine r_iload_n 1 C dX1_cellAt_4 rfl ?_
    refine r_aload_n 0 C dX1_cellAt_5 rfl ?_
    refine gfX1_37 (v := 0) C (kS sC h0 kc_21) p0 dX1_cellAt_6 ?_
    refine r_icmp_ge 35 C dX1_cellAt_9 (by decide) (fun c2 => ?_) (fun c2 => ?_)
    · have c2' := i_le c2
      refine r_iconst (v := (-1)) C dX1_cellAt_35 (by decide) ?_
      exact hret _ _ _ _ dX1_cellAt_36 rfl ⟨h0, by omega⟩
    · have c2' := i_nle c2
      exfalso; omega
set_option maxHeartbeats 4000000 in
set_option maxRecDepth 100000 in
theorem ctX1_code_21 (l : Launch) (G : Gt) (w : Wv) (sC : Str KC XC w) (a1 : Int32) (b1 : (-1) ≤ a1.toInt ∧ a1.toInt ≤ (-1)) : CtI l G yX1_code cX1_code 2 .int ({ frames := 1, cells := 0, slots := 0, locals := 20 } : Room) [.ref (gz G + 21), .int a1] w (fun r w' => Ch [] w w' ∧ (r.toInt = -1)) := by
  refine enterI (by decide) (Nat.le_of_ble_eq_true rfl) ?_
  intro x el eG C hret
  subst el; subst eG
  show V x 0 0 w 0 [(0, .ref (gz (xG x) + 21)), (1, .int a1)] []
  have h0 : Ch [] w w := Ch.rf
  have qm1 : ((-1) : Int32).toInt = (-1) := by decide
  have q0 : (0 : Int32).toInt = 0 := by decide
  refine r_iload_n 1 C dX1_code_0 rfl ?_
  refine callSI C cwX1_65_S (ctX1_isCell _ _ w   a1 ) (by decide) rfl rfl (Nat.le_of_ble_eq_true rfl) (by decide) dX1_code_1 (fun r3 w2 p1 => ?_)
  show V x 0 0 w2 4 [(0, .ref (gz (xG x) + 21)), (1, .int a1)] [.int r3]
  obtain ⟨h4, g5⟩ := p1
  have h6 := Ch.tr h0 h4 (by decide)
  refine r_if_eq 16 C dX1_code_4 (by decide) (fun c7 => ?_) (fun c7 => ?_)
  · have c7' := i_eq c7
    refine r_iconst (v := (-1)) C dX1_code_16 (by decide) ?_
    exact hret _ _ _ _ dX1_code_17 rfl ⟨h6, by omega⟩
  · have c7' := i_ne c7
    refine r_aload_n 0 C dX1_code_7 rfl ?_
    refine gfX1_15 23 C (kS sC h6 kc_21) (xS sC h6 xc_21_4) dX1_code_8 ?_
    refine r_iload_n 1 C dX1_code_11 rfl ?_
    refine r_iald C (kS sC h6 kc_23) (vin (by omega) (by omega)) dX1_code_12 ?_
    generalize (wI w2 23 (a1).toNatClampNeg) = v8
    refine r_goto 17 C dX1_code_13 (by decide) ?_
    exact hret _ _ _ _ dX1_code_17 rfl ⟨h6, by omega⟩
set_option maxHeartbeats 4000000 in
set_option maxRecDepth 100000 in
theorem ctX1_forgetWays_21 (l : Launch) (G : Gt) (w : Wv) (sC : Str KC XC w)  : CtV l G yX1_forgetWays cX1_forgetWays 2 ({ frames := 0, cells := 0, slots := 0, locals := 0 } : Room) [.ref (gz G + 21)] w (fun w' => Ch [26] w w') := by
  refine enterV (by decide) (Nat.le_of_ble_eq_true rfl) ?_
  intro x el eG C hnm hret
  subst el; subst eG
  show V x 0 0 w 0 [(0, .ref (gz (xG x) + 21))] []
  have h0 : Ch [26] w w := Ch.rf
  have q0 : (0 : Int32).toInt = 0 := by decide
  have q42 : (42 : Int32).toInt = 42 := by decide
  refine r_iconst (v := 0) C dX1_forgetWays_0 (by decide) ?_
  refine r_istore_n [(1, .int 0), (0, .ref (gz (xG x) + 21))] C dX1_forgetWays_1 (by decide) rfl ?_
  have LP1 : ∀ (f2 : Nat) (i3 : Int32) (w4 : Wv), Ch [26] w w4 → 0 ≤ i3.toInt → i3.toInt ≤ 42 → 42 - i3.toInt < f2 → V x 0 0 w4 2 [(0, .ref (gz (xG x) + 21)), (1, .int i3)] [] := by
    intro f2
    induction f2 with
    | zero => intro i3 w4 h5 a6 a7  a8; exfalso; omega
    | succ f2 ih9 =>
      intro i3 w4 h5 a6 a7  a8
      have h10 := Ch.tr h0 h5 (by decide)
      refine r_iload_n 1 C dX1_forgetWays_2 rfl ?_
      refine r_bipush (v := 42) C dX1_forgetWays_3 (by decide) ?_
      refine r_icmp_ge 21 C dX1_forgetWays_5 (by decide) (fun c11 => ?_) (fun c11 => ?_)
      · have c11' := i_le c11
        exact hret _ _ _ dX1_forgetWays_21 h10
      · have c11' := i_nle c11
        refine r_aload_n 0 C dX1_forgetWays_8 rfl ?_
        refine gfX1_24 26 C (kS sC h10 kc_21) (xS sC h10 xc_21_7) dX1_forgetWays_9 ?_
        refine r_iload_n 1 C dX1_forgetWays_12 rfl ?_
        refine r_iconst (v := 0) C dX1_forgetWays_13 (by decide) ?_
        refine r_zast C (kS sC h10 kc_26) (vin (by omega) (by omega)) (nar_z (z_of (by omega))) dX1_forgetWays_14 (fun w12 e13 => ?_)
        have h14 := Ch.put h10 e13 (by decide)
        obtain ⟨i15, e16⟩ : ∃ z : Int32, i3 + Int32.ofInt 1 = z := ⟨_, rfl⟩
        have i15' := iinc_ok e16 (by decide) (by omega) (by omega)
        refine r_iinc [(1, .int i15), (0, .ref (gz (xG x) + 21))] 1 C dX1_forgetWays_15 rfl e16 (by decide) rfl ?_
        refine r_goto 2 C dX1_forgetWays_18 (by decide) ?_
        refine r_lv [1, 0] rfl ?_
        exact ih9 _ _ (Ch.put h5 e13 (by decide)) (by omega) (by omega) (by omega)
  refine r_lv [1, 0] rfl ?_
  exact LP1 43 _ _ Ch.rf (by omega) (by omega) (by omega)
set_option maxHeartbeats 4000000 in
set_option maxRecDepth 100000 in
theorem ctX1_forgetWays_28 (l : Launch) (G : Gt) (w : Wv) (sC : Str KC XC w)  : CtV l G yX1_forgetWays cX1_forgetWays 2 ({ frames := 0, cells := 0, slots := 0, locals := 0 } : Room) [.ref (gz G + 28)] w (fun w' => Ch [33] w w') := by
  refine enterV (by decide) (Nat.le_of_ble_eq_true rfl) ?_
  intro x el eG C hnm hret
  subst el; subst eG
  show V x 0 0 w 0 [(0, .ref (gz (xG x) + 28))] []
  have h0 : Ch [33] w w := Ch.rf
  have q0 : (0 : Int32).toInt = 0 := by decide
  have q42 : (42 : Int32).toInt = 42 := by decide
  refine r_iconst (v := 0) C dX1_forgetWays_0 (by decide) ?_
  refine r_istore_n [(1, .int 0), (0, .ref (gz (xG x) + 28))] C dX1_forgetWays_1 (by decide) rfl ?_
  have LP1 : ∀ (f2 : Nat) (i3 : Int32) (w4 : Wv), Ch [33] w w4 → 0 ≤ i3.toInt → i3.toInt ≤ 42 → 42 - i3.toInt < f2 → V x 0 0 w4 2 [(0, .ref (gz (xG x) + 28)), (1, .int i3)] [] := by
    intro f2
    induction f2 with
    | zero => intro i3 w4 h5 a6 a7  a8; exfalso; omega
    | succ f2 ih9 =>
      intro i3 w4 h5 a6 a7  a8
      have h10 := Ch.tr h0 h5 (by decide)
      refine r_iload_n 1 C dX1_forgetWays_2 rfl ?_
      refine r_bipush (v := 42) C dX1_forgetWays_3 (by decide) ?_
      refine r_icmp_ge 21 C dX1_forgetWays_5 (by decide) (fun c11 => ?_) (fun c11 => ?_)
      · have c11' := i_le c11
        exact hret _ _ _ dX1_forgetWays_21 h10
      · have c11' := i_nle c11
        refine r_aload_n 0 C dX1_forgetWays_8 rfl ?_
        refine gfX1_24 33 C (kS sC h10 kc_28) (xS sC h10 xc_28_7) dX1_forgetWays_9 ?_
        refine r_iload_n 1 C dX1_forgetWays_12 rfl ?_
        refine r_iconst (v := 0) C dX1_forgetWays_13 (by decide) ?_
        refine r_zast C (kS sC h10 kc_33) (vin (by omega) (by omega)) (nar_z (z_of (by omega))) dX1_forgetWays_14 (fun w12 e13 => ?_)
        have h14 := Ch.put h10 e13 (by decide)
        obtain ⟨i15, e16⟩ : ∃ z : Int32, i3 + Int32.ofInt 1 = z := ⟨_, rfl⟩
        have i15' := iinc_ok e16 (by decide) (by omega) (by omega)
        refine r_iinc [(1, .int i15), (0, .ref (gz (xG x) + 28))] 1 C dX1_forgetWays_15 rfl e16 (by decide) rfl ?_
        refine r_goto 2 C dX1_forgetWays_18 (by decide) ?_
        refine r_lv [1, 0] rfl ?_
        exact ih9 _ _ (Ch.put h5 e13 (by decide)) (by omega) (by omega) (by omega)
  refine r_lv [1, 0] rfl ?_
  exact LP1 43 _ _ Ch.rf (by omega) (by omega) (by omega)
end
section
theorem zz_t : (1:Nat) = 1 := rfl
end
