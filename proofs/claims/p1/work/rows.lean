section
-- ===== PART A: goes FIRST, ahead of the names: the tables' words, and 'selects' of the private methods out of them =====
/-- a private method of a class that the tables say can be made, by its rows of tables_1 -/
def lw_okq (q : MethodName × Nat) : Prop := (q.1.cls ≠ "java/lang/invoke/MethodHandle" ∧ q.1.cls ≠ "java/lang/invoke/VarHandle") ∧ Cond.instantiable q.1.cls q.2 ∈ tables_1 ∧ Cond.privateMethod q.1 ∈ tables_1 ∧ Cond.instanceMethod q.1 ∈ tables_1
theorem lw_p0 : lw_okq (⟨"HeardTunes", "begin", "()V"⟩, 15) := ⟨⟨by decide +kernel, by decide +kernel⟩, List.mem_of_getElem? (i := 19) (by decide +kernel), List.mem_of_getElem? (i := 386) (by decide +kernel), List.mem_of_getElem? (i := 387) (by decide +kernel)⟩
theorem lw_p1 : lw_okq (⟨"HeardTunes$Ground", "layCell", "(II)V"⟩, 9) := ⟨⟨by decide +kernel, by decide +kernel⟩, List.mem_of_getElem? (i := 149) (by decide +kernel), List.mem_of_getElem? (i := 397) (by decide +kernel), List.mem_of_getElem? (i := 398) (by decide +kernel)⟩
theorem lw_p2 : lw_okq (⟨"HeardTunes$Ground", "forgetWays", "()V"⟩, 9) := ⟨⟨by decide +kernel, by decide +kernel⟩, List.mem_of_getElem? (i := 149) (by decide +kernel), List.mem_of_getElem? (i := 405) (by decide +kernel), List.mem_of_getElem? (i := 406) (by decide +kernel)⟩
theorem lw_p3 : lw_okq (⟨"HeardTunes$Reader", "skipBlanks", "()V"⟩, 6) := ⟨⟨by decide +kernel, by decide +kernel⟩, List.mem_of_getElem? (i := 27) (by decide +kernel), List.mem_of_getElem? (i := 485) (by decide +kernel), List.mem_of_getElem? (i := 486) (by decide +kernel)⟩
theorem lw_p4 : lw_okq (⟨"HeardTunes$Reader", "readSentence", "(LHeardTunes$Town;)V"⟩, 6) := ⟨⟨by decide +kernel, by decide +kernel⟩, List.mem_of_getElem? (i := 27) (by decide +kernel), List.mem_of_getElem? (i := 489) (by decide +kernel), List.mem_of_getElem? (i := 490) (by decide +kernel)⟩
theorem lw_p5 : lw_okq (⟨"HeardTunes$Reader", "readWord", "()I"⟩, 6) := ⟨⟨by decide +kernel, by decide +kernel⟩, List.mem_of_getElem? (i := 27) (by decide +kernel), List.mem_of_getElem? (i := 493) (by decide +kernel), List.mem_of_getElem? (i := 494) (by decide +kernel)⟩
theorem lw_p6 : lw_okq (⟨"HeardTunes$Reader", "isWord", "(ILjava/lang/String;)Z"⟩, 6) := ⟨⟨by decide +kernel, by decide +kernel⟩, List.mem_of_getElem? (i := 27) (by decide +kernel), List.mem_of_getElem? (i := 498) (by decide +kernel), List.mem_of_getElem? (i := 499) (by decide +kernel)⟩
theorem lw_p7 : lw_okq (⟨"HeardTunes$Reader", "blame", "(II)V"⟩, 6) := ⟨⟨by decide +kernel, by decide +kernel⟩, List.mem_of_getElem? (i := 27) (by decide +kernel), List.mem_of_getElem? (i := 557) (by decide +kernel), List.mem_of_getElem? (i := 558) (by decide +kernel)⟩
theorem lw_p8 : lw_okq (⟨"HeardTunes$Reader", "readSize", "(LHeardTunes$Town;)V"⟩, 6) := ⟨⟨by decide +kernel, by decide +kernel⟩, List.mem_of_getElem? (i := 27) (by decide +kernel), List.mem_of_getElem? (i := 564) (by decide +kernel), List.mem_of_getElem? (i := 565) (by decide +kernel)⟩
theorem lw_p9 : lw_okq (⟨"HeardTunes$Reader", "readNumber", "(II)I"⟩, 6) := ⟨⟨by decide +kernel, by decide +kernel⟩, List.mem_of_getElem? (i := 27) (by decide +kernel), List.mem_of_getElem? (i := 568) (by decide +kernel), List.mem_of_getElem? (i := 569) (by decide +kernel)⟩
theorem lw_p10 : lw_okq (⟨"HeardTunes$Reader", "readCrowd", "(LHeardTunes$Town;)V"⟩, 6) := ⟨⟨by decide +kernel, by decide +kernel⟩, List.mem_of_getElem? (i := 27) (by decide +kernel), List.mem_of_getElem? (i := 573) (by decide +kernel), List.mem_of_getElem? (i := 574) (by decide +kernel)⟩
theorem lw_p11 : lw_okq (⟨"HeardTunes$Reader", "readCell", "(LHeardTunes$Town;)I"⟩, 6) := ⟨⟨by decide +kernel, by decide +kernel⟩, List.mem_of_getElem? (i := 27) (by decide +kernel), List.mem_of_getElem? (i := 577) (by decide +kernel), List.mem_of_getElem? (i := 578) (by decide +kernel)⟩
theorem lw_p12 : lw_okq (⟨"HeardTunes$Reader", "blameIfSpot", "(LHeardTunes$Town;I)V"⟩, 6) := ⟨⟨by decide +kernel, by decide +kernel⟩, List.mem_of_getElem? (i := 27) (by decide +kernel), List.mem_of_getElem? (i := 581) (by decide +kernel), List.mem_of_getElem? (i := 582) (by decide +kernel)⟩
theorem lw_p13 : lw_okq (⟨"HeardTunes$Reader", "readTune", "(LHeardTunes$Town;)V"⟩, 6) := ⟨⟨by decide +kernel, by decide +kernel⟩, List.mem_of_getElem? (i := 27) (by decide +kernel), List.mem_of_getElem? (i := 596) (by decide +kernel), List.mem_of_getElem? (i := 597) (by decide +kernel)⟩
theorem lw_p14 : lw_okq (⟨"HeardTunes$Reader", "readPiper", "(LHeardTunes$Town;)V"⟩, 6) := ⟨⟨by decide +kernel, by decide +kernel⟩, List.mem_of_getElem? (i := 27) (by decide +kernel), List.mem_of_getElem? (i := 604) (by decide +kernel), List.mem_of_getElem? (i := 605) (by decide +kernel)⟩
theorem lw_p15 : lw_okq (⟨"HeardTunes$Reader", "readPay", "(LHeardTunes$Town;)V"⟩, 6) := ⟨⟨by decide +kernel, by decide +kernel⟩, List.mem_of_getElem? (i := 27) (by decide +kernel), List.mem_of_getElem? (i := 608) (by decide +kernel), List.mem_of_getElem? (i := 609) (by decide +kernel)⟩
def lw_privs_1 : List (MethodName × Nat) := [(⟨"HeardTunes", "begin", "()V"⟩, 15), (⟨"HeardTunes$Ground", "layCell", "(II)V"⟩, 9), (⟨"HeardTunes$Ground", "forgetWays", "()V"⟩, 9), (⟨"HeardTunes$Reader", "skipBlanks", "()V"⟩, 6), (⟨"HeardTunes$Reader", "readSentence", "(LHeardTunes$Town;)V"⟩, 6), (⟨"HeardTunes$Reader", "readWord", "()I"⟩, 6), (⟨"HeardTunes$Reader", "isWord", "(ILjava/lang/String;)Z"⟩, 6), (⟨"HeardTunes$Reader", "blame", "(II)V"⟩, 6), (⟨"HeardTunes$Reader", "readSize", "(LHeardTunes$Town;)V"⟩, 6), (⟨"HeardTunes$Reader", "readNumber", "(II)I"⟩, 6), (⟨"HeardTunes$Reader", "readCrowd", "(LHeardTunes$Town;)V"⟩, 6), (⟨"HeardTunes$Reader", "readCell", "(LHeardTunes$Town;)I"⟩, 6), (⟨"HeardTunes$Reader", "blameIfSpot", "(LHeardTunes$Town;I)V"⟩, 6), (⟨"HeardTunes$Reader", "readTune", "(LHeardTunes$Town;)V"⟩, 6), (⟨"HeardTunes$Reader", "readPiper", "(LHeardTunes$Town;)V"⟩, 6), (⟨"HeardTunes$Reader", "readPay", "(LHeardTunes$Town;)V"⟩, 6)]
theorem lw_r1 : ∀ q ∈ lw_privs_1, lw_okq q := List.forall_mem_cons.mpr ⟨lw_p0, List.forall_mem_cons.mpr ⟨lw_p1, List.forall_mem_cons.mpr ⟨lw_p2, List.forall_mem_cons.mpr ⟨lw_p3, List.forall_mem_cons.mpr ⟨lw_p4, List.forall_mem_cons.mpr ⟨lw_p5, List.forall_mem_cons.mpr ⟨lw_p6, List.forall_mem_cons.mpr ⟨lw_p7, List.forall_mem_cons.mpr ⟨lw_p8, List.forall_mem_cons.mpr ⟨lw_p9, List.forall_mem_cons.mpr ⟨lw_p10, List.forall_mem_cons.mpr ⟨lw_p11, List.forall_mem_cons.mpr ⟨lw_p12, List.forall_mem_cons.mpr ⟨lw_p13, List.forall_mem_cons.mpr ⟨lw_p14, List.forall_mem_cons.mpr ⟨lw_p15, fun _ h => absurd h List.not_mem_nil⟩⟩⟩⟩⟩⟩⟩⟩⟩⟩⟩⟩⟩⟩⟩⟩
theorem lw_p16 : lw_okq (⟨"HeardTunes$Reader", "readSpot", "(LHeardTunes$Town;I)V"⟩, 6) := ⟨⟨by decide +kernel, by decide +kernel⟩, List.mem_of_getElem? (i := 27) (by decide +kernel), List.mem_of_getElem? (i := 612) (by decide +kernel), List.mem_of_getElem? (i := 613) (by decide +kernel)⟩
theorem lw_p17 : lw_okq (⟨"HeardTunes$Reader", "readEnd", "()V"⟩, 6) := ⟨⟨by decide +kernel, by decide +kernel⟩, List.mem_of_getElem? (i := 27) (by decide +kernel), List.mem_of_getElem? (i := 625) (by decide +kernel), List.mem_of_getElem? (i := 626) (by decide +kernel)⟩
theorem lw_p18 : lw_okq (⟨"HeardTunes", "isCrowd", "(I)Z"⟩, 15) := ⟨⟨by decide +kernel, by decide +kernel⟩, List.mem_of_getElem? (i := 19) (by decide +kernel), List.mem_of_getElem? (i := 688) (by decide +kernel), List.mem_of_getElem? (i := 689) (by decide +kernel)⟩
theorem lw_p19 : lw_okq (⟨"HeardTunes", "isTune", "(I)Z"⟩, 15) := ⟨⟨by decide +kernel, by decide +kernel⟩, List.mem_of_getElem? (i := 19) (by decide +kernel), List.mem_of_getElem? (i := 697) (by decide +kernel), List.mem_of_getElem? (i := 698) (by decide +kernel)⟩
theorem lw_p20 : lw_okq (⟨"HeardTunes$Scene", "hears", "(II)Z"⟩, 6) := ⟨⟨by decide +kernel, by decide +kernel⟩, List.mem_of_getElem? (i := 189) (by decide +kernel), List.mem_of_getElem? (i := 705) (by decide +kernel), List.mem_of_getElem? (i := 706) (by decide +kernel)⟩
theorem lw_p21 : lw_okq (⟨"HeardTunes$Ground", "findWays", "(I)V"⟩, 9) := ⟨⟨by decide +kernel, by decide +kernel⟩, List.mem_of_getElem? (i := 149) (by decide +kernel), List.mem_of_getElem? (i := 721) (by decide +kernel), List.mem_of_getElem? (i := 722) (by decide +kernel)⟩
theorem lw_p22 : lw_okq (⟨"HeardTunes", "isTuneOrNone", "(I)Z"⟩, 15) := ⟨⟨by decide +kernel, by decide +kernel⟩, List.mem_of_getElem? (i := 19) (by decide +kernel), List.mem_of_getElem? (i := 734) (by decide +kernel), List.mem_of_getElem? (i := 735) (by decide +kernel)⟩
theorem lw_p23 : lw_okq (⟨"HeardTunes$Scene", "lead", "(I)V"⟩, 6) := ⟨⟨by decide +kernel, by decide +kernel⟩, List.mem_of_getElem? (i := 189) (by decide +kernel), List.mem_of_getElem? (i := 755) (by decide +kernel), List.mem_of_getElem? (i := 756) (by decide +kernel)⟩
theorem lw_p24 : lw_okq (⟨"HeardTunes", "draw", "(I)I"⟩, 15) := ⟨⟨by decide +kernel, by decide +kernel⟩, List.mem_of_getElem? (i := 19) (by decide +kernel), List.mem_of_getElem? (i := 783) (by decide +kernel), List.mem_of_getElem? (i := 784) (by decide +kernel)⟩
theorem lw_p25 : lw_okq (⟨"HeardTunes", "tryPlan", "(I)I"⟩, 15) := ⟨⟨by decide +kernel, by decide +kernel⟩, List.mem_of_getElem? (i := 19) (by decide +kernel), List.mem_of_getElem? (i := 807) (by decide +kernel), List.mem_of_getElem? (i := 808) (by decide +kernel)⟩
theorem lw_p26 : lw_okq (⟨"HeardTunes$Soonest", "findGates", "()V"⟩, 10) := ⟨⟨by decide +kernel, by decide +kernel⟩, List.mem_of_getElem? (i := 275) (by decide +kernel), List.mem_of_getElem? (i := 845) (by decide +kernel), List.mem_of_getElem? (i := 846) (by decide +kernel)⟩
theorem lw_p27 : lw_okq (⟨"HeardTunes$Soonest", "leads", "(II)Z"⟩, 10) := ⟨⟨by decide +kernel, by decide +kernel⟩, List.mem_of_getElem? (i := 275) (by decide +kernel), List.mem_of_getElem? (i := 851) (by decide +kernel), List.mem_of_getElem? (i := 852) (by decide +kernel)⟩
theorem lw_p28 : lw_okq (⟨"HeardTunes$Soonest", "outlook", "(LHeardTunes$Scene;I)I"⟩, 10) := ⟨⟨by decide +kernel, by decide +kernel⟩, List.mem_of_getElem? (i := 275) (by decide +kernel), List.mem_of_getElem? (i := 855) (by decide +kernel), List.mem_of_getElem? (i := 856) (by decide +kernel)⟩
theorem lw_p29 : lw_okq (⟨"HeardTunes$Soonest", "canLeave", "(LHeardTunes$Scene;II)Z"⟩, 10) := ⟨⟨by decide +kernel, by decide +kernel⟩, List.mem_of_getElem? (i := 275) (by decide +kernel), List.mem_of_getElem? (i := 861) (by decide +kernel), List.mem_of_getElem? (i := 862) (by decide +kernel)⟩
theorem lw_p30 : lw_okq (⟨"HeardTunes$Soonest", "stepLeads", "(II)Z"⟩, 10) := ⟨⟨by decide +kernel, by decide +kernel⟩, List.mem_of_getElem? (i := 275) (by decide +kernel), List.mem_of_getElem? (i := 884) (by decide +kernel), List.mem_of_getElem? (i := 885) (by decide +kernel)⟩
theorem lw_p31 : lw_okq (⟨"HeardTunes", "outBehindWall", "(II)I"⟩, 15) := ⟨⟨by decide +kernel, by decide +kernel⟩, List.mem_of_getElem? (i := 19) (by decide +kernel), List.mem_of_getElem? (i := 906) (by decide +kernel), List.mem_of_getElem? (i := 907) (by decide +kernel)⟩
def lw_privs_2 : List (MethodName × Nat) := [(⟨"HeardTunes$Reader", "readSpot", "(LHeardTunes$Town;I)V"⟩, 6), (⟨"HeardTunes$Reader", "readEnd", "()V"⟩, 6), (⟨"HeardTunes", "isCrowd", "(I)Z"⟩, 15), (⟨"HeardTunes", "isTune", "(I)Z"⟩, 15), (⟨"HeardTunes$Scene", "hears", "(II)Z"⟩, 6), (⟨"HeardTunes$Ground", "findWays", "(I)V"⟩, 9), (⟨"HeardTunes", "isTuneOrNone", "(I)Z"⟩, 15), (⟨"HeardTunes$Scene", "lead", "(I)V"⟩, 6), (⟨"HeardTunes", "draw", "(I)I"⟩, 15), (⟨"HeardTunes", "tryPlan", "(I)I"⟩, 15), (⟨"HeardTunes$Soonest", "findGates", "()V"⟩, 10), (⟨"HeardTunes$Soonest", "leads", "(II)Z"⟩, 10), (⟨"HeardTunes$Soonest", "outlook", "(LHeardTunes$Scene;I)I"⟩, 10), (⟨"HeardTunes$Soonest", "canLeave", "(LHeardTunes$Scene;II)Z"⟩, 10), (⟨"HeardTunes$Soonest", "stepLeads", "(II)Z"⟩, 10), (⟨"HeardTunes", "outBehindWall", "(II)I"⟩, 15)]
theorem lw_r2 : ∀ q ∈ lw_privs_2, lw_okq q := List.forall_mem_cons.mpr ⟨lw_p16, List.forall_mem_cons.mpr ⟨lw_p17, List.forall_mem_cons.mpr ⟨lw_p18, List.forall_mem_cons.mpr ⟨lw_p19, List.forall_mem_cons.mpr ⟨lw_p20, List.forall_mem_cons.mpr ⟨lw_p21, List.forall_mem_cons.mpr ⟨lw_p22, List.forall_mem_cons.mpr ⟨lw_p23, List.forall_mem_cons.mpr ⟨lw_p24, List.forall_mem_cons.mpr ⟨lw_p25, List.forall_mem_cons.mpr ⟨lw_p26, List.forall_mem_cons.mpr ⟨lw_p27, List.forall_mem_cons.mpr ⟨lw_p28, List.forall_mem_cons.mpr ⟨lw_p29, List.forall_mem_cons.mpr ⟨lw_p30, List.forall_mem_cons.mpr ⟨lw_p31, fun _ h => absurd h List.not_mem_nil⟩⟩⟩⟩⟩⟩⟩⟩⟩⟩⟩⟩⟩⟩⟩⟩
theorem lw_p32 : lw_okq (⟨"HeardTunes$Fitting", "countFree", "()V"⟩, 12) := ⟨⟨by decide +kernel, by decide +kernel⟩, List.mem_of_getElem? (i := 316) (by decide +kernel), List.mem_of_getElem? (i := 937) (by decide +kernel), List.mem_of_getElem? (i := 938) (by decide +kernel)⟩
theorem lw_p33 : lw_okq (⟨"HeardTunes$Fitting", "countFreeFrom", "(LHeardTunes$Scene;I)I"⟩, 12) := ⟨⟨by decide +kernel, by decide +kernel⟩, List.mem_of_getElem? (i := 316) (by decide +kernel), List.mem_of_getElem? (i := 941) (by decide +kernel), List.mem_of_getElem? (i := 942) (by decide +kernel)⟩
theorem lw_p34 : lw_okq (⟨"HeardTunes$Fitting", "freeFrom", "(II)I"⟩, 12) := ⟨⟨by decide +kernel, by decide +kernel⟩, List.mem_of_getElem? (i := 316) (by decide +kernel), List.mem_of_getElem? (i := 945) (by decide +kernel), List.mem_of_getElem? (i := 946) (by decide +kernel)⟩
theorem lw_p35 : lw_okq (⟨"HeardTunes$Fitting", "fit", "(I)I"⟩, 12) := ⟨⟨by decide +kernel, by decide +kernel⟩, List.mem_of_getElem? (i := 316) (by decide +kernel), List.mem_of_getElem? (i := 952) (by decide +kernel), List.mem_of_getElem? (i := 953) (by decide +kernel)⟩
theorem lw_p36 : lw_okq (⟨"HeardTunes$Fitting", "keepFirst", "()V"⟩, 12) := ⟨⟨by decide +kernel, by decide +kernel⟩, List.mem_of_getElem? (i := 316) (by decide +kernel), List.mem_of_getElem? (i := 956) (by decide +kernel), List.mem_of_getElem? (i := 957) (by decide +kernel)⟩
theorem lw_p37 : lw_okq (⟨"HeardTunes$Fitting", "fitSteps", "(I)I"⟩, 12) := ⟨⟨by decide +kernel, by decide +kernel⟩, List.mem_of_getElem? (i := 316) (by decide +kernel), List.mem_of_getElem? (i := 963) (by decide +kernel), List.mem_of_getElem? (i := 964) (by decide +kernel)⟩
theorem lw_p38 : lw_okq (⟨"HeardTunesModel", "clear", "()V"⟩, 58) := ⟨⟨by decide +kernel, by decide +kernel⟩, List.mem_of_getElem? (i := 1011) (by decide +kernel), List.mem_of_getElem? (i := 1207) (by decide +kernel), List.mem_of_getElem? (i := 1208) (by decide +kernel)⟩
theorem lw_p39 : lw_okq (⟨"HeardTunesModel", "here", "()I"⟩, 58) := ⟨⟨by decide +kernel, by decide +kernel⟩, List.mem_of_getElem? (i := 1011) (by decide +kernel), List.mem_of_getElem? (i := 1211) (by decide +kernel), List.mem_of_getElem? (i := 1212) (by decide +kernel)⟩
theorem lw_p40 : lw_okq (⟨"HeardTunesModel", "takeClause", "()I"⟩, 58) := ⟨⟨by decide +kernel, by decide +kernel⟩, List.mem_of_getElem? (i := 1011) (by decide +kernel), List.mem_of_getElem? (i := 1215) (by decide +kernel), List.mem_of_getElem? (i := 1216) (by decide +kernel)⟩
theorem lw_p41 : lw_okq (⟨"HeardTunesModel", "readWord", "()V"⟩, 58) := ⟨⟨by decide +kernel, by decide +kernel⟩, List.mem_of_getElem? (i := 1011) (by decide +kernel), List.mem_of_getElem? (i := 1219) (by decide +kernel), List.mem_of_getElem? (i := 1220) (by decide +kernel)⟩
theorem lw_p42 : lw_okq (⟨"HeardTunesModel", "kindOfWord", "()I"⟩, 58) := ⟨⟨by decide +kernel, by decide +kernel⟩, List.mem_of_getElem? (i := 1011) (by decide +kernel), List.mem_of_getElem? (i := 1229) (by decide +kernel), List.mem_of_getElem? (i := 1230) (by decide +kernel)⟩
theorem lw_p43 : lw_okq (⟨"HeardTunesModel", "fails", "(II)I"⟩, 58) := ⟨⟨by decide +kernel, by decide +kernel⟩, List.mem_of_getElem? (i := 1011) (by decide +kernel), List.mem_of_getElem? (i := 1239) (by decide +kernel), List.mem_of_getElem? (i := 1240) (by decide +kernel)⟩
theorem lw_p44 : lw_okq (⟨"HeardTunesModel", "takeTown", "()I"⟩, 58) := ⟨⟨by decide +kernel, by decide +kernel⟩, List.mem_of_getElem? (i := 1011) (by decide +kernel), List.mem_of_getElem? (i := 1243) (by decide +kernel), List.mem_of_getElem? (i := 1244) (by decide +kernel)⟩
theorem lw_p45 : lw_okq (⟨"HeardTunesModel", "takeNumber", "(II)I"⟩, 58) := ⟨⟨by decide +kernel, by decide +kernel⟩, List.mem_of_getElem? (i := 1011) (by decide +kernel), List.mem_of_getElem? (i := 1247) (by decide +kernel), List.mem_of_getElem? (i := 1248) (by decide +kernel)⟩
theorem lw_p46 : lw_okq (⟨"HeardTunesModel", "takeMark", "(I)I"⟩, 58) := ⟨⟨by decide +kernel, by decide +kernel⟩, List.mem_of_getElem? (i := 1011) (by decide +kernel), List.mem_of_getElem? (i := 1253) (by decide +kernel), List.mem_of_getElem? (i := 1254) (by decide +kernel)⟩
theorem lw_p47 : lw_okq (⟨"HeardTunesModel", "takeCell", "()I"⟩, 58) := ⟨⟨by decide +kernel, by decide +kernel⟩, List.mem_of_getElem? (i := 1011) (by decide +kernel), List.mem_of_getElem? (i := 1257) (by decide +kernel), List.mem_of_getElem? (i := 1258) (by decide +kernel)⟩
def lw_privs_3 : List (MethodName × Nat) := [(⟨"HeardTunes$Fitting", "countFree", "()V"⟩, 12), (⟨"HeardTunes$Fitting", "countFreeFrom", "(LHeardTunes$Scene;I)I"⟩, 12), (⟨"HeardTunes$Fitting", "freeFrom", "(II)I"⟩, 12), (⟨"HeardTunes$Fitting", "fit", "(I)I"⟩, 12), (⟨"HeardTunes$Fitting", "keepFirst", "()V"⟩, 12), (⟨"HeardTunes$Fitting", "fitSteps", "(I)I"⟩, 12), (⟨"HeardTunesModel", "clear", "()V"⟩, 58), (⟨"HeardTunesModel", "here", "()I"⟩, 58), (⟨"HeardTunesModel", "takeClause", "()I"⟩, 58), (⟨"HeardTunesModel", "readWord", "()V"⟩, 58), (⟨"HeardTunesModel", "kindOfWord", "()I"⟩, 58), (⟨"HeardTunesModel", "fails", "(II)I"⟩, 58), (⟨"HeardTunesModel", "takeTown", "()I"⟩, 58), (⟨"HeardTunesModel", "takeNumber", "(II)I"⟩, 58), (⟨"HeardTunesModel", "takeMark", "(I)I"⟩, 58), (⟨"HeardTunesModel", "takeCell", "()I"⟩, 58)]
theorem lw_r3 : ∀ q ∈ lw_privs_3, lw_okq q := List.forall_mem_cons.mpr ⟨lw_p32, List.forall_mem_cons.mpr ⟨lw_p33, List.forall_mem_cons.mpr ⟨lw_p34, List.forall_mem_cons.mpr ⟨lw_p35, List.forall_mem_cons.mpr ⟨lw_p36, List.forall_mem_cons.mpr ⟨lw_p37, List.forall_mem_cons.mpr ⟨lw_p38, List.forall_mem_cons.mpr ⟨lw_p39, List.forall_mem_cons.mpr ⟨lw_p40, List.forall_mem_cons.mpr ⟨lw_p41, List.forall_mem_cons.mpr ⟨lw_p42, List.forall_mem_cons.mpr ⟨lw_p43, List.forall_mem_cons.mpr ⟨lw_p44, List.forall_mem_cons.mpr ⟨lw_p45, List.forall_mem_cons.mpr ⟨lw_p46, List.forall_mem_cons.mpr ⟨lw_p47, fun _ h => absurd h List.not_mem_nil⟩⟩⟩⟩⟩⟩⟩⟩⟩⟩⟩⟩⟩⟩⟩⟩
theorem lw_p48 : lw_okq (⟨"HeardTunesModel", "isTakenUp", "(I)Z"⟩, 58) := ⟨⟨by decide +kernel, by decide +kernel⟩, List.mem_of_getElem? (i := 1011) (by decide +kernel), List.mem_of_getElem? (i := 1261) (by decide +kernel), List.mem_of_getElem? (i := 1262) (by decide +kernel)⟩
theorem lw_p49 : lw_okq (⟨"HeardTunesModel", "takeCrowd", "()I"⟩, 58) := ⟨⟨by decide +kernel, by decide +kernel⟩, List.mem_of_getElem? (i := 1011) (by decide +kernel), List.mem_of_getElem? (i := 1265) (by decide +kernel), List.mem_of_getElem? (i := 1266) (by decide +kernel)⟩
theorem lw_p50 : lw_okq (⟨"HeardTunesModel", "into", "([IIII)I"⟩, 58) := ⟨⟨by decide +kernel, by decide +kernel⟩, List.mem_of_getElem? (i := 1011) (by decide +kernel), List.mem_of_getElem? (i := 1269) (by decide +kernel), List.mem_of_getElem? (i := 1270) (by decide +kernel)⟩
theorem lw_p51 : lw_okq (⟨"HeardTunesModel", "takeTune", "()I"⟩, 58) := ⟨⟨by decide +kernel, by decide +kernel⟩, List.mem_of_getElem? (i := 1011) (by decide +kernel), List.mem_of_getElem? (i := 1273) (by decide +kernel), List.mem_of_getElem? (i := 1274) (by decide +kernel)⟩
theorem lw_p52 : lw_okq (⟨"HeardTunesModel", "takePiper", "()I"⟩, 58) := ⟨⟨by decide +kernel, by decide +kernel⟩, List.mem_of_getElem? (i := 1011) (by decide +kernel), List.mem_of_getElem? (i := 1277) (by decide +kernel), List.mem_of_getElem? (i := 1278) (by decide +kernel)⟩
theorem lw_p53 : lw_okq (⟨"HeardTunesModel", "takePay", "()I"⟩, 58) := ⟨⟨by decide +kernel, by decide +kernel⟩, List.mem_of_getElem? (i := 1011) (by decide +kernel), List.mem_of_getElem? (i := 1281) (by decide +kernel), List.mem_of_getElem? (i := 1282) (by decide +kernel)⟩
theorem lw_p54 : lw_okq (⟨"HeardTunesModel", "firstFree", "()I"⟩, 58) := ⟨⟨by decide +kernel, by decide +kernel⟩, List.mem_of_getElem? (i := 1011) (by decide +kernel), List.mem_of_getElem? (i := 1285) (by decide +kernel), List.mem_of_getElem? (i := 1286) (by decide +kernel)⟩
theorem lw_p55 : lw_okq (⟨"HeardTunesModel", "findFar", "()V"⟩, 58) := ⟨⟨by decide +kernel, by decide +kernel⟩, List.mem_of_getElem? (i := 1011) (by decide +kernel), List.mem_of_getElem? (i := 1289) (by decide +kernel), List.mem_of_getElem? (i := 1290) (by decide +kernel)⟩
theorem lw_p56 : lw_okq (⟨"HeardTunesModel", "findFarTo", "(I)V"⟩, 58) := ⟨⟨by decide +kernel, by decide +kernel⟩, List.mem_of_getElem? (i := 1011) (by decide +kernel), List.mem_of_getElem? (i := 1293) (by decide +kernel), List.mem_of_getElem? (i := 1294) (by decide +kernel)⟩
theorem lw_p57 : lw_okq (⟨"HeardTunesModel", "beside", "(II)I"⟩, 58) := ⟨⟨by decide +kernel, by decide +kernel⟩, List.mem_of_getElem? (i := 1011) (by decide +kernel), List.mem_of_getElem? (i := 1297) (by decide +kernel), List.mem_of_getElem? (i := 1298) (by decide +kernel)⟩
theorem lw_p58 : lw_okq (⟨"HeardTunesModel", "isCell", "(II)Z"⟩, 58) := ⟨⟨by decide +kernel, by decide +kernel⟩, List.mem_of_getElem? (i := 1011) (by decide +kernel), List.mem_of_getElem? (i := 1301) (by decide +kernel), List.mem_of_getElem? (i := 1302) (by decide +kernel)⟩
theorem lw_p59 : lw_okq (⟨"HeardTunesModel", "told10", "(I)I"⟩, 58) := ⟨⟨by decide +kernel, by decide +kernel⟩, List.mem_of_getElem? (i := 1011) (by decide +kernel), List.mem_of_getElem? (i := 1318) (by decide +kernel), List.mem_of_getElem? (i := 1319) (by decide +kernel)⟩
theorem lw_p60 : lw_okq (⟨"HeardTunesModel", "headsBy", "(II)I"⟩, 58) := ⟨⟨by decide +kernel, by decide +kernel⟩, List.mem_of_getElem? (i := 1011) (by decide +kernel), List.mem_of_getElem? (i := 1322) (by decide +kernel), List.mem_of_getElem? (i := 1323) (by decide +kernel)⟩
theorem lw_p61 : lw_okq (⟨"HeardTunesModel", "followers", "(I)I"⟩, 58) := ⟨⟨by decide +kernel, by decide +kernel⟩, List.mem_of_getElem? (i := 1011) (by decide +kernel), List.mem_of_getElem? (i := 1326) (by decide +kernel), List.mem_of_getElem? (i := 1327) (by decide +kernel)⟩
theorem lw_p62 : lw_okq (⟨"HeardTunesModel", "allHeads", "()I"⟩, 58) := ⟨⟨by decide +kernel, by decide +kernel⟩, List.mem_of_getElem? (i := 1011) (by decide +kernel), List.mem_of_getElem? (i := 1330) (by decide +kernel), List.mem_of_getElem? (i := 1331) (by decide +kernel)⟩
theorem lw_p63 : lw_okq (⟨"HeardTunesModel", "worth", "()I"⟩, 58) := ⟨⟨by decide +kernel, by decide +kernel⟩, List.mem_of_getElem? (i := 1011) (by decide +kernel), List.mem_of_getElem? (i := 1334) (by decide +kernel), List.mem_of_getElem? (i := 1335) (by decide +kernel)⟩
def lw_privs_4 : List (MethodName × Nat) := [(⟨"HeardTunesModel", "isTakenUp", "(I)Z"⟩, 58), (⟨"HeardTunesModel", "takeCrowd", "()I"⟩, 58), (⟨"HeardTunesModel", "into", "([IIII)I"⟩, 58), (⟨"HeardTunesModel", "takeTune", "()I"⟩, 58), (⟨"HeardTunesModel", "takePiper", "()I"⟩, 58), (⟨"HeardTunesModel", "takePay", "()I"⟩, 58), (⟨"HeardTunesModel", "firstFree", "()I"⟩, 58), (⟨"HeardTunesModel", "findFar", "()V"⟩, 58), (⟨"HeardTunesModel", "findFarTo", "(I)V"⟩, 58), (⟨"HeardTunesModel", "beside", "(II)I"⟩, 58), (⟨"HeardTunesModel", "isCell", "(II)Z"⟩, 58), (⟨"HeardTunesModel", "told10", "(I)I"⟩, 58), (⟨"HeardTunesModel", "headsBy", "(II)I"⟩, 58), (⟨"HeardTunesModel", "followers", "(I)I"⟩, 58), (⟨"HeardTunesModel", "allHeads", "()I"⟩, 58), (⟨"HeardTunesModel", "worth", "()I"⟩, 58)]
theorem lw_r4 : ∀ q ∈ lw_privs_4, lw_okq q := List.forall_mem_cons.mpr ⟨lw_p48, List.forall_mem_cons.mpr ⟨lw_p49, List.forall_mem_cons.mpr ⟨lw_p50, List.forall_mem_cons.mpr ⟨lw_p51, List.forall_mem_cons.mpr ⟨lw_p52, List.forall_mem_cons.mpr ⟨lw_p53, List.forall_mem_cons.mpr ⟨lw_p54, List.forall_mem_cons.mpr ⟨lw_p55, List.forall_mem_cons.mpr ⟨lw_p56, List.forall_mem_cons.mpr ⟨lw_p57, List.forall_mem_cons.mpr ⟨lw_p58, List.forall_mem_cons.mpr ⟨lw_p59, List.forall_mem_cons.mpr ⟨lw_p60, List.forall_mem_cons.mpr ⟨lw_p61, List.forall_mem_cons.mpr ⟨lw_p62, List.forall_mem_cons.mpr ⟨lw_p63, fun _ h => absurd h List.not_mem_nil⟩⟩⟩⟩⟩⟩⟩⟩⟩⟩⟩⟩⟩⟩⟩⟩
theorem lw_p64 : lw_okq (⟨"HeardTunesModel", "isCrowd", "(I)Z"⟩, 58) := ⟨⟨by decide +kernel, by decide +kernel⟩, List.mem_of_getElem? (i := 1011) (by decide +kernel), List.mem_of_getElem? (i := 1346) (by decide +kernel), List.mem_of_getElem? (i := 1347) (by decide +kernel)⟩
theorem lw_p65 : lw_okq (⟨"HeardTunesModel", "isTune", "(I)Z"⟩, 58) := ⟨⟨by decide +kernel, by decide +kernel⟩, List.mem_of_getElem? (i := 1011) (by decide +kernel), List.mem_of_getElem? (i := 1354) (by decide +kernel), List.mem_of_getElem? (i := 1355) (by decide +kernel)⟩
theorem lw_p66 : lw_okq (⟨"HeardTunesModel", "hears", "(II)Z"⟩, 58) := ⟨⟨by decide +kernel, by decide +kernel⟩, List.mem_of_getElem? (i := 1011) (by decide +kernel), List.mem_of_getElem? (i := 1358) (by decide +kernel), List.mem_of_getElem? (i := 1359) (by decide +kernel)⟩
theorem lw_p67 : lw_okq (⟨"HeardTunesModel", "isHere", "(I)Z"⟩, 58) := ⟨⟨by decide +kernel, by decide +kernel⟩, List.mem_of_getElem? (i := 1011) (by decide +kernel), List.mem_of_getElem? (i := 1362) (by decide +kernel), List.mem_of_getElem? (i := 1363) (by decide +kernel)⟩
theorem lw_p68 : lw_okq (⟨"HeardTunesModel", "minuteBy", "(II)Z"⟩, 58) := ⟨⟨by decide +kernel, by decide +kernel⟩, List.mem_of_getElem? (i := 1011) (by decide +kernel), List.mem_of_getElem? (i := 1374) (by decide +kernel), List.mem_of_getElem? (i := 1375) (by decide +kernel)⟩
theorem lw_p69 : lw_okq (⟨"HeardTunesModel", "stepTo", "(I)I"⟩, 58) := ⟨⟨by decide +kernel, by decide +kernel⟩, List.mem_of_getElem? (i := 1011) (by decide +kernel), List.mem_of_getElem? (i := 1378) (by decide +kernel), List.mem_of_getElem? (i := 1379) (by decide +kernel)⟩
theorem lw_p70 : lw_okq (⟨"HeardTunesModel", "walkOn", "(I)V"⟩, 58) := ⟨⟨by decide +kernel, by decide +kernel⟩, List.mem_of_getElem? (i := 1011) (by decide +kernel), List.mem_of_getElem? (i := 1382) (by decide +kernel), List.mem_of_getElem? (i := 1383) (by decide +kernel)⟩
theorem lw_p71 : lw_okq (⟨"HeardTunesModel", "stepOn", "(I)V"⟩, 58) := ⟨⟨by decide +kernel, by decide +kernel⟩, List.mem_of_getElem? (i := 1011) (by decide +kernel), List.mem_of_getElem? (i := 1386) (by decide +kernel), List.mem_of_getElem? (i := 1387) (by decide +kernel)⟩
theorem lw_p72 : lw_okq (⟨"HeardTunesModel", "isSomebody", "(I)Z"⟩, 58) := ⟨⟨by decide +kernel, by decide +kernel⟩, List.mem_of_getElem? (i := 1011) (by decide +kernel), List.mem_of_getElem? (i := 1395) (by decide +kernel), List.mem_of_getElem? (i := 1396) (by decide +kernel)⟩
theorem lw_p73 : lw_okq (⟨"HeardTunesModel", "draw", "(I)I"⟩, 58) := ⟨⟨by decide +kernel, by decide +kernel⟩, List.mem_of_getElem? (i := 1011) (by decide +kernel), List.mem_of_getElem? (i := 1404) (by decide +kernel), List.mem_of_getElem? (i := 1405) (by decide +kernel)⟩
theorem lw_p74 : lw_okq (⟨"HeardTunesModel", "save", "()V"⟩, 58) := ⟨⟨by decide +kernel, by decide +kernel⟩, List.mem_of_getElem? (i := 1011) (by decide +kernel), List.mem_of_getElem? (i := 1425) (by decide +kernel), List.mem_of_getElem? (i := 1426) (by decide +kernel)⟩
theorem lw_p75 : lw_okq (⟨"HeardTunesModel", "follow", "(I)I"⟩, 58) := ⟨⟨by decide +kernel, by decide +kernel⟩, List.mem_of_getElem? (i := 1011) (by decide +kernel), List.mem_of_getElem? (i := 1429) (by decide +kernel), List.mem_of_getElem? (i := 1430) (by decide +kernel)⟩
theorem lw_p76 : lw_okq (⟨"HeardTunesModel", "putBack", "()V"⟩, 58) := ⟨⟨by decide +kernel, by decide +kernel⟩, List.mem_of_getElem? (i := 1011) (by decide +kernel), List.mem_of_getElem? (i := 1433) (by decide +kernel), List.mem_of_getElem? (i := 1434) (by decide +kernel)⟩
theorem lw_p77 : lw_okq (⟨"HeardTunesModel", "leadsOut", "(IIII)Z"⟩, 58) := ⟨⟨by decide +kernel, by decide +kernel⟩, List.mem_of_getElem? (i := 1011) (by decide +kernel), List.mem_of_getElem? (i := 1455) (by decide +kernel), List.mem_of_getElem? (i := 1456) (by decide +kernel)⟩
theorem lw_p78 : lw_okq (⟨"HeardTunesModel", "isLedOut", "(I)Z"⟩, 58) := ⟨⟨by decide +kernel, by decide +kernel⟩, List.mem_of_getElem? (i := 1011) (by decide +kernel), List.mem_of_getElem? (i := 1462) (by decide +kernel), List.mem_of_getElem? (i := 1463) (by decide +kernel)⟩
theorem lw_p79 : lw_okq (⟨"HeardTunesModel", "isWalk", "(III)Z"⟩, 58) := ⟨⟨by decide +kernel, by decide +kernel⟩, List.mem_of_getElem? (i := 1011) (by decide +kernel), List.mem_of_getElem? (i := 1483) (by decide +kernel), List.mem_of_getElem? (i := 1484) (by decide +kernel)⟩
def lw_privs_5 : List (MethodName × Nat) := [(⟨"HeardTunesModel", "isCrowd", "(I)Z"⟩, 58), (⟨"HeardTunesModel", "isTune", "(I)Z"⟩, 58), (⟨"HeardTunesModel", "hears", "(II)Z"⟩, 58), (⟨"HeardTunesModel", "isHere", "(I)Z"⟩, 58), (⟨"HeardTunesModel", "minuteBy", "(II)Z"⟩, 58), (⟨"HeardTunesModel", "stepTo", "(I)I"⟩, 58), (⟨"HeardTunesModel", "walkOn", "(I)V"⟩, 58), (⟨"HeardTunesModel", "stepOn", "(I)V"⟩, 58), (⟨"HeardTunesModel", "isSomebody", "(I)Z"⟩, 58), (⟨"HeardTunesModel", "draw", "(I)I"⟩, 58), (⟨"HeardTunesModel", "save", "()V"⟩, 58), (⟨"HeardTunesModel", "follow", "(I)I"⟩, 58), (⟨"HeardTunesModel", "putBack", "()V"⟩, 58), (⟨"HeardTunesModel", "leadsOut", "(IIII)Z"⟩, 58), (⟨"HeardTunesModel", "isLedOut", "(I)Z"⟩, 58), (⟨"HeardTunesModel", "isWalk", "(III)Z"⟩, 58)]
theorem lw_r5 : ∀ q ∈ lw_privs_5, lw_okq q := List.forall_mem_cons.mpr ⟨lw_p64, List.forall_mem_cons.mpr ⟨lw_p65, List.forall_mem_cons.mpr ⟨lw_p66, List.forall_mem_cons.mpr ⟨lw_p67, List.forall_mem_cons.mpr ⟨lw_p68, List.forall_mem_cons.mpr ⟨lw_p69, List.forall_mem_cons.mpr ⟨lw_p70, List.forall_mem_cons.mpr ⟨lw_p71, List.forall_mem_cons.mpr ⟨lw_p72, List.forall_mem_cons.mpr ⟨lw_p73, List.forall_mem_cons.mpr ⟨lw_p74, List.forall_mem_cons.mpr ⟨lw_p75, List.forall_mem_cons.mpr ⟨lw_p76, List.forall_mem_cons.mpr ⟨lw_p77, List.forall_mem_cons.mpr ⟨lw_p78, List.forall_mem_cons.mpr ⟨lw_p79, fun _ h => absurd h List.not_mem_nil⟩⟩⟩⟩⟩⟩⟩⟩⟩⟩⟩⟩⟩⟩⟩⟩
theorem lw_p80 : lw_okq (⟨"HeardTunesModel", "isAsSeen", "(I)Z"⟩, 58) := ⟨⟨by decide +kernel, by decide +kernel⟩, List.mem_of_getElem? (i := 1011) (by decide +kernel), List.mem_of_getElem? (i := 1487) (by decide +kernel), List.mem_of_getElem? (i := 1488) (by decide +kernel)⟩
def lw_privs_6 : List (MethodName × Nat) := [(⟨"HeardTunesModel", "isAsSeen", "(I)Z"⟩, 58)]
theorem lw_r6 : ∀ q ∈ lw_privs_6, lw_okq q := List.forall_mem_cons.mpr ⟨lw_p80, fun _ h => absurd h List.not_mem_nil⟩
def lw_privs : List (MethodName × Nat) := lw_privs_1 ++ (lw_privs_2 ++ (lw_privs_3 ++ (lw_privs_4 ++ (lw_privs_5 ++ (lw_privs_6)))))
def lw_tbl : List Cond := k2_sels lw_privs ++ tables_1
theorem lw_privs_ok : ∀ q ∈ lw_privs, lw_okq q := by
  show ∀ q ∈ lw_privs_1 ++ (lw_privs_2 ++ (lw_privs_3 ++ (lw_privs_4 ++ (lw_privs_5 ++ (lw_privs_6))))), lw_okq q
  exact List.forall_mem_append.mpr ⟨lw_r1, List.forall_mem_append.mpr ⟨lw_r2, List.forall_mem_append.mpr ⟨lw_r3, List.forall_mem_append.mpr ⟨lw_r4, List.forall_mem_append.mpr ⟨lw_r5, lw_r6⟩⟩⟩⟩⟩
/-! ===== BEGIN words of one list among another's, by their places ===== -/
theorem goodIn_r {big : List Cond} (ws : List Cond) (ps : List Nat) (hp : ws = ps.filterMap (fun i => big[i]?)) (h : ws.all goodWord = true) : GoodIn big ws := by
  intro w hw
  have h1 := List.all_eq_true.mp h w hw
  rw [hp] at hw
  obtain ⟨i, -, hi⟩ := List.mem_filterMap.mp hw
  have hm : w ∈ big := by first | exact List.mem_of_getElem? hi | exact List.getElem?_mem hi
  exact ⟨hm, good_of_word h1⟩
theorem goodIn_app {big a b : List Cond} (ha : GoodIn big a) (hb : GoodIn big b) : GoodIn big (a ++ b) := fun w h => (List.mem_append.mp h).elim (ha w) (hb w)
theorem goodIn_ca {big a b : List Cond} {c : Cond} (ha : GoodIn big (c :: a)) (hb : GoodIn big b) : GoodIn big (c :: (a ++ b)) := fun w h => (List.mem_cons.mp h).elim (fun e => ha w (List.mem_cons.mpr (Or.inl e))) (fun h => (List.mem_append.mp h).elim (fun h => ha w (List.mem_cons.mpr (Or.inr h))) (hb w))
theorem goodIn_sub {big ws : List Cond} (hm : ∀ w ∈ ws, w ∈ big) (h : ws.all goodWord = true) : GoodIn big ws := fun w hw => ⟨hm w hw, good_of_word (List.all_eq_true.mp h w hw)⟩
/-! ===== END ===== -/

/-! ===== BEGIN printed: names, fields, word lists, decode rows ===== -/
def RX0 : String := "HeardTunes$Fitting"
def TX0 : u_T := fun k => match k with
  | 0 => ("HeardTunes$Fitting", "count", "I", false)
  | 1 => ("HeardTunes$Fitting", "seen", "LHeardTunes$Seen;", true)
  | 2 => ("HeardTunes$Fitting", "ground", "LHeardTunes$Ground;", true)
  | 3 => ("HeardTunes$Fitting", "levels", "[LHeardTunes$Scene;", true)
  | 4 => ("HeardTunes$Fitting", "steps", "[I", true)
  | 5 => ("HeardTunes$Fitting", "first", "[I", true)
  | 6 => ("HeardTunes$Fitting", "free", "[I", true)
  | 7 => ("HeardTunes$Fitting", "memo", "LHeardTunes$Memo;", true)
  | 8 => ("HeardTunes$Fitting", "isFound", "Z", false)
  | 9 => ("HeardTunes$Fitting", "length", "I", false)
  | 10 => ("HeardTunes$Fitting", "latest", "I", false)
  | _ => ("HeardTunes$Fitting", "tune", "I", false)
def tyX0 : Nat → FieldType := fun k => match k with
  | 0 => .int
  | 1 => .object "HeardTunes$Seen"
  | 2 => .object "HeardTunes$Ground"
  | 3 => .array (.object "HeardTunes$Scene")
  | 4 => .array .int
  | 5 => .array .int
  | 6 => .array .int
  | 7 => .object "HeardTunes$Memo"
  | 8 => .boolean
  | 9 => .int
  | 10 => .int
  | _ => .int
abbrev wsX00 : List Cond := u_ws RX0 TX0 12
theorem nmX0 : ∀ a, a < 12 → ∀ b, b < 12 → a ≠ b → (TX0 a).2.1 ≠ (TX0 b).2.1 := by decide +kernel
theorem tyX0_ok : ∀ k, k < 12 → parseFieldDescriptor (TX0 k).2.2.1 = some (tyX0 k) := by decide +kernel
abbrev cX0_init : ByteArray := prog_2_method_1_code
def yX0_init : MethodName := ⟨RX0, "<init>", "(LHeardTunes$Town;LHeardTunes$Ground;LHeardTunes$Seen;LHeardTunes$Memo;)V"⟩
abbrev cX0_stepAt : ByteArray := prog_2_method_2_code
def yX0_stepAt : MethodName := ⟨RX0, "stepAt", "(I)I"⟩
abbrev cX0_search : ByteArray := prog_2_method_3_code
def yX0_search : MethodName := ⟨RX0, "search", "(LHeardTunes$Scene;II)V"⟩
abbrev cX0_countFree : ByteArray := prog_2_method_4_code
def yX0_countFree : MethodName := ⟨RX0, "countFree", "()V"⟩
abbrev cX0_countFreeFrom : ByteArray := prog_2_method_5_code
def yX0_countFreeFrom : MethodName := ⟨RX0, "countFreeFrom", "(LHeardTunes$Scene;I)I"⟩
abbrev cX0_freeFrom : ByteArray := prog_2_method_6_code
def yX0_freeFrom : MethodName := ⟨RX0, "freeFrom", "(II)I"⟩
abbrev cX0_fit : ByteArray := prog_2_method_7_code
def yX0_fit : MethodName := ⟨RX0, "fit", "(I)I"⟩
abbrev cX0_fitSteps : ByteArray := prog_2_method_8_code
def yX0_fitSteps : MethodName := ⟨RX0, "fitSteps", "(I)I"⟩
abbrev cX0_keepFirst : ByteArray := prog_2_method_9_code
def yX0_keepFirst : MethodName := ⟨RX0, "keepFirst", "()V"⟩
def RX1 : String := "HeardTunes$Ground"
def TX1 : u_T := fun k => match k with
  | 0 => ("HeardTunes$Ground", "count", "I", false)
  | 1 => ("HeardTunes$Ground", "whats", "[I", true)
  | 2 => ("HeardTunes$Ground", "width", "I", false)
  | 3 => ("HeardTunes$Ground", "height", "I", false)
  | 4 => ("HeardTunes$Ground", "codes", "[I", true)
  | 5 => ("HeardTunes$Ground", "besides", "[I", true)
  | 6 => ("HeardTunes$Ground", "ways", "[I", true)
  | 7 => ("HeardTunes$Ground", "isFound", "[Z", true)
  | _ => ("HeardTunes$Ground", "queue", "[I", true)
def tyX1 : Nat → FieldType := fun k => match k with
  | 0 => .int
  | 1 => .array .int
  | 2 => .int
  | 3 => .int
  | 4 => .array .int
  | 5 => .array .int
  | 6 => .array .int
  | 7 => .array .boolean
  | _ => .array .int
abbrev wsX10 : List Cond := u_ws RX1 TX1 9
theorem nmX1 : ∀ a, a < 9 → ∀ b, b < 9 → a ≠ b → (TX1 a).2.1 ≠ (TX1 b).2.1 := by decide +kernel
theorem tyX1_ok : ∀ k, k < 9 → parseFieldDescriptor (TX1 k).2.2.1 = some (tyX1 k) := by decide +kernel
abbrev cX1_init : ByteArray := prog_3_method_1_code
def yX1_init : MethodName := ⟨RX1, "<init>", "()V"⟩
abbrev cX1_isCell : ByteArray := prog_3_method_2_code
def yX1_isCell : MethodName := ⟨RX1, "isCell", "(I)Z"⟩
abbrev cX1_lay : ByteArray := prog_3_method_3_code
def yX1_lay : MethodName := ⟨RX1, "lay", "(LHeardTunes$Town;)V"⟩
abbrev cX1_layCell : ByteArray := prog_3_method_4_code
def yX1_layCell : MethodName := ⟨RX1, "layCell", "(II)V"⟩
abbrev cX1_takeWhats : ByteArray := prog_3_method_5_code
def yX1_takeWhats : MethodName := ⟨RX1, "takeWhats", "([I)V"⟩
abbrev cX1_giveWhats : ByteArray := prog_3_method_6_code
def yX1_giveWhats : MethodName := ⟨RX1, "giveWhats", "([I)V"⟩
abbrev cX1_copy : ByteArray := prog_3_method_7_code
def yX1_copy : MethodName := ⟨RX1, "copy", "(LHeardTunes$Ground;)V"⟩
abbrev cX1_put : ByteArray := prog_3_method_8_code
def yX1_put : MethodName := ⟨RX1, "put", "(II)V"⟩
abbrev cX1_forgetWays : ByteArray := prog_3_method_9_code
def yX1_forgetWays : MethodName := ⟨RX1, "forgetWays", "()V"⟩
abbrev cX1_cellAt : ByteArray := prog_3_method_10_code
def yX1_cellAt : MethodName := ⟨RX1, "cellAt", "(II)I"⟩
abbrev cX1_what : ByteArray := prog_3_method_11_code
def yX1_what : MethodName := ⟨RX1, "what", "(I)I"⟩
abbrev cX1_code : ByteArray := prog_3_method_12_code
def yX1_code : MethodName := ⟨RX1, "code", "(I)I"⟩
abbrev cX1_beside : ByteArray := prog_3_method_13_code
def yX1_beside : MethodName := ⟨RX1, "beside", "(II)I"⟩
abbrev cX1_steps : ByteArray := prog_3_method_14_code
def yX1_steps : MethodName := ⟨RX1, "steps", "(II)I"⟩
abbrev cX1_onward : ByteArray := prog_3_method_15_code
def yX1_onward : MethodName := ⟨RX1, "onward", "(II)I"⟩
abbrev cX1_findWays : ByteArray := prog_3_method_16_code
def yX1_findWays : MethodName := ⟨RX1, "findWays", "(I)V"⟩
def RX2 : String := "HeardTunes$Image"
def TX2 : u_T := fun k => match k with
  | 0 => ("HeardTunes$Image", "isKept", "Z", false)
  | 1 => ("HeardTunes$Image", "theSeed", "I", false)
  | 2 => ("HeardTunes$Image", "scene", "LHeardTunes$Scene;", true)
  | _ => ("HeardTunes$Image", "whats", "[I", true)
def tyX2 : Nat → FieldType := fun k => match k with
  | 0 => .boolean
  | 1 => .int
  | 2 => .object "HeardTunes$Scene"
  | _ => .array .int
abbrev wsX20 : List Cond := u_ws RX2 TX2 4
theorem nmX2 : ∀ a, a < 4 → ∀ b, b < 4 → a ≠ b → (TX2 a).2.1 ≠ (TX2 b).2.1 := by decide +kernel
theorem tyX2_ok : ∀ k, k < 4 → parseFieldDescriptor (TX2 k).2.2.1 = some (tyX2 k) := by decide +kernel
abbrev cX2_init : ByteArray := prog_4_method_1_code
def yX2_init : MethodName := ⟨RX2, "<init>", "(LHeardTunes$Town;LHeardTunes$Ground;)V"⟩
abbrev cX2_take : ByteArray := prog_4_method_2_code
def yX2_take : MethodName := ⟨RX2, "take", "(LHeardTunes$Scene;LHeardTunes$Ground;I)V"⟩
abbrev cX2_give : ByteArray := prog_4_method_3_code
def yX2_give : MethodName := ⟨RX2, "give", "(LHeardTunes$Scene;LHeardTunes$Ground;)V"⟩
def RX3 : String := "HeardTunes$Memo"
def TX3 : u_T := fun k => match k with
  | 0 => ("HeardTunes$Memo", "places", "[J", true)
  | 1 => ("HeardTunes$Memo", "goals", "[J", true)
  | _ => ("HeardTunes$Memo", "values", "[I", true)
def tyX3 : Nat → FieldType := fun k => match k with
  | 0 => .array .long
  | 1 => .array .long
  | _ => .array .int
abbrev wsX30 : List Cond := u_ws RX3 TX3 3
theorem nmX3 : ∀ a, a < 3 → ∀ b, b < 3 → a ≠ b → (TX3 a).2.1 ≠ (TX3 b).2.1 := by decide +kernel
theorem tyX3_ok : ∀ k, k < 3 → parseFieldDescriptor (TX3 k).2.2.1 = some (tyX3 k) := by decide +kernel
abbrev cX3_init : ByteArray := prog_5_method_1_code
def yX3_init : MethodName := ⟨RX3, "<init>", "()V"⟩
abbrev cX3_clear : ByteArray := prog_5_method_2_code
def yX3_clear : MethodName := ⟨RX3, "clear", "()V"⟩
abbrev cX3_slot : ByteArray := prog_5_method_3_code
def yX3_slot : MethodName := ⟨RX3, "slot", "(JJ)I"⟩
abbrev cX3_value : ByteArray := prog_5_method_4_code
def yX3_value : MethodName := ⟨RX3, "value", "(JJ)I"⟩
abbrev cX3_put : ByteArray := prog_5_method_5_code
def yX3_put : MethodName := ⟨RX3, "put", "(JJI)V"⟩
def RX4 : String := "HeardTunes$Plan"
def TX4 : u_T := fun k => match k with
  | 0 => ("HeardTunes$Plan", "count", "I", false)
  | 1 => ("HeardTunes$Plan", "steps", "[I", true)
  | _ => ("HeardTunes$Plan", "tunes", "[I", true)
def tyX4 : Nat → FieldType := fun k => match k with
  | 0 => .int
  | 1 => .array .int
  | _ => .array .int
abbrev wsX40 : List Cond := u_ws RX4 TX4 3
theorem nmX4 : ∀ a, a < 3 → ∀ b, b < 3 → a ≠ b → (TX4 a).2.1 ≠ (TX4 b).2.1 := by decide +kernel
theorem tyX4_ok : ∀ k, k < 3 → parseFieldDescriptor (TX4 k).2.2.1 = some (tyX4 k) := by decide +kernel
abbrev cX4_init : ByteArray := prog_6_method_1_code
def yX4_init : MethodName := ⟨RX4, "<init>", "()V"⟩
abbrev cX4_add : ByteArray := prog_6_method_2_code
def yX4_add : MethodName := ⟨RX4, "add", "(II)V"⟩
abbrev cX4_run : ByteArray := prog_6_method_3_code
def yX4_run : MethodName := ⟨RX4, "run", "(LHeardTunes$Scene;I)I"⟩
def RX5 : String := "HeardTunes$Reader"
def TX5 : u_T := fun k => match k with
  | 0 => ("HeardTunes$Reader", "length", "I", false)
  | 1 => ("HeardTunes$Reader", "fault", "I", false)
  | 2 => ("HeardTunes$Reader", "faultAt", "I", false)
  | 3 => ("HeardTunes$Reader", "text", "[I", true)
  | 4 => ("HeardTunes$Reader", "next", "I", false)
  | _ => ("HeardTunes$Reader", "numberAt", "I", false)
def tyX5 : Nat → FieldType := fun k => match k with
  | 0 => .int
  | 1 => .int
  | 2 => .int
  | 3 => .array .int
  | 4 => .int
  | _ => .int
abbrev wsX50 : List Cond := u_ws RX5 TX5 6
theorem nmX5 : ∀ a, a < 6 → ∀ b, b < 6 → a ≠ b → (TX5 a).2.1 ≠ (TX5 b).2.1 := by decide +kernel
theorem tyX5_ok : ∀ k, k < 6 → parseFieldDescriptor (TX5 k).2.2.1 = some (tyX5 k) := by decide +kernel
abbrev cX5_init : ByteArray := prog_7_method_1_code
def yX5_init : MethodName := ⟨RX5, "<init>", "()V"⟩
abbrev cX5_add : ByteArray := prog_7_method_2_code
def yX5_add : MethodName := ⟨RX5, "add", "(I)V"⟩
abbrev cX5_read : ByteArray := prog_7_method_3_code
def yX5_read : MethodName := ⟨RX5, "read", "(LHeardTunes$Town;)Z"⟩
abbrev cX5_blame : ByteArray := prog_7_method_4_code
def yX5_blame : MethodName := ⟨RX5, "blame", "(II)V"⟩
abbrev cX5_readSentence : ByteArray := prog_7_method_5_code
def yX5_readSentence : MethodName := ⟨RX5, "readSentence", "(LHeardTunes$Town;)V"⟩
abbrev cX5_isTooMany : ByteArray := prog_7_method_6_code
def yX5_isTooMany : MethodName := ⟨RX5, "isTooMany", "(LHeardTunes$Town;I)Z"⟩
abbrev cX5_readSize : ByteArray := prog_7_method_7_code
def yX5_readSize : MethodName := ⟨RX5, "readSize", "(LHeardTunes$Town;)V"⟩
abbrev cX5_readSpot : ByteArray := prog_7_method_8_code
def yX5_readSpot : MethodName := ⟨RX5, "readSpot", "(LHeardTunes$Town;I)V"⟩
abbrev cX5_readCrowd : ByteArray := prog_7_method_9_code
def yX5_readCrowd : MethodName := ⟨RX5, "readCrowd", "(LHeardTunes$Town;)V"⟩
abbrev cX5_readTune : ByteArray := prog_7_method_10_code
def yX5_readTune : MethodName := ⟨RX5, "readTune", "(LHeardTunes$Town;)V"⟩
abbrev cX5_readPiper : ByteArray := prog_7_method_11_code
def yX5_readPiper : MethodName := ⟨RX5, "readPiper", "(LHeardTunes$Town;)V"⟩
abbrev cX5_readPay : ByteArray := prog_7_method_12_code
def yX5_readPay : MethodName := ⟨RX5, "readPay", "(LHeardTunes$Town;)V"⟩
abbrev cX5_readCell : ByteArray := prog_7_method_13_code
def yX5_readCell : MethodName := ⟨RX5, "readCell", "(LHeardTunes$Town;)I"⟩
abbrev cX5_blameIfSpot : ByteArray := prog_7_method_14_code
def yX5_blameIfSpot : MethodName := ⟨RX5, "blameIfSpot", "(LHeardTunes$Town;I)V"⟩
abbrev cX5_readNumber : ByteArray := prog_7_method_15_code
def yX5_readNumber : MethodName := ⟨RX5, "readNumber", "(II)I"⟩
abbrev cX5_readEnd : ByteArray := prog_7_method_16_code
def yX5_readEnd : MethodName := ⟨RX5, "readEnd", "()V"⟩
abbrev cX5_readWord : ByteArray := prog_7_method_17_code
def yX5_readWord : MethodName := ⟨RX5, "readWord", "()I"⟩
abbrev cX5_isWord : ByteArray := prog_7_method_18_code
def yX5_isWord : MethodName := ⟨RX5, "isWord", "(ILjava/lang/String;)Z"⟩
abbrev cX5_skipBlanks : ByteArray := prog_7_method_19_code
def yX5_skipBlanks : MethodName := ⟨RX5, "skipBlanks", "()V"⟩
def RX6 : String := "HeardTunes$Scene"
def TX6 : u_T := fun k => match k with
  | 0 => ("HeardTunes$Scene", "piper", "I", false)
  | 1 => ("HeardTunes$Scene", "minutes", "I", false)
  | 2 => ("HeardTunes$Scene", "at", "[I", true)
  | 3 => ("HeardTunes$Scene", "goal", "[I", true)
  | 4 => ("HeardTunes$Scene", "town", "LHeardTunes$Town;", true)
  | _ => ("HeardTunes$Scene", "ground", "LHeardTunes$Ground;", true)
def tyX6 : Nat → FieldType := fun k => match k with
  | 0 => .int
  | 1 => .int
  | 2 => .array .int
  | 3 => .array .int
  | 4 => .object "HeardTunes$Town"
  | _ => .object "HeardTunes$Ground"
abbrev wsX60 : List Cond := u_ws RX6 TX6 6
theorem nmX6 : ∀ a, a < 6 → ∀ b, b < 6 → a ≠ b → (TX6 a).2.1 ≠ (TX6 b).2.1 := by decide +kernel
theorem tyX6_ok : ∀ k, k < 6 → parseFieldDescriptor (TX6 k).2.2.1 = some (tyX6 k) := by decide +kernel
abbrev cX6_init : ByteArray := prog_8_method_1_code
def yX6_init : MethodName := ⟨RX6, "<init>", "(LHeardTunes$Town;LHeardTunes$Ground;)V"⟩
abbrev cX6_begin : ByteArray := prog_8_method_2_code
def yX6_begin : MethodName := ⟨RX6, "begin", "()V"⟩
abbrev cX6_copy : ByteArray := prog_8_method_3_code
def yX6_copy : MethodName := ⟨RX6, "copy", "(LHeardTunes$Scene;)V"⟩
abbrev cX6_may : ByteArray := prog_8_method_4_code
def yX6_may : MethodName := ⟨RX6, "may", "(I)Z"⟩
abbrev cX6_pass : ByteArray := prog_8_method_5_code
def yX6_pass : MethodName := ⟨RX6, "pass", "(II)V"⟩
abbrev cX6_hears : ByteArray := prog_8_method_6_code
def yX6_hears : MethodName := ⟨RX6, "hears", "(II)Z"⟩
abbrev cX6_lead : ByteArray := prog_8_method_7_code
def yX6_lead : MethodName := ⟨RX6, "lead", "(I)V"⟩
abbrev cX6_hearers : ByteArray := prog_8_method_8_code
def yX6_hearers : MethodName := ⟨RX6, "hearers", "(I)I"⟩
abbrev cX6_fate : ByteArray := prog_8_method_9_code
def yX6_fate : MethodName := ⟨RX6, "fate", "(I)I"⟩
abbrev cX6_isHere : ByteArray := prog_8_method_10_code
def yX6_isHere : MethodName := ⟨RX6, "isHere", "(I)Z"⟩
abbrev cX6_isAt : ByteArray := prog_8_method_11_code
def yX6_isAt : MethodName := ⟨RX6, "isAt", "(II)Z"⟩
abbrev cX6_holds : ByteArray := prog_8_method_12_code
def yX6_holds : MethodName := ⟨RX6, "holds", "(I)Z"⟩
abbrev cX6_heads : ByteArray := prog_8_method_13_code
def yX6_heads : MethodName := ⟨RX6, "heads", "(II)I"⟩
abbrev cX6_left : ByteArray := prog_8_method_14_code
def yX6_left : MethodName := ⟨RX6, "left", "()I"⟩
abbrev cX6_worth : ByteArray := prog_8_method_15_code
def yX6_worth : MethodName := ⟨RX6, "worth", "()I"⟩
abbrev cX6_places : ByteArray := prog_8_method_16_code
def yX6_places : MethodName := ⟨RX6, "places", "()J"⟩
abbrev cX6_goals : ByteArray := prog_8_method_17_code
def yX6_goals : MethodName := ⟨RX6, "goals", "()J"⟩
def RX7 : String := "HeardTunes$Seen"
def TX7 : u_T := fun k => match k with
  | 0 => ("HeardTunes$Seen", "count", "I", false)
  | 1 => ("HeardTunes$Seen", "crowds", "[I", true)
  | 2 => ("HeardTunes$Seen", "minutes", "[I", true)
  | _ => ("HeardTunes$Seen", "cells", "[I", true)
def tyX7 : Nat → FieldType := fun k => match k with
  | 0 => .int
  | 1 => .array .int
  | 2 => .array .int
  | _ => .array .int
abbrev wsX70 : List Cond := u_ws RX7 TX7 4
theorem nmX7 : ∀ a, a < 4 → ∀ b, b < 4 → a ≠ b → (TX7 a).2.1 ≠ (TX7 b).2.1 := by decide +kernel
theorem tyX7_ok : ∀ k, k < 4 → parseFieldDescriptor (TX7 k).2.2.1 = some (tyX7 k) := by decide +kernel
abbrev cX7_init : ByteArray := prog_9_method_1_code
def yX7_init : MethodName := ⟨RX7, "<init>", "()V"⟩
abbrev cX7_add : ByteArray := prog_9_method_2_code
def yX7_add : MethodName := ⟨RX7, "add", "(III)V"⟩
abbrev cX7_fits : ByteArray := prog_9_method_3_code
def yX7_fits : MethodName := ⟨RX7, "fits", "(LHeardTunes$Scene;I)Z"⟩
abbrev cX7_latest : ByteArray := prog_9_method_4_code
def yX7_latest : MethodName := ⟨RX7, "latest", "(I)I"⟩
def RX8 : String := "HeardTunes$Soonest"
def TX8 : u_T := fun k => match k with
  | 0 => ("HeardTunes$Soonest", "minutes", "I", false)
  | 1 => ("HeardTunes$Soonest", "town", "LHeardTunes$Town;", true)
  | 2 => ("HeardTunes$Soonest", "ground", "LHeardTunes$Ground;", true)
  | 3 => ("HeardTunes$Soonest", "levels", "[LHeardTunes$Scene;", true)
  | 4 => ("HeardTunes$Soonest", "steps", "[I", true)
  | 5 => ("HeardTunes$Soonest", "toGate", "[I", true)
  | 6 => ("HeardTunes$Soonest", "memo", "LHeardTunes$Memo;", true)
  | 7 => ("HeardTunes$Soonest", "isKnown", "Z", false)
  | 8 => ("HeardTunes$Soonest", "kind", "I", false)
  | _ => ("HeardTunes$Soonest", "tune", "I", false)
def tyX8 : Nat → FieldType := fun k => match k with
  | 0 => .int
  | 1 => .object "HeardTunes$Town"
  | 2 => .object "HeardTunes$Ground"
  | 3 => .array (.object "HeardTunes$Scene")
  | 4 => .array .int
  | 5 => .array .int
  | 6 => .object "HeardTunes$Memo"
  | 7 => .boolean
  | 8 => .int
  | _ => .int
abbrev wsX80 : List Cond := u_ws RX8 TX8 10
theorem nmX8 : ∀ a, a < 10 → ∀ b, b < 10 → a ≠ b → (TX8 a).2.1 ≠ (TX8 b).2.1 := by decide +kernel
theorem tyX8_ok : ∀ k, k < 10 → parseFieldDescriptor (TX8 k).2.2.1 = some (tyX8 k) := by decide +kernel
abbrev cX8_init : ByteArray := prog_10_method_1_code
def yX8_init : MethodName := ⟨RX8, "<init>", "(LHeardTunes$Town;LHeardTunes$Ground;LHeardTunes$Memo;)V"⟩
abbrev cX8_forget : ByteArray := prog_10_method_2_code
def yX8_forget : MethodName := ⟨RX8, "forget", "()V"⟩
abbrev cX8_stepAt : ByteArray := prog_10_method_3_code
def yX8_stepAt : MethodName := ⟨RX8, "stepAt", "(I)I"⟩
abbrev cX8_search : ByteArray := prog_10_method_4_code
def yX8_search : MethodName := ⟨RX8, "search", "(LHeardTunes$Scene;II)V"⟩
abbrev cX8_findGates : ByteArray := prog_10_method_5_code
def yX8_findGates : MethodName := ⟨RX8, "findGates", "()V"⟩
abbrev cX8_leads : ByteArray := prog_10_method_6_code
def yX8_leads : MethodName := ⟨RX8, "leads", "(II)Z"⟩
abbrev cX8_stepLeads : ByteArray := prog_10_method_7_code
def yX8_stepLeads : MethodName := ⟨RX8, "stepLeads", "(II)Z"⟩
abbrev cX8_outlook : ByteArray := prog_10_method_8_code
def yX8_outlook : MethodName := ⟨RX8, "outlook", "(LHeardTunes$Scene;I)I"⟩
abbrev cX8_canLeave : ByteArray := prog_10_method_9_code
def yX8_canLeave : MethodName := ⟨RX8, "canLeave", "(LHeardTunes$Scene;II)Z"⟩
def RX9 : String := "HeardTunes$Town"
def TX9 : u_T := fun k => match k with
  | 0 => ("HeardTunes$Town", "width", "I", false)
  | 1 => ("HeardTunes$Town", "height", "I", false)
  | 2 => ("HeardTunes$Town", "spots", "I", false)
  | 3 => ("HeardTunes$Town", "crowds", "I", false)
  | 4 => ("HeardTunes$Town", "tunes", "I", false)
  | 5 => ("HeardTunes$Town", "piper", "I", false)
  | 6 => ("HeardTunes$Town", "hasPay", "Z", false)
  | 7 => ("HeardTunes$Town", "forOut", "I", false)
  | 8 => ("HeardTunes$Town", "forDrowned", "I", false)
  | 9 => ("HeardTunes$Town", "what", "[I", true)
  | 10 => ("HeardTunes$Town", "kind", "[I", true)
  | 11 => ("HeardTunes$Town", "start", "[I", true)
  | 12 => ("HeardTunes$Town", "heads", "[I", true)
  | 13 => ("HeardTunes$Town", "pace", "[I", true)
  | 14 => ("HeardTunes$Town", "deaf", "[I", true)
  | 15 => ("HeardTunes$Town", "follows", "[I", true)
  | _ => ("HeardTunes$Town", "reach", "[I", true)
def tyX9 : Nat → FieldType := fun k => match k with
  | 0 => .int
  | 1 => .int
  | 2 => .int
  | 3 => .int
  | 4 => .int
  | 5 => .int
  | 6 => .boolean
  | 7 => .int
  | 8 => .int
  | 9 => .array .int
  | 10 => .array .int
  | 11 => .array .int
  | 12 => .array .int
  | 13 => .array .int
  | 14 => .array .int
  | 15 => .array .int
  | _ => .array .int
abbrev wsX90 : List Cond := u_ws RX9 TX9 17
theorem nmX9 : ∀ a, a < 17 → ∀ b, b < 17 → a ≠ b → (TX9 a).2.1 ≠ (TX9 b).2.1 := by decide +kernel
theorem tyX9_ok : ∀ k, k < 17 → parseFieldDescriptor (TX9 k).2.2.1 = some (tyX9 k) := by decide +kernel
abbrev cX9_init : ByteArray := prog_11_method_1_code
def yX9_init : MethodName := ⟨RX9, "<init>", "()V"⟩
abbrev cX9_clear : ByteArray := prog_11_method_2_code
def yX9_clear : MethodName := ⟨RX9, "clear", "()V"⟩
abbrev cX9_followers : ByteArray := prog_11_method_3_code
def yX9_followers : MethodName := ⟨RX9, "followers", "(I)I"⟩
abbrev cX9_isFollower : ByteArray := prog_11_method_4_code
def yX9_isFollower : MethodName := ⟨RX9, "isFollower", "(II)Z"⟩
abbrev cX9_isSpot : ByteArray := prog_11_method_5_code
def yX9_isSpot : MethodName := ⟨RX9, "isSpot", "(I)Z"⟩
abbrev cX9_isTaken : ByteArray := prog_11_method_6_code
def yX9_isTaken : MethodName := ⟨RX9, "isTaken", "(I)Z"⟩
abbrev cX9_addSpot : ByteArray := prog_11_method_7_code
def yX9_addSpot : MethodName := ⟨RX9, "addSpot", "(II)V"⟩
abbrev cX9_addCrowd : ByteArray := prog_11_method_8_code
def yX9_addCrowd : MethodName := ⟨RX9, "addCrowd", "(IIIII)V"⟩
abbrev cX9_addTune : ByteArray := prog_11_method_9_code
def yX9_addTune : MethodName := ⟨RX9, "addTune", "(II)V"⟩
abbrev cX9_placePiperIfUntold : ByteArray := prog_11_method_10_code
def yX9_placePiperIfUntold : MethodName := ⟨RX9, "placePiperIfUntold", "()V"⟩
def RX10 : String := "HeardTunes"
def TX10 : u_T := fun k => match k with
  | 0 => ("HeardTunes", "reader", "LHeardTunes$Reader;", true)
  | 1 => ("HeardTunes", "tale", "LHeardTunes$Town;", true)
  | 2 => ("HeardTunes", "draft", "LHeardTunes$Town;", true)
  | 3 => ("HeardTunes", "ground", "LHeardTunes$Ground;", true)
  | 4 => ("HeardTunes", "walledGround", "LHeardTunes$Ground;", true)
  | 5 => ("HeardTunes", "now", "LHeardTunes$Scene;", true)
  | 6 => ("HeardTunes", "trial", "LHeardTunes$Scene;", true)
  | 7 => ("HeardTunes", "walledTrial", "LHeardTunes$Scene;", true)
  | 8 => ("HeardTunes", "row", "LHeardTunes$Plan;", true)
  | 9 => ("HeardTunes", "seen", "LHeardTunes$Seen;", true)
  | 10 => ("HeardTunes", "memo", "LHeardTunes$Memo;", true)
  | 11 => ("HeardTunes", "leading", "LHeardTunes$Soonest;", true)
  | 12 => ("HeardTunes", "fitting", "LHeardTunes$Fitting;", true)
  | 13 => ("HeardTunes", "images", "[LHeardTunes$Image;", true)
  | _ => ("HeardTunes", "theSeed", "I", false)
def tyX10 : Nat → FieldType := fun k => match k with
  | 0 => .object "HeardTunes$Reader"
  | 1 => .object "HeardTunes$Town"
  | 2 => .object "HeardTunes$Town"
  | 3 => .object "HeardTunes$Ground"
  | 4 => .object "HeardTunes$Ground"
  | 5 => .object "HeardTunes$Scene"
  | 6 => .object "HeardTunes$Scene"
  | 7 => .object "HeardTunes$Scene"
  | 8 => .object "HeardTunes$Plan"
  | 9 => .object "HeardTunes$Seen"
  | 10 => .object "HeardTunes$Memo"
  | 11 => .object "HeardTunes$Soonest"
  | 12 => .object "HeardTunes$Fitting"
  | 13 => .array (.object "HeardTunes$Image")
  | _ => .int
abbrev wsX100 : List Cond := u_ws RX10 TX10 15
theorem nmX10 : ∀ a, a < 15 → ∀ b, b < 15 → a ≠ b → (TX10 a).2.1 ≠ (TX10 b).2.1 := by decide +kernel
theorem tyX10_ok : ∀ k, k < 15 → parseFieldDescriptor (TX10 k).2.2.1 = some (tyX10 k) := by decide +kernel
abbrev cX10_init : ByteArray := prog_1_method_1_code
def yX10_init : MethodName := ⟨RX10, "<init>", "()V"⟩
abbrev cX10_feed : ByteArray := prog_1_method_2_code
def yX10_feed : MethodName := ⟨RX10, "feed", "(IJ)I"⟩
abbrev cX10_town : ByteArray := prog_1_method_3_code
def yX10_town : MethodName := ⟨RX10, "town", "()I"⟩
abbrev cX10_fault : ByteArray := prog_1_method_4_code
def yX10_fault : MethodName := ⟨RX10, "fault", "()I"⟩
abbrev cX10_told : ByteArray := prog_1_method_5_code
def yX10_told : MethodName := ⟨RX10, "told", "(I)I"⟩
abbrev cX10_cell : ByteArray := prog_1_method_6_code
def yX10_cell : MethodName := ⟨RX10, "cell", "(II)I"⟩
abbrev cX10_crowd : ByteArray := prog_1_method_7_code
def yX10_crowd : MethodName := ⟨RX10, "crowd", "(II)I"⟩
abbrev cX10_tune : ByteArray := prog_1_method_8_code
def yX10_tune : MethodName := ⟨RX10, "tune", "(II)I"⟩
abbrev cX10_far : ByteArray := prog_1_method_9_code
def yX10_far : MethodName := ⟨RX10, "far", "(IIII)I"⟩
abbrev cX10_minute : ByteArray := prog_1_method_10_code
def yX10_minute : MethodName := ⟨RX10, "minute", "(II)I"⟩
abbrev cX10_wall : ByteArray := prog_1_method_11_code
def yX10_wall : MethodName := ⟨RX10, "wall", "(IIZ)I"⟩
abbrev cX10_drift : ByteArray := prog_1_method_12_code
def yX10_drift : MethodName := ⟨RX10, "drift", "(I)I"⟩
abbrev cX10_plan : ByteArray := prog_1_method_13_code
def yX10_plan : MethodName := ⟨RX10, "plan", "(II)I"⟩
abbrev cX10_drop : ByteArray := prog_1_method_14_code
def yX10_drop : MethodName := ⟨RX10, "drop", "()I"⟩
abbrev cX10_judge : ByteArray := prog_1_method_15_code
def yX10_judge : MethodName := ⟨RX10, "judge", "()I"⟩
abbrev cX10_tried : ByteArray := prog_1_method_16_code
def yX10_tried : MethodName := ⟨RX10, "tried", "(II)I"⟩
abbrev cX10_where : ByteArray := prog_1_method_17_code
def yX10_where : MethodName := ⟨RX10, "where", "(II)I"⟩
abbrev cX10_soonest : ByteArray := prog_1_method_18_code
def yX10_soonest : MethodName := ⟨RX10, "soonest", "(III)I"⟩
abbrev cX10_bestWall : ByteArray := prog_1_method_19_code
def yX10_bestWall : MethodName := ⟨RX10, "bestWall", "(II)I"⟩
abbrev cX10_wax : ByteArray := prog_1_method_20_code
def yX10_wax : MethodName := ⟨RX10, "wax", "(I)I"⟩
abbrev cX10_see : ByteArray := prog_1_method_21_code
def yX10_see : MethodName := ⟨RX10, "see", "(IIII)I"⟩
abbrev cX10_walks : ByteArray := prog_1_method_22_code
def yX10_walks : MethodName := ⟨RX10, "walks", "(III)I"⟩
abbrev cX10_tear : ByteArray := prog_1_method_23_code
def yX10_tear : MethodName := ⟨RX10, "tear", "()I"⟩
abbrev cX10_seed : ByteArray := prog_1_method_24_code
def yX10_seed : MethodName := ⟨RX10, "seed", "(I)I"⟩
abbrev cX10_keep : ByteArray := prog_1_method_25_code
def yX10_keep : MethodName := ⟨RX10, "keep", "(I)I"⟩
abbrev cX10_goBack : ByteArray := prog_1_method_26_code
def yX10_goBack : MethodName := ⟨RX10, "goBack", "(I)I"⟩
abbrev cX10_isKind : ByteArray := prog_1_method_27_code
def yX10_isKind : MethodName := ⟨RX10, "isKind", "(I)Z"⟩
abbrev cX10_isStep : ByteArray := prog_1_method_28_code
def yX10_isStep : MethodName := ⟨RX10, "isStep", "(I)Z"⟩
abbrev cX10_isImage : ByteArray := prog_1_method_29_code
def yX10_isImage : MethodName := ⟨RX10, "isImage", "(I)Z"⟩
abbrev cX10_isCrowd : ByteArray := prog_1_method_30_code
def yX10_isCrowd : MethodName := ⟨RX10, "isCrowd", "(I)Z"⟩
abbrev cX10_isTune : ByteArray := prog_1_method_31_code
def yX10_isTune : MethodName := ⟨RX10, "isTune", "(I)Z"⟩
abbrev cX10_isTuneOrNone : ByteArray := prog_1_method_32_code
def yX10_isTuneOrNone : MethodName := ⟨RX10, "isTuneOrNone", "(I)Z"⟩
abbrev cX10_begin : ByteArray := prog_1_method_33_code
def yX10_begin : MethodName := ⟨RX10, "begin", "()V"⟩
abbrev cX10_draw : ByteArray := prog_1_method_34_code
def yX10_draw : MethodName := ⟨RX10, "draw", "(I)I"⟩
abbrev cX10_tryPlan : ByteArray := prog_1_method_35_code
def yX10_tryPlan : MethodName := ⟨RX10, "tryPlan", "(I)I"⟩
abbrev cX10_outBehindWall : ByteArray := prog_1_method_36_code
def yX10_outBehindWall : MethodName := ⟨RX10, "outBehindWall", "(II)I"⟩
def RX11 : String := "HeardTunesModel"
def TX11 : u_T := fun k => match k with
  | 0 => ("HeardTunesModel", "wide", "I", false)
  | 1 => ("HeardTunesModel", "deep", "I", false)
  | 2 => ("HeardTunesModel", "cell", "[I", true)
  | 3 => ("HeardTunesModel", "crowds", "I", false)
  | 4 => ("HeardTunesModel", "kind", "[I", true)
  | 5 => ("HeardTunesModel", "heads", "[I", true)
  | 6 => ("HeardTunesModel", "pace", "[I", true)
  | 7 => ("HeardTunesModel", "deaf", "[I", true)
  | 8 => ("HeardTunesModel", "tunes", "I", false)
  | 9 => ("HeardTunesModel", "follows", "[I", true)
  | 10 => ("HeardTunesModel", "heard", "[I", true)
  | 11 => ("HeardTunesModel", "pay", "I", false)
  | 12 => ("HeardTunesModel", "fine", "I", false)
  | 13 => ("HeardTunesModel", "piper", "I", false)
  | 14 => ("HeardTunesModel", "at", "[I", true)
  | 15 => ("HeardTunesModel", "goal", "[I", true)
  | 16 => ("HeardTunesModel", "fate", "[I", true)
  | 17 => ("HeardTunesModel", "minutes", "I", false)
  | 18 => ("HeardTunesModel", "seed", "I", false)
  | 19 => ("HeardTunesModel", "text", "[I", true)
  | 20 => ("HeardTunesModel", "texted", "I", false)
  | 21 => ("HeardTunesModel", "faultPlace", "I", false)
  | 22 => ("HeardTunesModel", "at0", "I", false)
  | 23 => ("HeardTunesModel", "said", "J", false)
  | 24 => ("HeardTunesModel", "wordEnd", "I", false)
  | 25 => ("HeardTunesModel", "number", "I", false)
  | 26 => ("HeardTunesModel", "numberAt", "I", false)
  | 27 => ("HeardTunesModel", "readWide", "I", false)
  | 28 => ("HeardTunesModel", "readDeep", "I", false)
  | 29 => ("HeardTunesModel", "readCell", "[I", true)
  | 30 => ("HeardTunesModel", "readMarks", "I", false)
  | 31 => ("HeardTunesModel", "readCrowds", "I", false)
  | 32 => ("HeardTunesModel", "readKind", "[I", true)
  | 33 => ("HeardTunesModel", "readAt", "[I", true)
  | 34 => ("HeardTunesModel", "readHeads", "[I", true)
  | 35 => ("HeardTunesModel", "readPace", "[I", true)
  | 36 => ("HeardTunesModel", "readDeaf", "[I", true)
  | 37 => ("HeardTunesModel", "readTunes", "I", false)
  | 38 => ("HeardTunesModel", "readFollows", "[I", true)
  | 39 => ("HeardTunesModel", "readHeard", "[I", true)
  | 40 => ("HeardTunesModel", "readPiper", "I", false)
  | 41 => ("HeardTunesModel", "readPay", "I", false)
  | 42 => ("HeardTunesModel", "readFine", "I", false)
  | 43 => ("HeardTunesModel", "cellRead", "I", false)
  | 44 => ("HeardTunesModel", "far", "[I", true)
  | 45 => ("HeardTunesModel", "wasPiper", "I", false)
  | 46 => ("HeardTunesModel", "wasAt", "[I", true)
  | 47 => ("HeardTunesModel", "wasGoal", "[I", true)
  | 48 => ("HeardTunesModel", "wasFate", "[I", true)
  | 49 => ("HeardTunesModel", "planned", "I", false)
  | 50 => ("HeardTunesModel", "planStep", "[I", true)
  | 51 => ("HeardTunesModel", "planTune", "[I", true)
  | 52 => ("HeardTunesModel", "sights", "I", false)
  | 53 => ("HeardTunesModel", "seenCrowd", "[I", true)
  | 54 => ("HeardTunesModel", "seenMinute", "[I", true)
  | 55 => ("HeardTunesModel", "seenAt", "[I", true)
  | 56 => ("HeardTunesModel", "images", "[I", true)
  | _ => ("HeardTunesModel", "isKept", "[Z", true)
def tyX11 : Nat → FieldType := fun k => match k with
  | 0 => .int
  | 1 => .int
  | 2 => .array .int
  | 3 => .int
  | 4 => .array .int
  | 5 => .array .int
  | 6 => .array .int
  | 7 => .array .int
  | 8 => .int
  | 9 => .array .int
  | 10 => .array .int
  | 11 => .int
  | 12 => .int
  | 13 => .int
  | 14 => .array .int
  | 15 => .array .int
  | 16 => .array .int
  | 17 => .int
  | 18 => .int
  | 19 => .array .int
  | 20 => .int
  | 21 => .int
  | 22 => .int
  | 23 => .long
  | 24 => .int
  | 25 => .int
  | 26 => .int
  | 27 => .int
  | 28 => .int
  | 29 => .array .int
  | 30 => .int
  | 31 => .int
  | 32 => .array .int
  | 33 => .array .int
  | 34 => .array .int
  | 35 => .array .int
  | 36 => .array .int
  | 37 => .int
  | 38 => .array .int
  | 39 => .array .int
  | 40 => .int
  | 41 => .int
  | 42 => .int
  | 43 => .int
  | 44 => .array .int
  | 45 => .int
  | 46 => .array .int
  | 47 => .array .int
  | 48 => .array .int
  | 49 => .int
  | 50 => .array .int
  | 51 => .array .int
  | 52 => .int
  | 53 => .array .int
  | 54 => .array .int
  | 55 => .array .int
  | 56 => .array .int
  | _ => .array .boolean
abbrev wsX110 : List Cond := u_ws RX11 TX11 58
theorem nmX11 : ∀ a, a < 58 → ∀ b, b < 58 → a ≠ b → (TX11 a).2.1 ≠ (TX11 b).2.1 := by decide +kernel
theorem tyX11_ok : ∀ k, k < 58 → parseFieldDescriptor (TX11 k).2.2.1 = some (tyX11 k) := by decide +kernel
abbrev cX11_init : ByteArray := prog_13_method_1_code
def yX11_init : MethodName := ⟨RX11, "<init>", "()V"⟩
abbrev cX11_in : ByteArray := prog_13_method_3_code
def yX11_in : MethodName := ⟨RX11, "in", "(JJJ)Z"⟩
abbrev cX11_has : ByteArray := prog_13_method_4_code
def yX11_has : MethodName := ⟨RX11, "has", "(II)Z"⟩
abbrev cX11_isCell : ByteArray := prog_13_method_5_code
def yX11_isCell : MethodName := ⟨RX11, "isCell", "(II)Z"⟩
abbrev cX11_isCrowd : ByteArray := prog_13_method_6_code
def yX11_isCrowd : MethodName := ⟨RX11, "isCrowd", "(I)Z"⟩
abbrev cX11_isTune : ByteArray := prog_13_method_7_code
def yX11_isTune : MethodName := ⟨RX11, "isTune", "(I)Z"⟩
abbrev cX11_told10 : ByteArray := prog_13_method_8_code
def yX11_told10 : MethodName := ⟨RX11, "told10", "(I)I"⟩
abbrev cX11_feed : ByteArray := prog_13_method_9_code
def yX11_feed : MethodName := ⟨RX11, "feed", "(IJ)I"⟩
abbrev cX11_here : ByteArray := prog_13_method_10_code
def yX11_here : MethodName := ⟨RX11, "here", "()I"⟩
abbrev cX11_fails : ByteArray := prog_13_method_11_code
def yX11_fails : MethodName := ⟨RX11, "fails", "(II)I"⟩
abbrev cX11_readWord : ByteArray := prog_13_method_12_code
def yX11_readWord : MethodName := ⟨RX11, "readWord", "()V"⟩
abbrev cX11_code : ByteArray := prog_13_method_13_code
def yX11_code : MethodName := ⟨RX11, "code", "(III)J"⟩
abbrev cX11_more : ByteArray := prog_13_method_14_code
def yX11_more : MethodName := ⟨RX11, "more", "(JI)J"⟩
abbrev cX11_takeNumber : ByteArray := prog_13_method_15_code
def yX11_takeNumber : MethodName := ⟨RX11, "takeNumber", "(II)I"⟩
abbrev cX11_into : ByteArray := prog_13_method_16_code
def yX11_into : MethodName := ⟨RX11, "into", "([IIII)I"⟩
abbrev cX11_takeTown : ByteArray := prog_13_method_17_code
def yX11_takeTown : MethodName := ⟨RX11, "takeTown", "()I"⟩
abbrev cX11_takeCell : ByteArray := prog_13_method_18_code
def yX11_takeCell : MethodName := ⟨RX11, "takeCell", "()I"⟩
abbrev cX11_isTakenUp : ByteArray := prog_13_method_19_code
def yX11_isTakenUp : MethodName := ⟨RX11, "isTakenUp", "(I)Z"⟩
abbrev cX11_takeMark : ByteArray := prog_13_method_20_code
def yX11_takeMark : MethodName := ⟨RX11, "takeMark", "(I)I"⟩
abbrev cX11_takeCrowd : ByteArray := prog_13_method_21_code
def yX11_takeCrowd : MethodName := ⟨RX11, "takeCrowd", "()I"⟩
abbrev cX11_takeTune : ByteArray := prog_13_method_22_code
def yX11_takeTune : MethodName := ⟨RX11, "takeTune", "()I"⟩
abbrev cX11_takePiper : ByteArray := prog_13_method_23_code
def yX11_takePiper : MethodName := ⟨RX11, "takePiper", "()I"⟩
abbrev cX11_takePay : ByteArray := prog_13_method_24_code
def yX11_takePay : MethodName := ⟨RX11, "takePay", "()I"⟩
abbrev cX11_kindOfWord : ByteArray := prog_13_method_25_code
def yX11_kindOfWord : MethodName := ⟨RX11, "kindOfWord", "()I"⟩
abbrev cX11_takeClause : ByteArray := prog_13_method_26_code
def yX11_takeClause : MethodName := ⟨RX11, "takeClause", "()I"⟩
abbrev cX11_clear : ByteArray := prog_13_method_27_code
def yX11_clear : MethodName := ⟨RX11, "clear", "()V"⟩
abbrev cX11_town : ByteArray := prog_13_method_28_code
def yX11_town : MethodName := ⟨RX11, "town", "()I"⟩
abbrev cX11_firstFree : ByteArray := prog_13_method_29_code
def yX11_firstFree : MethodName := ⟨RX11, "firstFree", "()I"⟩
abbrev cX11_fault : ByteArray := prog_13_method_30_code
def yX11_fault : MethodName := ⟨RX11, "fault", "()I"⟩
abbrev cX11_beside : ByteArray := prog_13_method_31_code
def yX11_beside : MethodName := ⟨RX11, "beside", "(II)I"⟩
abbrev cX11_findFarTo : ByteArray := prog_13_method_32_code
def yX11_findFarTo : MethodName := ⟨RX11, "findFarTo", "(I)V"⟩
abbrev cX11_findFar : ByteArray := prog_13_method_33_code
def yX11_findFar : MethodName := ⟨RX11, "findFar", "()V"⟩
abbrev cX11_far : ByteArray := prog_13_method_34_code
def yX11_far : MethodName := ⟨RX11, "far", "(IIII)I"⟩
abbrev cX11_followers : ByteArray := prog_13_method_35_code
def yX11_followers : MethodName := ⟨RX11, "followers", "(I)I"⟩
abbrev cX11_isHere : ByteArray := prog_13_method_36_code
def yX11_isHere : MethodName := ⟨RX11, "isHere", "(I)Z"⟩
abbrev cX11_headsBy : ByteArray := prog_13_method_37_code
def yX11_headsBy : MethodName := ⟨RX11, "headsBy", "(II)I"⟩
abbrev cX11_allHeads : ByteArray := prog_13_method_38_code
def yX11_allHeads : MethodName := ⟨RX11, "allHeads", "()I"⟩
abbrev cX11_worth : ByteArray := prog_13_method_39_code
def yX11_worth : MethodName := ⟨RX11, "worth", "()I"⟩
abbrev cX11_told : ByteArray := prog_13_method_40_code
def yX11_told : MethodName := ⟨RX11, "told", "(I)I"⟩
abbrev cX11_cell : ByteArray := prog_13_method_41_code
def yX11_cell : MethodName := ⟨RX11, "cell", "(II)I"⟩
abbrev cX11_crowd : ByteArray := prog_13_method_42_code
def yX11_crowd : MethodName := ⟨RX11, "crowd", "(II)I"⟩
abbrev cX11_hears : ByteArray := prog_13_method_43_code
def yX11_hears : MethodName := ⟨RX11, "hears", "(II)Z"⟩
abbrev cX11_tune : ByteArray := prog_13_method_44_code
def yX11_tune : MethodName := ⟨RX11, "tune", "(II)I"⟩
abbrev cX11_stepTo : ByteArray := prog_13_method_45_code
def yX11_stepTo : MethodName := ⟨RX11, "stepTo", "(I)I"⟩
abbrev cX11_stepOn : ByteArray := prog_13_method_46_code
def yX11_stepOn : MethodName := ⟨RX11, "stepOn", "(I)V"⟩
abbrev cX11_walkOn : ByteArray := prog_13_method_47_code
def yX11_walkOn : MethodName := ⟨RX11, "walkOn", "(I)V"⟩
abbrev cX11_minuteBy : ByteArray := prog_13_method_48_code
def yX11_minuteBy : MethodName := ⟨RX11, "minuteBy", "(II)Z"⟩
abbrev cX11_minute : ByteArray := prog_13_method_49_code
def yX11_minute : MethodName := ⟨RX11, "minute", "(II)I"⟩
abbrev cX11_isSomebody : ByteArray := prog_13_method_50_code
def yX11_isSomebody : MethodName := ⟨RX11, "isSomebody", "(I)Z"⟩
abbrev cX11_wall : ByteArray := prog_13_method_51_code
def yX11_wall : MethodName := ⟨RX11, "wall", "(IIZ)I"⟩
abbrev cX11_draw : ByteArray := prog_13_method_52_code
def yX11_draw : MethodName := ⟨RX11, "draw", "(I)I"⟩
abbrev cX11_drift : ByteArray := prog_13_method_53_code
def yX11_drift : MethodName := ⟨RX11, "drift", "(I)I"⟩
abbrev cX11_save : ByteArray := prog_13_method_54_code
def yX11_save : MethodName := ⟨RX11, "save", "()V"⟩
abbrev cX11_putBack : ByteArray := prog_13_method_55_code
def yX11_putBack : MethodName := ⟨RX11, "putBack", "()V"⟩
abbrev cX11_plan : ByteArray := prog_13_method_56_code
def yX11_plan : MethodName := ⟨RX11, "plan", "(II)I"⟩
abbrev cX11_drop : ByteArray := prog_13_method_57_code
def yX11_drop : MethodName := ⟨RX11, "drop", "()I"⟩
abbrev cX11_follow : ByteArray := prog_13_method_58_code
def yX11_follow : MethodName := ⟨RX11, "follow", "(I)I"⟩
abbrev cX11_judge : ByteArray := prog_13_method_59_code
def yX11_judge : MethodName := ⟨RX11, "judge", "()I"⟩
abbrev cX11_tried : ByteArray := prog_13_method_60_code
def yX11_tried : MethodName := ⟨RX11, "tried", "(II)I"⟩
abbrev cX11_where : ByteArray := prog_13_method_61_code
def yX11_where : MethodName := ⟨RX11, "where", "(II)I"⟩
abbrev cX11_power : ByteArray := prog_13_method_62_code
def yX11_power : MethodName := ⟨RX11, "power", "(I)I"⟩
abbrev cX11_stepIn : ByteArray := prog_13_method_63_code
def yX11_stepIn : MethodName := ⟨RX11, "stepIn", "(III)I"⟩
abbrev cX11_isLedOut : ByteArray := prog_13_method_64_code
def yX11_isLedOut : MethodName := ⟨RX11, "isLedOut", "(I)Z"⟩
abbrev cX11_leadsOut : ByteArray := prog_13_method_65_code
def yX11_leadsOut : MethodName := ⟨RX11, "leadsOut", "(IIII)Z"⟩
abbrev cX11_soonest : ByteArray := prog_13_method_66_code
def yX11_soonest : MethodName := ⟨RX11, "soonest", "(III)I"⟩
abbrev cX11_bestWall : ByteArray := prog_13_method_67_code
def yX11_bestWall : MethodName := ⟨RX11, "bestWall", "(II)I"⟩
abbrev cX11_wax : ByteArray := prog_13_method_68_code
def yX11_wax : MethodName := ⟨RX11, "wax", "(I)I"⟩
abbrev cX11_see : ByteArray := prog_13_method_69_code
def yX11_see : MethodName := ⟨RX11, "see", "(IIII)I"⟩
abbrev cX11_isAsSeen : ByteArray := prog_13_method_70_code
def yX11_isAsSeen : MethodName := ⟨RX11, "isAsSeen", "(I)Z"⟩
abbrev cX11_isWalk : ByteArray := prog_13_method_71_code
def yX11_isWalk : MethodName := ⟨RX11, "isWalk", "(III)Z"⟩
abbrev cX11_walks : ByteArray := prog_13_method_72_code
def yX11_walks : MethodName := ⟨RX11, "walks", "(III)I"⟩
abbrev cX11_tear : ByteArray := prog_13_method_73_code
def yX11_tear : MethodName := ⟨RX11, "tear", "()I"⟩
abbrev cX11_seed : ByteArray := prog_13_method_74_code
def yX11_seed : MethodName := ⟨RX11, "seed", "(I)I"⟩
abbrev cX11_keep : ByteArray := prog_13_method_75_code
def yX11_keep : MethodName := ⟨RX11, "keep", "(I)I"⟩
abbrev cX11_goBack : ByteArray := prog_13_method_76_code
def yX11_goBack : MethodName := ⟨RX11, "goBack", "(I)I"⟩
def RJ9 : String := "java/lang/Math"
def TJ9 : u_T := fun k => match k with
  | _ => ("", "", "", false)
def tyJ9 : Nat → FieldType := fun k => match k with
  | _ => .int
abbrev wsJ90 : List Cond := u_ws RJ9 TJ9 0
theorem nmJ9 : ∀ a, a < 0 → ∀ b, b < 0 → a ≠ b → (TJ9 a).2.1 ≠ (TJ9 b).2.1 := by decide +kernel
theorem tyJ9_ok : ∀ k, k < 0 → parseFieldDescriptor (TJ9 k).2.2.1 = some (tyJ9 k) := by decide +kernel
abbrev cJ9_max_7cf53 : ByteArray := prog_14_method_65_code
def yJ9_max_7cf53 : MethodName := ⟨RJ9, "max", "(II)I"⟩
abbrev cJ9_min_7cf53 : ByteArray := prog_14_method_69_code
def yJ9_min_7cf53 : MethodName := ⟨RJ9, "min", "(II)I"⟩
def RJ0 : String := "java/lang/String"
def TJ0 : u_T := fun k => match k with
  | _ => ("", "", "", false)
def tyJ0 : Nat → FieldType := fun k => match k with
  | _ => .int
abbrev wsJ00 : List Cond := u_ws RJ0 TJ0 0
theorem nmJ0 : ∀ a, a < 0 → ∀ b, b < 0 → a ≠ b → (TJ0 a).2.1 ≠ (TJ0 b).2.1 := by decide +kernel
theorem tyJ0_ok : ∀ k, k < 0 → parseFieldDescriptor (TJ0 k).2.2.1 = some (tyJ0 k) := by decide +kernel
abbrev cJ0_length_8abf5 : ByteArray := prog_15_method_54_code
def yJ0_length_8abf5 : MethodName := ⟨RJ0, "length", "()I"⟩
abbrev cJ0_charAt_5068e : ByteArray := prog_15_method_56_code
def yJ0_charAt_5068e : MethodName := ⟨RJ0, "charAt", "(I)C"⟩
abbrev cJ0_coder_7d493 : ByteArray := prog_15_method_152_code
def yJ0_coder_7d493 : MethodName := ⟨RJ0, "coder", "()B"⟩
abbrev cJ0_isLatin1_aae02 : ByteArray := prog_15_method_154_code
def yJ0_isLatin1_aae02 : MethodName := ⟨RJ0, "isLatin1", "()Z"⟩
abbrev cJ0_checkIndex_df160 : ByteArray := prog_15_method_155_code
def yJ0_checkIndex_df160 : MethodName := ⟨RJ0, "checkIndex", "(II)V"⟩
def RJ1 : String := "java/lang/StringLatin1"
def TJ1 : u_T := fun k => match k with
  | _ => ("", "", "", false)
def tyJ1 : Nat → FieldType := fun k => match k with
  | _ => .int
abbrev wsJ10 : List Cond := u_ws RJ1 TJ1 0
theorem nmJ1 : ∀ a, a < 0 → ∀ b, b < 0 → a ≠ b → (TJ1 a).2.1 ≠ (TJ1 b).2.1 := by decide +kernel
theorem tyJ1_ok : ∀ k, k < 0 → parseFieldDescriptor (TJ1 k).2.2.1 = some (tyJ1 k) := by decide +kernel
abbrev cJ1_charAt_3b067 : ByteArray := prog_16_method_2_code
def yJ1_charAt_3b067 : MethodName := ⟨RJ1, "charAt", "([BI)C"⟩
def RJ2 : String := "java/lang/StringUTF16"
def TJ2 : u_T := fun k => match k with
  | _ => ("", "", "", false)
def tyJ2 : Nat → FieldType := fun k => match k with
  | _ => .int
abbrev wsJ20 : List Cond := u_ws RJ2 TJ2 0
theorem nmJ2 : ∀ a, a < 0 → ∀ b, b < 0 → a ≠ b → (TJ2 a).2.1 ≠ (TJ2 b).2.1 := by decide +kernel
theorem tyJ2_ok : ∀ k, k < 0 → parseFieldDescriptor (TJ2 k).2.2.1 = some (tyJ2 k) := by decide +kernel
abbrev cJ2_getChar_3b067 : ByteArray := prog_17_method_5_code
def yJ2_getChar_3b067 : MethodName := ⟨RJ2, "getChar", "([BI)C"⟩
abbrev cJ2_length_9d52b : ByteArray := prog_17_method_6_code
def yJ2_length_9d52b : MethodName := ⟨RJ2, "length", "([B)I"⟩
abbrev cJ2_charAt_3b067 : ByteArray := prog_17_method_83_code
def yJ2_charAt_3b067 : MethodName := ⟨RJ2, "charAt", "([BI)C"⟩
abbrev cJ2_checkIndex_2214a : ByteArray := prog_17_method_91_code
def yJ2_checkIndex_2214a : MethodName := ⟨RJ2, "checkIndex", "(I[B)V"⟩
def RJ3 : String := "jdk/internal/util/Preconditions"
def TJ3 : u_T := fun k => match k with
  | _ => ("", "", "", false)
def tyJ3 : Nat → FieldType := fun k => match k with
  | _ => .int
abbrev wsJ30 : List Cond := u_ws RJ3 TJ3 0
theorem nmJ3 : ∀ a, a < 0 → ∀ b, b < 0 → a ≠ b → (TJ3 a).2.1 ≠ (TJ3 b).2.1 := by decide +kernel
theorem tyJ3_ok : ∀ k, k < 0 → parseFieldDescriptor (TJ3 k).2.2.1 = some (tyJ3 k) := by decide +kernel
abbrev cJ3_checkIndex_8e157 : ByteArray := prog_18_method_11_code
def yJ3_checkIndex_8e157 : MethodName := ⟨RJ3, "checkIndex", "(IILjava/util/function/BiFunction;)I"⟩
def RL : String := "HeardTunesLaw"
abbrev cL_law : ByteArray := code
def yL_law : MethodName := ⟨RL, "law", "([I)Z"⟩
abbrev vwCl : List vw_C := [(RX0, TX0, 12), (RX1, TX1, 9), (RX2, TX2, 4), (RX3, TX3, 3), (RX4, TX4, 3), (RX5, TX5, 6), (RX6, TX6, 6), (RX7, TX7, 4), (RX8, TX8, 10), (RX9, TX9, 17), (RX10, TX10, 15), (RX11, TX11, 58)]
def TT : List Cond := lw_tbl.filter goodWord
theorem tt_in {w : Cond} (h : w ∈ tables_1) (g : goodWord w = true) : w ∈ TT := List.mem_filter.mpr ⟨List.mem_append_right _ h, g⟩
theorem tt_1 {w : Cond} (h : w ∈ tables_1_1) (g : goodWord w = true) : w ∈ TT := tt_in (List.mem_append_left _ h) g
theorem tt_2 {w : Cond} (h : w ∈ tables_1_2) (g : goodWord w = true) : w ∈ TT := tt_in (List.mem_append_right _ (List.mem_append_left _ h)) g
theorem tt_3 {w : Cond} (h : w ∈ tables_1_3) (g : goodWord w = true) : w ∈ TT := tt_in (List.mem_append_right _ (List.mem_append_right _ (List.mem_append_left _ h))) g
theorem tt_4 {w : Cond} (h : w ∈ tables_1_4) (g : goodWord w = true) : w ∈ TT := tt_in (List.mem_append_right _ (List.mem_append_right _ (List.mem_append_right _ (List.mem_append_left _ h)))) g
theorem tt_5 {w : Cond} (h : w ∈ tables_1_5) (g : goodWord w = true) : w ∈ TT := tt_in (List.mem_append_right _ (List.mem_append_right _ (List.mem_append_right _ (List.mem_append_right _ (List.mem_append_left _ h))))) g
theorem tt_6 {w : Cond} (h : w ∈ tables_1_6) (g : goodWord w = true) : w ∈ TT := tt_in (List.mem_append_right _ (List.mem_append_right _ (List.mem_append_right _ (List.mem_append_right _ (List.mem_append_right _ (List.mem_append_left _ h)))))) g
theorem tt_7 {w : Cond} (h : w ∈ tables_1_7) (g : goodWord w = true) : w ∈ TT := tt_in (List.mem_append_right _ (List.mem_append_right _ (List.mem_append_right _ (List.mem_append_right _ (List.mem_append_right _ (List.mem_append_right _ (h))))))) g
theorem tt_good : GoodIn TT TT := fun w h => ⟨h, good_of_word (List.mem_filter.mp h).2⟩
theorem tt_lw {w : Cond} (h : w ∈ TT) : w ∈ lw_tbl := (List.mem_filter.mp h).1
theorem tp_1 {q : MethodName × Nat} (h : q ∈ lw_privs_1) : q ∈ lw_privs := List.mem_append_left _ h
theorem tp_2 {q : MethodName × Nat} (h : q ∈ lw_privs_2) : q ∈ lw_privs := List.mem_append_right _ (List.mem_append_left _ h)
theorem tp_3 {q : MethodName × Nat} (h : q ∈ lw_privs_3) : q ∈ lw_privs := List.mem_append_right _ (List.mem_append_right _ (List.mem_append_left _ h))
theorem tp_4 {q : MethodName × Nat} (h : q ∈ lw_privs_4) : q ∈ lw_privs := List.mem_append_right _ (List.mem_append_right _ (List.mem_append_right _ (List.mem_append_left _ h)))
theorem tp_5 {q : MethodName × Nat} (h : q ∈ lw_privs_5) : q ∈ lw_privs := List.mem_append_right _ (List.mem_append_right _ (List.mem_append_right _ (List.mem_append_right _ (List.mem_append_left _ h))))
theorem tp_6 {q : MethodName × Nat} (h : q ∈ lw_privs_6) : q ∈ lw_privs := List.mem_append_right _ (List.mem_append_right _ (List.mem_append_right _ (List.mem_append_right _ (List.mem_append_right _ (h)))))
end
section
/-! THE FRAME: a world is a list of kinds of cells (cell n lies at z + n), with what the cells hold as functions of cell and place; the judgement V hides the heap -/
theorem tp_sel {q : MethodName × Nat} (h : q ∈ lw_privs) (g : goodWord (Cond.selects q.1.cls q.1 q.1) = true) : Cond.selects q.1.cls q.1 q.1 ∈ TT := List.mem_filter.mpr ⟨List.mem_append_left _ (List.mem_map.mpr ⟨q, h, rfl⟩), g⟩
abbrev Kd : Type := Nat × (List Nat ⊕ (Nat × Nat × Nat))
abbrev Wv : Type := List Kd × (Nat → Nat → Int32) × (Nat → Nat → Int64) × (Nat → Nat → Option Nat)
abbrev Gt : Type := Nat × va_G × (Nat → ClassId)
abbrev wK (w : Wv) : List Kd := w.1
abbrev wI (w : Wv) : Nat → Nat → Int32 := w.2.1
abbrev wL (w : Wv) : Nat → Nat → Int64 := w.2.2.1
abbrev wX (w : Wv) : Nat → Nat → Option Nat := w.2.2.2
abbrev gz (G : Gt) : Nat := G.1
abbrev gD (G : Gt) : va_G := G.2.1
abbrev gT (G : Gt) : Nat → ClassId := G.2.2
def up2 {α : Type} (f : Nat → Nat → α) (n k : Nat) (v : α) : Nat → Nat → α := fun a b => if a = n then (if b = k then v else f a b) else f a b
def setI (w : Wv) (n k : Nat) (v : Int32) : Wv := (wK w, up2 (wI w) n k v, wL w, wX w)
def setL (w : Wv) (n k : Nat) (v : Int64) : Wv := (wK w, wI w, up2 (wL w) n k v, wX w)
def setX (w : Wv) (n k : Nat) (v : Option Nat) : Wv := (wK w, wI w, wL w, up2 (wX w) n k v)
/-- a new cell -/
def addK (w : Wv) (kd : Kd) : Wv := (wK w ++ [kd], fun a b => if a = (wK w).length then 0 else wI w a b, fun a b => if a = (wK w).length then 0 else wL w a b, fun a b => if a = (wK w).length then none else wX w a b)
theorem up2_eq {α : Type} {f : Nat → Nat → α} {n k : Nat} {v : α} : up2 f n k v n k = v := by simp [up2]
theorem up2_nn {α : Type} {f : Nat → Nat → α} {n k a b : Nat} {v : α} (h : a ≠ n) : up2 f n k v a b = f a b := by simp [up2, h]
theorem up2_nk {α : Type} {f : Nat → Nat → α} {n k a b : Nat} {v : α} (h : b ≠ k) : up2 f n k v a b = f a b := by
  by_cases ha : a = n <;> simp [up2, ha, h]
def adr (G : Gt) (r : Option Nat) : Option Nat := r.map (fun n => gz G + n)
def fv (G : Gt) (w : Wv) (n k t : Nat) : Value := if t = 0 then .int (wI w n k) else if t = 1 then .long (wL w n k) else va_rf (adr G (wX w n k))
def fvs (G : Gt) (w : Wv) (n : Nat) : Nat → List Nat → List Value
  | _, [] => []
  | k, t :: ts => fv G w n k t :: fvs G w n (k + 1) ts
def acn (G : Gt) (w : Wv) (n et : Nat) : (Nat → Int32) ⊕ (Nat → Int64) ⊕ (Nat → UInt32) ⊕ (Nat → UInt64) ⊕ (Nat → Option Nat) := if et = 0 then .inl (wI w n) else if et = 1 then .inr (.inl (wL w n)) else .inr (.inr (.inr (.inr (fun j => adr G (wX w n j)))))
def ent (G : Gt) (w : Wv) (n : Nat) (kd : Kd) : va_E := match kd.2 with
  | .inl fts => .inr (kd.1, fvs G w n 0 fts)
  | .inr a => .inl (gT G a.1, (a.2.1, acn G w n a.2.2))
def wsF (G : Gt) (w : Wv) : Nat → List Kd → va_W
  | _, [] => []
  | n, kd :: ks => (gz G + n, ent G w n kd) :: wsF G w (n + 1) ks
def wso (G : Gt) (w : Wv) : va_W := wsF G w 0 (wK w)
def tyo (G : Gt) : List (ClassId × FieldType) := [(gT G 0, .int), (gT G 1, .boolean), (gT G 2, .long), (gT G 3, .object "HeardTunes$Scene"), (gT G 4, .object "HeardTunes$Image")]
def Wd (G : Gt) (w : Wv) (H : Heap) : Prop := va_P (gD G) vwCl (wso G w) H ∧ H.size = gz G + (wK w).length
def Tk (G : Gt) (U : State) : Prop := va_K (gD G) vwCl (tyo G) U ∧ va_AO "HeardTunes$Scene" U ∧ va_AO "HeardTunes$Image" U
def Az (G : Gt) : Nat → Prop := fun q => gz G ≤ q
theorem Tk.moved {G : Gt} {u U : State} (hvm : u.vm.Alike U.vm) (h : Tk G u) : Tk G U := ⟨va_K.moved hvm h.1, h.2.1.moved hvm, h.2.2.moved hvm⟩
-- reading the list
theorem wsF_get {G : Gt} {w : Wv} (ks : List Kd) : ∀ (a n : Nat), (wsF G w a ks)[n]? = (ks[n]?).map (fun kd => (gz G + (a + n), ent G w (a + n) kd)) := by
  induction ks with
  | nil => intro a n; simp [wsF]
  | cons k ks ih =>
    intro a n
    cases n with
    | zero => simp [wsF]
    | succ n =>
      simp only [wsF, List.getElem?_cons_succ]
      rw [ih (a + 1) n, show a + 1 + n = a + (n + 1) by omega]
theorem wso_get {G : Gt} {w : Wv} {n : Nat} {kd : Kd} (h : (wK w)[n]? = some kd) : (wso G w)[n]? = some (gz G + n, ent G w n kd) := by
  rw [wso, wsF_get, h]; simp
theorem wsF_len {G : Gt} {w : Wv} (ks : List Kd) : ∀ (a : Nat), (wsF G w a ks).length = ks.length := by
  induction ks with
  | nil => intro a; rfl
  | cons k ks ih => intro a; simp [wsF, ih]
theorem fvs_get {G : Gt} {w : Wv} {n : Nat} (ts : List Nat) : ∀ (a k : Nat), (fvs G w n a ts)[k]? = (ts[k]?).map (fun t => fv G w n (a + k) t) := by
  induction ts with
  | nil => intro a k; simp [fvs]
  | cons t ts ih =>
    intro a k
    cases k with
    | zero => simp [fvs]
    | succ k =>
      simp only [fvs, List.getElem?_cons_succ]
      rw [ih (a + 1) k, show a + 1 + k = a + (k + 1) by omega]
theorem fvs_len {G : Gt} {w : Wv} {n : Nat} (ts : List Nat) : ∀ (a : Nat), (fvs G w n a ts).length = ts.length := by
  induction ts with
  | nil => intro a; rfl
  | cons t ts ih => intro a; simp [fvs, ih]
theorem wso_D {G : Gt} {w : Wv} : va_D (Az G) (wso G w) := by
  have at' : ∀ (k : Nat) (q : Nat × va_E), (wso G w)[k]? = some q → q.1 = gz G + k := by
    intro k q h
    rw [wso, wsF_get] at h
    cases hk : (wK w)[k]? with
    | none => rw [hk] at h; simp at h
    | some kd => rw [hk] at h; simp at h; rw [← h]
  refine ⟨fun i j p q hi hj e => ?_, fun k q hk => ?_⟩
  · have h1 := at' i p hi; have h2 := at' j q hj; omega
  · show gz G ≤ q.1
    rw [at' k q hk]; exact Nat.le_add_right _ _
theorem ws_ext {a b : va_W} (h : ∀ k : Nat, a[k]? = b[k]?) : a = b := List.ext_getElem? h
-- what a store does to the list
theorem fvs_ext {G : Gt} {w w' : Wv} {n : Nat} {ts : List Nat} (h : ∀ k t, ts[k]? = some t → fv G w n k t = fv G w' n k t) : fvs G w n 0 ts = fvs G w' n 0 ts := by
  refine List.ext_getElem? fun k => ?_
  rw [fvs_get, fvs_get]
  cases hk : ts[k]? with
  | none => rfl
  | some t => simp only [Option.map_some, Nat.zero_add]; rw [h k t hk]
theorem ent_ne {G : Gt} {w w' : Wv} {n a : Nat} {kd : Kd} (ha : a ≠ n) (h1 : ∀ b, wI w' a b = wI w a b) (h2 : ∀ b, wL w' a b = wL w a b) (h3 : ∀ b, wX w' a b = wX w a b) : ent G w' a kd = ent G w a kd := by
  obtain ⟨tag, sh⟩ := kd
  cases sh with
  | inl fts => simp only [ent]; rw [fvs_ext (w := w') (w' := w) (fun k t _ => by simp only [fv, h1, h2, h3])]
  | inr x =>
    simp only [ent, acn]
    rw [show wI w' a = wI w a from funext h1, show wL w' a = wL w a from funext h2, show wX w' a = wX w a from funext h3]
theorem wso_set {G : Gt} {w w' : Wv} {n : Nat} {kd : Kd} (hk : (wK w)[n]? = some kd) (hK : wK w' = wK w) (h1 : ∀ a, a ≠ n → (∀ b, wI w' a b = wI w a b) ∧ (∀ b, wL w' a b = wL w a b) ∧ (∀ b, wX w' a b = wX w a b)) {e : va_E} (he : e = ent G w' n kd) : (wso G w).set n (gz G + n, e) = wso G w' := by
  refine ws_ext fun k => ?_
  have hlen : n < (wso G w).length := (List.getElem?_eq_some_iff.mp (wso_get (G := G) hk)).1
  by_cases hkn : k = n
  · subst hkn
    rw [List.getElem?_set_self hlen, wso_get (w := w') (kd := kd) (by rw [hK]; exact hk), he]
  · rw [List.getElem?_set_ne (fun h => hkn h.symm), wso, wso, wsF_get, wsF_get, hK]
    cases hq : (wK w)[k]? with
    | none => rfl
    | some kq =>
      simp only [Option.map_some, Nat.zero_add]
      obtain ⟨a1, a2, a3⟩ := h1 k hkn
      rw [ent_ne hkn a1 a2 a3]
theorem setI_off {w : Wv} {n k : Nat} {v : Int32} (a : Nat) (h : a ≠ n) : (∀ b, wI (setI w n k v) a b = wI w a b) ∧ (∀ b, wL (setI w n k v) a b = wL w a b) ∧ (∀ b, wX (setI w n k v) a b = wX w a b) := ⟨fun _ => up2_nn h, fun _ => rfl, fun _ => rfl⟩
theorem setL_off {w : Wv} {n k : Nat} {v : Int64} (a : Nat) (h : a ≠ n) : (∀ b, wI (setL w n k v) a b = wI w a b) ∧ (∀ b, wL (setL w n k v) a b = wL w a b) ∧ (∀ b, wX (setL w n k v) a b = wX w a b) := ⟨fun _ => rfl, fun _ => up2_nn h, fun _ => rfl⟩
theorem setX_off {w : Wv} {n k : Nat} {v : Option Nat} (a : Nat) (h : a ≠ n) : (∀ b, wI (setX w n k v) a b = wI w a b) ∧ (∀ b, wL (setX w n k v) a b = wL w a b) ∧ (∀ b, wX (setX w n k v) a b = wX w a b) := ⟨fun _ => rfl, fun _ => rfl, fun _ => up2_nn h⟩
theorem fvs_set {G : Gt} {w w' : Wv} {n k t : Nat} {ts : List Nat} {v : Value} (ht : ts[k]? = some t) (hv : fv G w' n k t = v) (ho : ∀ j u, ts[j]? = some u → j ≠ k → fv G w n j u = fv G w' n j u) : (fvs G w n 0 ts).set k v = fvs G w' n 0 ts := by
  refine List.ext_getElem? fun j => ?_
  have hlen : k < (fvs G w n 0 ts).length := by rw [fvs_len]; exact (List.getElem?_eq_some_iff.mp ht).1
  by_cases hj : j = k
  · subst hj
    rw [List.getElem?_set_self hlen, fvs_get, ht]; simp [hv]
  · rw [List.getElem?_set_ne (fun h => hj h.symm), fvs_get, fvs_get]
    cases hu : ts[j]? with
    | none => rfl
    | some u => simp only [Option.map_some, Nat.zero_add]; rw [ho j u hu hj]
-- the fixed things of a walk
abbrev Ct : Type := Program × Launch × Env × Room × State × MethodId × Array Value × List Frame × Method × Code × Gt × Nat × (State → Prop)
abbrev xl (x : Ct) : Launch := x.2.1
abbrev xR (x : Ct) : Room := x.2.2.2.1
abbrev xs (x : Ct) : State := x.2.2.2.2.1
abbrev xm (x : Ct) : MethodId := x.2.2.2.2.2.1
abbrev xa (x : Ct) : Array Value := x.2.2.2.2.2.2.1
abbrev xM (x : Ct) : Method := x.2.2.2.2.2.2.2.2.1
abbrev xc (x : Ct) : Code := x.2.2.2.2.2.2.2.2.2.1
abbrev xG (x : Ct) : Gt := x.2.2.2.2.2.2.2.2.2.2.1
abbrev xn (x : Ct) : Nat := x.2.2.2.2.2.2.2.2.2.2.2.1
abbrev xQ (x : Ct) : State → Prop := x.2.2.2.2.2.2.2.2.2.2.2.2
def Wx (x : Ct) (H : Heap) (locs : List Loc) (cells slots : Nat) (g : JFrame) : Prop := W x.1 (xl x) x.2.2.1 (xR x) (xs x) (xm x) (xa x) x.2.2.2.2.2.2.2.1 (xM x) (xc x) H locs cells slots (xQ x) g
def V (x : Ct) (cells slots : Nat) (w : Wv) (pc : Nat) (lv : List (Nat × Value)) (st : List Value) : Prop :=
  ∀ (H : Heap) (locs : List Loc) (ls : Array Slot), Wd (xG x) w H → va_S (Az (xG x)) (xs x).heap H locs → lv_has ls (xn x) lv → Wx x H locs cells slots (F0 (xm x) pc ls st)
def Cx (x : Ct) (cc : ByteArray) (nL : Nat) (own : String) (rm : Room) : Prop :=
  x.1.tables.exec = Jvm.exec ∧ (xc x).code = cc ∧ (xc x).maxLocals = nL ∧ (xs x).vm.findClass own = some (xm x).cls ∧ (∀ u ∈ TT, u.before (xa x) (xs x) = true) ∧ Tk (xG x) (xs x) ∧ gz (xG x) ≤ (xs x).heap.size ∧ xR x = rm ∧ xn x = nL
end
section
section ROWS
variable {x : Ct} {cc : ByteArray} {nL cells slots pc : Nat} {own : String} {rm : Room} {w w' : Wv} {lv lv' : List (Nat × Value)} {st : List Value}
theorem Cx.hx (C : Cx x cc nL own rm) : x.1.tables.exec = Jvm.exec := C.1
theorem Cx.hb (C : Cx x cc nL own rm) : (xc x).code = cc := C.2.1
theorem Cx.hml (C : Cx x cc nL own rm) : (xc x).maxLocals = nL := C.2.2.1
theorem Cx.hown (C : Cx x cc nL own rm) : (xs x).vm.findClass own = some (xm x).cls := C.2.2.2.1
theorem Cx.hts (C : Cx x cc nL own rm) : ∀ u ∈ TT, u.before (xa x) (xs x) = true := C.2.2.2.2.1
theorem Cx.tk (C : Cx x cc nL own rm) : Tk (xG x) (xs x) := C.2.2.2.2.2.1
theorem Cx.hz (C : Cx x cc nL own rm) : gz (xG x) ≤ (xs x).heap.size := C.2.2.2.2.2.2.1
theorem Cx.hR (C : Cx x cc nL own rm) : xR x = rm := C.2.2.2.2.2.2.2.1
theorem Cx.hn (C : Cx x cc nL own rm) : xn x = nL := C.2.2.2.2.2.2.2.2
theorem r_iconst {n : Int} {v : Int32} (C : Cx x cc nL own rm) (d : decode cc pc = .ok (.iconst n, 1)) (hv : Int32.ofInt n = v) (k : V x cells slots w (pc + 1) lv (.int v :: st)) : V x cells slots w pc lv st :=
  fun H locs ls hW hS hl => lv_iconst C.hx C.hb d hv (k H locs ls hW hS hl)
theorem r_bipush {n : Int} {v : Int32} (C : Cx x cc nL own rm) (d : decode cc pc = .ok (.bipush n, 2)) (hv : (Int8.ofInt n).toInt32 = v) (k : V x cells slots w (pc + 2) lv (.int v :: st)) : V x cells slots w pc lv st :=
  fun H locs ls hW hS hl => lv_bipush C.hx C.hb d hv (k H locs ls hW hS hl)
theorem r_sipush {n : Int} {v : Int32} (C : Cx x cc nL own rm) (d : decode cc pc = .ok (.sipush n, 3)) (hv : (Int16.ofInt n).toInt32 = v) (k : V x cells slots w (pc + 3) lv (.int v :: st)) : V x cells slots w pc lv st :=
  fun H locs ls hW hS hl => lv_sipush C.hx C.hb d hv (k H locs ls hW hS hl)
theorem r_lconst {n : Fin 2} {v : Int64} (C : Cx x cc nL own rm) (d : decode cc pc = .ok (.lconst n, 1)) (hv : Int64.ofNat (n : Nat) = v) (k : V x cells slots w (pc + 1) lv (.long v :: st)) : V x cells slots w pc lv st :=
  fun H locs ls hW hS hl => lv_lconst C.hx C.hb d hv (k H locs ls hW hS hl)
theorem r_iload_n {k : Fin 4} {v : Int32} (j : Nat) (C : Cx x cc nL own rm) (d : decode cc pc = .ok (.iload_n k, 1)) (hj : lv[j]? = some ((k : Nat), .int v)) (k : V x cells slots w (pc + 1) lv (.int v :: st)) : V x cells slots w pc lv st :=
  fun H locs ls hW hS hl => lv_iload_n C.hx C.hb d rfl (lv_at hl j hj) (k H locs ls hW hS hl)
theorem r_iload {i : Nat} {v : Int32} (j : Nat) (C : Cx x cc nL own rm) (d : decode cc pc = .ok (.iload i, 2)) (hj : lv[j]? = some (i, .int v)) (k : V x cells slots w (pc + 2) lv (.int v :: st)) : V x cells slots w pc lv st :=
  fun H locs ls hW hS hl => lv_iload C.hx C.hb d (lv_at hl j hj) (k H locs ls hW hS hl)
theorem r_lload_n {k : Fin 4} {v : Int64} (j : Nat) (C : Cx x cc nL own rm) (d : decode cc pc = .ok (.lload_n k, 1)) (hj : lv[j]? = some ((k : Nat), .long v)) (k : V x cells slots w (pc + 1) lv (.long v :: st)) : V x cells slots w pc lv st :=
  fun H locs ls hW hS hl => lv_lload_n C.hx C.hb d rfl (lv_at hl j hj) (k H locs ls hW hS hl)
theorem r_lload {i : Nat} {v : Int64} (j : Nat) (C : Cx x cc nL own rm) (d : decode cc pc = .ok (.lload i, 2)) (hj : lv[j]? = some (i, .long v)) (k : V x cells slots w (pc + 2) lv (.long v :: st)) : V x cells slots w pc lv st :=
  fun H locs ls hW hS hl => lv_lload C.hx C.hb d (lv_at hl j hj) (k H locs ls hW hS hl)
theorem r_aload_n {k : Fin 4} {v : Nat} (j : Nat) (C : Cx x cc nL own rm) (d : decode cc pc = .ok (.aload_n k, 1)) (hj : lv[j]? = some ((k : Nat), .ref v)) (k : V x cells slots w (pc + 1) lv (.ref v :: st)) : V x cells slots w pc lv st :=
  fun H locs ls hW hS hl => lv_aload_n C.hx C.hb d rfl (lv_at hl j hj) (k H locs ls hW hS hl)
theorem r_aload {i : Nat} {v : Nat} (j : Nat) (C : Cx x cc nL own rm) (d : decode cc pc = .ok (.aload i, 2)) (hj : lv[j]? = some (i, .ref v)) (k : V x cells slots w (pc + 2) lv (.ref v :: st)) : V x cells slots w pc lv st :=
  fun H locs ls hW hS hl => lv_aload C.hx C.hb d (lv_at hl j hj) (k H locs ls hW hS hl)
theorem r_istore_n {k : Fin 4} {v : Int32} (lv' : List (Nat × Value)) (C : Cx x cc nL own rm) (d : decode cc pc = .ok (.istore_n k, 1)) (hn : (k : Nat) < nL) (hf : ((k : Nat), Value.int v) :: lv.filter (fun q => !(q.1 == (k : Nat)) && !(q.1 + 1 == (k : Nat) && q.2.category == 2)) = lv') (k : V x cells slots w (pc + 1) lv' st) : V x cells slots w pc lv (.int v :: st) :=
  fun H locs ls hW hS hl => lv_istore_n C.hx C.hb d rfl hl (by rw [C.hn]; exact hn) hf (fun ls hl => k H locs ls hW hS hl)
theorem r_istore {i : Nat} {v : Int32} (lv' : List (Nat × Value)) (C : Cx x cc nL own rm) (d : decode cc pc = .ok (.istore i, 2)) (hn : i < nL) (hf : (i, Value.int v) :: lv.filter (fun q => !(q.1 == i) && !(q.1 + 1 == i && q.2.category == 2)) = lv') (k : V x cells slots w (pc + 2) lv' st) : V x cells slots w pc lv (.int v :: st) :=
  fun H locs ls hW hS hl => lv_istore C.hx C.hb d hl (by rw [C.hn]; exact hn) hf (fun ls hl => k H locs ls hW hS hl)
theorem r_astore_n {k : Fin 4} {v : Nat} (lv' : List (Nat × Value)) (C : Cx x cc nL own rm) (d : decode cc pc = .ok (.astore_n k, 1)) (hn : (k : Nat) < nL) (hf : ((k : Nat), Value.ref v) :: lv.filter (fun q => !(q.1 == (k : Nat)) && !(q.1 + 1 == (k : Nat) && q.2.category == 2)) = lv') (k : V x cells slots w (pc + 1) lv' st) : V x cells slots w pc lv (.ref v :: st) :=
  fun H locs ls hW hS hl => lv_astore_n C.hx C.hb d rfl hl (by rw [C.hn]; exact hn) hf (fun ls hl => k H locs ls hW hS hl)
theorem r_astore {i : Nat} {v : Nat} (lv' : List (Nat × Value)) (C : Cx x cc nL own rm) (d : decode cc pc = .ok (.astore i, 2)) (hn : i < nL) (hf : (i, Value.ref v) :: lv.filter (fun q => !(q.1 == i) && !(q.1 + 1 == i && q.2.category == 2)) = lv') (k : V x cells slots w (pc + 2) lv' st) : V x cells slots w pc lv (.ref v :: st) :=
  fun H locs ls hW hS hl => lv_astore C.hx C.hb d hl (by rw [C.hn]; exact hn) hf (fun ls hl => k H locs ls hW hS hl)
theorem r_lstore_n {k : Fin 4} {v : Int64} (lv' : List (Nat × Value)) (C : Cx x cc nL own rm) (d : decode cc pc = .ok (.lstore_n k, 1)) (hn : (k : Nat) + 1 < nL) (hf : ((k : Nat), Value.long v) :: lv.filter (fun q => !(q.1 == (k : Nat)) && (!(q.1 == (k : Nat) + 1) && !(q.1 + 1 == (k : Nat) && q.2.category == 2))) = lv') (k : V x cells slots w (pc + 1) lv' st) : V x cells slots w pc lv (.long v :: st) :=
  fun H locs ls hW hS hl => lv_lstore_n C.hx C.hb d rfl hl (by rw [C.hn]; exact hn) hf (fun ls hl => k H locs ls hW hS hl)
theorem r_lstore {i : Nat} {v : Int64} (lv' : List (Nat × Value)) (C : Cx x cc nL own rm) (d : decode cc pc = .ok (.lstore i, 2)) (hn : i + 1 < nL) (hf : (i, Value.long v) :: lv.filter (fun q => !(q.1 == i) && (!(q.1 == i + 1) && !(q.1 + 1 == i && q.2.category == 2))) = lv') (k : V x cells slots w (pc + 2) lv' st) : V x cells slots w pc lv (.long v :: st) :=
  fun H locs ls hW hS hl => lv_lstore C.hx C.hb d hl (by rw [C.hn]; exact hn) hf (fun ls hl => k H locs ls hW hS hl)
theorem r_iinc {i : Nat} {n : Int} {y v : Int32} (lv' : List (Nat × Value)) (j : Nat) (C : Cx x cc nL own rm) (d : decode cc pc = .ok (.iinc i n, 3)) (hj : lv[j]? = some (i, .int y)) (hv : y + Int32.ofInt n = v) (hn : i < nL) (hf : (i, Value.int v) :: lv.filter (fun q => !(q.1 == i) && !(q.1 + 1 == i && q.2.category == 2)) = lv') (k : V x cells slots w (pc + 3) lv' st) : V x cells slots w pc lv st :=
  fun H locs ls hW hS hl => lv_iinc C.hx C.hb d hl hj hv (by rw [C.hn]; exact hn) hf (fun ls hl => k H locs ls hW hS hl)
theorem r_iadd {a b : Int32} (C : Cx x cc nL own rm) (d : decode cc pc = .ok (.iadd, 1)) (k : ∀ v : Int32, v = a + b → V x cells slots w (pc + 1) lv (.int v :: st)) : V x cells slots w pc lv (.int b :: .int a :: st) :=
  fun H locs ls hW hS hl => lv_iadd C.hx C.hb d (k _ rfl H locs ls hW hS hl)
theorem r_isub {a b : Int32} (C : Cx x cc nL own rm) (d : decode cc pc = .ok (.isub, 1)) (k : ∀ v : Int32, v = a - b → V x cells slots w (pc + 1) lv (.int v :: st)) : V x cells slots w pc lv (.int b :: .int a :: st) :=
  fun H locs ls hW hS hl => lv_isub C.hx C.hb d (k _ rfl H locs ls hW hS hl)
theorem r_imul {a b : Int32} (C : Cx x cc nL own rm) (d : decode cc pc = .ok (.imul, 1)) (k : ∀ v : Int32, v = a * b → V x cells slots w (pc + 1) lv (.int v :: st)) : V x cells slots w pc lv (.int b :: .int a :: st) :=
  fun H locs ls hW hS hl => lv_imul C.hx C.hb d (k _ rfl H locs ls hW hS hl)
theorem r_iand {a b : Int32} (C : Cx x cc nL own rm) (d : decode cc pc = .ok (.iand, 1)) (k : ∀ v : Int32, v = a &&& b → V x cells slots w (pc + 1) lv (.int v :: st)) : V x cells slots w pc lv (.int b :: .int a :: st) :=
  fun H locs ls hW hS hl => lv_iand C.hx C.hb d (k _ rfl H locs ls hW hS hl)
theorem r_ior {a b : Int32} (C : Cx x cc nL own rm) (d : decode cc pc = .ok (.ior, 1)) (k : ∀ v : Int32, v = a ||| b → V x cells slots w (pc + 1) lv (.int v :: st)) : V x cells slots w pc lv (.int b :: .int a :: st) :=
  fun H locs ls hW hS hl => lv_ior C.hx C.hb d (k _ rfl H locs ls hW hS hl)
theorem r_idiv {a b : Int32} (C : Cx x cc nL own rm) (d : decode cc pc = .ok (.idiv, 1)) (hne : ¬ b = 0) (k : ∀ v : Int32, v = a / b → V x cells slots w (pc + 1) lv (.int v :: st)) : V x cells slots w pc lv (.int b :: .int a :: st) :=
  fun H locs ls hW hS hl => lv_idiv C.hx C.hb d hne (k _ rfl H locs ls hW hS hl)
theorem r_irem {a b : Int32} (C : Cx x cc nL own rm) (d : decode cc pc = .ok (.irem, 1)) (hne : ¬ b = 0) (k : ∀ v : Int32, v = a - a / b * b → V x cells slots w (pc + 1) lv (.int v :: st)) : V x cells slots w pc lv (.int b :: .int a :: st) :=
  fun H locs ls hW hS hl => lv_irem C.hx C.hb d hne (k _ rfl H locs ls hW hS hl)
theorem r_ladd {a b : Int64} (C : Cx x cc nL own rm) (d : decode cc pc = .ok (.ladd, 1)) (k : ∀ v : Int64, v = a + b → V x cells slots w (pc + 1) lv (.long v :: st)) : V x cells slots w pc lv (.long b :: .long a :: st) :=
  fun H locs ls hW hS hl => lv_ladd C.hx C.hb d (k _ rfl H locs ls hW hS hl)
theorem r_lsub {a b : Int64} (C : Cx x cc nL own rm) (d : decode cc pc = .ok (.lsub, 1)) (k : ∀ v : Int64, v = a - b → V x cells slots w (pc + 1) lv (.long v :: st)) : V x cells slots w pc lv (.long b :: .long a :: st) :=
  fun H locs ls hW hS hl => lv_lsub C.hx C.hb d (k _ rfl H locs ls hW hS hl)
theorem r_lmul {a b : Int64} (C : Cx x cc nL own rm) (d : decode cc pc = .ok (.lmul, 1)) (k : ∀ v : Int64, v = a * b → V x cells slots w (pc + 1) lv (.long v :: st)) : V x cells slots w pc lv (.long b :: .long a :: st) :=
  fun H locs ls hW hS hl => lv_lmul C.hx C.hb d (k _ rfl H locs ls hW hS hl)
theorem r_land {a b : Int64} (C : Cx x cc nL own rm) (d : decode cc pc = .ok (.land, 1)) (k : ∀ v : Int64, v = a &&& b → V x cells slots w (pc + 1) lv (.long v :: st)) : V x cells slots w pc lv (.long b :: .long a :: st) :=
  fun H locs ls hW hS hl => lv_land C.hx C.hb d (k _ rfl H locs ls hW hS hl)
theorem r_lor {a b : Int64} (C : Cx x cc nL own rm) (d : decode cc pc = .ok (.lor, 1)) (k : ∀ v : Int64, v = a ||| b → V x cells slots w (pc + 1) lv (.long v :: st)) : V x cells slots w pc lv (.long b :: .long a :: st) :=
  fun H locs ls hW hS hl => lv_lor C.hx C.hb d (k _ rfl H locs ls hW hS hl)
theorem r_lrem {a b : Int64} (C : Cx x cc nL own rm) (d : decode cc pc = .ok (.lrem, 1)) (hne : ¬ b = 0) (k : ∀ v : Int64, v = a - a / b * b → V x cells slots w (pc + 1) lv (.long v :: st)) : V x cells slots w pc lv (.long b :: .long a :: st) :=
  fun H locs ls hW hS hl => lv_lrem C.hx C.hb d hne (k _ rfl H locs ls hW hS hl)
theorem r_ishl {a b : Int32} (C : Cx x cc nL own rm) (d : decode cc pc = .ok (.ishl, 1)) (k : ∀ v : Int32, v = a <<< (b &&& 31) → V x cells slots w (pc + 1) lv (.int v :: st)) : V x cells slots w pc lv (.int b :: .int a :: st) :=
  fun H locs ls hW hS hl => lv_ishl C.hx C.hb d (k _ rfl H locs ls hW hS hl)
theorem r_ishr {a b : Int32} (C : Cx x cc nL own rm) (d : decode cc pc = .ok (.ishr, 1)) (k : ∀ v : Int32, v = a >>> (b &&& 31) → V x cells slots w (pc + 1) lv (.int v :: st)) : V x cells slots w pc lv (.int b :: .int a :: st) :=
  fun H locs ls hW hS hl => lv_ishr C.hx C.hb d (k _ rfl H locs ls hW hS hl)
theorem r_i2l {a : Int32} (C : Cx x cc nL own rm) (d : decode cc pc = .ok (.i2l, 1)) (k : ∀ v : Int64, v = a.toInt64 → V x cells slots w (pc + 1) lv (.long v :: st)) : V x cells slots w pc lv (.int a :: st) :=
  fun H locs ls hW hS hl => lv_i2l C.hx C.hb d rfl (k _ rfl H locs ls hW hS hl)
theorem r_l2i {a : Int64} (C : Cx x cc nL own rm) (d : decode cc pc = .ok (.l2i, 1)) (k : ∀ v : Int32, v = a.toInt32 → V x cells slots w (pc + 1) lv (.int v :: st)) : V x cells slots w pc lv (.long a :: st) :=
  fun H locs ls hW hS hl => lv_l2i C.hx C.hb d rfl (k _ rfl H locs ls hW hS hl)
theorem r_lushr {a : Int64} {b : Int32} (C : Cx x cc nL own rm) (d : decode cc pc = .ok (.lushr, 1)) (k : ∀ v : Int64, v = (a.toUInt64 >>> (b.toInt64.toUInt64 &&& Int64.toUInt64 63)).toInt64 → V x cells slots w (pc + 1) lv (.long v :: st)) : V x cells slots w pc lv (.int b :: .long a :: st) :=
  fun H locs ls hW hS hl => lv_lushr C.hx C.hb d rfl (k _ rfl H locs ls hW hS hl)
theorem r_lshl {a : Int64} {b : Int32} (C : Cx x cc nL own rm) (d : decode cc pc = .ok (.lshl, 1)) (k : ∀ v : Int64, v = a <<< (b.toInt64 &&& 63) → V x cells slots w (pc + 1) lv (.long v :: st)) : V x cells slots w pc lv (.int b :: .long a :: st) :=
  fun H locs ls hW hS hl => lv_lshl C.hx C.hb d rfl (k _ rfl H locs ls hW hS hl)
theorem r_lshr {a : Int64} {b : Int32} (C : Cx x cc nL own rm) (d : decode cc pc = .ok (.lshr, 1)) (k : ∀ v : Int64, v = a >>> (b.toInt64 &&& 63) → V x cells slots w (pc + 1) lv (.long v :: st)) : V x cells slots w pc lv (.int b :: .long a :: st) :=
  fun H locs ls hW hS hl => lv_lshr C.hx C.hb d rfl (k _ rfl H locs ls hW hS hl)
theorem r_lcmp {a b : Int64} (C : Cx x cc nL own rm) (d : decode cc pc = .ok (.lcmp, 1)) (k : ∀ v : Int32, v = lg_cmp a b → V x cells slots w (pc + 1) lv (.int v :: st)) : V x cells slots w pc lv (.long b :: .long a :: st) :=
  fun H locs ls hW hS hl => W.lcmp C.hx C.hb d (k _ rfl H locs ls hW hS hl)
theorem r_dup {va : Value} (C : Cx x cc nL own rm) (d : decode cc pc = .ok (.dup, 1)) (hc : va.category = 1) (k : V x cells slots w (pc + 1) lv (va :: va :: st)) : V x cells slots w pc lv (va :: st) :=
  fun H locs ls hW hS hl => lv_dup C.hx C.hb d hc (k H locs ls hW hS hl)
theorem r_pop {va : Value} (C : Cx x cc nL own rm) (d : decode cc pc = .ok (.pop, 1)) (hc : va.category = 1) (k : V x cells slots w (pc + 1) lv st) : V x cells slots w pc lv (va :: st) :=
  fun H locs ls hW hS hl => lv_pop C.hx C.hb d hc (k H locs ls hW hS hl)
theorem r_goto {off : Int} (tgt : Nat) (C : Cx x cc nL own rm) (d : decode cc pc = .ok (.goto off, 3)) (ht : (pc : Int) + off = (tgt : Int)) (k : V x cells slots w tgt lv st) : V x cells slots w pc lv st :=
  fun H locs ls hW hS hl => lv_goto C.hx C.hb d ht (k H locs ls hW hS hl)
theorem r_ldc {index : Nat} {v : Int32} (C : Cx x cc nL own rm) (hc : Cond.constant own index v ∈ TT) (d : decode cc pc = .ok (.ldc index, 2)) (k : V x cells slots w (pc + 2) lv (.int v :: st)) : V x cells slots w pc lv st :=
  fun H locs ls hW hS hl => lv_ldc C.hx C.hb C.hown (C.hts _ hc) d (k H locs ls hW hS hl)
theorem r_ldcw {index : Nat} {v : Int32} (C : Cx x cc nL own rm) (hc : Cond.constant own index v ∈ TT) (d : decode cc pc = .ok (.ldc_w index, 3)) (k : V x cells slots w (pc + 3) lv (.int v :: st)) : V x cells slots w pc lv st :=
  fun H locs ls hW hS hl => lv_ldcw C.hx C.hb C.hown (C.hts _ hc) d (k H locs ls hW hS hl)
theorem r_ldc2 {index : Nat} {v : Int64} (C : Cx x cc nL own rm) (hc : Cond.constantLong own index v ∈ TT) (d : decode cc pc = .ok (.ldc2_w index, 3)) (k : V x cells slots w (pc + 3) lv (.long v :: st)) : V x cells slots w pc lv st :=
  fun H locs ls hW hS hl => lv_ldc2 C.hx C.hb C.hown (C.hts _ hc) d (k H locs ls hW hS hl)
theorem r_tabOut {dflt lo hi : Int} {offs : Array Int} {len : Nat} {a : Int32} (tgt : Nat) (C : Cx x cc nL own rm) (d : decode cc pc = .ok (.tableswitch dflt lo hi offs, len)) (h : a.toInt < lo ∨ hi < a.toInt) (ht : (pc : Int) + dflt = (tgt : Int)) (k : V x cells slots w tgt lv st) : V x cells slots w pc lv (.int a :: st) :=
  fun H locs ls hW hS hl => lv_tableOut C.hx C.hb d h ht (k H locs ls hW hS hl)
theorem r_tabIn {dflt lo hi : Int} {offs : Array Int} {len : Nat} {a : Int32} {off : Int} (tgt : Nat) (C : Cx x cc nL own rm) (d : decode cc pc = .ok (.tableswitch dflt lo hi offs, len)) (h1 : ¬ a.toInt < lo) (h2 : ¬ hi < a.toInt) (ho : offs[(a.toInt - lo).toNat]? = some off) (ht : (pc : Int) + off = (tgt : Int)) (k : V x cells slots w tgt lv st) : V x cells slots w pc lv (.int a :: st) :=
  fun H locs ls hW hS hl => lv_tableIn C.hx C.hb d h1 h2 ho ht (k H locs ls hW hS hl)
theorem r_widen {k n : Nat} (h1 : cells ≤ k) (h2 : slots ≤ n) (kk : V x k n w pc lv st) : V x cells slots w pc lv st :=
  fun H locs ls hW hS hl => W.widen h1 h2 (kk H locs ls hW hS hl)
theorem r_lv (ks : List Nat) (hf : lv_pick lv ks = lv') (k : V x cells slots w pc lv' st) : V x cells slots w pc lv st :=
  fun H locs ls hW hS hl => k H locs ls hW hS (lv_sub hl ks hf)
theorem r_if_eq {a : Int32} {off : Int} (tgt : Nat) (C : Cx x cc nL own rm) (d : decode cc pc = .ok (.ifCond .eq off, 3)) (ht : (pc : Int) + off = (tgt : Int)) (kt : a = 0 → V x cells slots w tgt lv st) (kf : ¬ a = 0 → V x cells slots w (pc + 3) lv st) : V x cells slots w pc lv (.int a :: st) :=
  fun H locs ls hW hS hl => lv_if_eq C.hx C.hb d ht (fun h => kt h H locs ls hW hS hl) (fun h => kf h H locs ls hW hS hl)
theorem r_icmp_eq {a b : Int32} {off : Int} (tgt : Nat) (C : Cx x cc nL own rm) (d : decode cc pc = .ok (.if_icmp .eq off, 3)) (ht : (pc : Int) + off = (tgt : Int)) (kt : a = b → V x cells slots w tgt lv st) (kf : ¬ a = b → V x cells slots w (pc + 3) lv st) : V x cells slots w pc lv (.int b :: .int a :: st) :=
  fun H locs ls hW hS hl => lv_icmp_eq C.hx C.hb d ht (fun h => kt h H locs ls hW hS hl) (fun h => kf h H locs ls hW hS hl)
theorem r_if_ne {a : Int32} {off : Int} (tgt : Nat) (C : Cx x cc nL own rm) (d : decode cc pc = .ok (.ifCond .ne off, 3)) (ht : (pc : Int) + off = (tgt : Int)) (kt : ¬ a = 0 → V x cells slots w tgt lv st) (kf : a = 0 → V x cells slots w (pc + 3) lv st) : V x cells slots w pc lv (.int a :: st) :=
  fun H locs ls hW hS hl => lv_if_ne C.hx C.hb d ht (fun h => kt h H locs ls hW hS hl) (fun h => kf h H locs ls hW hS hl)
theorem r_icmp_ne {a b : Int32} {off : Int} (tgt : Nat) (C : Cx x cc nL own rm) (d : decode cc pc = .ok (.if_icmp .ne off, 3)) (ht : (pc : Int) + off = (tgt : Int)) (kt : ¬ a = b → V x cells slots w tgt lv st) (kf : a = b → V x cells slots w (pc + 3) lv st) : V x cells slots w pc lv (.int b :: .int a :: st) :=
  fun H locs ls hW hS hl => lv_icmp_ne C.hx C.hb d ht (fun h => kt h H locs ls hW hS hl) (fun h => kf h H locs ls hW hS hl)
theorem r_if_lt {a : Int32} {off : Int} (tgt : Nat) (C : Cx x cc nL own rm) (d : decode cc pc = .ok (.ifCond .lt off, 3)) (ht : (pc : Int) + off = (tgt : Int)) (kt : a < 0 → V x cells slots w tgt lv st) (kf : ¬ (a < 0) → V x cells slots w (pc + 3) lv st) : V x cells slots w pc lv (.int a :: st) :=
  fun H locs ls hW hS hl => lv_if_lt C.hx C.hb d ht (fun h => kt h H locs ls hW hS hl) (fun h => kf h H locs ls hW hS hl)
theorem r_icmp_lt {a b : Int32} {off : Int} (tgt : Nat) (C : Cx x cc nL own rm) (d : decode cc pc = .ok (.if_icmp .lt off, 3)) (ht : (pc : Int) + off = (tgt : Int)) (kt : a < b → V x cells slots w tgt lv st) (kf : ¬ (a < b) → V x cells slots w (pc + 3) lv st) : V x cells slots w pc lv (.int b :: .int a :: st) :=
  fun H locs ls hW hS hl => lv_icmp_lt C.hx C.hb d ht (fun h => kt h H locs ls hW hS hl) (fun h => kf h H locs ls hW hS hl)
theorem r_if_ge {a : Int32} {off : Int} (tgt : Nat) (C : Cx x cc nL own rm) (d : decode cc pc = .ok (.ifCond .ge off, 3)) (ht : (pc : Int) + off = (tgt : Int)) (kt : 0 ≤ a → V x cells slots w tgt lv st) (kf : ¬ (0 ≤ a) → V x cells slots w (pc + 3) lv st) : V x cells slots w pc lv (.int a :: st) :=
  fun H locs ls hW hS hl => lv_if_ge C.hx C.hb d ht (fun h => kt h H locs ls hW hS hl) (fun h => kf h H locs ls hW hS hl)
theorem r_icmp_ge {a b : Int32} {off : Int} (tgt : Nat) (C : Cx x cc nL own rm) (d : decode cc pc = .ok (.if_icmp .ge off, 3)) (ht : (pc : Int) + off = (tgt : Int)) (kt : b ≤ a → V x cells slots w tgt lv st) (kf : ¬ (b ≤ a) → V x cells slots w (pc + 3) lv st) : V x cells slots w pc lv (.int b :: .int a :: st) :=
  fun H locs ls hW hS hl => lv_icmp_ge C.hx C.hb d ht (fun h => kt h H locs ls hW hS hl) (fun h => kf h H locs ls hW hS hl)
theorem r_if_gt {a : Int32} {off : Int} (tgt : Nat) (C : Cx x cc nL own rm) (d : decode cc pc = .ok (.ifCond .gt off, 3)) (ht : (pc : Int) + off = (tgt : Int)) (kt : 0 < a → V x cells slots w tgt lv st) (kf : ¬ (0 < a) → V x cells slots w (pc + 3) lv st) : V x cells slots w pc lv (.int a :: st) :=
  fun H locs ls hW hS hl => lv_if_gt C.hx C.hb d ht (fun h => kt h H locs ls hW hS hl) (fun h => kf h H locs ls hW hS hl)
theorem r_icmp_gt {a b : Int32} {off : Int} (tgt : Nat) (C : Cx x cc nL own rm) (d : decode cc pc = .ok (.if_icmp .gt off, 3)) (ht : (pc : Int) + off = (tgt : Int)) (kt : b < a → V x cells slots w tgt lv st) (kf : ¬ (b < a) → V x cells slots w (pc + 3) lv st) : V x cells slots w pc lv (.int b :: .int a :: st) :=
  fun H locs ls hW hS hl => lv_icmp_gt C.hx C.hb d ht (fun h => kt h H locs ls hW hS hl) (fun h => kf h H locs ls hW hS hl)
theorem r_if_le {a : Int32} {off : Int} (tgt : Nat) (C : Cx x cc nL own rm) (d : decode cc pc = .ok (.ifCond .le off, 3)) (ht : (pc : Int) + off = (tgt : Int)) (kt : a ≤ 0 → V x cells slots w tgt lv st) (kf : ¬ (a ≤ 0) → V x cells slots w (pc + 3) lv st) : V x cells slots w pc lv (.int a :: st) :=
  fun H locs ls hW hS hl => lv_if_le C.hx C.hb d ht (fun h => kt h H locs ls hW hS hl) (fun h => kf h H locs ls hW hS hl)
theorem r_icmp_le {a b : Int32} {off : Int} (tgt : Nat) (C : Cx x cc nL own rm) (d : decode cc pc = .ok (.if_icmp .le off, 3)) (ht : (pc : Int) + off = (tgt : Int)) (kt : a ≤ b → V x cells slots w tgt lv st) (kf : ¬ (a ≤ b) → V x cells slots w (pc + 3) lv st) : V x cells slots w pc lv (.int b :: .int a :: st) :=
  fun H locs ls hW hS hl => lv_icmp_le C.hx C.hb d ht (fun h => kt h H locs ls hW hS hl) (fun h => kf h H locs ls hW hS hl)
end ROWS
end
section
section HEAPROWS
variable {x : Ct} {cc : ByteArray} {nL cells slots pc : Nat} {own : String} {rm : Room} {w w' : Wv} {lv lv' : List (Nat × Value)} {st : List Value}
variable {n ci k t idx N len tag : Nat} {fts : List Nat} {Cn : String} {T : u_T}
theorem r_getG (C : Cx x cc nL own rm) (hn : (wK w)[n]? = some (ci, .inl fts)) (hc : vwCl[ci]? = some (Cn, T, N)) (hin : ∀ u ∈ u_ws Cn T N, u ∈ TT) (hk : k < N) (hlink : Cond.fieldLink own idx (T k).1 (T k).2.1 (T k).2.2.1 ∈ TT) (ht : fts[k]? = some t) {v : Value} (hv : fv (xG x) w n k t = v) (d : decode cc pc = .ok (.getfield idx, 3))
    (kk : V x cells slots w (pc + 3) lv (v :: st)) : V x cells slots w pc lv (.ref (gz (xG x) + n) :: st) := by
  intro H locs ls hW hS hl
  refine va_get (tys := tyo (xG x)) C.hx C.hb C.hts hin C.hown C.tk.1 hW.1 n (wso_get hn) hc k hk (C.hts _ hlink) (fun _ h => h) (v := v) ?_ d (kk H locs ls hW hS hl)
  rw [fvs_get, ht, ← hv]; simp
theorem r_getI (C : Cx x cc nL own rm) (hn : (wK w)[n]? = some (ci, .inl fts)) (hc : vwCl[ci]? = some (Cn, T, N)) (hin : ∀ u ∈ u_ws Cn T N, u ∈ TT) (hk : k < N) (hlink : Cond.fieldLink own idx (T k).1 (T k).2.1 (T k).2.2.1 ∈ TT) (ht : fts[k]? = some 0) (d : decode cc pc = .ok (.getfield idx, 3))
    (kk : V x cells slots w (pc + 3) lv (.int (wI w n k) :: st)) : V x cells slots w pc lv (.ref (gz (xG x) + n) :: st) := r_getG C hn hc hin hk hlink ht rfl d kk
theorem r_getL (C : Cx x cc nL own rm) (hn : (wK w)[n]? = some (ci, .inl fts)) (hc : vwCl[ci]? = some (Cn, T, N)) (hin : ∀ u ∈ u_ws Cn T N, u ∈ TT) (hk : k < N) (hlink : Cond.fieldLink own idx (T k).1 (T k).2.1 (T k).2.2.1 ∈ TT) (ht : fts[k]? = some 1) (d : decode cc pc = .ok (.getfield idx, 3))
    (kk : V x cells slots w (pc + 3) lv (.long (wL w n k) :: st)) : V x cells slots w pc lv (.ref (gz (xG x) + n) :: st) := r_getG C hn hc hin hk hlink ht rfl d kk
theorem r_getX {q : Nat} (C : Cx x cc nL own rm) (hn : (wK w)[n]? = some (ci, .inl fts)) (hc : vwCl[ci]? = some (Cn, T, N)) (hin : ∀ u ∈ u_ws Cn T N, u ∈ TT) (hk : k < N) (hlink : Cond.fieldLink own idx (T k).1 (T k).2.1 (T k).2.2.1 ∈ TT) (ht : fts[k]? = some 2) (hX : wX w n k = some q) (d : decode cc pc = .ok (.getfield idx, 3))
    (kk : V x cells slots w (pc + 3) lv (.ref (gz (xG x) + q) :: st)) : V x cells slots w pc lv (.ref (gz (xG x) + n) :: st) := r_getG C hn hc hin hk hlink ht (by simp [fv, adr, hX, va_rf]) d kk
/-- a store into a field that isn't final -/
theorem r_putG (C : Cx x cc nL own rm) (hn : (wK w)[n]? = some (ci, .inl fts)) (hc : vwCl[ci]? = some (Cn, T, N)) (hin : ∀ u ∈ u_ws Cn T N, u ∈ TT) (tyf : Nat → FieldType) (hty : ∀ k, k < N → parseFieldDescriptor (T k).2.2.1 = some (tyf k)) (hnm : ∀ a, a < N → ∀ b, b < N → a ≠ b → (T a).2.1 ≠ (T b).2.1) (hk : k < N) (hlink : Cond.fieldLink own idx (T k).1 (T k).2.1 (T k).2.2.1 ∈ TT) (ht : fts[k]? = some t) (hfin : (T k).2.2.2 = false) {v : Value} (hnar : narrow (tyf k) v = v) (hfit : fits (tyf k) v = true)
    (hK : wK w' = wK w) (hoff : ∀ a, a ≠ n → (∀ b, wI w' a b = wI w a b) ∧ (∀ b, wL w' a b = wL w a b) ∧ (∀ b, wX w' a b = wX w a b)) (hv : fv (xG x) w' n k t = v) (ho : ∀ j u, fts[j]? = some u → j ≠ k → fv (xG x) w n j u = fv (xG x) w' n j u) (d : decode cc pc = .ok (.putfield idx, 3))
    (kk : V x cells slots w' (pc + 3) lv st) : V x cells slots w pc lv (v :: .ref (gz (xG x) + n) :: st) := by
  intro H locs ls hW hS hl
  have he := wso_get (G := xG x) hn
  have hap := va_apart (own := own) C.hts hin tyf hty hnm C.tk.1 hc
  have hat := hW.1 n _ he
  obtain ⟨r, h1, cell, q1, q2, q3, q4⟩ := hat
  have hr : r = (Cn, T, N) := Option.some.inj (h1.symm.trans hc)
  subst hr
  obtain ⟨hSl, hfc, kC, hkC, hkind⟩ := C.tk.1.1 ci _ hc
  obtain ⟨cf, kf, fi, f, hi, hsl⟩ := hSl k hk
  have hlay := C.hts _ (hin _ (u_in_lay hk))
  unfold u_lay at hlay
  rw [if_neg (by rw [hfin]; decide)] at hlay
  have hst := (u_facts hfc hkC (u_lays C.hts hin hk) hi).1
  have h6 := u_store hfc hkC hkind hlay hi (hty k hk) hnar hfit
  refine W.putK C.hx C.hb (f := f) ⟨C.hown, C.hts _ hlink, ⟨_, _, _, hi⟩, hst⟩ (by rw [q2]; exact h6) q1 q3 (by rw [hsl]; exact k2_hasslot (q4 k hk)) rfl rfl d fun H' e1 e2 e3 => ?_
  rw [hsl] at e1 ⊢
  have hl2 : k < (fvs (xG x) w n 0 fts).length := by rw [fvs_len]; exact (List.getElem?_eq_some_iff.mp ht).1
  have hP := hW.1.set (e := .inr (ci, (fvs (xG x) w n 0 fts).set k v)) wso_D he ⟨_, hc, t_OB.to (V := updV (vp_V (fvs (xG x) w n 0 fts)) k v) ⟨_, e1, q2, q3, t_set q4 hap hk v⟩ (fun j _ => vp_updV_set hl2 v j)⟩ e3
  rw [wso_set hn hK hoff (show _ = ent (xG x) w' n (ci, .inl fts) from congrArg (fun z => Sum.inr (ci, z)) (fvs_set ht hv ho))] at hP
  exact kk H' _ ls ⟨hP, by rw [e2, hK]; exact hW.2⟩ (hS.put e2 e3 (wso_D.2 n _ he)) hl
/-- a store into a final field, in a constructor -/
theorem r_putFG (C : Cx x cc nL own rm) (hin2 : (xM x).name = "<init>") (hn : (wK w)[n]? = some (ci, .inl fts)) (hc : vwCl[ci]? = some (Cn, T, N)) (hin : ∀ u ∈ u_ws Cn T N, u ∈ TT) (tyf : Nat → FieldType) (hty : ∀ k, k < N → parseFieldDescriptor (T k).2.2.1 = some (tyf k)) (hnm : ∀ a, a < N → ∀ b, b < N → a ≠ b → (T a).2.1 ≠ (T b).2.1) (hk : k < N) (hlink : Cond.fieldLink own idx (T k).1 (T k).2.1 (T k).2.2.1 ∈ TT) (ht : fts[k]? = some t) (hfin : (T k).2.2.2 = true) (hdecl : (T k).1 = own) {v : Value} (hnar : narrow (tyf k) v = v) (hfit : fits (tyf k) v = true)
    (hK : wK w' = wK w) (hoff : ∀ a, a ≠ n → (∀ b, wI w' a b = wI w a b) ∧ (∀ b, wL w' a b = wL w a b) ∧ (∀ b, wX w' a b = wX w a b)) (hv : fv (xG x) w' n k t = v) (ho : ∀ j u, fts[j]? = some u → j ≠ k → fv (xG x) w n j u = fv (xG x) w' n j u) (d : decode cc pc = .ok (.putfield idx, 3))
    (kk : V x cells slots w' (pc + 3) lv st) : V x cells slots w pc lv (v :: .ref (gz (xG x) + n) :: st) := by
  intro H locs ls hW hS hl
  have he := wso_get (G := xG x) hn
  have hap := va_apart (own := own) C.hts hin tyf hty hnm C.tk.1 hc
  have hat := hW.1 n _ he
  obtain ⟨r, h1, cell, q1, q2, q3, q4⟩ := hat
  have hr : r = (Cn, T, N) := Option.some.inj (h1.symm.trans hc)
  subst hr
  obtain ⟨hSl, hfc, kC, hkC, hkind⟩ := C.tk.1.1 ci _ hc
  obtain ⟨cf, kf, fi, f, hi, hsl⟩ := hSl k hk
  have hlay := C.hts _ (hin _ (u_in_lay hk))
  unfold u_lay at hlay
  rw [if_pos hfin] at hlay
  have hst := (u_facts hfc hkC (u_lays C.hts hin hk) hi).1
  have hcf : (xm x).cls = cf := by
    obtain ⟨_, _, c', _, _, _, -, -, hf', -, -, -, hown2, -⟩ := Cond.laysFinal_spec hlay
    have e1 : c' = cf := by have := hi.symm.trans hf'; simp at this; exact this.1.symm
    rw [hdecl] at hown2
    rw [← e1]; exact Option.some.inj (C.hown.symm.trans hown2)
  have h6 := u_fits hfc hkC hkind (Or.inr hlay) hi (hty k hk) hnar hfit
  refine W.putFinK C.hx C.hb C.hown (C.hts _ hlink) hi hst hcf hin2 (by rw [q2]; exact h6) q1 q3 (by rw [hsl]; exact k2_hasslot (q4 k hk)) rfl rfl d fun H' e1 e2 e3 => ?_
  rw [hsl] at e1 ⊢
  have hl2 : k < (fvs (xG x) w n 0 fts).length := by rw [fvs_len]; exact (List.getElem?_eq_some_iff.mp ht).1
  have hP := hW.1.set (e := .inr (ci, (fvs (xG x) w n 0 fts).set k v)) wso_D he ⟨_, hc, t_OB.to (V := updV (vp_V (fvs (xG x) w n 0 fts)) k v) ⟨_, e1, q2, q3, t_set q4 hap hk v⟩ (fun j _ => vp_updV_set hl2 v j)⟩ e3
  rw [wso_set hn hK hoff (show _ = ent (xG x) w' n (ci, .inl fts) from congrArg (fun z => Sum.inr (ci, z)) (fvs_set ht hv ho))] at hP
  exact kk H' _ ls ⟨hP, by rw [e2, hK]; exact hW.2⟩ (hS.put e2 e3 (wso_D.2 n _ he)) hl
theorem fv_setI_o {G : Gt} {v : Int32} (j u : Nat) (h : j ≠ k) : fv G w n j u = fv G (setI w n k v) n j u := by simp only [fv, setI, wI, wL, wX, up2_nk h]
theorem fv_setL_o {G : Gt} {v : Int64} (j u : Nat) (h : j ≠ k) : fv G w n j u = fv G (setL w n k v) n j u := by simp only [fv, setL, wI, wL, wX, up2_nk h]
theorem fv_setX_o {G : Gt} {v : Option Nat} (j u : Nat) (h : j ≠ k) : fv G w n j u = fv G (setX w n k v) n j u := by simp only [fv, setX, wI, wL, wX, up2_nk h]
theorem r_putI {v : Int32} (C : Cx x cc nL own rm) (hn : (wK w)[n]? = some (ci, .inl fts)) (hc : vwCl[ci]? = some (Cn, T, N)) (hin : ∀ u ∈ u_ws Cn T N, u ∈ TT) (tyf : Nat → FieldType) (hty : ∀ k, k < N → parseFieldDescriptor (T k).2.2.1 = some (tyf k)) (hnm : ∀ a, a < N → ∀ b, b < N → a ≠ b → (T a).2.1 ≠ (T b).2.1) (hk : k < N) (hlink : Cond.fieldLink own idx (T k).1 (T k).2.1 (T k).2.2.1 ∈ TT) (ht : fts[k]? = some 0) (hfin : (T k).2.2.2 = false) (hnar : narrow (tyf k) (.int v) = .int v) (hfit : fits (tyf k) (.int v) = true) (d : decode cc pc = .ok (.putfield idx, 3))
    (kk : ∀ w', w' = setI w n k v → V x cells slots w' (pc + 3) lv st) : V x cells slots w pc lv (.int v :: .ref (gz (xG x) + n) :: st) :=
  r_putG (w' := setI w n k v) C hn hc hin tyf hty hnm hk hlink ht hfin hnar hfit rfl setI_off (by show Value.int _ = _; rw [show wI (setI w n k v) n k = v from up2_eq]) (fun j u _ h => fv_setI_o j u h) d (kk _ rfl)
theorem r_putL {v : Int64} (C : Cx x cc nL own rm) (hn : (wK w)[n]? = some (ci, .inl fts)) (hc : vwCl[ci]? = some (Cn, T, N)) (hin : ∀ u ∈ u_ws Cn T N, u ∈ TT) (tyf : Nat → FieldType) (hty : ∀ k, k < N → parseFieldDescriptor (T k).2.2.1 = some (tyf k)) (hnm : ∀ a, a < N → ∀ b, b < N → a ≠ b → (T a).2.1 ≠ (T b).2.1) (hk : k < N) (hlink : Cond.fieldLink own idx (T k).1 (T k).2.1 (T k).2.2.1 ∈ TT) (ht : fts[k]? = some 1) (hfin : (T k).2.2.2 = false) (hnar : narrow (tyf k) (.long v) = .long v) (hfit : fits (tyf k) (.long v) = true) (d : decode cc pc = .ok (.putfield idx, 3))
    (kk : ∀ w', w' = setL w n k v → V x cells slots w' (pc + 3) lv st) : V x cells slots w pc lv (.long v :: .ref (gz (xG x) + n) :: st) :=
  r_putG (w' := setL w n k v) C hn hc hin tyf hty hnm hk hlink ht hfin hnar hfit rfl setL_off (by show Value.long _ = _; rw [show wL (setL w n k v) n k = v from up2_eq]) (fun j u _ h => fv_setL_o j u h) d (kk _ rfl)
theorem r_putX {q : Nat} (C : Cx x cc nL own rm) (hin2 : (xM x).name = "<init>") (hn : (wK w)[n]? = some (ci, .inl fts)) (hc : vwCl[ci]? = some (Cn, T, N)) (hin : ∀ u ∈ u_ws Cn T N, u ∈ TT) (tyf : Nat → FieldType) (hty : ∀ k, k < N → parseFieldDescriptor (T k).2.2.1 = some (tyf k)) (hnm : ∀ a, a < N → ∀ b, b < N → a ≠ b → (T a).2.1 ≠ (T b).2.1) (hk : k < N) (hlink : Cond.fieldLink own idx (T k).1 (T k).2.1 (T k).2.2.1 ∈ TT) (ht : fts[k]? = some 2) (hfin : (T k).2.2.2 = true) (hdecl : (T k).1 = own) (hnar : narrow (tyf k) (.ref (gz (xG x) + q)) = .ref (gz (xG x) + q)) (hfit : fits (tyf k) (.ref (gz (xG x) + q)) = true) (d : decode cc pc = .ok (.putfield idx, 3))
    (kk : ∀ w', w' = setX w n k (some q) → V x cells slots w' (pc + 3) lv st) : V x cells slots w pc lv (.ref (gz (xG x) + q) :: .ref (gz (xG x) + n) :: st) :=
  r_putFG (w' := setX w n k (some q)) C hin2 hn hc hin tyf hty hnm hk hlink ht hfin hdecl hnar hfit rfl setX_off (by show va_rf (adr _ _) = _; rw [show wX (setX w n k (some q)) n k = some q from up2_eq]; rfl) (fun j u _ h => fv_setX_o j u h) d (kk _ rfl)
-- arrays
theorem r_iald {i : Int32} (C : Cx x cc nL own rm) (hn : (wK w)[n]? = some (tag, .inr (0, len, 0))) (hi : vp_in i len) (d : decode cc pc = .ok (.iaload, 1)) (kk : V x cells slots w (pc + 1) lv (.int (wI w n i.toNatClampNeg) :: st)) : V x cells slots w pc lv (.int i :: .ref (gz (xG x) + n) :: st) :=
  fun H locs ls hW hS hl => va_iald (cA := gT (xG x) 0) (n := len) (f := wI w n) C.hx C.hb C.tk.1 hW.1 n 0 (wso_get hn) rfl hi d (kk H locs ls hW hS hl)
theorem r_zald {i : Int32} (C : Cx x cc nL own rm) (hn : (wK w)[n]? = some (tag, .inr (1, len, 0))) (hi : vp_in i len) (d : decode cc pc = .ok (.baload, 1)) (kk : V x cells slots w (pc + 1) lv (.int (wI w n i.toNatClampNeg) :: st)) : V x cells slots w pc lv (.int i :: .ref (gz (xG x) + n) :: st) :=
  fun H locs ls hW hS hl => va_zald (cA := gT (xG x) 1) (n := len) (f := wI w n) C.hx C.hb C.tk.1 hW.1 n 1 (wso_get hn) rfl hi d (kk H locs ls hW hS hl)
theorem r_lald {i : Int32} (C : Cx x cc nL own rm) (hn : (wK w)[n]? = some (tag, .inr (2, len, 1))) (hi : vp_in i len) (d : decode cc pc = .ok (.laload, 1)) (kk : V x cells slots w (pc + 1) lv (.long (wL w n i.toNatClampNeg) :: st)) : V x cells slots w pc lv (.int i :: .ref (gz (xG x) + n) :: st) :=
  fun H locs ls hW hS hl => va_lald (cA := gT (xG x) 2) (n := len) (f := wL w n) C.hx C.hb C.tk.1 hW.1 n 2 (wso_get hn) rfl hi d (kk H locs ls hW hS hl)
theorem r_aald {i : Int32} {q : Nat} (ty : Nat) {cn : String} (hty : (tyo (xG x))[ty]? = some (gT (xG x) ty, .object cn)) (C : Cx x cc nL own rm) (hn : (wK w)[n]? = some (tag, .inr (ty, len, 2))) (hi : vp_in i len) (hX : wX w n i.toNatClampNeg = some q) (d : decode cc pc = .ok (.aaload, 1)) (kk : V x cells slots w (pc + 1) lv (.ref (gz (xG x) + q) :: st)) : V x cells slots w pc lv (.int i :: .ref (gz (xG x) + n) :: st) := by
  intro H locs ls hW hS hl
  refine va_aldq (cA := gT (xG x) ty) (n := len) (f := fun j => adr (xG x) (wX w n j)) C.hx C.hb C.tk.1 hW.1 n ty (wso_get hn) hty hi d ?_
  have e : va_rf (adr (xG x) (wX w n i.toNatClampNeg)) = .ref (gz (xG x) + q) := by rw [hX]; rfl
  rw [e]
  exact kk H locs ls hW hS hl
theorem r_alen (ty et : Nat) {aty : FieldType} (hty : (tyo (xG x))[ty]? = some (gT (xG x) ty, aty)) (C : Cx x cc nL own rm) (hn : (wK w)[n]? = some (tag, .inr (ty, len, et))) {v : Int32} (hv : Int32.ofNat len = v) (d : decode cc pc = .ok (.arraylength, 1)) (kk : V x cells slots w (pc + 1) lv (.int v :: st)) : V x cells slots w pc lv (.ref (gz (xG x) + n) :: st) :=
  fun H locs ls hW hS hl => va_alen C.hx C.hb C.tk.1 hW.1 n ty (wso_get hn) hty hv d (kk H locs ls hW hS hl)
theorem aset {H H1 : Heap} {locs : List Loc} {j : Nat} (hW : Wd (xG x) w H) (hS : va_S (Az (xG x)) (xs x).heap H locs) {sh : Nat × Nat × Nat} (hn : (wK w)[n]? = some (tag, .inr sh)) (hK : wK w' = wK w) (hoff : ∀ a, a ≠ n → (∀ b, wI w' a b = wI w a b) ∧ (∀ b, wL w' a b = wL w a b) ∧ (∀ b, wX w' a b = wX w a b)) (e : H1[gz (xG x) + n]? = some (vp_cell (gT (xG x) sh.1) (sh.2.1, acn (xG x) w' n sh.2.2))) (z : H1.size = H.size) (oq : ∀ q : Nat, q ≠ gz (xG x) + n → H1[q]? = H[q]?) : Wd (xG x) w' H1 ∧ va_S (Az (xG x)) (xs x).heap H1 (locs ++ [⟨gz (xG x) + n, j⟩]) := by
  have he := wso_get (G := xG x) hn
  have hP := hW.1.set (e := .inl (gT (xG x) sh.1, (sh.2.1, acn (xG x) w' n sh.2.2))) wso_D he e oq
  rw [wso_set (e := .inl (gT (xG x) sh.1, (sh.2.1, acn (xG x) w' n sh.2.2))) hn hK hoff rfl] at hP
  exact ⟨⟨hP, by rw [z, hK]; exact hW.2⟩, hS.put z oq (wso_D.2 n _ he)⟩
theorem up2_row {α : Type} {f : Nat → Nat → α} {j : Nat} {v : α} : up2 f n j v n = fun b => if b = j then v else f n b := by funext b; simp [up2]
theorem r_iast {i v : Int32} (C : Cx x cc nL own rm) (hn : (wK w)[n]? = some (tag, .inr (0, len, 0))) (hi : vp_in i len) (d : decode cc pc = .ok (.iastore, 1)) (kk : ∀ w', w' = setI w n i.toNatClampNeg v → V x cells slots w' (pc + 1) lv st) : V x cells slots w pc lv (.int v :: .int i :: .ref (gz (xG x) + n) :: st) := by
  intro H locs ls hW hS hl
  refine W.iast C.hx C.hb (hW.1 n _ (wso_get hn)) ((C.tk.1.2 0 _ rfl).1 len (fun j => .int (wI w n j))) (fun q => by cases q) (by show ¬ (i < 0 ∨ (arrV _ _ _).slots.size ≤ _); rw [arrV_size]; exact hi) rfl rfl d fun H1 e z oq => ?_
  obtain ⟨a, b⟩ := aset (w' := setI w n i.toNatClampNeg v) (j := i.toNatClampNeg) hW hS hn rfl setI_off (by
    rw [e]
    show some ((arrV (gT (xG x) 0) len (fun j => .int (wI w n j))).setSlot i.toNatClampNeg (.int v)) = some (arrV (gT (xG x) 0) len (fun j => .int (wI (setI w n i.toNatClampNeg v) n j)))
    rw [arrV_store]
    congr 2
    funext q
    show updV _ _ _ q = Value.int (up2 (wI w) n _ _ n q)
    by_cases hq : q = i.toNatClampNeg
    · subst hq; simp [updV, up2]
    · simp [updV, up2, hq]) z oq
  exact kk _ rfl H1 _ ls a b hl
theorem r_zast {i v : Int32} (C : Cx x cc nL own rm) (hn : (wK w)[n]? = some (tag, .inr (1, len, 0))) (hi : vp_in i len) (hv : narrow .boolean (.int v) = .int v) (d : decode cc pc = .ok (.bastore, 1)) (kk : ∀ w', w' = setI w n i.toNatClampNeg v → V x cells slots w' (pc + 1) lv st) : V x cells slots w pc lv (.int v :: .int i :: .ref (gz (xG x) + n) :: st) := by
  intro H locs ls hW hS hl
  refine W.zast C.hx C.hb (hW.1 n _ (wso_get hn)) ((C.tk.1.2 1 _ rfl).1 len (fun j => .int (wI w n j))) (fun q => by cases q) (by show ¬ (i < 0 ∨ (arrV _ _ _).slots.size ≤ _); rw [arrV_size]; exact hi) rfl rfl d fun H1 e z oq => ?_
  obtain ⟨a, b⟩ := aset (w' := setI w n i.toNatClampNeg v) (j := i.toNatClampNeg) hW hS hn rfl setI_off (by
    rw [e, hv]
    show some ((arrV (gT (xG x) 1) len (fun j => .int (wI w n j))).setSlot i.toNatClampNeg (.int v)) = some (arrV (gT (xG x) 1) len (fun j => .int (wI (setI w n i.toNatClampNeg v) n j)))
    rw [arrV_store]
    congr 2
    funext q
    show updV _ _ _ q = Value.int (up2 (wI w) n _ _ n q)
    by_cases hq : q = i.toNatClampNeg
    · subst hq; simp [updV, up2]
    · simp [updV, up2, hq]) z oq
  exact kk _ rfl H1 _ ls a b hl
theorem r_last {i : Int32} {v : Int64} (C : Cx x cc nL own rm) (hn : (wK w)[n]? = some (tag, .inr (2, len, 1))) (hi : vp_in i len) (d : decode cc pc = .ok (.lastore, 1)) (kk : ∀ w', w' = setL w n i.toNatClampNeg v → V x cells slots w' (pc + 1) lv st) : V x cells slots w pc lv (.long v :: .int i :: .ref (gz (xG x) + n) :: st) := by
  intro H locs ls hW hS hl
  refine W.last C.hx C.hb (hW.1 n _ (wso_get hn)) ((C.tk.1.2 2 _ rfl).1 len (fun j => .long (wL w n j))) (fun q => by cases q) (by show ¬ (i < 0 ∨ (arrV _ _ _).slots.size ≤ _); rw [arrV_size]; exact hi) rfl rfl d fun H1 e z oq => ?_
  obtain ⟨a, b⟩ := aset (w' := setL w n i.toNatClampNeg v) (j := i.toNatClampNeg) hW hS hn rfl setL_off (by
    rw [e]
    show some ((arrV (gT (xG x) 2) len (fun j => .long (wL w n j))).setSlot i.toNatClampNeg (.long v)) = some (arrV (gT (xG x) 2) len (fun j => .long (wL (setL w n i.toNatClampNeg v) n j)))
    rw [arrV_store]
    congr 2
    funext q
    show updV _ _ _ q = Value.long (up2 (wL w) n _ _ n q)
    by_cases hq : q = i.toNatClampNeg
    · subst hq; simp [updV, up2]
    · simp [updV, up2, hq]) z oq
  exact kk _ rfl H1 _ ls a b hl
end HEAPROWS
end
section
section NEWROWS
variable {x : Ct} {cc : ByteArray} {nL cells slots pc : Nat} {own : String} {rm : Room} {w w' : Wv} {lv lv' : List (Nat × Value)} {st : List Value}
variable {n ci k t idx N len tag : Nat} {fts : List Nat} {Cn : String} {T : u_T}
def dfv (t : Nat) : Value := if t = 0 then .int 0 else if t = 1 then .long 0 else .null
theorem addK_lo {kd : Kd} {a : Nat} (h : a ≠ (wK w).length) : (∀ b, wI (addK w kd) a b = wI w a b) ∧ (∀ b, wL (addK w kd) a b = wL w a b) ∧ (∀ b, wX (addK w kd) a b = wX w a b) := ⟨fun _ => if_neg h, fun _ => if_neg h, fun _ => if_neg h⟩
theorem addK_I0 {kd : Kd} {b : Nat} : wI (addK w kd) (wK w).length b = 0 := if_pos rfl
theorem addK_L0 {kd : Kd} {b : Nat} : wL (addK w kd) (wK w).length b = 0 := if_pos rfl
theorem addK_X0 {kd : Kd} {b : Nat} : wX (addK w kd) (wK w).length b = none := if_pos rfl
theorem wso_add {G : Gt} {kd : Kd} : wso G (addK w kd) = wso G w ++ [(gz G + (wK w).length, ent G (addK w kd) (wK w).length kd)] := by
  refine ws_ext fun k => ?_
  have hlen : (wso G w).length = (wK w).length := by rw [wso, wsF_len]
  have hk : wK (addK w kd) = wK w ++ [kd] := rfl
  rw [wso, wsF_get, hk]
  rcases Nat.lt_trichotomy k (wK w).length with h | h | h
  · rw [List.getElem?_append_left h, List.getElem?_append_left (by rw [hlen]; exact h), wso, wsF_get]
    cases hq : (wK w)[k]? with
    | none => rfl
    | some kq =>
      simp only [Option.map_some, Nat.zero_add]
      obtain ⟨a1, a2, a3⟩ := addK_lo (w := w) (kd := kd) (a := k) (by omega)
      rw [ent_ne (n := (wK w).length) (by omega) a1 a2 a3]
  · subst h
    rw [List.getElem?_append_right (Nat.le_refl _), List.getElem?_append_right (by rw [hlen]; exact Nat.le_refl _), hlen]
    simp
  · rw [List.getElem?_append_right (by omega), List.getElem?_append_right (by rw [hlen]; omega), hlen]
    have h1 : k - (wK w).length = (k - (wK w).length - 1) + 1 := by omega
    rw [h1]; simp
theorem add_world {H H1 : Heap} {locs : List Loc} {kd : Kd} (hW : Wd (xG x) w H) (hS : va_S (Az (xG x)) (xs x).heap H locs) (hz : gz (xG x) ≤ (xs x).heap.size) (he : va_at (gD (xG x)) vwCl (gz (xG x) + (wK w).length, ent (xG x) (addK w kd) (wK w).length kd) H1) (z : H1.size = H.size + 1) (o1 : ∀ q, q < H.size → H1[q]? = H[q]?) : Wd (xG x) (addK w kd) H1 ∧ va_S (Az (xG x)) (xs x).heap H1 locs := by
  have hk : ∀ (k : Nat) (q : Nat × va_E), (wso (xG x) w)[k]? = some q → H1[q.1]? = H[q.1]? := fun k q hq => o1 q.1 ((hW.1 k q hq).lt)
  refine ⟨⟨?_, ?_⟩, Nat.le_trans hS.1 (by omega), fun q h1 h2 => (o1 q (Nat.lt_of_lt_of_le h1 hS.1)).trans (hS.2.1 q h1 h2), hS.2.2⟩
  · rw [wso_add]
    refine (hW.1.kept hk).app (fun k q hq => ?_)
    have hz : k < 1 := (List.getElem?_eq_some_iff.mp hq).1
    rw [show k = 0 by omega] at hq
    cases hq
    exact he
  · rw [z, hW.2]
    show _ = gz (xG x) + (wK w ++ [kd]).length
    rw [List.length_append]; simp only [List.length_cons, List.length_nil]; omega
theorem r_new (C : Cx x cc nL own rm) (hc : vwCl[ci]? = some (Cn, T, N)) (hin : ∀ u ∈ u_ws Cn T N, u ∈ TT) (tyf : Nat → FieldType) (hty : ∀ k, k < N → parseFieldDescriptor (T k).2.2.1 = some (tyf k)) (hcl : Cond.classLink own idx Cn ∈ TT) (hinst : Cond.instantiable Cn N ∈ TT) (hini : Cond.initialized Cn ∈ TT) (fts : List Nat) (hdef : ∀ j, j < N → (fts[j]?).map dfv = some (defaultValue (tyf j))) (hcells : cells + 1 ≤ rm.cells) (hslots : slots + N ≤ rm.slots) (d : decode cc pc = .ok (.new idx, 3))
    (kk : ∀ w', w' = addK w (ci, .inl fts) → V x (cells + 1) (slots + N) w' (pc + 3) lv (.ref (gz (xG x) + (wK w).length) :: st)) : V x cells slots w pc lv st := by
  intro H locs ls hW hS hl
  have hKn := C.tk.1.1 ci _ hc
  refine W.newcK C.hx C.hb C.hown (C.hts _ hcl) (C.hts _ hinst) (C.hts _ hini) rfl d (by rw [C.hR]; exact hcells) (by rw [C.hR]; exact hslots) hKn.2.1 hW.2 fun H1 kC hkC e1 z1 o1 => ?_
  obtain ⟨a, b⟩ := add_world (kd := (ci, .inl fts)) hW hS C.hz ⟨_, hc, (u_born tyf C.hts hin hKn hkC e1 hty).to (fun j hj => by
    have h1 := hdef j hj
    show _ = vp_V (fvs (xG x) _ _ 0 fts) j
    rw [vp_V, List.getD_eq_getElem?_getD, fvs_get]
    cases ht : fts[j]? with
    | none => rw [ht] at h1; cases h1
    | some t =>
      rw [ht] at h1
      have h2 : dfv t = defaultValue (tyf j) := Option.some.inj h1
      rw [← h2]
      simp only [fv, dfv, Nat.zero_add, addK_I0, addK_L0, addK_X0]; rfl)⟩ (by rw [z1, hW.2]) (by rw [hW.2]; exact o1)
  exact kk _ rfl H1 locs ls a b hl
theorem find_inj {s : State} {nm : String} {a b : ClassId} (h1 : s.vm.findClass nm = some a) (h2 : s.vm.findClass nm = some b) : a = b := Option.some.inj (h1.symm.trans h2)
theorem r_newa (ty et tag : Nat) {atype : ArrayType} {n : Int32} (C : Cx x cc nL own rm) (harr : Cond.arrayClass (newarray.typeOf atype) ∈ TT) (hcls : ∀ cA : ClassId, (xs x).vm.findClass ("[" ++ (newarray.typeOf atype).toString) = some cA → cA = gT (xG x) ty) (hcell : ∀ cA : ClassId, arrV cA len (fun _ => defaultValue (newarray.typeOf atype)) = vp_cell cA (len, acn (xG x) (addK w (tag, .inr (ty, len, et))) (wK w).length et)) (hn : ¬ n < 0) (hN : n.toNatClampNeg = len) (hbytes : len * componentBytes (newarray.typeOf atype) ≤ 536870912) (hcells : cells + 1 ≤ rm.cells) (hslots : slots + len ≤ rm.slots) (d : decode cc pc = .ok (.newarray atype, 2))
    (kk : ∀ w', w' = addK w (tag, .inr (ty, len, et)) → V x (cells + 1) (slots + len) w' (pc + 2) lv (.ref (gz (xG x) + (wK w).length) :: st)) : V x cells slots w pc lv (.int n :: st) := by
  intro H locs ls hW hS hl
  refine va_newaK C.hx C.hb (C.hts _ harr) rfl d rfl hn hN hbytes (by rw [C.hR]; exact hcells) (by rw [C.hR]; exact hslots) hW.2 fun H1 cA e1 z1 o1 hAr hNm => ?_
  have hcA := hcls cA hNm
  subst hcA
  obtain ⟨a, b⟩ := add_world (kd := (tag, .inr (ty, len, et))) hW hS C.hz (by
    show H1[_]? = some (vp_cell _ _)
    rw [e1, hcell]) (by rw [z1, hW.2]) (by rw [hW.2]; exact o1)
  exact kk _ rfl H1 locs ls a b hl
theorem r_newI {n : Int32} (tag : Nat) (C : Cx x cc nL own rm) (harr : Cond.arrayClass (newarray.typeOf .int) ∈ TT) (hn : ¬ n < 0) (hN : n.toNatClampNeg = len) (hbytes : len * componentBytes (newarray.typeOf .int) ≤ 536870912) (hcells : cells + 1 ≤ rm.cells) (hslots : slots + len ≤ rm.slots) (d : decode cc pc = .ok (.newarray .int, 2))
    (kk : ∀ w', w' = addK w (tag, .inr (0, len, 0)) → V x (cells + 1) (slots + len) w' (pc + 2) lv (.ref (gz (xG x) + (wK w).length) :: st)) : V x cells slots w pc lv (.int n :: st) :=
  r_newa 0 0 tag C harr (fun cA h => find_inj h (C.tk.1.2 0 _ rfl).2) (fun cA => by
    show arrV cA len (fun _ => Value.int 0) = arrV cA len (fun j => .int (wI (addK w (tag, .inr (0, len, 0))) (wK w).length j))
    congr 1; funext j; rw [addK_I0]) hn hN hbytes hcells hslots d kk
theorem r_newZ {n : Int32} (tag : Nat) (C : Cx x cc nL own rm) (harr : Cond.arrayClass (newarray.typeOf .boolean) ∈ TT) (hn : ¬ n < 0) (hN : n.toNatClampNeg = len) (hbytes : len * componentBytes (newarray.typeOf .boolean) ≤ 536870912) (hcells : cells + 1 ≤ rm.cells) (hslots : slots + len ≤ rm.slots) (d : decode cc pc = .ok (.newarray .boolean, 2))
    (kk : ∀ w', w' = addK w (tag, .inr (1, len, 0)) → V x (cells + 1) (slots + len) w' (pc + 2) lv (.ref (gz (xG x) + (wK w).length) :: st)) : V x cells slots w pc lv (.int n :: st) :=
  r_newa 1 0 tag C harr (fun cA h => find_inj h (C.tk.1.2 1 _ rfl).2) (fun cA => by
    show arrV cA len (fun _ => Value.int 0) = arrV cA len (fun j => .int (wI (addK w (tag, .inr (1, len, 0))) (wK w).length j))
    congr 1; funext j; rw [addK_I0]) hn hN hbytes hcells hslots d kk
theorem r_newL {n : Int32} (tag : Nat) (C : Cx x cc nL own rm) (harr : Cond.arrayClass (newarray.typeOf .long) ∈ TT) (hn : ¬ n < 0) (hN : n.toNatClampNeg = len) (hbytes : len * componentBytes (newarray.typeOf .long) ≤ 536870912) (hcells : cells + 1 ≤ rm.cells) (hslots : slots + len ≤ rm.slots) (d : decode cc pc = .ok (.newarray .long, 2))
    (kk : ∀ w', w' = addK w (tag, .inr (2, len, 1)) → V x (cells + 1) (slots + len) w' (pc + 2) lv (.ref (gz (xG x) + (wK w).length) :: st)) : V x cells slots w pc lv (.int n :: st) :=
  r_newa 2 1 tag C harr (fun cA h => find_inj h (C.tk.1.2 2 _ rfl).2) (fun cA => by
    show arrV cA len (fun _ => Value.long 0) = arrV cA len (fun j => .long (wL (addK w (tag, .inr (2, len, 1))) (wK w).length j))
    congr 1; funext j; rw [addK_L0]) hn hN hbytes hcells hslots d kk
theorem r_newQ (ty tag : Nat) {cn : String} {n : Int32} (C : Cx x cc nL own rm) (hty : (tyo (xG x))[ty]? = some (gT (xG x) ty, .object cn)) (hao : va_AO cn (xs x)) (hcl : Cond.classLink own idx cn ∈ TT) (hn : ¬ n < 0) (hN : n.toNatClampNeg = len) (hbytes : len * 4 ≤ 536870912) (hcells : cells + 1 ≤ rm.cells) (hslots : slots + len ≤ rm.slots) (d : decode cc pc = .ok (.anewarray idx, 3))
    (kk : ∀ w', w' = addK w (tag, .inr (ty, len, 2)) → V x (cells + 1) (slots + len) w' (pc + 3) lv (.ref (gz (xG x) + (wK w).length) :: st)) : V x cells slots w pc lv (.int n :: st) := by
  intro H locs ls hW hS hl
  subst hN
  refine W.anew C.hx C.hb C.hown (C.hts _ hcl) (va_AO.use hao) rfl d rfl hn hbytes (by rw [C.hR]; exact hcells) (by rw [C.hR]; exact hslots) fun cA kA comp f1 f2 f3 f4 => ?_
  obtain ⟨kA', comp', -, -, -, g4⟩ := (C.tk.1.2 ty _ hty).2
  have hcA := find_inj f1 g4
  subst hcA
  obtain ⟨a, b⟩ := add_world (kd := (tag, .inr (ty, n.toNatClampNeg, 2))) (H1 := H.push ({ cls := gT (xG x) ty, slots := Array.replicate n.toNatClampNeg .null, vm := .none } : Cell)) hW hS C.hz (by
    show (H.push _)[gz (xG x) + (wK w).length]? = some (vp_cell _ _)
    rw [← hW.2, Array.getElem?_push_size, arrV_new]
    show some (arrV _ _ _) = some (arrV _ _ (fun j => va_rf (adr (xG x) (wX (addK w _) (wK w).length j))))
    congr 2; funext j; rw [addK_X0]; rfl) (by rw [Array.size_push]) (fun q hq => by rw [Array.getElem?_push, if_neg (Nat.ne_of_lt hq)])
  have := kk _ rfl _ locs ls a b hl
  rw [← hW.2] at this
  exact this
theorem r_aast {i : Int32} {q : Nat} (ty : Nat) {cn : String} {fts : List Nat} (C : Cx x cc nL own rm) (hty : (tyo (xG x))[ty]? = some (gT (xG x) ty, .object cn)) (hn : (wK w)[n]? = some (tag, .inr (ty, len, 2))) (hq : (wK w)[q]? = some (ci, .inl fts)) (hc : vwCl[ci]? = some (cn, T, N)) (hi : vp_in i len) (d : decode cc pc = .ok (.aastore, 1))
    (kk : ∀ w', w' = setX w n i.toNatClampNeg (some q) → V x cells slots w' (pc + 1) lv st) : V x cells slots w pc lv (.ref (gz (xG x) + q) :: .int i :: .ref (gz (xG x) + n) :: st) := by
  intro H locs ls hW hS hl
  have hlt : i.toNatClampNeg < len := Nat.not_le.mp fun z => hi (Or.inr z)
  have h0 : ¬ i < 0 := fun z => hi (Or.inl z)
  obtain ⟨r', hr', cellV, g1, g2, g3, -⟩ := hW.1 q _ (wso_get hq)
  have hcls := (C.tk.1.1 ci _ hc).2
  obtain ⟨kA, comp, k1, k2, k3, -⟩ := (C.tk.1.2 ty _ hty).2
  have hcomp : comp = (gD (xG x)).1 ci := Option.some.inj (k3.symm.trans hcls.1)
  subst hcomp
  obtain ⟨kC, hkC, -⟩ := hcls.2
  have hcell : H[gz (xG x) + n]? = some (arrV (gT (xG x) ty) len (fun j => va_rf (adr (xG x) (wX w n j)))) := hW.1 n _ (wso_get hn)
  refine W.aast C.hx C.hb hcell (fun q h => by cases h) (fun h => by cases h) k1 k2 rfl hkC ⟨h0, by rw [arrV_size]; exact hlt⟩ g1 (fun q h => by rw [g3] at h; cases h) (by rw [g2]; exact hkC) (by rw [g2]; exact va_assign hcls) rfl rfl d fun H1 e z oq => ?_
  obtain ⟨a, b⟩ := aset (w' := setX w n i.toNatClampNeg (some q)) (j := i.toNatClampNeg) hW hS hn rfl setX_off (by
    rw [e]
    show some ((arrV (gT (xG x) ty) len (fun j => va_rf (adr (xG x) (wX w n j)))).setSlot i.toNatClampNeg (.ref (gz (xG x) + q))) = some (arrV (gT (xG x) ty) len (fun j => va_rf (adr (xG x) (wX (setX w n i.toNatClampNeg (some q)) n j))))
    rw [arrV_store]
    congr 2
    funext j
    show updV _ _ _ j = va_rf (adr (xG x) (up2 (wX w) n _ _ n j))
    by_cases hj : j = i.toNatClampNeg
    · subst hj; simp [updV, up2, adr, va_rf]
    · simp [updV, up2, hj]) z oq
  exact kk _ rfl H1 _ ls a b hl
theorem r_objInit {a : Nat} (C : Cx x cc nL own rm) (hlink : Cond.methodLink own idx Lib.objectInit ∈ TT) (hinst : Cond.instanceMethod Lib.objectInit ∈ TT) (hcode : Cond.code Lib.objectInit ⟨#[0xb1]⟩ 1 none ∈ TT) (hfr : 1 ≤ rm.frames) (hlo : (st.map fun v => v.category).sum + 12 ≤ rm.locals) (d : decode cc pc = .ok (.invokespecial idx, 3)) (kk : V x cells slots w (pc + 3) lv st) : V x cells slots w pc lv (.ref a :: st) :=
  fun H locs ls hW hS hl => W.objInit C.hx C.hb C.hown (C.hts _ hlink) (C.hts _ hinst) (C.hts _ hcode) rfl (by rw [C.hml]; exact hl.1.trans C.hn) rfl d (by rw [C.hR]; exact hfr) (by rw [C.hR]; show 2 * 0 + _ + 12 ≤ _; omega) (kk H locs ls hW hS hl)
theorem r_mmax {a b : Int32} (C : Cx x cc nL own rm) (hlink : Cond.methodLink own idx Lib.Math.max.name ∈ TT) (hstat : Cond.static Lib.Math.max.name ∈ TT) (hini : Cond.initialized "java/lang/Math" ∈ TT) (hcode : Cond.code Lib.Math.max.name Lib.Math.max.code 2 (some .int) ∈ TT) (hfr : 1 ≤ rm.frames) (hlo : (st.map fun v => v.category).sum + 13 ≤ rm.locals) (hc : cells ≤ rm.cells) (hs : slots ≤ rm.slots) (d : decode cc pc = .ok (.invokestatic idx, 3)) (kk : ∀ v : Int32, v = (if a < b then b else a) → V x cells slots w (pc + 3) lv (.int v :: st)) : V x cells slots w pc lv (.int b :: .int a :: st) :=
  fun H locs ls hW hS hl => va_mmax C.hx C.hb (by rw [C.hml]; exact (hl.1.trans C.hn).symm) C.hown (C.hts _ hlink) (C.hts _ hstat) (C.hts _ hini) (C.hts _ hcode) (by rw [C.hR]; exact hfr) (by rw [C.hR]; exact hlo) (by rw [C.hR]; exact hc) (by rw [C.hR]; exact hs) d (kk _ rfl H locs ls hW hS hl)
theorem r_mmin {a b : Int32} (C : Cx x cc nL own rm) (hlink : Cond.methodLink own idx Lib.Math.min.name ∈ TT) (hstat : Cond.static Lib.Math.min.name ∈ TT) (hini : Cond.initialized "java/lang/Math" ∈ TT) (hcode : Cond.code Lib.Math.min.name Lib.Math.min.code 2 (some .int) ∈ TT) (hfr : 1 ≤ rm.frames) (hlo : (st.map fun v => v.category).sum + 13 ≤ rm.locals) (hc : cells ≤ rm.cells) (hs : slots ≤ rm.slots) (d : decode cc pc = .ok (.invokestatic idx, 3)) (kk : ∀ v : Int32, v = (if b < a then b else a) → V x cells slots w (pc + 3) lv (.int v :: st)) : V x cells slots w pc lv (.int b :: .int a :: st) :=
  fun H locs ls hW hS hl => va_mmin C.hx C.hb (by rw [C.hml]; exact (hl.1.trans C.hn).symm) C.hown (C.hts _ hlink) (C.hts _ hstat) (C.hts _ hini) (C.hts _ hcode) (by rw [C.hR]; exact hfr) (by rw [C.hR]; exact hlo) (by rw [C.hR]; exact hc) (by rw [C.hR]; exact hs) d (kk _ rfl H locs ls hW hS hl)
end NEWROWS
/-! contracts -/
abbrev wo (y : MethodName) (cc : ByteArray) (n : Nat) (ret : Option FieldType) : List Cond := Cond.code y cc n ret :: TT
theorem gd {y : MethodName} {cc : ByteArray} {n : Nat} {ret : Option FieldType} (h : Cond.code y cc n ret ∈ TT) : GoodIn TT (wo y cc n ret) := fun u hu => (List.mem_cons.mp hu).elim (fun e => by subst e; exact tt_good _ h) (fun e => tt_good _ e)
def Pre (G : Gt) (av : List Value) (w : Wv) : Array Value → State → Prop := va_Pc av (fun U => Wd G w U.heap ∧ Tk G U)
def Pst (G : Gt) : Wv → State → Prop := fun w' t => Wd G w' t.heap ∧ Tk G t
def CtI (l : Launch) (G : Gt) (y : MethodName) (cc : ByteArray) (n : Nat) (ty : FieldType) (rm : Room) (av : List Value) (w : Wv) (post : Int32 → Wv → Prop) : Prop := Met l y (wo y cc n (some ty)) rm (Pre G av w) (va_Qi post (Pst G) (Az G)) rm.cells rm.slots (Az G)
def CtL (l : Launch) (G : Gt) (y : MethodName) (cc : ByteArray) (n : Nat) (rm : Room) (av : List Value) (w : Wv) (post : Int64 → Wv → Prop) : Prop := Met l y (wo y cc n (some .long)) rm (Pre G av w) (va_Ql post (Pst G) (Az G)) rm.cells rm.slots (Az G)
def CtV (l : Launch) (G : Gt) (y : MethodName) (cc : ByteArray) (n : Nat) (rm : Room) (av : List Value) (w : Wv) (post : Wv → Prop) : Prop := Met l y (wo y cc n none) rm (Pre G av w) (va_Qv post (Pst G) (Az G)) rm.cells rm.slots (Az G)
theorem Pre.blind {G : Gt} {av : List Value} {w : Wv} : FrameBlind (Pre G av w) := fun a U g mk q => by
  obtain ⟨q0, qP, qK⟩ := q
  exact ⟨q0, qP, Tk.moved (u := U) (U := U.calling g mk a) (Vm.Alike.refl U.vm) qK⟩
section ENTER
variable {l : Launch} {G : Gt} {y : MethodName} {cc : ByteArray} {n : Nat} {rm : Room} {av : List Value} {w : Wv}
theorem enterI {ty : FieldType} {post : Int32 → Wv → Prop} (hy : plainName y.cls = true) (hlen : (lg_sl av).length ≤ n) (body : ∀ x : Ct, xl x = l → xG x = G → Cx x cc n y.cls rm → (∀ (v : Int32) (w' : Wv) (pc : Nat) (lv : List (Nat × Value)), decode cc pc = .ok (.ireturn, 1) → narrow ty (.int v) = .int v → post v w' → V x rm.cells rm.slots w' pc lv [.int v]) → V x 0 0 w 0 (lv_args 0 av) []) : CtI l G y cc n ty rm av w post := by
  refine Met.ofW (cc := cc) (maxL := n) (ret := some ty) hy rfl ?_
  intro p e s m args below meth c s₁ B hml hv
  obtain ⟨rfl, hWd, hTk⟩ := hv
  have hts := atoms_spec (ws := wo y cc n (some ty)) B.pre
  rw [lg_entry_eq]
  refine body (p, l, e, rm, s, m, av.toArray, below, meth, c, G, n, MQ below (va_Qi post (Pst G) (Az G)) av.toArray s rm.cells rm.slots (Az G)) rfl rfl ⟨B.exec, B.bytes, hml, findClass_of_methodNamed B.named, fun u hu => hts u (List.mem_cons_of_mem _ hu), hTk, by rw [hWd.2]; exact Nat.le_add_right _ _, rfl, rfl⟩ ?_ s.heap [] _ hWd va_S.rf (lv_entry av hlen)
  intro v w' pc lv d hn hp H locs ls hW hS hl
  exact W.zret B.exec B.bytes B.returns hn (fun t ht hWm => ⟨⟨v, w', rfl, hp, by rw [Pst, ht]; exact ⟨hW, hTk.moved hWm.alike⟩⟩, hS.F ht⟩) hS.2.2 d
theorem enterL {post : Int64 → Wv → Prop} (hy : plainName y.cls = true) (hlen : (lg_sl av).length ≤ n) (body : ∀ x : Ct, xl x = l → xG x = G → Cx x cc n y.cls rm → (∀ (v : Int64) (w' : Wv) (pc : Nat) (lv : List (Nat × Value)), decode cc pc = .ok (.lreturn, 1) → post v w' → V x rm.cells rm.slots w' pc lv [.long v]) → V x 0 0 w 0 (lv_args 0 av) []) : CtL l G y cc n rm av w post := by
  refine Met.ofW (cc := cc) (maxL := n) (ret := some .long) hy rfl ?_
  intro p e s m args below meth c s₁ B hml hv
  obtain ⟨rfl, hWd, hTk⟩ := hv
  have hts := atoms_spec (ws := wo y cc n (some .long)) B.pre
  rw [lg_entry_eq]
  refine body (p, l, e, rm, s, m, av.toArray, below, meth, c, G, n, MQ below (va_Ql post (Pst G) (Az G)) av.toArray s rm.cells rm.slots (Az G)) rfl rfl ⟨B.exec, B.bytes, hml, findClass_of_methodNamed B.named, fun u hu => hts u (List.mem_cons_of_mem _ hu), hTk, by rw [hWd.2]; exact Nat.le_add_right _ _, rfl, rfl⟩ ?_ s.heap [] _ hWd va_S.rf (lv_entry av hlen)
  intro v w' pc lv d hp H locs ls hW hS hl
  exact W.lret B.exec B.bytes B.returns (fun t ht hWm => ⟨⟨v, w', rfl, hp, by rw [Pst, ht]; exact ⟨hW, hTk.moved hWm.alike⟩⟩, hS.F ht⟩) hS.2.2 d
theorem enterV {post : Wv → Prop} (hy : plainName y.cls = true) (hlen : (lg_sl av).length ≤ n) (body : ∀ x : Ct, xl x = l → xG x = G → Cx x cc n y.cls rm → (xM x).name = y.name → (∀ (w' : Wv) (pc : Nat) (lv : List (Nat × Value)), decode cc pc = .ok (.return_, 1) → post w' → V x rm.cells rm.slots w' pc lv []) → V x 0 0 w 0 (lv_args 0 av) []) : CtV l G y cc n rm av w post := by
  refine Met.ofW (cc := cc) (maxL := n) (ret := none) hy rfl ?_
  intro p e s m args below meth c s₁ B hml hv
  obtain ⟨rfl, hWd, hTk⟩ := hv
  have hts := atoms_spec (ws := wo y cc n none) B.pre
  rw [lg_entry_eq]
  refine body (p, l, e, rm, s, m, av.toArray, below, meth, c, G, n, MQ below (va_Qv post (Pst G) (Az G)) av.toArray s rm.cells rm.slots (Az G)) rfl rfl ⟨B.exec, B.bytes, hml, findClass_of_methodNamed B.named, fun u hu => hts u (List.mem_cons_of_mem _ hu), hTk, by rw [hWd.2]; exact Nat.le_add_right _ _, rfl, rfl⟩ (name_of_methodNamed B.named B.method).1 ?_ s.heap [] _ hWd va_S.rf (lv_entry av hlen)
  intro w' pc lv d hp H locs ls hW hS hl
  exact W.vret B.exec B.bytes B.returns (fun t ht hWm => ⟨⟨w', rfl, hp, by rw [Pst, ht]; exact ⟨hW, hTk.moved hWm.alike⟩⟩, hS.F ht⟩) hS.2.2 d
end ENTER
section CALLS
variable {x : Ct} {cc cb : ByteArray} {nL nb np cells slots pc n ci idx N : Nat} {own Cn : String} {rm rc : Room} {w : Wv} {lv : List (Nat × Value)} {st stk As : List Value} {y : MethodName} {fts : List Nat} {T : u_T}
abbrev dok (y : MethodName) (np : Nat) : Prop := y.cls ≠ "java/lang/invoke/MethodHandle" ∧ y.cls ≠ "java/lang/invoke/VarHandle" ∧ (parseMethodDescriptor y.desc).map (fun d => d.parameters.length) = some np
abbrev rok (rc rm : Room) (nb : Nat) : Prop := rc.frames + 1 ≤ rm.frames ∧ 8 + (nb + 11) + rc.locals ≤ rm.locals
/-- the words of a call -/
def CwV (own : String) (idx : Nat) (Cn : String) (y : MethodName) (cb : ByteArray) (nb : Nat) (ret : Option FieldType) (np : Nat) : Prop := Cond.methodLink own idx y ∈ TT ∧ Cond.instanceMethod y ∈ TT ∧ Cond.selects Cn y y ∈ TT ∧ Cond.initialized y.cls ∈ TT ∧ Cond.code y cb nb ret ∈ TT ∧ dok y np
def CwS (own : String) (idx : Nat) (y : MethodName) (cb : ByteArray) (nb : Nat) (ret : Option FieldType) (np : Nat) : Prop := Cond.methodLink own idx y ∈ TT ∧ Cond.static y ∈ TT ∧ Cond.initialized y.cls ∈ TT ∧ Cond.code y cb nb ret ∈ TT ∧ dok y np
def CwI (own : String) (idx : Nat) (y : MethodName) (cb : ByteArray) (nb : Nat) (np : Nat) : Prop := Cond.methodLink own idx y ∈ TT ∧ Cond.instanceMethod y ∈ TT ∧ Cond.initialized y.cls ∈ TT ∧ Cond.code y cb nb none ∈ TT ∧ dok y np ∧ y.name = "<init>"
theorem callVI {ty : FieldType} {post : Int32 → Wv → Prop} (C : Cx x cc nL own rm) (cw : CwV own idx Cn y cb nb (some ty) np) (hM : CtI (xl x) (xG x) y cb nb ty rc (.ref (gz (xG x) + n) :: As) w post) (hR : rok rc rm nb) (hn : (wK w)[n]? = some (ci, .inl fts)) (hc : vwCl[ci]? = some (Cn, T, N)) (hst : stk = As.reverse ++ .ref (gz (xG x) + n) :: st) (hA : As.length = np) (hro : (st.map fun v => v.category).sum ≤ 8) (hf : cells + rc.cells ≤ rm.cells ∧ slots + rc.slots ≤ rm.slots) (d : decode cc pc = .ok (.invokevirtual idx, 3))
    (kk : ∀ (r : Int32) (w' : Wv), post r w' → V x (cells + rc.cells) (slots + rc.slots) w' (pc + 3) lv (.int r :: st)) : V x cells slots w pc lv stk := by
  intro H locs ls hW hS hl
  obtain ⟨c1, c2, c3, c4, c5, c6⟩ := cw
  refine va_calli (va_runV (As := As) (rest := st) ⟨C.hx, C.hb, C.hml, C.hown, C.hts⟩ hM ⟨callB_of np C.hts (gd c5) rfl rfl rfl (C.hts _ c4) (C.hts _ c1) c6 (by rw [C.hR]; exact hR), C.hts _ c2, C.hts _ c3⟩ ⟨Pre.blind, va_recv C.tk.1 hW.1 hc (wso_get hn), fun U hU hWm => ⟨rfl, by rw [hU]; exact hW, C.tk.moved hWm.alike⟩⟩ rfl hA (hl.1.trans C.hn) hst (lv_room hro) d (by rw [C.hR]; exact hf)) hS (fun q _ h => h) (fun q h => h) (fun r u t H1 locs1 ht hvm hp hB hz1 hk1 hS1 => kk r u hp H1 locs1 ls (by rw [← ht]; exact hB.1) hS1 hl)
theorem callVL {post : Int64 → Wv → Prop} (C : Cx x cc nL own rm) (cw : CwV own idx Cn y cb nb (some .long) np) (hM : CtL (xl x) (xG x) y cb nb rc (.ref (gz (xG x) + n) :: As) w post) (hR : rok rc rm nb) (hn : (wK w)[n]? = some (ci, .inl fts)) (hc : vwCl[ci]? = some (Cn, T, N)) (hst : stk = As.reverse ++ .ref (gz (xG x) + n) :: st) (hA : As.length = np) (hro : (st.map fun v => v.category).sum ≤ 8) (hf : cells + rc.cells ≤ rm.cells ∧ slots + rc.slots ≤ rm.slots) (d : decode cc pc = .ok (.invokevirtual idx, 3))
    (kk : ∀ (r : Int64) (w' : Wv), post r w' → V x (cells + rc.cells) (slots + rc.slots) w' (pc + 3) lv (.long r :: st)) : V x cells slots w pc lv stk := by
  intro H locs ls hW hS hl
  obtain ⟨c1, c2, c3, c4, c5, c6⟩ := cw
  refine va_calll (va_runV (As := As) (rest := st) ⟨C.hx, C.hb, C.hml, C.hown, C.hts⟩ hM ⟨callB_of np C.hts (gd c5) rfl rfl rfl (C.hts _ c4) (C.hts _ c1) c6 (by rw [C.hR]; exact hR), C.hts _ c2, C.hts _ c3⟩ ⟨Pre.blind, va_recv C.tk.1 hW.1 hc (wso_get hn), fun U hU hWm => ⟨rfl, by rw [hU]; exact hW, C.tk.moved hWm.alike⟩⟩ rfl hA (hl.1.trans C.hn) hst (lv_room hro) d (by rw [C.hR]; exact hf)) hS (fun q _ h => h) (fun q h => h) (fun r u t H1 locs1 ht hvm hp hB hz1 hk1 hS1 => kk r u hp H1 locs1 ls (by rw [← ht]; exact hB.1) hS1 hl)
theorem callVV {post : Wv → Prop} (C : Cx x cc nL own rm) (cw : CwV own idx Cn y cb nb none np) (hM : CtV (xl x) (xG x) y cb nb rc (.ref (gz (xG x) + n) :: As) w post) (hR : rok rc rm nb) (hn : (wK w)[n]? = some (ci, .inl fts)) (hc : vwCl[ci]? = some (Cn, T, N)) (hst : stk = As.reverse ++ .ref (gz (xG x) + n) :: st) (hA : As.length = np) (hro : (st.map fun v => v.category).sum ≤ 8) (hf : cells + rc.cells ≤ rm.cells ∧ slots + rc.slots ≤ rm.slots) (d : decode cc pc = .ok (.invokevirtual idx, 3))
    (kk : ∀ (w' : Wv), post w' → V x (cells + rc.cells) (slots + rc.slots) w' (pc + 3) lv st) : V x cells slots w pc lv stk := by
  intro H locs ls hW hS hl
  obtain ⟨c1, c2, c3, c4, c5, c6⟩ := cw
  refine va_callv (va_runV (As := As) (rest := st) ⟨C.hx, C.hb, C.hml, C.hown, C.hts⟩ hM ⟨callB_of np C.hts (gd c5) rfl rfl rfl (C.hts _ c4) (C.hts _ c1) c6 (by rw [C.hR]; exact hR), C.hts _ c2, C.hts _ c3⟩ ⟨Pre.blind, va_recv C.tk.1 hW.1 hc (wso_get hn), fun U hU hWm => ⟨rfl, by rw [hU]; exact hW, C.tk.moved hWm.alike⟩⟩ rfl hA (hl.1.trans C.hn) hst (lv_room hro) d (by rw [C.hR]; exact hf)) hS (fun q _ h => h) (fun q h => h) (fun u t H1 locs1 ht hvm hp hB hz1 hk1 hS1 => kk u hp H1 locs1 ls (by rw [← ht]; exact hB.1) hS1 hl)
theorem callIV {post : Wv → Prop} {b : Nat} (C : Cx x cc nL own rm) (cw : CwI own idx y cb nb np) (hM : CtV (xl x) (xG x) y cb nb rc (.ref b :: As) w post) (hR : rok rc rm nb) (hst : stk = As.reverse ++ .ref b :: st) (hA : As.length = np) (hro : (st.map fun v => v.category).sum ≤ 8) (hf : cells + rc.cells ≤ rm.cells ∧ slots + rc.slots ≤ rm.slots) (d : decode cc pc = .ok (.invokespecial idx, 3))
    (kk : ∀ (w' : Wv), post w' → V x (cells + rc.cells) (slots + rc.slots) w' (pc + 3) lv st) : V x cells slots w pc lv stk := by
  intro H locs ls hW hS hl
  obtain ⟨c1, c2, c4, c5, c6, c7⟩ := cw
  refine va_callv (va_runI (As := As) (rest := st) ⟨C.hx, C.hb, C.hml, C.hown, C.hts⟩ hM ⟨callB_of np C.hts (gd c5) rfl rfl rfl (C.hts _ c4) (C.hts _ c1) c6 (by rw [C.hR]; exact hR), c7, C.hts _ c2⟩ ⟨Pre.blind, fun U hU hWm => ⟨rfl, by rw [hU]; exact hW, C.tk.moved hWm.alike⟩⟩ rfl hA (hl.1.trans C.hn) hst (lv_room hro) d (by rw [C.hR]; exact hf)) hS (fun q _ h => h) (fun q h => h) (fun u t H1 locs1 ht hvm hp hB hz1 hk1 hS1 => kk u hp H1 locs1 ls (by rw [← ht]; exact hB.1) hS1 hl)
theorem callSI {ty : FieldType} {post : Int32 → Wv → Prop} (C : Cx x cc nL own rm) (cw : CwS own idx y cb nb (some ty) np) (hM : CtI (xl x) (xG x) y cb nb ty rc As w post) (hR : rok rc rm nb) (hst : stk = As.reverse ++ st) (hA : As.length = np) (hro : (st.map fun v => v.category).sum ≤ 8) (hf : cells + rc.cells ≤ rm.cells ∧ slots + rc.slots ≤ rm.slots) (d : decode cc pc = .ok (.invokestatic idx, 3))
    (kk : ∀ (r : Int32) (w' : Wv), post r w' → V x (cells + rc.cells) (slots + rc.slots) w' (pc + 3) lv (.int r :: st)) : V x cells slots w pc lv stk := by
  intro H locs ls hW hS hl
  obtain ⟨c1, c2, c4, c5, c6⟩ := cw
  refine va_calli (va_runS (As := As) (rest := st) ⟨C.hx, C.hb, C.hml, C.hown, C.hts⟩ hM ⟨callB_of np C.hts (gd c5) rfl rfl rfl (C.hts _ c4) (C.hts _ c1) c6 (by rw [C.hR]; exact hR), C.hts _ c2⟩ ⟨Pre.blind, fun U hU hWm => ⟨rfl, by rw [hU]; exact hW, C.tk.moved hWm.alike⟩⟩ rfl hA (hl.1.trans C.hn) hst (lv_room hro) d (by rw [C.hR]; exact hf)) hS (fun q _ h => h) (fun q h => h) (fun r u t H1 locs1 ht hvm hp hB hz1 hk1 hS1 => kk r u hp H1 locs1 ls (by rw [← ht]; exact hB.1) hS1 hl)
theorem callSL {post : Int64 → Wv → Prop} (C : Cx x cc nL own rm) (cw : CwS own idx y cb nb (some .long) np) (hM : CtL (xl x) (xG x) y cb nb rc As w post) (hR : rok rc rm nb) (hst : stk = As.reverse ++ st) (hA : As.length = np) (hro : (st.map fun v => v.category).sum ≤ 8) (hf : cells + rc.cells ≤ rm.cells ∧ slots + rc.slots ≤ rm.slots) (d : decode cc pc = .ok (.invokestatic idx, 3))
    (kk : ∀ (r : Int64) (w' : Wv), post r w' → V x (cells + rc.cells) (slots + rc.slots) w' (pc + 3) lv (.long r :: st)) : V x cells slots w pc lv stk := by
  intro H locs ls hW hS hl
  obtain ⟨c1, c2, c4, c5, c6⟩ := cw
  refine va_calll (va_runS (As := As) (rest := st) ⟨C.hx, C.hb, C.hml, C.hown, C.hts⟩ hM ⟨callB_of np C.hts (gd c5) rfl rfl rfl (C.hts _ c4) (C.hts _ c1) c6 (by rw [C.hR]; exact hR), C.hts _ c2⟩ ⟨Pre.blind, fun U hU hWm => ⟨rfl, by rw [hU]; exact hW, C.tk.moved hWm.alike⟩⟩ rfl hA (hl.1.trans C.hn) hst (lv_room hro) d (by rw [C.hR]; exact hf)) hS (fun q _ h => h) (fun q h => h) (fun r u t H1 locs1 ht hvm hp hB hz1 hk1 hS1 => kk r u hp H1 locs1 ls (by rw [← ht]; exact hB.1) hS1 hl)
end CALLS
end
section
theorem zz_t : (1:Nat) = 1 := rfl
end
