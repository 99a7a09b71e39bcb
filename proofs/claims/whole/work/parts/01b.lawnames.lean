-- ===== PART A: goes FIRST, ahead of the names: the tables' words, and 'selects' of the private methods out of them =====
/-- a private method of a class that the tables say can be made, by its rows of tables_1 -/
def lw_okq (q : MethodName × Nat) : Prop := (q.1.cls ≠ "java/lang/invoke/MethodHandle" ∧ q.1.cls ≠ "java/lang/invoke/VarHandle") ∧ Cond.instantiable q.1.cls q.2 ∈ tables_1 ∧ Cond.privateMethod q.1 ∈ tables_1 ∧ Cond.instanceMethod q.1 ∈ tables_1
theorem lw_p0 : lw_okq (⟨"PartcopyistBench", "turnsAgree", "(I)Z"⟩, 10) := ⟨⟨by decide +kernel, by decide +kernel⟩, List.mem_of_getElem? (i := 23) (by decide +kernel), List.mem_of_getElem? (i := 121) (by decide +kernel), List.mem_of_getElem? (i := 122) (by decide +kernel)⟩
theorem lw_p1 : lw_okq (⟨"PartcopyistBench", "makeBlocks", "(I)V"⟩, 10) := ⟨⟨by decide +kernel, by decide +kernel⟩, List.mem_of_getElem? (i := 23) (by decide +kernel), List.mem_of_getElem? (i := 125) (by decide +kernel), List.mem_of_getElem? (i := 126) (by decide +kernel)⟩
theorem lw_p2 : lw_okq (⟨"PartcopyistBench", "addToBlocks", "(IILPartcopyistBench$Bar;)V"⟩, 10) := ⟨⟨by decide +kernel, by decide +kernel⟩, List.mem_of_getElem? (i := 23) (by decide +kernel), List.mem_of_getElem? (i := 133) (by decide +kernel), List.mem_of_getElem? (i := 134) (by decide +kernel)⟩
theorem lw_p3 : lw_okq (⟨"PartcopyistBench$Blocks", "add", "(IIIIZ)V"⟩, 12) := ⟨⟨by decide +kernel, by decide +kernel⟩, List.mem_of_getElem? (i := 37) (by decide +kernel), List.mem_of_getElem? (i := 151) (by decide +kernel), List.mem_of_getElem? (i := 152) (by decide +kernel)⟩
theorem lw_p4 : lw_okq (⟨"PartcopyistBench$Blocks", "isBlock", "(I)Z"⟩, 12) := ⟨⟨by decide +kernel, by decide +kernel⟩, List.mem_of_getElem? (i := 37) (by decide +kernel), List.mem_of_getElem? (i := 159) (by decide +kernel), List.mem_of_getElem? (i := 160) (by decide +kernel)⟩
theorem lw_p5 : lw_okq (⟨"PartcopyistBench$Blocks", "makePageFrom", "(I)V"⟩, 12) := ⟨⟨by decide +kernel, by decide +kernel⟩, List.mem_of_getElem? (i := 37) (by decide +kernel), List.mem_of_getElem? (i := 168) (by decide +kernel), List.mem_of_getElem? (i := 169) (by decide +kernel)⟩
theorem lw_p6 : lw_okq (⟨"PartcopyistBench$Blocks", "hardTurnAhead", "(I)I"⟩, 12) := ⟨⟨by decide +kernel, by decide +kernel⟩, List.mem_of_getElem? (i := 37) (by decide +kernel), List.mem_of_getElem? (i := 172) (by decide +kernel), List.mem_of_getElem? (i := 173) (by decide +kernel)⟩
theorem lw_p7 : lw_okq (⟨"PartcopyistBench", "copyAgrees", "(I)Z"⟩, 10) := ⟨⟨by decide +kernel, by decide +kernel⟩, List.mem_of_getElem? (i := 23) (by decide +kernel), List.mem_of_getElem? (i := 185) (by decide +kernel), List.mem_of_getElem? (i := 186) (by decide +kernel)⟩
theorem lw_p8 : lw_okq (⟨"PartcopyistBench", "partOrNull", "(I)LPartcopyistBench$Part;"⟩, 10) := ⟨⟨by decide +kernel, by decide +kernel⟩, List.mem_of_getElem? (i := 23) (by decide +kernel), List.mem_of_getElem? (i := 189) (by decide +kernel), List.mem_of_getElem? (i := 190) (by decide +kernel)⟩
theorem lw_p9 : lw_okq (⟨"PartcopyistBench", "touchedDifferences", "(I)I"⟩, 10) := ⟨⟨by decide +kernel, by decide +kernel⟩, List.mem_of_getElem? (i := 23) (by decide +kernel), List.mem_of_getElem? (i := 193) (by decide +kernel), List.mem_of_getElem? (i := 194) (by decide +kernel)⟩
theorem lw_p10 : lw_okq (⟨"PartcopyistBench", "comparedDifferences", "(I)I"⟩, 10) := ⟨⟨by decide +kernel, by decide +kernel⟩, List.mem_of_getElem? (i := 23) (by decide +kernel), List.mem_of_getElem? (i := 201) (by decide +kernel), List.mem_of_getElem? (i := 202) (by decide +kernel)⟩
theorem lw_p11 : lw_okq (⟨"PartcopyistBench", "spellingsSound", "()Z"⟩, 10) := ⟨⟨by decide +kernel, by decide +kernel⟩, List.mem_of_getElem? (i := 23) (by decide +kernel), List.mem_of_getElem? (i := 205) (by decide +kernel), List.mem_of_getElem? (i := 206) (by decide +kernel)⟩
theorem lw_p12 : lw_okq (⟨"PartcopyistBench", "spellingSounds", "(LPartcopyistBench$Note;)Z"⟩, 10) := ⟨⟨by decide +kernel, by decide +kernel⟩, List.mem_of_getElem? (i := 23) (by decide +kernel), List.mem_of_getElem? (i := 209) (by decide +kernel), List.mem_of_getElem? (i := 210) (by decide +kernel)⟩
theorem lw_p13 : lw_okq (⟨"PartcopyistBench", "placeOf", "(LPartcopyistBench$Note;)I"⟩, 10) := ⟨⟨by decide +kernel, by decide +kernel⟩, List.mem_of_getElem? (i := 23) (by decide +kernel), List.mem_of_getElem? (i := 213) (by decide +kernel), List.mem_of_getElem? (i := 214) (by decide +kernel)⟩
theorem lw_p14 : lw_okq (⟨"PartcopyistBench", "barOrNull", "(I)LPartcopyistBench$Bar;"⟩, 10) := ⟨⟨by decide +kernel, by decide +kernel⟩, List.mem_of_getElem? (i := 23) (by decide +kernel), List.mem_of_getElem? (i := 217) (by decide +kernel), List.mem_of_getElem? (i := 218) (by decide +kernel)⟩
theorem lw_p15 : lw_okq (⟨"PartcopyistBench", "writtenPitch", "(LPartcopyistBench$Note;)I"⟩, 10) := ⟨⟨by decide +kernel, by decide +kernel⟩, List.mem_of_getElem? (i := 23) (by decide +kernel), List.mem_of_getElem? (i := 227) (by decide +kernel), List.mem_of_getElem? (i := 228) (by decide +kernel)⟩
def lw_privs_1 : List (MethodName × Nat) := [(⟨"PartcopyistBench", "turnsAgree", "(I)Z"⟩, 10), (⟨"PartcopyistBench", "makeBlocks", "(I)V"⟩, 10), (⟨"PartcopyistBench", "addToBlocks", "(IILPartcopyistBench$Bar;)V"⟩, 10), (⟨"PartcopyistBench$Blocks", "add", "(IIIIZ)V"⟩, 12), (⟨"PartcopyistBench$Blocks", "isBlock", "(I)Z"⟩, 12), (⟨"PartcopyistBench$Blocks", "makePageFrom", "(I)V"⟩, 12), (⟨"PartcopyistBench$Blocks", "hardTurnAhead", "(I)I"⟩, 12), (⟨"PartcopyistBench", "copyAgrees", "(I)Z"⟩, 10), (⟨"PartcopyistBench", "partOrNull", "(I)LPartcopyistBench$Part;"⟩, 10), (⟨"PartcopyistBench", "touchedDifferences", "(I)I"⟩, 10), (⟨"PartcopyistBench", "comparedDifferences", "(I)I"⟩, 10), (⟨"PartcopyistBench", "spellingsSound", "()Z"⟩, 10), (⟨"PartcopyistBench", "spellingSounds", "(LPartcopyistBench$Note;)Z"⟩, 10), (⟨"PartcopyistBench", "placeOf", "(LPartcopyistBench$Note;)I"⟩, 10), (⟨"PartcopyistBench", "barOrNull", "(I)LPartcopyistBench$Bar;"⟩, 10), (⟨"PartcopyistBench", "writtenPitch", "(LPartcopyistBench$Note;)I"⟩, 10)]
theorem lw_r1 : ∀ q ∈ lw_privs_1, lw_okq q := List.forall_mem_cons.mpr ⟨lw_p0, List.forall_mem_cons.mpr ⟨lw_p1, List.forall_mem_cons.mpr ⟨lw_p2, List.forall_mem_cons.mpr ⟨lw_p3, List.forall_mem_cons.mpr ⟨lw_p4, List.forall_mem_cons.mpr ⟨lw_p5, List.forall_mem_cons.mpr ⟨lw_p6, List.forall_mem_cons.mpr ⟨lw_p7, List.forall_mem_cons.mpr ⟨lw_p8, List.forall_mem_cons.mpr ⟨lw_p9, List.forall_mem_cons.mpr ⟨lw_p10, List.forall_mem_cons.mpr ⟨lw_p11, List.forall_mem_cons.mpr ⟨lw_p12, List.forall_mem_cons.mpr ⟨lw_p13, List.forall_mem_cons.mpr ⟨lw_p14, List.forall_mem_cons.mpr ⟨lw_p15, fun _ h => absurd h List.not_mem_nil⟩⟩⟩⟩⟩⟩⟩⟩⟩⟩⟩⟩⟩⟩⟩⟩
theorem lw_p16 : lw_okq (⟨"java/lang/Throwable", "fillInStackTrace", "(I)Ljava/lang/Throwable;"⟩, 6) := ⟨⟨by decide +kernel, by decide +kernel⟩, List.mem_of_getElem? (i := 294) (by decide +kernel), List.mem_of_getElem? (i := 292) (by decide +kernel), List.mem_of_getElem? (i := 293) (by decide +kernel)⟩
theorem lw_p17 : lw_okq (⟨"PartcopyistBench", "knownBar", "(I)LPartcopyistBench$Bar;"⟩, 10) := ⟨⟨by decide +kernel, by decide +kernel⟩, List.mem_of_getElem? (i := 23) (by decide +kernel), List.mem_of_getElem? (i := 415) (by decide +kernel), List.mem_of_getElem? (i := 416) (by decide +kernel)⟩
theorem lw_p18 : lw_okq (⟨"PartcopyistBench", "knownPart", "(I)LPartcopyistBench$Part;"⟩, 10) := ⟨⟨by decide +kernel, by decide +kernel⟩, List.mem_of_getElem? (i := 23) (by decide +kernel), List.mem_of_getElem? (i := 448) (by decide +kernel), List.mem_of_getElem? (i := 449) (by decide +kernel)⟩
theorem lw_p19 : lw_okq (⟨"PartcopyistBench", "meetsAnother", "(LPartcopyistBench$Note;I)Z"⟩, 10) := ⟨⟨by decide +kernel, by decide +kernel⟩, List.mem_of_getElem? (i := 23) (by decide +kernel), List.mem_of_getElem? (i := 510) (by decide +kernel), List.mem_of_getElem? (i := 511) (by decide +kernel)⟩
theorem lw_p20 : lw_okq (⟨"PartcopyistBench", "knownNote", "(I)LPartcopyistBench$Note;"⟩, 10) := ⟨⟨by decide +kernel, by decide +kernel⟩, List.mem_of_getElem? (i := 23) (by decide +kernel), List.mem_of_getElem? (i := 543) (by decide +kernel), List.mem_of_getElem? (i := 544) (by decide +kernel)⟩
theorem lw_p21 : lw_okq (⟨"PartcopyistBench", "noteOrNull", "(I)LPartcopyistBench$Note;"⟩, 10) := ⟨⟨by decide +kernel, by decide +kernel⟩, List.mem_of_getElem? (i := 23) (by decide +kernel), List.mem_of_getElem? (i := 547) (by decide +kernel), List.mem_of_getElem? (i := 548) (by decide +kernel)⟩
theorem lw_p22 : lw_okq (⟨"PartcopyistBench", "countOfPart", "(I)I"⟩, 10) := ⟨⟨by decide +kernel, by decide +kernel⟩, List.mem_of_getElem? (i := 23) (by decide +kernel), List.mem_of_getElem? (i := 584) (by decide +kernel), List.mem_of_getElem? (i := 585) (by decide +kernel)⟩
theorem lw_p23 : lw_okq (⟨"PartcopyistBench", "countInBar", "(II)I"⟩, 10) := ⟨⟨by decide +kernel, by decide +kernel⟩, List.mem_of_getElem? (i := 23) (by decide +kernel), List.mem_of_getElem? (i := 595) (by decide +kernel), List.mem_of_getElem? (i := 596) (by decide +kernel)⟩
theorem lw_p24 : lw_okq (⟨"PartcopyistBench", "knownNoteInOrder", "(III)I"⟩, 10) := ⟨⟨by decide +kernel, by decide +kernel⟩, List.mem_of_getElem? (i := 23) (by decide +kernel), List.mem_of_getElem? (i := 606) (by decide +kernel), List.mem_of_getElem? (i := 607) (by decide +kernel)⟩
theorem lw_p25 : lw_okq (⟨"PartcopyistBench", "countAhead", "(LPartcopyistBench$Note;)I"⟩, 10) := ⟨⟨by decide +kernel, by decide +kernel⟩, List.mem_of_getElem? (i := 23) (by decide +kernel), List.mem_of_getElem? (i := 610) (by decide +kernel), List.mem_of_getElem? (i := 611) (by decide +kernel)⟩
theorem lw_p26 : lw_okq (⟨"PartcopyistBench", "hasVoice", "(III)Z"⟩, 10) := ⟨⟨by decide +kernel, by decide +kernel⟩, List.mem_of_getElem? (i := 23) (by decide +kernel), List.mem_of_getElem? (i := 640) (by decide +kernel), List.mem_of_getElem? (i := 641) (by decide +kernel)⟩
theorem lw_p27 : lw_okq (⟨"PartcopyistBench", "knownRest", "(II)I"⟩, 10) := ⟨⟨by decide +kernel, by decide +kernel⟩, List.mem_of_getElem? (i := 23) (by decide +kernel), List.mem_of_getElem? (i := 690) (by decide +kernel), List.mem_of_getElem? (i := 691) (by decide +kernel)⟩
theorem lw_p28 : lw_okq (⟨"PartcopyistBench", "knownCue", "(II)I"⟩, 10) := ⟨⟨by decide +kernel, by decide +kernel⟩, List.mem_of_getElem? (i := 23) (by decide +kernel), List.mem_of_getElem? (i := 786) (by decide +kernel), List.mem_of_getElem? (i := 787) (by decide +kernel)⟩
theorem lw_p29 : lw_okq (⟨"PartcopyistBench", "fullestOtherPart", "(II)I"⟩, 10) := ⟨⟨by decide +kernel, by decide +kernel⟩, List.mem_of_getElem? (i := 23) (by decide +kernel), List.mem_of_getElem? (i := 790) (by decide +kernel), List.mem_of_getElem? (i := 791) (by decide +kernel)⟩
theorem lw_p30 : lw_okq (⟨"PartcopyistBench", "bringCopyUpToDate", "(I)V"⟩, 10) := ⟨⟨by decide +kernel, by decide +kernel⟩, List.mem_of_getElem? (i := 23) (by decide +kernel), List.mem_of_getElem? (i := 809) (by decide +kernel), List.mem_of_getElem? (i := 810) (by decide +kernel)⟩
theorem lw_p31 : lw_okq (⟨"PartcopyistBench", "knownCopy", "(I)V"⟩, 10) := ⟨⟨by decide +kernel, by decide +kernel⟩, List.mem_of_getElem? (i := 23) (by decide +kernel), List.mem_of_getElem? (i := 824) (by decide +kernel), List.mem_of_getElem? (i := 825) (by decide +kernel)⟩
def lw_privs_2 : List (MethodName × Nat) := [(⟨"java/lang/Throwable", "fillInStackTrace", "(I)Ljava/lang/Throwable;"⟩, 6), (⟨"PartcopyistBench", "knownBar", "(I)LPartcopyistBench$Bar;"⟩, 10), (⟨"PartcopyistBench", "knownPart", "(I)LPartcopyistBench$Part;"⟩, 10), (⟨"PartcopyistBench", "meetsAnother", "(LPartcopyistBench$Note;I)Z"⟩, 10), (⟨"PartcopyistBench", "knownNote", "(I)LPartcopyistBench$Note;"⟩, 10), (⟨"PartcopyistBench", "noteOrNull", "(I)LPartcopyistBench$Note;"⟩, 10), (⟨"PartcopyistBench", "countOfPart", "(I)I"⟩, 10), (⟨"PartcopyistBench", "countInBar", "(II)I"⟩, 10), (⟨"PartcopyistBench", "knownNoteInOrder", "(III)I"⟩, 10), (⟨"PartcopyistBench", "countAhead", "(LPartcopyistBench$Note;)I"⟩, 10), (⟨"PartcopyistBench", "hasVoice", "(III)Z"⟩, 10), (⟨"PartcopyistBench", "knownRest", "(II)I"⟩, 10), (⟨"PartcopyistBench", "knownCue", "(II)I"⟩, 10), (⟨"PartcopyistBench", "fullestOtherPart", "(II)I"⟩, 10), (⟨"PartcopyistBench", "bringCopyUpToDate", "(I)V"⟩, 10), (⟨"PartcopyistBench", "knownCopy", "(I)V"⟩, 10)]
theorem lw_r2 : ∀ q ∈ lw_privs_2, lw_okq q := List.forall_mem_cons.mpr ⟨lw_p16, List.forall_mem_cons.mpr ⟨lw_p17, List.forall_mem_cons.mpr ⟨lw_p18, List.forall_mem_cons.mpr ⟨lw_p19, List.forall_mem_cons.mpr ⟨lw_p20, List.forall_mem_cons.mpr ⟨lw_p21, List.forall_mem_cons.mpr ⟨lw_p22, List.forall_mem_cons.mpr ⟨lw_p23, List.forall_mem_cons.mpr ⟨lw_p24, List.forall_mem_cons.mpr ⟨lw_p25, List.forall_mem_cons.mpr ⟨lw_p26, List.forall_mem_cons.mpr ⟨lw_p27, List.forall_mem_cons.mpr ⟨lw_p28, List.forall_mem_cons.mpr ⟨lw_p29, List.forall_mem_cons.mpr ⟨lw_p30, List.forall_mem_cons.mpr ⟨lw_p31, fun _ h => absurd h List.not_mem_nil⟩⟩⟩⟩⟩⟩⟩⟩⟩⟩⟩⟩⟩⟩⟩⟩
theorem lw_p32 : lw_okq (⟨"PartcopyistBench", "sumOfPitches", "(I)I"⟩, 10) := ⟨⟨by decide +kernel, by decide +kernel⟩, List.mem_of_getElem? (i := 23) (by decide +kernel), List.mem_of_getElem? (i := 876) (by decide +kernel), List.mem_of_getElem? (i := 877) (by decide +kernel)⟩
theorem lw_p33 : lw_okq (⟨"PartcopyistBench", "countOfEmptyBars", "(I)I"⟩, 10) := ⟨⟨by decide +kernel, by decide +kernel⟩, List.mem_of_getElem? (i := 23) (by decide +kernel), List.mem_of_getElem? (i := 888) (by decide +kernel), List.mem_of_getElem? (i := 889) (by decide +kernel)⟩
theorem lw_p34 : lw_okq (⟨"PartcopyistBenchModel", "fails", "(I)I"⟩, 27) := ⟨⟨by decide +kernel, by decide +kernel⟩, List.mem_of_getElem? (i := 892) (by decide +kernel), List.mem_of_getElem? (i := 991) (by decide +kernel), List.mem_of_getElem? (i := 992) (by decide +kernel)⟩
theorem lw_p35 : lw_okq (⟨"PartcopyistBenchModel", "isBar", "(I)Z"⟩, 27) := ⟨⟨by decide +kernel, by decide +kernel⟩, List.mem_of_getElem? (i := 892) (by decide +kernel), List.mem_of_getElem? (i := 1003) (by decide +kernel), List.mem_of_getElem? (i := 1004) (by decide +kernel)⟩
theorem lw_p36 : lw_okq (⟨"PartcopyistBenchModel", "isWrong", "(I)Z"⟩, 27) := ⟨⟨by decide +kernel, by decide +kernel⟩, List.mem_of_getElem? (i := 892) (by decide +kernel), List.mem_of_getElem? (i := 1007) (by decide +kernel), List.mem_of_getElem? (i := 1008) (by decide +kernel)⟩
theorem lw_p37 : lw_okq (⟨"PartcopyistBenchModel", "isPart", "(I)Z"⟩, 27) := ⟨⟨by decide +kernel, by decide +kernel⟩, List.mem_of_getElem? (i := 892) (by decide +kernel), List.mem_of_getElem? (i := 1019) (by decide +kernel), List.mem_of_getElem? (i := 1020) (by decide +kernel)⟩
theorem lw_p38 : lw_okq (⟨"PartcopyistBenchModel", "isWithin", "(III)Z"⟩, 27) := ⟨⟨by decide +kernel, by decide +kernel⟩, List.mem_of_getElem? (i := 892) (by decide +kernel), List.mem_of_getElem? (i := 1023) (by decide +kernel), List.mem_of_getElem? (i := 1024) (by decide +kernel)⟩
theorem lw_p39 : lw_okq (⟨"PartcopyistBenchModel", "isTaken", "(IIIIII)Z"⟩, 27) := ⟨⟨by decide +kernel, by decide +kernel⟩, List.mem_of_getElem? (i := 892) (by decide +kernel), List.mem_of_getElem? (i := 1027) (by decide +kernel), List.mem_of_getElem? (i := 1028) (by decide +kernel)⟩
theorem lw_p40 : lw_okq (⟨"PartcopyistBenchModel", "isAt", "(III)Z"⟩, 27) := ⟨⟨by decide +kernel, by decide +kernel⟩, List.mem_of_getElem? (i := 892) (by decide +kernel), List.mem_of_getElem? (i := 1031) (by decide +kernel), List.mem_of_getElem? (i := 1032) (by decide +kernel)⟩
theorem lw_p41 : lw_okq (⟨"PartcopyistBenchModel", "isNote", "(I)Z"⟩, 27) := ⟨⟨by decide +kernel, by decide +kernel⟩, List.mem_of_getElem? (i := 892) (by decide +kernel), List.mem_of_getElem? (i := 1039) (by decide +kernel), List.mem_of_getElem? (i := 1040) (by decide +kernel)⟩
theorem lw_p42 : lw_okq (⟨"PartcopyistBenchModel", "manyOf", "(I)I"⟩, 27) := ⟨⟨by decide +kernel, by decide +kernel⟩, List.mem_of_getElem? (i := 892) (by decide +kernel), List.mem_of_getElem? (i := 1051) (by decide +kernel), List.mem_of_getElem? (i := 1052) (by decide +kernel)⟩
theorem lw_p43 : lw_okq (⟨"PartcopyistBenchModel", "isNowhere", "(II)Z"⟩, 27) := ⟨⟨by decide +kernel, by decide +kernel⟩, List.mem_of_getElem? (i := 892) (by decide +kernel), List.mem_of_getElem? (i := 1059) (by decide +kernel), List.mem_of_getElem? (i := 1060) (by decide +kernel)⟩
theorem lw_p44 : lw_okq (⟨"PartcopyistBenchModel", "many", "(II)I"⟩, 27) := ⟨⟨by decide +kernel, by decide +kernel⟩, List.mem_of_getElem? (i := 892) (by decide +kernel), List.mem_of_getElem? (i := 1063) (by decide +kernel), List.mem_of_getElem? (i := 1064) (by decide +kernel)⟩
theorem lw_p45 : lw_okq (⟨"PartcopyistBenchModel", "noteBy", "(III)I"⟩, 27) := ⟨⟨by decide +kernel, by decide +kernel⟩, List.mem_of_getElem? (i := 892) (by decide +kernel), List.mem_of_getElem? (i := 1071) (by decide +kernel), List.mem_of_getElem? (i := 1072) (by decide +kernel)⟩
theorem lw_p46 : lw_okq (⟨"PartcopyistBenchModel", "isNone", "(I)Z"⟩, 27) := ⟨⟨by decide +kernel, by decide +kernel⟩, List.mem_of_getElem? (i := 892) (by decide +kernel), List.mem_of_getElem? (i := 1079) (by decide +kernel), List.mem_of_getElem? (i := 1080) (by decide +kernel)⟩
theorem lw_p47 : lw_okq (⟨"PartcopyistBenchModel", "writtenOf", "(I)I"⟩, 27) := ⟨⟨by decide +kernel, by decide +kernel⟩, List.mem_of_getElem? (i := 892) (by decide +kernel), List.mem_of_getElem? (i := 1095) (by decide +kernel), List.mem_of_getElem? (i := 1096) (by decide +kernel)⟩
def lw_privs_3 : List (MethodName × Nat) := [(⟨"PartcopyistBench", "sumOfPitches", "(I)I"⟩, 10), (⟨"PartcopyistBench", "countOfEmptyBars", "(I)I"⟩, 10), (⟨"PartcopyistBenchModel", "fails", "(I)I"⟩, 27), (⟨"PartcopyistBenchModel", "isBar", "(I)Z"⟩, 27), (⟨"PartcopyistBenchModel", "isWrong", "(I)Z"⟩, 27), (⟨"PartcopyistBenchModel", "isPart", "(I)Z"⟩, 27), (⟨"PartcopyistBenchModel", "isWithin", "(III)Z"⟩, 27), (⟨"PartcopyistBenchModel", "isTaken", "(IIIIII)Z"⟩, 27), (⟨"PartcopyistBenchModel", "isAt", "(III)Z"⟩, 27), (⟨"PartcopyistBenchModel", "isNote", "(I)Z"⟩, 27), (⟨"PartcopyistBenchModel", "manyOf", "(I)I"⟩, 27), (⟨"PartcopyistBenchModel", "isNowhere", "(II)Z"⟩, 27), (⟨"PartcopyistBenchModel", "many", "(II)I"⟩, 27), (⟨"PartcopyistBenchModel", "noteBy", "(III)I"⟩, 27), (⟨"PartcopyistBenchModel", "isNone", "(I)Z"⟩, 27), (⟨"PartcopyistBenchModel", "writtenOf", "(I)I"⟩, 27)]
theorem lw_r3 : ∀ q ∈ lw_privs_3, lw_okq q := List.forall_mem_cons.mpr ⟨lw_p32, List.forall_mem_cons.mpr ⟨lw_p33, List.forall_mem_cons.mpr ⟨lw_p34, List.forall_mem_cons.mpr ⟨lw_p35, List.forall_mem_cons.mpr ⟨lw_p36, List.forall_mem_cons.mpr ⟨lw_p37, List.forall_mem_cons.mpr ⟨lw_p38, List.forall_mem_cons.mpr ⟨lw_p39, List.forall_mem_cons.mpr ⟨lw_p40, List.forall_mem_cons.mpr ⟨lw_p41, List.forall_mem_cons.mpr ⟨lw_p42, List.forall_mem_cons.mpr ⟨lw_p43, List.forall_mem_cons.mpr ⟨lw_p44, List.forall_mem_cons.mpr ⟨lw_p45, List.forall_mem_cons.mpr ⟨lw_p46, List.forall_mem_cons.mpr ⟨lw_p47, fun _ h => absurd h List.not_mem_nil⟩⟩⟩⟩⟩⟩⟩⟩⟩⟩⟩⟩⟩⟩⟩⟩
theorem lw_p48 : lw_okq (⟨"PartcopyistBenchModel", "keyOf", "(II)I"⟩, 27) := ⟨⟨by decide +kernel, by decide +kernel⟩, List.mem_of_getElem? (i := 892) (by decide +kernel), List.mem_of_getElem? (i := 1103) (by decide +kernel), List.mem_of_getElem? (i := 1104) (by decide +kernel)⟩
theorem lw_p49 : lw_okq (⟨"PartcopyistBenchModel", "placeOf", "(I)I"⟩, 27) := ⟨⟨by decide +kernel, by decide +kernel⟩, List.mem_of_getElem? (i := 892) (by decide +kernel), List.mem_of_getElem? (i := 1115) (by decide +kernel), List.mem_of_getElem? (i := 1116) (by decide +kernel)⟩
theorem lw_p50 : lw_okq (⟨"PartcopyistBenchModel", "isNoPart", "(I)Z"⟩, 27) := ⟨⟨by decide +kernel, by decide +kernel⟩, List.mem_of_getElem? (i := 892) (by decide +kernel), List.mem_of_getElem? (i := 1167) (by decide +kernel), List.mem_of_getElem? (i := 1168) (by decide +kernel)⟩
theorem lw_p51 : lw_okq (⟨"PartcopyistBenchModel", "finds", "(I)V"⟩, 27) := ⟨⟨by decide +kernel, by decide +kernel⟩, List.mem_of_getElem? (i := 892) (by decide +kernel), List.mem_of_getElem? (i := 1171) (by decide +kernel), List.mem_of_getElem? (i := 1172) (by decide +kernel)⟩
theorem lw_p52 : lw_okq (⟨"PartcopyistBenchModel", "blockOf", "(II)I"⟩, 27) := ⟨⟨by decide +kernel, by decide +kernel⟩, List.mem_of_getElem? (i := 892) (by decide +kernel), List.mem_of_getElem? (i := 1179) (by decide +kernel), List.mem_of_getElem? (i := 1180) (by decide +kernel)⟩
theorem lw_p53 : lw_okq (⟨"PartcopyistBenchModel", "makes", "(I)V"⟩, 27) := ⟨⟨by decide +kernel, by decide +kernel⟩, List.mem_of_getElem? (i := 892) (by decide +kernel), List.mem_of_getElem? (i := 1203) (by decide +kernel), List.mem_of_getElem? (i := 1204) (by decide +kernel)⟩
theorem lw_p54 : lw_okq (⟨"PartcopyistBenchModel", "turnBehind", "(II)I"⟩, 27) := ⟨⟨by decide +kernel, by decide +kernel⟩, List.mem_of_getElem? (i := 892) (by decide +kernel), List.mem_of_getElem? (i := 1207) (by decide +kernel), List.mem_of_getElem? (i := 1208) (by decide +kernel)⟩
theorem lw_p55 : lw_okq (⟨"PartcopyistBenchModel", "quiet", "(IIZ)I"⟩, 27) := ⟨⟨by decide +kernel, by decide +kernel⟩, List.mem_of_getElem? (i := 892) (by decide +kernel), List.mem_of_getElem? (i := 1211) (by decide +kernel), List.mem_of_getElem? (i := 1212) (by decide +kernel)⟩
theorem lw_p56 : lw_okq (⟨"PartcopyistBenchModel", "lastBar", "(I)I"⟩, 27) := ⟨⟨by decide +kernel, by decide +kernel⟩, List.mem_of_getElem? (i := 892) (by decide +kernel), List.mem_of_getElem? (i := 1215) (by decide +kernel), List.mem_of_getElem? (i := 1216) (by decide +kernel)⟩
theorem lw_p57 : lw_okq (⟨"PartcopyistBenchModel", "cueOf", "(II)I"⟩, 27) := ⟨⟨by decide +kernel, by decide +kernel⟩, List.mem_of_getElem? (i := 892) (by decide +kernel), List.mem_of_getElem? (i := 1238) (by decide +kernel), List.mem_of_getElem? (i := 1239) (by decide +kernel)⟩
theorem lw_p58 : lw_okq (⟨"PartcopyistBenchModel", "takes", "(I)V"⟩, 27) := ⟨⟨by decide +kernel, by decide +kernel⟩, List.mem_of_getElem? (i := 892) (by decide +kernel), List.mem_of_getElem? (i := 1251) (by decide +kernel), List.mem_of_getElem? (i := 1252) (by decide +kernel)⟩
theorem lw_p59 : lw_okq (⟨"PartcopyistBenchModel", "isNotCopied", "(I)Z"⟩, 27) := ⟨⟨by decide +kernel, by decide +kernel⟩, List.mem_of_getElem? (i := 892) (by decide +kernel), List.mem_of_getElem? (i := 1259) (by decide +kernel), List.mem_of_getElem? (i := 1260) (by decide +kernel)⟩
theorem lw_p60 : lw_okq (⟨"PartcopyistBenchModel", "differs", "(I)I"⟩, 27) := ⟨⟨by decide +kernel, by decide +kernel⟩, List.mem_of_getElem? (i := 892) (by decide +kernel), List.mem_of_getElem? (i := 1263) (by decide +kernel), List.mem_of_getElem? (i := 1264) (by decide +kernel)⟩
def lw_privs_4 : List (MethodName × Nat) := [(⟨"PartcopyistBenchModel", "keyOf", "(II)I"⟩, 27), (⟨"PartcopyistBenchModel", "placeOf", "(I)I"⟩, 27), (⟨"PartcopyistBenchModel", "isNoPart", "(I)Z"⟩, 27), (⟨"PartcopyistBenchModel", "finds", "(I)V"⟩, 27), (⟨"PartcopyistBenchModel", "blockOf", "(II)I"⟩, 27), (⟨"PartcopyistBenchModel", "makes", "(I)V"⟩, 27), (⟨"PartcopyistBenchModel", "turnBehind", "(II)I"⟩, 27), (⟨"PartcopyistBenchModel", "quiet", "(IIZ)I"⟩, 27), (⟨"PartcopyistBenchModel", "lastBar", "(I)I"⟩, 27), (⟨"PartcopyistBenchModel", "cueOf", "(II)I"⟩, 27), (⟨"PartcopyistBenchModel", "takes", "(I)V"⟩, 27), (⟨"PartcopyistBenchModel", "isNotCopied", "(I)Z"⟩, 27), (⟨"PartcopyistBenchModel", "differs", "(I)I"⟩, 27)]
theorem lw_r4 : ∀ q ∈ lw_privs_4, lw_okq q := List.forall_mem_cons.mpr ⟨lw_p48, List.forall_mem_cons.mpr ⟨lw_p49, List.forall_mem_cons.mpr ⟨lw_p50, List.forall_mem_cons.mpr ⟨lw_p51, List.forall_mem_cons.mpr ⟨lw_p52, List.forall_mem_cons.mpr ⟨lw_p53, List.forall_mem_cons.mpr ⟨lw_p54, List.forall_mem_cons.mpr ⟨lw_p55, List.forall_mem_cons.mpr ⟨lw_p56, List.forall_mem_cons.mpr ⟨lw_p57, List.forall_mem_cons.mpr ⟨lw_p58, List.forall_mem_cons.mpr ⟨lw_p59, List.forall_mem_cons.mpr ⟨lw_p60, fun _ h => absurd h List.not_mem_nil⟩⟩⟩⟩⟩⟩⟩⟩⟩⟩⟩⟩⟩
def lw_privs : List (MethodName × Nat) := lw_privs_1 ++ (lw_privs_2 ++ (lw_privs_3 ++ (lw_privs_4)))
def lw_tbl : List Cond := k2_sels lw_privs ++ tables_1
theorem lw_privs_ok : ∀ q ∈ lw_privs, lw_okq q := by
  show ∀ q ∈ lw_privs_1 ++ (lw_privs_2 ++ (lw_privs_3 ++ (lw_privs_4))), lw_okq q
  exact List.forall_mem_append.mpr ⟨lw_r1, List.forall_mem_append.mpr ⟨lw_r2, List.forall_mem_append.mpr ⟨lw_r3, lw_r4⟩⟩⟩
/-- the streams that the claim lets the run draw from -/
abbrev lw_cs : List Choice := [Jvm.Choice.named "NaN.bits"]
theorem lw_bits : nanBits ∈ lw_cs := by first | decide | exact List.mem_cons_self | simp [lw_cs, nanBits]
-- ===== end of PART A; then your names; then what follows =====
def wsL_addPart : List Cond := .codeWith yL_addPart cL_addPart 4 (some .int) [(0, 9, 12, 13), (0, 9, 15, 15)] :: ([.classLink RL 13 "java/lang/IllegalArgumentException", .classLink RL 15 "java/lang/IllegalStateException", .methodLink RL 7 yX4_addPart, .instanceMethod yX4_addPart, .selects RX4 yX4_addPart yX4_addPart, .initialized RX4, .code yX4_addPart cX4_addPart 3 (some .int), .classLink RX4 53 "java/lang/IllegalArgumentException", .initialized "java/lang/IllegalArgumentException", .classLink RX4 60 "java/lang/IllegalStateException", .initialized "java/lang/IllegalStateException", .fieldLink RX4 34 "PartcopyistBench" "partCount" "I", .fieldLink RX4 11 "PartcopyistBench" "parts" "[LPartcopyistBench$Part;", .classLink RX4 9 RX3, .instantiable RX3 2, .initialized RX3, .methodLink RX4 65 yX3_init, .instanceMethod yX3_init, .code yX3_init cX3_init 2 none, .methodLink RX3 1 objectInit, .instanceMethod objectInit, .code objectInit ⟨#[0xb1]⟩ 1 none, .fieldLink RX3 7 "PartcopyistBench$Part" "isCopied" "Z", .fieldLink RX3 13 "PartcopyistBench$Part" "shift" "I"] ++ wsX40 ++ wsX30 ++ (vx_atM "java/lang/ArrayIndexOutOfBoundsException" ["java/lang/IndexOutOfBoundsException", "java/lang/RuntimeException", "java/lang/Exception"]).filter goodWord ++ (vx_atS RX4 57 "java/lang/IllegalArgumentException" ["java/lang/RuntimeException", "java/lang/Exception"]).filter goodWord ++ (vx_atS RX4 64 "java/lang/IllegalStateException" ["java/lang/RuntimeException", "java/lang/Exception"]).filter goodWord)
def wsL_addBar_r1 : List Cond := [Cond.classLink RL 13 "java/lang/IllegalArgumentException", Cond.classLink RL 15 "java/lang/IllegalStateException", Cond.methodLink RL 17 yX4_addBar, Cond.instanceMethod yX4_addBar, Cond.selects RX4 yX4_addBar yX4_addBar, Cond.initialized RX4, Cond.code yX4_addBar cX4_addBar 5 (some .int), Cond.classLink RX4 53 "java/lang/IllegalArgumentException", Cond.initialized "java/lang/IllegalArgumentException", Cond.classLink RX4 60 "java/lang/IllegalStateException", Cond.initialized "java/lang/IllegalStateException", Cond.fieldLink RX4 38 "PartcopyistBench" "barCount" "I", Cond.fieldLink RX4 17 "PartcopyistBench" "bars" "[LPartcopyistBench$Bar;", Cond.classLink RX4 15 RX0, Cond.instantiable RX0 3, Cond.initialized RX0, Cond.methodLink RX4 68 yX4_isKey, Cond.static yX4_isKey, Cond.code yX4_isKey cX4_isKey 1 (some .boolean), Cond.methodLink RX4 76 yX0_init, Cond.instanceMethod yX0_init, Cond.code yX0_init cX0_init 4 none, Cond.methodLink RX0 1 objectInit, Cond.instanceMethod objectInit]
def wsL_addBar_r2 : List Cond := [Cond.code objectInit ⟨#[0xb1]⟩ 1 none, Cond.fieldLink RX0 7 "PartcopyistBench$Bar" "ticks" "I", Cond.fieldLink RX0 13 "PartcopyistBench$Bar" "key" "I", Cond.fieldLink RX0 16 "PartcopyistBench$Bar" "hasMark" "Z"]
def wsL_addBar : List Cond := .codeWith yL_addBar cL_addBar 6 (some .int) [(0, 12, 15, 13), (0, 12, 19, 15)] :: ((wsL_addBar_r1 ++ wsL_addBar_r2) ++ wsX40 ++ wsX00 ++ (vx_atM "java/lang/ArrayIndexOutOfBoundsException" ["java/lang/IndexOutOfBoundsException", "java/lang/RuntimeException", "java/lang/Exception"]).filter goodWord ++ (vx_atS RX4 57 "java/lang/IllegalArgumentException" ["java/lang/RuntimeException", "java/lang/Exception"]).filter goodWord ++ (vx_atS RX4 64 "java/lang/IllegalStateException" ["java/lang/RuntimeException", "java/lang/Exception"]).filter goodWord)
def wsL_setMark : List Cond := .codeWith yL_setMark cL_setMark 5 (some .int) [(0, 17, 20, 25)] :: ([.classLink RL 25 "java/lang/IndexOutOfBoundsException", .methodLink RL 21 yX4_setMark, .instanceMethod yX4_setMark, .selects RX4 yX4_setMark yX4_setMark, .initialized RX4, .code yX4_setMark cX4_setMark 5 (some .boolean), .fieldLink RX4 83 "PartcopyistBench$Bar" "hasMark" "Z", .methodLink RX4 79 yX4_knownBar, .instanceMethod yX4_knownBar, .selects RX4 yX4_knownBar yX4_knownBar, .code yX4_knownBar cX4_knownBar 3 (some (.object "PartcopyistBench$Bar")), .classLink RX4 292 "java/lang/IndexOutOfBoundsException", .initialized "java/lang/IndexOutOfBoundsException", .methodLink RX4 134 yX4_barOrNull, .instanceMethod yX4_barOrNull, .selects RX4 yX4_barOrNull yX4_barOrNull, .code yX4_barOrNull cX4_barOrNull 2 (some (.object "PartcopyistBench$Bar")), .fieldLink RX4 17 "PartcopyistBench" "bars" "[LPartcopyistBench$Bar;"] ++ wsX00 ++ wsX40 ++ (vx_atM "java/lang/ArrayIndexOutOfBoundsException" ["java/lang/IndexOutOfBoundsException", "java/lang/RuntimeException", "java/lang/Exception"]).filter goodWord ++ (vx_atS RX4 296 "java/lang/IndexOutOfBoundsException" ["java/lang/RuntimeException", "java/lang/Exception"]).filter goodWord)
def wsL_setKey : List Cond := .codeWith yL_setKey cL_setKey 5 (some .int) [(0, 10, 13, 25), (0, 10, 17, 13)] :: ([.classLink RL 25 "java/lang/IndexOutOfBoundsException", .classLink RL 13 "java/lang/IllegalArgumentException", .methodLink RL 27 yX4_setKey, .instanceMethod yX4_setKey, .selects RX4 yX4_setKey yX4_setKey, .initialized RX4, .code yX4_setKey cX4_setKey 5 (some .int), .classLink RX4 53 "java/lang/IllegalArgumentException", .initialized "java/lang/IllegalArgumentException", .fieldLink RX4 89 "PartcopyistBench$Bar" "key" "I", .methodLink RX4 79 yX4_knownBar, .instanceMethod yX4_knownBar, .selects RX4 yX4_knownBar yX4_knownBar, .code yX4_knownBar cX4_knownBar 3 (some (.object "PartcopyistBench$Bar")), .classLink RX4 292 "java/lang/IndexOutOfBoundsException", .initialized "java/lang/IndexOutOfBoundsException", .methodLink RX4 134 yX4_barOrNull, .instanceMethod yX4_barOrNull, .selects RX4 yX4_barOrNull yX4_barOrNull, .code yX4_barOrNull cX4_barOrNull 2 (some (.object "PartcopyistBench$Bar")), .fieldLink RX4 17 "PartcopyistBench" "bars" "[LPartcopyistBench$Bar;", .methodLink RX4 68 yX4_isKey, .static yX4_isKey, .code yX4_isKey cX4_isKey 1 (some .boolean)] ++ wsX00 ++ wsX40 ++ (vx_atM "java/lang/ArrayIndexOutOfBoundsException" ["java/lang/IndexOutOfBoundsException", "java/lang/RuntimeException", "java/lang/Exception"]).filter goodWord ++ (vx_atS RX4 57 "java/lang/IllegalArgumentException" ["java/lang/RuntimeException", "java/lang/Exception"]).filter goodWord ++ (vx_atS RX4 296 "java/lang/IndexOutOfBoundsException" ["java/lang/RuntimeException", "java/lang/Exception"]).filter goodWord)
def wsL_addNote_r1 : List Cond := [Cond.classLink RL 25 "java/lang/IndexOutOfBoundsException", Cond.classLink RL 13 "java/lang/IllegalArgumentException", Cond.classLink RL 35 "java/lang/UnsupportedOperationException", Cond.classLink RL 15 "java/lang/IllegalStateException", Cond.methodLink RL 31 yX4_addNote, Cond.instanceMethod yX4_addNote, Cond.selects RX4 yX4_addNote yX4_addNote, Cond.initialized RX4, Cond.code yX4_addNote cX4_addNote 10 (some .int), Cond.classLink RX4 53 "java/lang/IllegalArgumentException", Cond.initialized "java/lang/IllegalArgumentException", Cond.classLink RX4 112 "java/lang/UnsupportedOperationException", Cond.initialized "java/lang/UnsupportedOperationException", Cond.classLink RX4 60 "java/lang/IllegalStateException", Cond.initialized "java/lang/IllegalStateException", Cond.classLink RX4 21 RX2, Cond.instantiable RX2 11, Cond.initialized RX2, Cond.fieldLink RX4 41 "PartcopyistBench" "noteCount" "I", Cond.fieldLink RX4 23 "PartcopyistBench" "notes" "[LPartcopyistBench$Note;", Cond.methodLink RX4 92 yX4_knownPart, Cond.instanceMethod yX4_knownPart, Cond.selects RX4 yX4_knownPart yX4_knownPart, Cond.code yX4_knownPart cX4_knownPart 3 (some (.object "PartcopyistBench$Part"))]
def wsL_addNote_r2 : List Cond := [Cond.classLink RX4 292 "java/lang/IndexOutOfBoundsException", Cond.initialized "java/lang/IndexOutOfBoundsException", Cond.methodLink RX4 258 yX4_partOrNull, Cond.instanceMethod yX4_partOrNull, Cond.selects RX4 yX4_partOrNull yX4_partOrNull, Cond.code yX4_partOrNull cX4_partOrNull 2 (some (.object "PartcopyistBench$Part")), Cond.fieldLink RX4 11 "PartcopyistBench" "parts" "[LPartcopyistBench$Part;", Cond.methodLink RX4 79 yX4_knownBar, Cond.instanceMethod yX4_knownBar, Cond.selects RX4 yX4_knownBar yX4_knownBar, Cond.code yX4_knownBar cX4_knownBar 3 (some (.object "PartcopyistBench$Bar")), Cond.methodLink RX4 134 yX4_barOrNull, Cond.instanceMethod yX4_barOrNull, Cond.selects RX4 yX4_barOrNull yX4_barOrNull, Cond.code yX4_barOrNull cX4_barOrNull 2 (some (.object "PartcopyistBench$Bar")), Cond.fieldLink RX4 17 "PartcopyistBench" "bars" "[LPartcopyistBench$Bar;", Cond.methodLink RX4 96 yX4_isPitch, Cond.static yX4_isPitch, Cond.code yX4_isPitch cX4_isPitch 1 (some .boolean), Cond.methodLink RX4 99 yX0_holds, Cond.instanceMethod yX0_holds, Cond.selects RX0 yX0_holds yX0_holds, Cond.initialized RX0, Cond.code yX0_holds cX0_holds 3 (some .boolean)]
def wsL_addNote_r3 : List Cond := [Cond.fieldLink RX0 7 "PartcopyistBench$Bar" "ticks" "I", Cond.methodLink RX4 105 yX2_init, Cond.instanceMethod yX2_init, Cond.code yX2_init cX2_init 7 none, Cond.methodLink RX2 1 objectInit, Cond.instanceMethod objectInit, Cond.code objectInit ⟨#[0xb1]⟩ 1 none, Cond.fieldLink RX2 7 "PartcopyistBench$Note" "isIn" "Z", Cond.fieldLink RX2 13 "PartcopyistBench$Note" "isInCopy" "Z", Cond.fieldLink RX2 16 "PartcopyistBench$Note" "copyLength" "I", Cond.fieldLink RX2 20 "PartcopyistBench$Note" "copyPitch" "I", Cond.fieldLink RX2 23 "PartcopyistBench$Note" "isTouched" "Z", Cond.fieldLink RX2 26 "PartcopyistBench$Note" "part" "I", Cond.fieldLink RX2 29 "PartcopyistBench$Note" "bar" "I", Cond.fieldLink RX2 32 "PartcopyistBench$Note" "voice" "I", Cond.fieldLink RX2 35 "PartcopyistBench$Note" "tick" "I", Cond.fieldLink RX2 38 "PartcopyistBench$Note" "length" "I", Cond.fieldLink RX2 41 "PartcopyistBench$Note" "pitch" "I", Cond.methodLink RX4 108 yX4_meetsAnother, Cond.instanceMethod yX4_meetsAnother, Cond.selects RX4 yX4_meetsAnother yX4_meetsAnother, Cond.code yX4_meetsAnother cX4_meetsAnother 5 (some .boolean), Cond.fieldLink RX4 150 "PartcopyistBench$Note" "part" "I", Cond.fieldLink RX4 131 "PartcopyistBench$Note" "bar" "I"]
def wsL_addNote_r4 : List Cond := [Cond.fieldLink RX4 306 "PartcopyistBench$Note" "voice" "I", Cond.fieldLink RX4 137 "PartcopyistBench$Note" "tick" "I", Cond.methodLink RX4 303 yX2_isAt, Cond.instanceMethod yX2_isAt, Cond.selects RX2 yX2_isAt yX2_isAt, Cond.code yX2_isAt cX2_isAt 3 (some .boolean), Cond.methodLink RX4 309 yX2_sharesTicks, Cond.instanceMethod yX2_sharesTicks, Cond.selects RX2 yX2_sharesTicks yX2_sharesTicks, Cond.code yX2_sharesTicks cX2_sharesTicks 3 (some .boolean)]
def wsL_addNote : List Cond := .codeWith yL_addNote cL_addNote 9 (some .int) [(0, 18, 21, 25), (0, 18, 25, 13), (0, 18, 29, 35), (0, 18, 33, 15)] :: ((wsL_addNote_r1 ++ (wsL_addNote_r2 ++ (wsL_addNote_r3 ++ wsL_addNote_r4))) ++ wsX20 ++ wsX40 ++ wsX00 ++ (vx_atM "java/lang/ArrayIndexOutOfBoundsException" ["java/lang/IndexOutOfBoundsException", "java/lang/RuntimeException", "java/lang/Exception"]).filter goodWord ++ (vx_atS RX4 57 "java/lang/IllegalArgumentException" ["java/lang/RuntimeException", "java/lang/Exception"]).filter goodWord ++ (vx_atS RX4 116 "java/lang/UnsupportedOperationException" ["java/lang/RuntimeException", "java/lang/Exception"]).filter goodWord ++ (vx_atS RX4 64 "java/lang/IllegalStateException" ["java/lang/RuntimeException", "java/lang/Exception"]).filter goodWord ++ (vx_atS RX4 296 "java/lang/IndexOutOfBoundsException" ["java/lang/RuntimeException", "java/lang/Exception"]).filter goodWord)
def wsL_correct_r1 : List Cond := [Cond.classLink RL 40 "java/util/NoSuchElementException", Cond.classLink RL 13 "java/lang/IllegalArgumentException", Cond.methodLink RL 37 yX4_correct, Cond.instanceMethod yX4_correct, Cond.selects RX4 yX4_correct yX4_correct, Cond.initialized RX4, Cond.code yX4_correct cX4_correct 5 (some .int), Cond.classLink RX4 53 "java/lang/IllegalArgumentException", Cond.initialized "java/lang/IllegalArgumentException", Cond.fieldLink RX4 125 "PartcopyistBench$Note" "pitch" "I", Cond.fieldLink RX4 128 "PartcopyistBench$Note" "isTouched" "Z", Cond.methodLink RX4 119 yX4_knownNote, Cond.instanceMethod yX4_knownNote, Cond.selects RX4 yX4_knownNote yX4_knownNote, Cond.code yX4_knownNote cX4_knownNote 3 (some (.object "PartcopyistBench$Note")), Cond.classLink RX4 224 "java/util/NoSuchElementException", Cond.initialized "java/util/NoSuchElementException", Cond.fieldLink RX4 147 "PartcopyistBench$Note" "isIn" "Z", Cond.methodLink RX4 253 yX4_noteOrNull, Cond.instanceMethod yX4_noteOrNull, Cond.selects RX4 yX4_noteOrNull yX4_noteOrNull, Cond.code yX4_noteOrNull cX4_noteOrNull 2 (some (.object "PartcopyistBench$Note")), Cond.fieldLink RX4 23 "PartcopyistBench" "notes" "[LPartcopyistBench$Note;", Cond.methodLink RX4 96 yX4_isPitch]
def wsL_correct_r2 : List Cond := [Cond.static yX4_isPitch, Cond.code yX4_isPitch cX4_isPitch 1 (some .boolean)]
def wsL_correct : List Cond := .codeWith yL_correct cL_correct 5 (some .int) [(0, 10, 13, 40), (0, 10, 17, 13)] :: ((wsL_correct_r1 ++ wsL_correct_r2) ++ wsX20 ++ wsX40 ++ (vx_atM "java/lang/ArrayIndexOutOfBoundsException" ["java/lang/IndexOutOfBoundsException", "java/lang/RuntimeException", "java/lang/Exception"]).filter goodWord ++ (vx_atS RX4 57 "java/lang/IllegalArgumentException" ["java/lang/RuntimeException", "java/lang/Exception"]).filter goodWord ++ (vx_atS RX4 228 "java/util/NoSuchElementException" ["java/lang/RuntimeException", "java/lang/Exception"]).filter goodWord)
def wsL_stretch_r1 : List Cond := [Cond.classLink RL 40 "java/util/NoSuchElementException", Cond.classLink RL 13 "java/lang/IllegalArgumentException", Cond.classLink RL 35 "java/lang/UnsupportedOperationException", Cond.methodLink RL 42 yX4_stretch, Cond.instanceMethod yX4_stretch, Cond.selects RX4 yX4_stretch yX4_stretch, Cond.initialized RX4, Cond.code yX4_stretch cX4_stretch 6 (some .int), Cond.classLink RX4 53 "java/lang/IllegalArgumentException", Cond.initialized "java/lang/IllegalArgumentException", Cond.classLink RX4 112 "java/lang/UnsupportedOperationException", Cond.initialized "java/lang/UnsupportedOperationException", Cond.fieldLink RX4 131 "PartcopyistBench$Note" "bar" "I", Cond.fieldLink RX4 137 "PartcopyistBench$Note" "tick" "I", Cond.fieldLink RX4 144 "PartcopyistBench$Note" "length" "I", Cond.fieldLink RX4 128 "PartcopyistBench$Note" "isTouched" "Z", Cond.methodLink RX4 119 yX4_knownNote, Cond.instanceMethod yX4_knownNote, Cond.selects RX4 yX4_knownNote yX4_knownNote, Cond.code yX4_knownNote cX4_knownNote 3 (some (.object "PartcopyistBench$Note")), Cond.classLink RX4 224 "java/util/NoSuchElementException", Cond.initialized "java/util/NoSuchElementException", Cond.fieldLink RX4 147 "PartcopyistBench$Note" "isIn" "Z", Cond.methodLink RX4 253 yX4_noteOrNull]
def wsL_stretch_r2 : List Cond := [Cond.instanceMethod yX4_noteOrNull, Cond.selects RX4 yX4_noteOrNull yX4_noteOrNull, Cond.code yX4_noteOrNull cX4_noteOrNull 2 (some (.object "PartcopyistBench$Note")), Cond.fieldLink RX4 23 "PartcopyistBench" "notes" "[LPartcopyistBench$Note;", Cond.methodLink RX4 134 yX4_barOrNull, Cond.instanceMethod yX4_barOrNull, Cond.selects RX4 yX4_barOrNull yX4_barOrNull, Cond.code yX4_barOrNull cX4_barOrNull 2 (some (.object "PartcopyistBench$Bar")), Cond.fieldLink RX4 17 "PartcopyistBench" "bars" "[LPartcopyistBench$Bar;", Cond.methodLink RX4 99 yX0_holds, Cond.instanceMethod yX0_holds, Cond.selects RX0 yX0_holds yX0_holds, Cond.initialized RX0, Cond.code yX0_holds cX0_holds 3 (some .boolean), Cond.fieldLink RX0 7 "PartcopyistBench$Bar" "ticks" "I", Cond.methodLink RX4 108 yX4_meetsAnother, Cond.instanceMethod yX4_meetsAnother, Cond.selects RX4 yX4_meetsAnother yX4_meetsAnother, Cond.code yX4_meetsAnother cX4_meetsAnother 5 (some .boolean), Cond.fieldLink RX4 150 "PartcopyistBench$Note" "part" "I", Cond.fieldLink RX4 306 "PartcopyistBench$Note" "voice" "I", Cond.methodLink RX4 303 yX2_isAt, Cond.instanceMethod yX2_isAt, Cond.selects RX2 yX2_isAt yX2_isAt]
def wsL_stretch_r3 : List Cond := [Cond.initialized RX2, Cond.code yX2_isAt cX2_isAt 3 (some .boolean), Cond.fieldLink RX2 7 "PartcopyistBench$Note" "isIn" "Z", Cond.fieldLink RX2 26 "PartcopyistBench$Note" "part" "I", Cond.fieldLink RX2 29 "PartcopyistBench$Note" "bar" "I", Cond.methodLink RX4 309 yX2_sharesTicks, Cond.instanceMethod yX2_sharesTicks, Cond.selects RX2 yX2_sharesTicks yX2_sharesTicks, Cond.code yX2_sharesTicks cX2_sharesTicks 3 (some .boolean), Cond.fieldLink RX2 35 "PartcopyistBench$Note" "tick" "I", Cond.fieldLink RX2 38 "PartcopyistBench$Note" "length" "I"]
def wsL_stretch : List Cond := .codeWith yL_stretch cL_stretch 5 (some .int) [(0, 10, 13, 40), (0, 10, 17, 13), (0, 10, 21, 35)] :: ((wsL_stretch_r1 ++ (wsL_stretch_r2 ++ wsL_stretch_r3)) ++ wsX20 ++ wsX40 ++ wsX00 ++ (vx_atM "java/lang/ArrayIndexOutOfBoundsException" ["java/lang/IndexOutOfBoundsException", "java/lang/RuntimeException", "java/lang/Exception"]).filter goodWord ++ (vx_atS RX4 57 "java/lang/IllegalArgumentException" ["java/lang/RuntimeException", "java/lang/Exception"]).filter goodWord ++ (vx_atS RX4 116 "java/lang/UnsupportedOperationException" ["java/lang/RuntimeException", "java/lang/Exception"]).filter goodWord ++ (vx_atS RX4 228 "java/util/NoSuchElementException" ["java/lang/RuntimeException", "java/lang/Exception"]).filter goodWord)
def wsL_takeOut : List Cond := .codeWith yL_takeOut cL_takeOut 4 (some .int) [(0, 9, 12, 40)] :: ([.classLink RL 40 "java/util/NoSuchElementException", .methodLink RL 45 yX4_takeOut, .instanceMethod yX4_takeOut, .selects RX4 yX4_takeOut yX4_takeOut, .initialized RX4, .code yX4_takeOut cX4_takeOut 3 (some .int), .fieldLink RX4 147 "PartcopyistBench$Note" "isIn" "Z", .fieldLink RX4 128 "PartcopyistBench$Note" "isTouched" "Z", .fieldLink RX4 150 "PartcopyistBench$Note" "part" "I", .methodLink RX4 119 yX4_knownNote, .instanceMethod yX4_knownNote, .selects RX4 yX4_knownNote yX4_knownNote, .code yX4_knownNote cX4_knownNote 3 (some (.object "PartcopyistBench$Note")), .classLink RX4 224 "java/util/NoSuchElementException", .initialized "java/util/NoSuchElementException", .methodLink RX4 253 yX4_noteOrNull, .instanceMethod yX4_noteOrNull, .selects RX4 yX4_noteOrNull yX4_noteOrNull, .code yX4_noteOrNull cX4_noteOrNull 2 (some (.object "PartcopyistBench$Note")), .fieldLink RX4 23 "PartcopyistBench" "notes" "[LPartcopyistBench$Note;", .methodLink RX4 153 yX4_countOfPart, .instanceMethod yX4_countOfPart, .selects RX4 yX4_countOfPart yX4_countOfPart, .code yX4_countOfPart cX4_countOfPart 5 (some .int)] ++ wsX20 ++ wsX40 ++ (vx_atM "java/lang/ArrayIndexOutOfBoundsException" ["java/lang/IndexOutOfBoundsException", "java/lang/RuntimeException", "java/lang/Exception"]).filter goodWord ++ (vx_atS RX4 228 "java/util/NoSuchElementException" ["java/lang/RuntimeException", "java/lang/Exception"]).filter goodWord)
def wsL_notesIn_r1 : List Cond := [Cond.classLink RL 25 "java/lang/IndexOutOfBoundsException", Cond.methodLink RL 48 yX4_notesIn, Cond.instanceMethod yX4_notesIn, Cond.selects RX4 yX4_notesIn yX4_notesIn, Cond.initialized RX4, Cond.code yX4_notesIn cX4_notesIn 3 (some .int), Cond.methodLink RX4 92 yX4_knownPart, Cond.instanceMethod yX4_knownPart, Cond.selects RX4 yX4_knownPart yX4_knownPart, Cond.code yX4_knownPart cX4_knownPart 3 (some (.object "PartcopyistBench$Part")), Cond.classLink RX4 292 "java/lang/IndexOutOfBoundsException", Cond.initialized "java/lang/IndexOutOfBoundsException", Cond.methodLink RX4 258 yX4_partOrNull, Cond.instanceMethod yX4_partOrNull, Cond.selects RX4 yX4_partOrNull yX4_partOrNull, Cond.code yX4_partOrNull cX4_partOrNull 2 (some (.object "PartcopyistBench$Part")), Cond.fieldLink RX4 11 "PartcopyistBench" "parts" "[LPartcopyistBench$Part;", Cond.methodLink RX4 79 yX4_knownBar, Cond.instanceMethod yX4_knownBar, Cond.selects RX4 yX4_knownBar yX4_knownBar, Cond.code yX4_knownBar cX4_knownBar 3 (some (.object "PartcopyistBench$Bar")), Cond.methodLink RX4 134 yX4_barOrNull, Cond.instanceMethod yX4_barOrNull, Cond.selects RX4 yX4_barOrNull yX4_barOrNull]
def wsL_notesIn_r2 : List Cond := [Cond.code yX4_barOrNull cX4_barOrNull 2 (some (.object "PartcopyistBench$Bar")), Cond.fieldLink RX4 17 "PartcopyistBench" "bars" "[LPartcopyistBench$Bar;", Cond.methodLink RX4 157 yX4_countInBar, Cond.instanceMethod yX4_countInBar, Cond.selects RX4 yX4_countInBar yX4_countInBar, Cond.code yX4_countInBar cX4_countInBar 6 (some .int), Cond.fieldLink RX4 23 "PartcopyistBench" "notes" "[LPartcopyistBench$Note;", Cond.methodLink RX4 303 yX2_isAt, Cond.instanceMethod yX2_isAt, Cond.selects RX2 yX2_isAt yX2_isAt, Cond.initialized RX2, Cond.code yX2_isAt cX2_isAt 3 (some .boolean), Cond.fieldLink RX2 7 "PartcopyistBench$Note" "isIn" "Z", Cond.fieldLink RX2 26 "PartcopyistBench$Note" "part" "I", Cond.fieldLink RX2 29 "PartcopyistBench$Note" "bar" "I"]
def wsL_notesIn : List Cond := .codeWith yL_notesIn cL_notesIn 5 (some .int) [(0, 10, 13, 25)] :: ((wsL_notesIn_r1 ++ wsL_notesIn_r2) ++ wsX40 ++ wsX20 ++ (vx_atM "java/lang/ArrayIndexOutOfBoundsException" ["java/lang/IndexOutOfBoundsException", "java/lang/RuntimeException", "java/lang/Exception"]).filter goodWord ++ (vx_atS RX4 296 "java/lang/IndexOutOfBoundsException" ["java/lang/RuntimeException", "java/lang/Exception"]).filter goodWord)
def wsL_noteAt_r1 : List Cond := [Cond.classLink RL 25 "java/lang/IndexOutOfBoundsException", Cond.classLink RL 40 "java/util/NoSuchElementException", Cond.methodLink RL 51 yX4_noteAt, Cond.instanceMethod yX4_noteAt, Cond.selects RX4 yX4_noteAt yX4_noteAt, Cond.initialized RX4, Cond.code yX4_noteAt cX4_noteAt 4 (some .int), Cond.methodLink RX4 92 yX4_knownPart, Cond.instanceMethod yX4_knownPart, Cond.selects RX4 yX4_knownPart yX4_knownPart, Cond.code yX4_knownPart cX4_knownPart 3 (some (.object "PartcopyistBench$Part")), Cond.classLink RX4 292 "java/lang/IndexOutOfBoundsException", Cond.initialized "java/lang/IndexOutOfBoundsException", Cond.methodLink RX4 258 yX4_partOrNull, Cond.instanceMethod yX4_partOrNull, Cond.selects RX4 yX4_partOrNull yX4_partOrNull, Cond.code yX4_partOrNull cX4_partOrNull 2 (some (.object "PartcopyistBench$Part")), Cond.fieldLink RX4 11 "PartcopyistBench" "parts" "[LPartcopyistBench$Part;", Cond.methodLink RX4 79 yX4_knownBar, Cond.instanceMethod yX4_knownBar, Cond.selects RX4 yX4_knownBar yX4_knownBar, Cond.code yX4_knownBar cX4_knownBar 3 (some (.object "PartcopyistBench$Bar")), Cond.methodLink RX4 134 yX4_barOrNull, Cond.instanceMethod yX4_barOrNull]
def wsL_noteAt_r2 : List Cond := [Cond.selects RX4 yX4_barOrNull yX4_barOrNull, Cond.code yX4_barOrNull cX4_barOrNull 2 (some (.object "PartcopyistBench$Bar")), Cond.fieldLink RX4 17 "PartcopyistBench" "bars" "[LPartcopyistBench$Bar;", Cond.methodLink RX4 161 yX4_knownNoteInOrder, Cond.instanceMethod yX4_knownNoteInOrder, Cond.selects RX4 yX4_knownNoteInOrder yX4_knownNoteInOrder, Cond.code yX4_knownNoteInOrder cX4_knownNoteInOrder 6 (some .int), Cond.classLink RX4 224 "java/util/NoSuchElementException", Cond.initialized "java/util/NoSuchElementException", Cond.fieldLink RX4 23 "PartcopyistBench" "notes" "[LPartcopyistBench$Note;", Cond.methodLink RX4 303 yX2_isAt, Cond.instanceMethod yX2_isAt, Cond.selects RX2 yX2_isAt yX2_isAt, Cond.initialized RX2, Cond.code yX2_isAt cX2_isAt 3 (some .boolean), Cond.fieldLink RX2 7 "PartcopyistBench$Note" "isIn" "Z", Cond.fieldLink RX2 26 "PartcopyistBench$Note" "part" "I", Cond.fieldLink RX2 29 "PartcopyistBench$Note" "bar" "I", Cond.methodLink RX4 312 yX4_countAhead, Cond.instanceMethod yX4_countAhead, Cond.selects RX4 yX4_countAhead yX4_countAhead, Cond.code yX4_countAhead cX4_countAhead 5 (some .int), Cond.fieldLink RX4 150 "PartcopyistBench$Note" "part" "I", Cond.fieldLink RX4 131 "PartcopyistBench$Note" "bar" "I"]
def wsL_noteAt_r3 : List Cond := [Cond.methodLink RX4 317 yX2_comesAheadOf, Cond.instanceMethod yX2_comesAheadOf, Cond.selects RX2 yX2_comesAheadOf yX2_comesAheadOf, Cond.code yX2_comesAheadOf cX2_comesAheadOf 2 (some .boolean), Cond.fieldLink RX2 35 "PartcopyistBench$Note" "tick" "I", Cond.fieldLink RX2 32 "PartcopyistBench$Note" "voice" "I"]
def wsL_noteAt : List Cond := .codeWith yL_noteAt cL_noteAt 6 (some .int) [(0, 12, 15, 25), (0, 12, 19, 40)] :: ((wsL_noteAt_r1 ++ (wsL_noteAt_r2 ++ wsL_noteAt_r3)) ++ wsX40 ++ wsX20 ++ (vx_atM "java/lang/ArrayIndexOutOfBoundsException" ["java/lang/IndexOutOfBoundsException", "java/lang/RuntimeException", "java/lang/Exception"]).filter goodWord ++ (vx_atS RX4 296 "java/lang/IndexOutOfBoundsException" ["java/lang/RuntimeException", "java/lang/Exception"]).filter goodWord ++ (vx_atS RX4 228 "java/util/NoSuchElementException" ["java/lang/RuntimeException", "java/lang/Exception"]).filter goodWord)
def wsL_pitchOf : List Cond := .codeWith yL_pitchOf cL_pitchOf 4 (some .int) [(0, 9, 12, 40)] :: ([.classLink RL 40 "java/util/NoSuchElementException", .methodLink RL 55 yX4_pitchOf, .instanceMethod yX4_pitchOf, .selects RX4 yX4_pitchOf yX4_pitchOf, .initialized RX4, .code yX4_pitchOf cX4_pitchOf 2 (some .int), .fieldLink RX4 125 "PartcopyistBench$Note" "pitch" "I", .methodLink RX4 119 yX4_knownNote, .instanceMethod yX4_knownNote, .selects RX4 yX4_knownNote yX4_knownNote, .code yX4_knownNote cX4_knownNote 3 (some (.object "PartcopyistBench$Note")), .classLink RX4 224 "java/util/NoSuchElementException", .initialized "java/util/NoSuchElementException", .fieldLink RX4 147 "PartcopyistBench$Note" "isIn" "Z", .methodLink RX4 253 yX4_noteOrNull, .instanceMethod yX4_noteOrNull, .selects RX4 yX4_noteOrNull yX4_noteOrNull, .code yX4_noteOrNull cX4_noteOrNull 2 (some (.object "PartcopyistBench$Note")), .fieldLink RX4 23 "PartcopyistBench" "notes" "[LPartcopyistBench$Note;"] ++ wsX20 ++ wsX40 ++ (vx_atM "java/lang/ArrayIndexOutOfBoundsException" ["java/lang/IndexOutOfBoundsException", "java/lang/RuntimeException", "java/lang/Exception"]).filter goodWord ++ (vx_atS RX4 228 "java/util/NoSuchElementException" ["java/lang/RuntimeException", "java/lang/Exception"]).filter goodWord)
def wsL_lengthOf : List Cond := .codeWith yL_lengthOf cL_lengthOf 4 (some .int) [(0, 9, 12, 40)] :: ([.classLink RL 40 "java/util/NoSuchElementException", .methodLink RL 58 yX4_lengthOf, .instanceMethod yX4_lengthOf, .selects RX4 yX4_lengthOf yX4_lengthOf, .initialized RX4, .code yX4_lengthOf cX4_lengthOf 2 (some .int), .fieldLink RX4 144 "PartcopyistBench$Note" "length" "I", .methodLink RX4 119 yX4_knownNote, .instanceMethod yX4_knownNote, .selects RX4 yX4_knownNote yX4_knownNote, .code yX4_knownNote cX4_knownNote 3 (some (.object "PartcopyistBench$Note")), .classLink RX4 224 "java/util/NoSuchElementException", .initialized "java/util/NoSuchElementException", .fieldLink RX4 147 "PartcopyistBench$Note" "isIn" "Z", .methodLink RX4 253 yX4_noteOrNull, .instanceMethod yX4_noteOrNull, .selects RX4 yX4_noteOrNull yX4_noteOrNull, .code yX4_noteOrNull cX4_noteOrNull 2 (some (.object "PartcopyistBench$Note")), .fieldLink RX4 23 "PartcopyistBench" "notes" "[LPartcopyistBench$Note;"] ++ wsX20 ++ wsX40 ++ (vx_atM "java/lang/ArrayIndexOutOfBoundsException" ["java/lang/IndexOutOfBoundsException", "java/lang/RuntimeException", "java/lang/Exception"]).filter goodWord ++ (vx_atS RX4 228 "java/util/NoSuchElementException" ["java/lang/RuntimeException", "java/lang/Exception"]).filter goodWord)
def wsL_isDivided_r1 : List Cond := [Cond.classLink RL 25 "java/lang/IndexOutOfBoundsException", Cond.methodLink RL 61 yX4_isDivided, Cond.instanceMethod yX4_isDivided, Cond.selects RX4 yX4_isDivided yX4_isDivided, Cond.initialized RX4, Cond.code yX4_isDivided cX4_isDivided 3 (some .boolean), Cond.methodLink RX4 92 yX4_knownPart, Cond.instanceMethod yX4_knownPart, Cond.selects RX4 yX4_knownPart yX4_knownPart, Cond.code yX4_knownPart cX4_knownPart 3 (some (.object "PartcopyistBench$Part")), Cond.classLink RX4 292 "java/lang/IndexOutOfBoundsException", Cond.initialized "java/lang/IndexOutOfBoundsException", Cond.methodLink RX4 258 yX4_partOrNull, Cond.instanceMethod yX4_partOrNull, Cond.selects RX4 yX4_partOrNull yX4_partOrNull, Cond.code yX4_partOrNull cX4_partOrNull 2 (some (.object "PartcopyistBench$Part")), Cond.fieldLink RX4 11 "PartcopyistBench" "parts" "[LPartcopyistBench$Part;", Cond.methodLink RX4 79 yX4_knownBar, Cond.instanceMethod yX4_knownBar, Cond.selects RX4 yX4_knownBar yX4_knownBar, Cond.code yX4_knownBar cX4_knownBar 3 (some (.object "PartcopyistBench$Bar")), Cond.methodLink RX4 134 yX4_barOrNull, Cond.instanceMethod yX4_barOrNull, Cond.selects RX4 yX4_barOrNull yX4_barOrNull]
def wsL_isDivided_r2 : List Cond := [Cond.code yX4_barOrNull cX4_barOrNull 2 (some (.object "PartcopyistBench$Bar")), Cond.fieldLink RX4 17 "PartcopyistBench" "bars" "[LPartcopyistBench$Bar;", Cond.methodLink RX4 165 yX4_hasVoice, Cond.instanceMethod yX4_hasVoice, Cond.selects RX4 yX4_hasVoice yX4_hasVoice, Cond.code yX4_hasVoice cX4_hasVoice 6 (some .boolean), Cond.fieldLink RX4 23 "PartcopyistBench" "notes" "[LPartcopyistBench$Note;", Cond.fieldLink RX4 306 "PartcopyistBench$Note" "voice" "I", Cond.methodLink RX4 303 yX2_isAt, Cond.instanceMethod yX2_isAt, Cond.selects RX2 yX2_isAt yX2_isAt, Cond.initialized RX2, Cond.code yX2_isAt cX2_isAt 3 (some .boolean), Cond.fieldLink RX2 7 "PartcopyistBench$Note" "isIn" "Z", Cond.fieldLink RX2 26 "PartcopyistBench$Note" "part" "I", Cond.fieldLink RX2 29 "PartcopyistBench$Note" "bar" "I"]
def wsL_isDivided : List Cond := .codeWith yL_isDivided cL_isDivided 5 (some .int) [(0, 17, 20, 25)] :: ((wsL_isDivided_r1 ++ wsL_isDivided_r2) ++ wsX40 ++ wsX20 ++ (vx_atM "java/lang/ArrayIndexOutOfBoundsException" ["java/lang/IndexOutOfBoundsException", "java/lang/RuntimeException", "java/lang/Exception"]).filter goodWord ++ (vx_atS RX4 296 "java/lang/IndexOutOfBoundsException" ["java/lang/RuntimeException", "java/lang/Exception"]).filter goodWord)
def wsL_written_r1 : List Cond := [Cond.classLink RL 40 "java/util/NoSuchElementException", Cond.methodLink RL 65 yX4_written, Cond.instanceMethod yX4_written, Cond.selects RX4 yX4_written yX4_written, Cond.initialized RX4, Cond.code yX4_written cX4_written 2 (some .int), Cond.methodLink RX4 119 yX4_knownNote, Cond.instanceMethod yX4_knownNote, Cond.selects RX4 yX4_knownNote yX4_knownNote, Cond.code yX4_knownNote cX4_knownNote 3 (some (.object "PartcopyistBench$Note")), Cond.classLink RX4 224 "java/util/NoSuchElementException", Cond.initialized "java/util/NoSuchElementException", Cond.fieldLink RX4 147 "PartcopyistBench$Note" "isIn" "Z", Cond.methodLink RX4 253 yX4_noteOrNull, Cond.instanceMethod yX4_noteOrNull, Cond.selects RX4 yX4_noteOrNull yX4_noteOrNull, Cond.code yX4_noteOrNull cX4_noteOrNull 2 (some (.object "PartcopyistBench$Note")), Cond.fieldLink RX4 23 "PartcopyistBench" "notes" "[LPartcopyistBench$Note;", Cond.methodLink RX4 169 yX4_writtenPitch, Cond.instanceMethod yX4_writtenPitch, Cond.selects RX4 yX4_writtenPitch yX4_writtenPitch, Cond.code yX4_writtenPitch cX4_writtenPitch 3 (some .int), Cond.fieldLink RX4 150 "PartcopyistBench$Note" "part" "I", Cond.fieldLink RX4 125 "PartcopyistBench$Note" "pitch" "I"]
def wsL_written_r2 : List Cond := [Cond.fieldLink RX4 173 "PartcopyistBench$Part" "shift" "I", Cond.methodLink RX4 258 yX4_partOrNull, Cond.instanceMethod yX4_partOrNull, Cond.selects RX4 yX4_partOrNull yX4_partOrNull, Cond.code yX4_partOrNull cX4_partOrNull 2 (some (.object "PartcopyistBench$Part")), Cond.fieldLink RX4 11 "PartcopyistBench" "parts" "[LPartcopyistBench$Part;"]
def wsL_written : List Cond := .codeWith yL_written cL_written 4 (some .int) [(0, 9, 12, 40)] :: ((wsL_written_r1 ++ wsL_written_r2) ++ wsX20 ++ wsX40 ++ wsX30 ++ (vx_atM "java/lang/ArrayIndexOutOfBoundsException" ["java/lang/IndexOutOfBoundsException", "java/lang/RuntimeException", "java/lang/Exception"]).filter goodWord ++ (vx_atS RX4 228 "java/util/NoSuchElementException" ["java/lang/RuntimeException", "java/lang/Exception"]).filter goodWord)
def wsL_writtenKey_r1 : List Cond := [Cond.classLink RL 25 "java/lang/IndexOutOfBoundsException", Cond.methodLink RL 68 yX4_writtenKey, Cond.instanceMethod yX4_writtenKey, Cond.selects RX4 yX4_writtenKey yX4_writtenKey, Cond.initialized RX4, Cond.code yX4_writtenKey cX4_writtenKey 5 (some .int), Cond.fieldLink RX4 89 "PartcopyistBench$Bar" "key" "I", Cond.fieldLink RX4 173 "PartcopyistBench$Part" "shift" "I", Cond.methodLink RX4 92 yX4_knownPart, Cond.instanceMethod yX4_knownPart, Cond.selects RX4 yX4_knownPart yX4_knownPart, Cond.code yX4_knownPart cX4_knownPart 3 (some (.object "PartcopyistBench$Part")), Cond.classLink RX4 292 "java/lang/IndexOutOfBoundsException", Cond.initialized "java/lang/IndexOutOfBoundsException", Cond.methodLink RX4 258 yX4_partOrNull, Cond.instanceMethod yX4_partOrNull, Cond.selects RX4 yX4_partOrNull yX4_partOrNull, Cond.code yX4_partOrNull cX4_partOrNull 2 (some (.object "PartcopyistBench$Part")), Cond.fieldLink RX4 11 "PartcopyistBench" "parts" "[LPartcopyistBench$Part;", Cond.methodLink RX4 79 yX4_knownBar, Cond.instanceMethod yX4_knownBar, Cond.selects RX4 yX4_knownBar yX4_knownBar, Cond.code yX4_knownBar cX4_knownBar 3 (some (.object "PartcopyistBench$Bar")), Cond.methodLink RX4 134 yX4_barOrNull]
def wsL_writtenKey_r2 : List Cond := [Cond.instanceMethod yX4_barOrNull, Cond.selects RX4 yX4_barOrNull yX4_barOrNull, Cond.code yX4_barOrNull cX4_barOrNull 2 (some (.object "PartcopyistBench$Bar")), Cond.fieldLink RX4 17 "PartcopyistBench" "bars" "[LPartcopyistBench$Bar;", Cond.methodLink RX4 176 yX4_shiftedKey, Cond.static yX4_shiftedKey, Cond.code yX4_shiftedKey cX4_shiftedKey 3 (some .int), Cond.methodLink RX4 321 yJ9_floorMod_7cf53, Cond.static yJ9_floorMod_7cf53, Cond.initialized RJ9, Cond.code yJ9_floorMod_7cf53 cJ9_floorMod_7cf53 3 (some .int)]
def wsL_writtenKey : List Cond := .codeWith yL_writtenKey cL_writtenKey 5 (some .int) [(0, 10, 13, 25)] :: ((wsL_writtenKey_r1 ++ wsL_writtenKey_r2) ++ wsX00 ++ wsX30 ++ wsX40 ++ (vx_atM "java/lang/ArrayIndexOutOfBoundsException" ["java/lang/IndexOutOfBoundsException", "java/lang/RuntimeException", "java/lang/Exception"]).filter goodWord ++ (vx_atS RX4 296 "java/lang/IndexOutOfBoundsException" ["java/lang/RuntimeException", "java/lang/Exception"]).filter goodWord)
def wsL_letterOf_r1 : List Cond := [Cond.classLink RL 40 "java/util/NoSuchElementException", Cond.methodLink RL 71 yX4_letterOf, Cond.instanceMethod yX4_letterOf, Cond.selects RX4 yX4_letterOf yX4_letterOf, Cond.initialized RX4, Cond.code yX4_letterOf cX4_letterOf 2 (some .char), Cond.methodLink RX4 119 yX4_knownNote, Cond.instanceMethod yX4_knownNote, Cond.selects RX4 yX4_knownNote yX4_knownNote, Cond.code yX4_knownNote cX4_knownNote 3 (some (.object "PartcopyistBench$Note")), Cond.classLink RX4 224 "java/util/NoSuchElementException", Cond.initialized "java/util/NoSuchElementException", Cond.fieldLink RX4 147 "PartcopyistBench$Note" "isIn" "Z", Cond.methodLink RX4 253 yX4_noteOrNull, Cond.instanceMethod yX4_noteOrNull, Cond.selects RX4 yX4_noteOrNull yX4_noteOrNull, Cond.code yX4_noteOrNull cX4_noteOrNull 2 (some (.object "PartcopyistBench$Note")), Cond.fieldLink RX4 23 "PartcopyistBench" "notes" "[LPartcopyistBench$Note;", Cond.methodLink RX4 179 yX4_placeOf, Cond.instanceMethod yX4_placeOf, Cond.selects RX4 yX4_placeOf yX4_placeOf, Cond.code yX4_placeOf cX4_placeOf 7 (some .int), Cond.fieldLink RX4 150 "PartcopyistBench$Note" "part" "I", Cond.fieldLink RX4 131 "PartcopyistBench$Note" "bar" "I"]
def wsL_letterOf_r2 : List Cond := [Cond.fieldLink RX4 89 "PartcopyistBench$Bar" "key" "I", Cond.fieldLink RX4 173 "PartcopyistBench$Part" "shift" "I", Cond.methodLink RX4 258 yX4_partOrNull, Cond.instanceMethod yX4_partOrNull, Cond.selects RX4 yX4_partOrNull yX4_partOrNull, Cond.code yX4_partOrNull cX4_partOrNull 2 (some (.object "PartcopyistBench$Part")), Cond.fieldLink RX4 11 "PartcopyistBench" "parts" "[LPartcopyistBench$Part;", Cond.methodLink RX4 134 yX4_barOrNull, Cond.instanceMethod yX4_barOrNull, Cond.selects RX4 yX4_barOrNull yX4_barOrNull, Cond.code yX4_barOrNull cX4_barOrNull 2 (some (.object "PartcopyistBench$Bar")), Cond.fieldLink RX4 17 "PartcopyistBench" "bars" "[LPartcopyistBench$Bar;", Cond.methodLink RX4 176 yX4_shiftedKey, Cond.static yX4_shiftedKey, Cond.code yX4_shiftedKey cX4_shiftedKey 3 (some .int), Cond.methodLink RX4 321 yJ9_floorMod_7cf53, Cond.static yJ9_floorMod_7cf53, Cond.initialized RJ9, Cond.code yJ9_floorMod_7cf53 cJ9_floorMod_7cf53 3 (some .int), Cond.methodLink RX4 169 yX4_writtenPitch, Cond.instanceMethod yX4_writtenPitch, Cond.selects RX4 yX4_writtenPitch yX4_writtenPitch, Cond.code yX4_writtenPitch cX4_writtenPitch 3 (some .int), Cond.fieldLink RX4 125 "PartcopyistBench$Note" "pitch" "I"]
def wsL_letterOf_r3 : List Cond := [Cond.methodLink RX4 182 yX4_letterOfPlace, Cond.static yX4_letterOfPlace, Cond.code yX4_letterOfPlace cX4_letterOfPlace 1 (some .char)]
def wsL_letterOf : List Cond := .codeWith yL_letterOf cL_letterOf 4 (some .int) [(0, 9, 12, 40)] :: ((wsL_letterOf_r1 ++ (wsL_letterOf_r2 ++ wsL_letterOf_r3)) ++ wsX20 ++ wsX40 ++ wsX00 ++ wsX30 ++ (vx_atM "java/lang/ArrayIndexOutOfBoundsException" ["java/lang/IndexOutOfBoundsException", "java/lang/RuntimeException", "java/lang/Exception"]).filter goodWord ++ (vx_atS RX4 228 "java/util/NoSuchElementException" ["java/lang/RuntimeException", "java/lang/Exception"]).filter goodWord)
def wsL_accidentalOf_r1 : List Cond := [Cond.classLink RL 40 "java/util/NoSuchElementException", Cond.methodLink RL 75 yX4_accidentalOf, Cond.instanceMethod yX4_accidentalOf, Cond.selects RX4 yX4_accidentalOf yX4_accidentalOf, Cond.initialized RX4, Cond.code yX4_accidentalOf cX4_accidentalOf 2 (some .int), Cond.methodLink RX4 119 yX4_knownNote, Cond.instanceMethod yX4_knownNote, Cond.selects RX4 yX4_knownNote yX4_knownNote, Cond.code yX4_knownNote cX4_knownNote 3 (some (.object "PartcopyistBench$Note")), Cond.classLink RX4 224 "java/util/NoSuchElementException", Cond.initialized "java/util/NoSuchElementException", Cond.fieldLink RX4 147 "PartcopyistBench$Note" "isIn" "Z", Cond.methodLink RX4 253 yX4_noteOrNull, Cond.instanceMethod yX4_noteOrNull, Cond.selects RX4 yX4_noteOrNull yX4_noteOrNull, Cond.code yX4_noteOrNull cX4_noteOrNull 2 (some (.object "PartcopyistBench$Note")), Cond.fieldLink RX4 23 "PartcopyistBench" "notes" "[LPartcopyistBench$Note;", Cond.methodLink RX4 179 yX4_placeOf, Cond.instanceMethod yX4_placeOf, Cond.selects RX4 yX4_placeOf yX4_placeOf, Cond.code yX4_placeOf cX4_placeOf 7 (some .int), Cond.fieldLink RX4 150 "PartcopyistBench$Note" "part" "I", Cond.fieldLink RX4 131 "PartcopyistBench$Note" "bar" "I"]
def wsL_accidentalOf_r2 : List Cond := [Cond.fieldLink RX4 89 "PartcopyistBench$Bar" "key" "I", Cond.fieldLink RX4 173 "PartcopyistBench$Part" "shift" "I", Cond.methodLink RX4 258 yX4_partOrNull, Cond.instanceMethod yX4_partOrNull, Cond.selects RX4 yX4_partOrNull yX4_partOrNull, Cond.code yX4_partOrNull cX4_partOrNull 2 (some (.object "PartcopyistBench$Part")), Cond.fieldLink RX4 11 "PartcopyistBench" "parts" "[LPartcopyistBench$Part;", Cond.methodLink RX4 134 yX4_barOrNull, Cond.instanceMethod yX4_barOrNull, Cond.selects RX4 yX4_barOrNull yX4_barOrNull, Cond.code yX4_barOrNull cX4_barOrNull 2 (some (.object "PartcopyistBench$Bar")), Cond.fieldLink RX4 17 "PartcopyistBench" "bars" "[LPartcopyistBench$Bar;", Cond.methodLink RX4 176 yX4_shiftedKey, Cond.static yX4_shiftedKey, Cond.code yX4_shiftedKey cX4_shiftedKey 3 (some .int), Cond.methodLink RX4 321 yJ9_floorMod_7cf53, Cond.static yJ9_floorMod_7cf53, Cond.initialized RJ9, Cond.code yJ9_floorMod_7cf53 cJ9_floorMod_7cf53 3 (some .int), Cond.methodLink RX4 169 yX4_writtenPitch, Cond.instanceMethod yX4_writtenPitch, Cond.selects RX4 yX4_writtenPitch yX4_writtenPitch, Cond.code yX4_writtenPitch cX4_writtenPitch 3 (some .int), Cond.fieldLink RX4 125 "PartcopyistBench$Note" "pitch" "I"]
def wsL_accidentalOf_r3 : List Cond := [Cond.methodLink RX4 186 yX4_sharpsOfPlace, Cond.static yX4_sharpsOfPlace, Cond.code yX4_sharpsOfPlace cX4_sharpsOfPlace 1 (some .int), Cond.methodLink RX4 326 yJ9_floorDiv_7cf53, Cond.static yJ9_floorDiv_7cf53, Cond.code yJ9_floorDiv_7cf53 cJ9_floorDiv_7cf53 3 (some .int)]
def wsL_accidentalOf : List Cond := .codeWith yL_accidentalOf cL_accidentalOf 4 (some .int) [(0, 9, 12, 40)] :: ((wsL_accidentalOf_r1 ++ (wsL_accidentalOf_r2 ++ wsL_accidentalOf_r3)) ++ wsX20 ++ wsX40 ++ wsX00 ++ wsX30 ++ (vx_atM "java/lang/ArrayIndexOutOfBoundsException" ["java/lang/IndexOutOfBoundsException", "java/lang/RuntimeException", "java/lang/Exception"]).filter goodWord ++ (vx_atS RX4 228 "java/util/NoSuchElementException" ["java/lang/RuntimeException", "java/lang/Exception"]).filter goodWord)
def wsL_rests_r1 : List Cond := [Cond.classLink RL 25 "java/lang/IndexOutOfBoundsException", Cond.methodLink RL 78 yX4_rests, Cond.instanceMethod yX4_rests, Cond.selects RX4 yX4_rests yX4_rests, Cond.initialized RX4, Cond.code yX4_rests cX4_rests 2 (some .int), Cond.fieldLink RX4 30 "PartcopyistBench" "blocks" "LPartcopyistBench$Blocks;", Cond.methodLink RX4 92 yX4_knownPart, Cond.instanceMethod yX4_knownPart, Cond.selects RX4 yX4_knownPart yX4_knownPart, Cond.code yX4_knownPart cX4_knownPart 3 (some (.object "PartcopyistBench$Part")), Cond.classLink RX4 292 "java/lang/IndexOutOfBoundsException", Cond.initialized "java/lang/IndexOutOfBoundsException", Cond.methodLink RX4 258 yX4_partOrNull, Cond.instanceMethod yX4_partOrNull, Cond.selects RX4 yX4_partOrNull yX4_partOrNull, Cond.code yX4_partOrNull cX4_partOrNull 2 (some (.object "PartcopyistBench$Part")), Cond.fieldLink RX4 11 "PartcopyistBench" "parts" "[LPartcopyistBench$Part;", Cond.methodLink RX4 189 yX4_makeBlocks, Cond.instanceMethod yX4_makeBlocks, Cond.selects RX4 yX4_makeBlocks yX4_makeBlocks, Cond.code yX4_makeBlocks cX4_makeBlocks 4 none, Cond.fieldLink RX4 44 "PartcopyistBench" "pagePlaces" "I", Cond.fieldLink RX4 47 "PartcopyistBench" "turnTicks" "I"]
def wsL_rests_r2 : List Cond := [Cond.fieldLink RX4 17 "PartcopyistBench" "bars" "[LPartcopyistBench$Bar;", Cond.methodLink RX4 329 yX1_begin, Cond.instanceMethod yX1_begin, Cond.selects RX1 yX1_begin yX1_begin, Cond.initialized RX1, Cond.code yX1_begin cX1_begin 3 none, Cond.fieldLink RX1 44 "PartcopyistBench$Blocks" "pagePlaces" "I", Cond.fieldLink RX1 47 "PartcopyistBench$Blocks" "turnTicks" "I", Cond.fieldLink RX1 40 "PartcopyistBench$Blocks" "count" "I", Cond.methodLink RX4 333 yX4_addToBlocks, Cond.instanceMethod yX4_addToBlocks, Cond.selects RX4 yX4_addToBlocks yX4_addToBlocks, Cond.code yX4_addToBlocks cX4_addToBlocks 9 none, Cond.fieldLink RX4 337 "PartcopyistBench$Bar" "ticks" "I", Cond.fieldLink RX4 23 "PartcopyistBench" "notes" "[LPartcopyistBench$Note;", Cond.fieldLink RX4 137 "PartcopyistBench$Note" "tick" "I", Cond.methodLink RX4 340 Lib.Math.min.name, Cond.static Lib.Math.min.name, Cond.initialized "java/lang/Math", Cond.code Lib.Math.min.name Lib.Math.min.code 2 (some .int), Cond.fieldLink RX4 144 "PartcopyistBench$Note" "length" "I", Cond.methodLink RX4 343 Lib.Math.max.name, Cond.static Lib.Math.max.name, Cond.code Lib.Math.max.name Lib.Math.max.code 2 (some .int)]
def wsL_rests_r3 : List Cond := [Cond.fieldLink RX4 83 "PartcopyistBench$Bar" "hasMark" "Z", Cond.methodLink RX4 303 yX2_isAt, Cond.instanceMethod yX2_isAt, Cond.selects RX2 yX2_isAt yX2_isAt, Cond.initialized RX2, Cond.code yX2_isAt cX2_isAt 3 (some .boolean), Cond.fieldLink RX2 7 "PartcopyistBench$Note" "isIn" "Z", Cond.fieldLink RX2 26 "PartcopyistBench$Note" "part" "I", Cond.fieldLink RX2 29 "PartcopyistBench$Note" "bar" "I", Cond.methodLink RX4 346 yX1_addBarWithNotes, Cond.instanceMethod yX1_addBarWithNotes, Cond.selects RX1 yX1_addBarWithNotes yX1_addBarWithNotes, Cond.code yX1_addBarWithNotes cX1_addBarWithNotes 5 none, Cond.methodLink RX1 50 yX1_add, Cond.instanceMethod yX1_add, Cond.selects RX1 yX1_add yX1_add, Cond.code yX1_add cX1_add 6 none, Cond.fieldLink RX1 11 "PartcopyistBench$Blocks" "firstBars" "[I", Cond.fieldLink RX1 15 "PartcopyistBench$Blocks" "barCounts" "[I", Cond.fieldLink RX1 18 "PartcopyistBench$Blocks" "places" "[I", Cond.fieldLink RX1 21 "PartcopyistBench$Blocks" "restAtStart" "[I", Cond.fieldLink RX1 24 "PartcopyistBench$Blocks" "restAtEnd" "[I", Cond.fieldLink RX1 27 "PartcopyistBench$Blocks" "isRest" "[Z", Cond.methodLink RX4 350 yX1_addEmptyBar]
def wsL_rests_r4 : List Cond := [Cond.instanceMethod yX1_addEmptyBar, Cond.selects RX1 yX1_addEmptyBar yX1_addEmptyBar, Cond.code yX1_addEmptyBar cX1_addEmptyBar 5 none, Cond.methodLink RX1 54 yX1_isBlock, Cond.instanceMethod yX1_isBlock, Cond.selects RX1 yX1_isBlock yX1_isBlock, Cond.code yX1_isBlock cX1_isBlock 2 (some .boolean), Cond.methodLink RX4 192 yX1_countOfRests, Cond.instanceMethod yX1_countOfRests, Cond.selects RX1 yX1_countOfRests yX1_countOfRests, Cond.code yX1_countOfRests cX1_countOfRests 3 (some .int)]
def wsL_rests : List Cond := .codeWith yL_rests cL_rests 4 (some .int) [(0, 9, 12, 25)] :: ((wsL_rests_r1 ++ (wsL_rests_r2 ++ (wsL_rests_r3 ++ wsL_rests_r4))) ++ wsX40 ++ wsX10 ++ wsX00 ++ wsX20 ++ (vx_atM "java/lang/ArrayIndexOutOfBoundsException" ["java/lang/IndexOutOfBoundsException", "java/lang/RuntimeException", "java/lang/Exception"]).filter goodWord ++ (vx_atS RX4 296 "java/lang/IndexOutOfBoundsException" ["java/lang/RuntimeException", "java/lang/Exception"]).filter goodWord)
def wsL_restFirst_r1 : List Cond := [Cond.classLink RL 25 "java/lang/IndexOutOfBoundsException", Cond.methodLink RL 81 yX4_restFirst, Cond.instanceMethod yX4_restFirst, Cond.selects RX4 yX4_restFirst yX4_restFirst, Cond.initialized RX4, Cond.code yX4_restFirst cX4_restFirst 3 (some .int), Cond.fieldLink RX4 30 "PartcopyistBench" "blocks" "LPartcopyistBench$Blocks;", Cond.methodLink RX4 92 yX4_knownPart, Cond.instanceMethod yX4_knownPart, Cond.selects RX4 yX4_knownPart yX4_knownPart, Cond.code yX4_knownPart cX4_knownPart 3 (some (.object "PartcopyistBench$Part")), Cond.classLink RX4 292 "java/lang/IndexOutOfBoundsException", Cond.initialized "java/lang/IndexOutOfBoundsException", Cond.methodLink RX4 258 yX4_partOrNull, Cond.instanceMethod yX4_partOrNull, Cond.selects RX4 yX4_partOrNull yX4_partOrNull, Cond.code yX4_partOrNull cX4_partOrNull 2 (some (.object "PartcopyistBench$Part")), Cond.fieldLink RX4 11 "PartcopyistBench" "parts" "[LPartcopyistBench$Part;", Cond.methodLink RX4 196 yX4_knownRest, Cond.instanceMethod yX4_knownRest, Cond.selects RX4 yX4_knownRest yX4_knownRest, Cond.code yX4_knownRest cX4_knownRest 4 (some .int), Cond.methodLink RX4 189 yX4_makeBlocks, Cond.instanceMethod yX4_makeBlocks]
def wsL_restFirst_r2 : List Cond := [Cond.selects RX4 yX4_makeBlocks yX4_makeBlocks, Cond.code yX4_makeBlocks cX4_makeBlocks 4 none, Cond.fieldLink RX4 44 "PartcopyistBench" "pagePlaces" "I", Cond.fieldLink RX4 47 "PartcopyistBench" "turnTicks" "I", Cond.fieldLink RX4 17 "PartcopyistBench" "bars" "[LPartcopyistBench$Bar;", Cond.methodLink RX4 329 yX1_begin, Cond.instanceMethod yX1_begin, Cond.selects RX1 yX1_begin yX1_begin, Cond.initialized RX1, Cond.code yX1_begin cX1_begin 3 none, Cond.fieldLink RX1 44 "PartcopyistBench$Blocks" "pagePlaces" "I", Cond.fieldLink RX1 47 "PartcopyistBench$Blocks" "turnTicks" "I", Cond.fieldLink RX1 40 "PartcopyistBench$Blocks" "count" "I", Cond.methodLink RX4 333 yX4_addToBlocks, Cond.instanceMethod yX4_addToBlocks, Cond.selects RX4 yX4_addToBlocks yX4_addToBlocks, Cond.code yX4_addToBlocks cX4_addToBlocks 9 none, Cond.fieldLink RX4 337 "PartcopyistBench$Bar" "ticks" "I", Cond.fieldLink RX4 23 "PartcopyistBench" "notes" "[LPartcopyistBench$Note;", Cond.fieldLink RX4 137 "PartcopyistBench$Note" "tick" "I", Cond.methodLink RX4 340 Lib.Math.min.name, Cond.static Lib.Math.min.name, Cond.initialized "java/lang/Math", Cond.code Lib.Math.min.name Lib.Math.min.code 2 (some .int)]
def wsL_restFirst_r3 : List Cond := [Cond.fieldLink RX4 144 "PartcopyistBench$Note" "length" "I", Cond.methodLink RX4 343 Lib.Math.max.name, Cond.static Lib.Math.max.name, Cond.code Lib.Math.max.name Lib.Math.max.code 2 (some .int), Cond.fieldLink RX4 83 "PartcopyistBench$Bar" "hasMark" "Z", Cond.methodLink RX4 303 yX2_isAt, Cond.instanceMethod yX2_isAt, Cond.selects RX2 yX2_isAt yX2_isAt, Cond.initialized RX2, Cond.code yX2_isAt cX2_isAt 3 (some .boolean), Cond.fieldLink RX2 7 "PartcopyistBench$Note" "isIn" "Z", Cond.fieldLink RX2 26 "PartcopyistBench$Note" "part" "I", Cond.fieldLink RX2 29 "PartcopyistBench$Note" "bar" "I", Cond.methodLink RX4 346 yX1_addBarWithNotes, Cond.instanceMethod yX1_addBarWithNotes, Cond.selects RX1 yX1_addBarWithNotes yX1_addBarWithNotes, Cond.code yX1_addBarWithNotes cX1_addBarWithNotes 5 none, Cond.methodLink RX1 50 yX1_add, Cond.instanceMethod yX1_add, Cond.selects RX1 yX1_add yX1_add, Cond.code yX1_add cX1_add 6 none, Cond.fieldLink RX1 11 "PartcopyistBench$Blocks" "firstBars" "[I", Cond.fieldLink RX1 15 "PartcopyistBench$Blocks" "barCounts" "[I", Cond.fieldLink RX1 18 "PartcopyistBench$Blocks" "places" "[I"]
def wsL_restFirst_r4 : List Cond := [Cond.fieldLink RX1 21 "PartcopyistBench$Blocks" "restAtStart" "[I", Cond.fieldLink RX1 24 "PartcopyistBench$Blocks" "restAtEnd" "[I", Cond.fieldLink RX1 27 "PartcopyistBench$Blocks" "isRest" "[Z", Cond.methodLink RX4 350 yX1_addEmptyBar, Cond.instanceMethod yX1_addEmptyBar, Cond.selects RX1 yX1_addEmptyBar yX1_addEmptyBar, Cond.code yX1_addEmptyBar cX1_addEmptyBar 5 none, Cond.methodLink RX1 54 yX1_isBlock, Cond.instanceMethod yX1_isBlock, Cond.selects RX1 yX1_isBlock yX1_isBlock, Cond.code yX1_isBlock cX1_isBlock 2 (some .boolean), Cond.methodLink RX4 353 yX1_blockOfRest, Cond.instanceMethod yX1_blockOfRest, Cond.selects RX1 yX1_blockOfRest yX1_blockOfRest, Cond.code yX1_blockOfRest cX1_blockOfRest 4 (some .int), Cond.methodLink RX4 199 yX1_firstBarOf, Cond.instanceMethod yX1_firstBarOf, Cond.selects RX1 yX1_firstBarOf yX1_firstBarOf, Cond.code yX1_firstBarOf cX1_firstBarOf 2 (some .int)]
def wsL_restFirst : List Cond := .codeWith yL_restFirst cL_restFirst 5 (some .int) [(0, 10, 13, 25)] :: ((wsL_restFirst_r1 ++ (wsL_restFirst_r2 ++ (wsL_restFirst_r3 ++ wsL_restFirst_r4))) ++ wsX40 ++ wsX10 ++ wsX00 ++ wsX20 ++ (vx_atM "java/lang/ArrayIndexOutOfBoundsException" ["java/lang/IndexOutOfBoundsException", "java/lang/RuntimeException", "java/lang/Exception"]).filter goodWord ++ (vx_atS RX4 296 "java/lang/IndexOutOfBoundsException" ["java/lang/RuntimeException", "java/lang/Exception"]).filter goodWord)
def wsL_restBars_r1 : List Cond := [Cond.classLink RL 25 "java/lang/IndexOutOfBoundsException", Cond.methodLink RL 84 yX4_restBars, Cond.instanceMethod yX4_restBars, Cond.selects RX4 yX4_restBars yX4_restBars, Cond.initialized RX4, Cond.code yX4_restBars cX4_restBars 3 (some .int), Cond.fieldLink RX4 30 "PartcopyistBench" "blocks" "LPartcopyistBench$Blocks;", Cond.methodLink RX4 92 yX4_knownPart, Cond.instanceMethod yX4_knownPart, Cond.selects RX4 yX4_knownPart yX4_knownPart, Cond.code yX4_knownPart cX4_knownPart 3 (some (.object "PartcopyistBench$Part")), Cond.classLink RX4 292 "java/lang/IndexOutOfBoundsException", Cond.initialized "java/lang/IndexOutOfBoundsException", Cond.methodLink RX4 258 yX4_partOrNull, Cond.instanceMethod yX4_partOrNull, Cond.selects RX4 yX4_partOrNull yX4_partOrNull, Cond.code yX4_partOrNull cX4_partOrNull 2 (some (.object "PartcopyistBench$Part")), Cond.fieldLink RX4 11 "PartcopyistBench" "parts" "[LPartcopyistBench$Part;", Cond.methodLink RX4 196 yX4_knownRest, Cond.instanceMethod yX4_knownRest, Cond.selects RX4 yX4_knownRest yX4_knownRest, Cond.code yX4_knownRest cX4_knownRest 4 (some .int), Cond.methodLink RX4 189 yX4_makeBlocks, Cond.instanceMethod yX4_makeBlocks]
def wsL_restBars_r2 : List Cond := [Cond.selects RX4 yX4_makeBlocks yX4_makeBlocks, Cond.code yX4_makeBlocks cX4_makeBlocks 4 none, Cond.fieldLink RX4 44 "PartcopyistBench" "pagePlaces" "I", Cond.fieldLink RX4 47 "PartcopyistBench" "turnTicks" "I", Cond.fieldLink RX4 17 "PartcopyistBench" "bars" "[LPartcopyistBench$Bar;", Cond.methodLink RX4 329 yX1_begin, Cond.instanceMethod yX1_begin, Cond.selects RX1 yX1_begin yX1_begin, Cond.initialized RX1, Cond.code yX1_begin cX1_begin 3 none, Cond.fieldLink RX1 44 "PartcopyistBench$Blocks" "pagePlaces" "I", Cond.fieldLink RX1 47 "PartcopyistBench$Blocks" "turnTicks" "I", Cond.fieldLink RX1 40 "PartcopyistBench$Blocks" "count" "I", Cond.methodLink RX4 333 yX4_addToBlocks, Cond.instanceMethod yX4_addToBlocks, Cond.selects RX4 yX4_addToBlocks yX4_addToBlocks, Cond.code yX4_addToBlocks cX4_addToBlocks 9 none, Cond.fieldLink RX4 337 "PartcopyistBench$Bar" "ticks" "I", Cond.fieldLink RX4 23 "PartcopyistBench" "notes" "[LPartcopyistBench$Note;", Cond.fieldLink RX4 137 "PartcopyistBench$Note" "tick" "I", Cond.methodLink RX4 340 Lib.Math.min.name, Cond.static Lib.Math.min.name, Cond.initialized "java/lang/Math", Cond.code Lib.Math.min.name Lib.Math.min.code 2 (some .int)]
def wsL_restBars_r3 : List Cond := [Cond.fieldLink RX4 144 "PartcopyistBench$Note" "length" "I", Cond.methodLink RX4 343 Lib.Math.max.name, Cond.static Lib.Math.max.name, Cond.code Lib.Math.max.name Lib.Math.max.code 2 (some .int), Cond.fieldLink RX4 83 "PartcopyistBench$Bar" "hasMark" "Z", Cond.methodLink RX4 303 yX2_isAt, Cond.instanceMethod yX2_isAt, Cond.selects RX2 yX2_isAt yX2_isAt, Cond.initialized RX2, Cond.code yX2_isAt cX2_isAt 3 (some .boolean), Cond.fieldLink RX2 7 "PartcopyistBench$Note" "isIn" "Z", Cond.fieldLink RX2 26 "PartcopyistBench$Note" "part" "I", Cond.fieldLink RX2 29 "PartcopyistBench$Note" "bar" "I", Cond.methodLink RX4 346 yX1_addBarWithNotes, Cond.instanceMethod yX1_addBarWithNotes, Cond.selects RX1 yX1_addBarWithNotes yX1_addBarWithNotes, Cond.code yX1_addBarWithNotes cX1_addBarWithNotes 5 none, Cond.methodLink RX1 50 yX1_add, Cond.instanceMethod yX1_add, Cond.selects RX1 yX1_add yX1_add, Cond.code yX1_add cX1_add 6 none, Cond.fieldLink RX1 11 "PartcopyistBench$Blocks" "firstBars" "[I", Cond.fieldLink RX1 15 "PartcopyistBench$Blocks" "barCounts" "[I", Cond.fieldLink RX1 18 "PartcopyistBench$Blocks" "places" "[I"]
def wsL_restBars_r4 : List Cond := [Cond.fieldLink RX1 21 "PartcopyistBench$Blocks" "restAtStart" "[I", Cond.fieldLink RX1 24 "PartcopyistBench$Blocks" "restAtEnd" "[I", Cond.fieldLink RX1 27 "PartcopyistBench$Blocks" "isRest" "[Z", Cond.methodLink RX4 350 yX1_addEmptyBar, Cond.instanceMethod yX1_addEmptyBar, Cond.selects RX1 yX1_addEmptyBar yX1_addEmptyBar, Cond.code yX1_addEmptyBar cX1_addEmptyBar 5 none, Cond.methodLink RX1 54 yX1_isBlock, Cond.instanceMethod yX1_isBlock, Cond.selects RX1 yX1_isBlock yX1_isBlock, Cond.code yX1_isBlock cX1_isBlock 2 (some .boolean), Cond.methodLink RX4 353 yX1_blockOfRest, Cond.instanceMethod yX1_blockOfRest, Cond.selects RX1 yX1_blockOfRest yX1_blockOfRest, Cond.code yX1_blockOfRest cX1_blockOfRest 4 (some .int), Cond.methodLink RX4 202 yX1_barsOf, Cond.instanceMethod yX1_barsOf, Cond.selects RX1 yX1_barsOf yX1_barsOf, Cond.code yX1_barsOf cX1_barsOf 2 (some .int)]
def wsL_restBars : List Cond := .codeWith yL_restBars cL_restBars 5 (some .int) [(0, 10, 13, 25)] :: ((wsL_restBars_r1 ++ (wsL_restBars_r2 ++ (wsL_restBars_r3 ++ wsL_restBars_r4))) ++ wsX40 ++ wsX10 ++ wsX00 ++ wsX20 ++ (vx_atM "java/lang/ArrayIndexOutOfBoundsException" ["java/lang/IndexOutOfBoundsException", "java/lang/RuntimeException", "java/lang/Exception"]).filter goodWord ++ (vx_atS RX4 296 "java/lang/IndexOutOfBoundsException" ["java/lang/RuntimeException", "java/lang/Exception"]).filter goodWord)
def wsL_setPage : List Cond := .codeWith yL_setPage cL_setPage 4 (some .int) [(0, 9, 12, 13)] :: ([.classLink RL 13 "java/lang/IllegalArgumentException", .methodLink RL 87 yX4_setPage, .instanceMethod yX4_setPage, .selects RX4 yX4_setPage yX4_setPage, .initialized RX4, .code yX4_setPage cX4_setPage 3 (some .int), .classLink RX4 53 "java/lang/IllegalArgumentException", .initialized "java/lang/IllegalArgumentException", .fieldLink RX4 44 "PartcopyistBench" "pagePlaces" "I"] ++ wsX40 ++ (vx_atM "java/lang/ArrayIndexOutOfBoundsException" ["java/lang/IndexOutOfBoundsException", "java/lang/RuntimeException", "java/lang/Exception"]).filter goodWord ++ (vx_atS RX4 57 "java/lang/IllegalArgumentException" ["java/lang/RuntimeException", "java/lang/Exception"]).filter goodWord)
def wsL_setTurn : List Cond := .codeWith yL_setTurn cL_setTurn 4 (some .int) [(0, 9, 12, 13)] :: ([.classLink RL 13 "java/lang/IllegalArgumentException", .methodLink RL 90 yX4_setTurn, .instanceMethod yX4_setTurn, .selects RX4 yX4_setTurn yX4_setTurn, .initialized RX4, .code yX4_setTurn cX4_setTurn 3 (some .int), .classLink RX4 53 "java/lang/IllegalArgumentException", .initialized "java/lang/IllegalArgumentException", .fieldLink RX4 47 "PartcopyistBench" "turnTicks" "I"] ++ wsX40 ++ (vx_atM "java/lang/ArrayIndexOutOfBoundsException" ["java/lang/IndexOutOfBoundsException", "java/lang/RuntimeException", "java/lang/Exception"]).filter goodWord ++ (vx_atS RX4 57 "java/lang/IllegalArgumentException" ["java/lang/RuntimeException", "java/lang/Exception"]).filter goodWord)
def wsL_setCue : List Cond := .codeWith yL_setCue cL_setCue 4 (some .int) [(0, 9, 12, 13)] :: ([.classLink RL 13 "java/lang/IllegalArgumentException", .methodLink RL 93 yX4_setCue, .instanceMethod yX4_setCue, .selects RX4 yX4_setCue yX4_setCue, .initialized RX4, .code yX4_setCue cX4_setCue 3 (some .int), .classLink RX4 53 "java/lang/IllegalArgumentException", .initialized "java/lang/IllegalArgumentException", .fieldLink RX4 50 "PartcopyistBench" "cueBars" "I"] ++ wsX40 ++ (vx_atM "java/lang/ArrayIndexOutOfBoundsException" ["java/lang/IndexOutOfBoundsException", "java/lang/RuntimeException", "java/lang/Exception"]).filter goodWord ++ (vx_atS RX4 57 "java/lang/IllegalArgumentException" ["java/lang/RuntimeException", "java/lang/Exception"]).filter goodWord)
def wsL_hardTurns_r1 : List Cond := [Cond.classLink RL 25 "java/lang/IndexOutOfBoundsException", Cond.methodLink RL 96 yX4_hardTurns, Cond.instanceMethod yX4_hardTurns, Cond.selects RX4 yX4_hardTurns yX4_hardTurns, Cond.initialized RX4, Cond.code yX4_hardTurns cX4_hardTurns 2 (some .int), Cond.fieldLink RX4 30 "PartcopyistBench" "blocks" "LPartcopyistBench$Blocks;", Cond.methodLink RX4 92 yX4_knownPart, Cond.instanceMethod yX4_knownPart, Cond.selects RX4 yX4_knownPart yX4_knownPart, Cond.code yX4_knownPart cX4_knownPart 3 (some (.object "PartcopyistBench$Part")), Cond.classLink RX4 292 "java/lang/IndexOutOfBoundsException", Cond.initialized "java/lang/IndexOutOfBoundsException", Cond.methodLink RX4 258 yX4_partOrNull, Cond.instanceMethod yX4_partOrNull, Cond.selects RX4 yX4_partOrNull yX4_partOrNull, Cond.code yX4_partOrNull cX4_partOrNull 2 (some (.object "PartcopyistBench$Part")), Cond.fieldLink RX4 11 "PartcopyistBench" "parts" "[LPartcopyistBench$Part;", Cond.methodLink RX4 189 yX4_makeBlocks, Cond.instanceMethod yX4_makeBlocks, Cond.selects RX4 yX4_makeBlocks yX4_makeBlocks, Cond.code yX4_makeBlocks cX4_makeBlocks 4 none, Cond.fieldLink RX4 44 "PartcopyistBench" "pagePlaces" "I", Cond.fieldLink RX4 47 "PartcopyistBench" "turnTicks" "I"]
def wsL_hardTurns_r2 : List Cond := [Cond.fieldLink RX4 17 "PartcopyistBench" "bars" "[LPartcopyistBench$Bar;", Cond.methodLink RX4 329 yX1_begin, Cond.instanceMethod yX1_begin, Cond.selects RX1 yX1_begin yX1_begin, Cond.initialized RX1, Cond.code yX1_begin cX1_begin 3 none, Cond.fieldLink RX1 44 "PartcopyistBench$Blocks" "pagePlaces" "I", Cond.fieldLink RX1 47 "PartcopyistBench$Blocks" "turnTicks" "I", Cond.fieldLink RX1 40 "PartcopyistBench$Blocks" "count" "I", Cond.methodLink RX4 333 yX4_addToBlocks, Cond.instanceMethod yX4_addToBlocks, Cond.selects RX4 yX4_addToBlocks yX4_addToBlocks, Cond.code yX4_addToBlocks cX4_addToBlocks 9 none, Cond.fieldLink RX4 337 "PartcopyistBench$Bar" "ticks" "I", Cond.fieldLink RX4 23 "PartcopyistBench" "notes" "[LPartcopyistBench$Note;", Cond.fieldLink RX4 137 "PartcopyistBench$Note" "tick" "I", Cond.methodLink RX4 340 Lib.Math.min.name, Cond.static Lib.Math.min.name, Cond.initialized "java/lang/Math", Cond.code Lib.Math.min.name Lib.Math.min.code 2 (some .int), Cond.fieldLink RX4 144 "PartcopyistBench$Note" "length" "I", Cond.methodLink RX4 343 Lib.Math.max.name, Cond.static Lib.Math.max.name, Cond.code Lib.Math.max.name Lib.Math.max.code 2 (some .int)]
def wsL_hardTurns_r3 : List Cond := [Cond.fieldLink RX4 83 "PartcopyistBench$Bar" "hasMark" "Z", Cond.methodLink RX4 303 yX2_isAt, Cond.instanceMethod yX2_isAt, Cond.selects RX2 yX2_isAt yX2_isAt, Cond.initialized RX2, Cond.code yX2_isAt cX2_isAt 3 (some .boolean), Cond.fieldLink RX2 7 "PartcopyistBench$Note" "isIn" "Z", Cond.fieldLink RX2 26 "PartcopyistBench$Note" "part" "I", Cond.fieldLink RX2 29 "PartcopyistBench$Note" "bar" "I", Cond.methodLink RX4 346 yX1_addBarWithNotes, Cond.instanceMethod yX1_addBarWithNotes, Cond.selects RX1 yX1_addBarWithNotes yX1_addBarWithNotes, Cond.code yX1_addBarWithNotes cX1_addBarWithNotes 5 none, Cond.methodLink RX1 50 yX1_add, Cond.instanceMethod yX1_add, Cond.selects RX1 yX1_add yX1_add, Cond.code yX1_add cX1_add 6 none, Cond.fieldLink RX1 11 "PartcopyistBench$Blocks" "firstBars" "[I", Cond.fieldLink RX1 15 "PartcopyistBench$Blocks" "barCounts" "[I", Cond.fieldLink RX1 18 "PartcopyistBench$Blocks" "places" "[I", Cond.fieldLink RX1 21 "PartcopyistBench$Blocks" "restAtStart" "[I", Cond.fieldLink RX1 24 "PartcopyistBench$Blocks" "restAtEnd" "[I", Cond.fieldLink RX1 27 "PartcopyistBench$Blocks" "isRest" "[Z", Cond.methodLink RX4 350 yX1_addEmptyBar]
def wsL_hardTurns_r4 : List Cond := [Cond.instanceMethod yX1_addEmptyBar, Cond.selects RX1 yX1_addEmptyBar yX1_addEmptyBar, Cond.code yX1_addEmptyBar cX1_addEmptyBar 5 none, Cond.methodLink RX1 54 yX1_isBlock, Cond.instanceMethod yX1_isBlock, Cond.selects RX1 yX1_isBlock yX1_isBlock, Cond.code yX1_isBlock cX1_isBlock 2 (some .boolean), Cond.methodLink RX4 211 yX1_makePages, Cond.instanceMethod yX1_makePages, Cond.selects RX1 yX1_makePages yX1_makePages, Cond.code yX1_makePages cX1_makePages 2 none, Cond.fieldLink RX1 31 "PartcopyistBench$Blocks" "hardFrom" "[I", Cond.constant RX1 60 (2147483647), Cond.fieldLink RX1 34 "PartcopyistBench$Blocks" "pagesFrom" "[I", Cond.fieldLink RX1 37 "PartcopyistBench$Blocks" "nextPageFrom" "[I", Cond.methodLink RX1 61 yX1_makePageFrom, Cond.instanceMethod yX1_makePageFrom, Cond.selects RX1 yX1_makePageFrom yX1_makePageFrom, Cond.code yX1_makePageFrom cX1_makePageFrom 6 none, Cond.methodLink RX1 65 yX1_hardTurnAhead, Cond.instanceMethod yX1_hardTurnAhead, Cond.selects RX1 yX1_hardTurnAhead yX1_hardTurnAhead, Cond.code yX1_hardTurnAhead cX1_hardTurnAhead 2 (some .int), Cond.methodLink RX4 214 yX1_hardTurnsOfPages]
def wsL_hardTurns_r5 : List Cond := [Cond.instanceMethod yX1_hardTurnsOfPages, Cond.selects RX1 yX1_hardTurnsOfPages yX1_hardTurnsOfPages, Cond.code yX1_hardTurnsOfPages cX1_hardTurnsOfPages 1 (some .int)]
def wsL_hardTurns : List Cond := .codeWith yL_hardTurns cL_hardTurns 4 (some .int) [(0, 9, 12, 25)] :: ((wsL_hardTurns_r1 ++ (wsL_hardTurns_r2 ++ (wsL_hardTurns_r3 ++ (wsL_hardTurns_r4 ++ wsL_hardTurns_r5)))) ++ wsX40 ++ wsX10 ++ wsX00 ++ wsX20 ++ (vx_atM "java/lang/ArrayIndexOutOfBoundsException" ["java/lang/IndexOutOfBoundsException", "java/lang/RuntimeException", "java/lang/Exception"]).filter goodWord ++ (vx_atS RX4 296 "java/lang/IndexOutOfBoundsException" ["java/lang/RuntimeException", "java/lang/Exception"]).filter goodWord)
def wsL_hardTurnsByTrying_r1 : List Cond := [Cond.classLink RL 25 "java/lang/IndexOutOfBoundsException", Cond.methodLink RL 99 yX4_hardTurnsByTrying, Cond.instanceMethod yX4_hardTurnsByTrying, Cond.selects RX4 yX4_hardTurnsByTrying yX4_hardTurnsByTrying, Cond.initialized RX4, Cond.code yX4_hardTurnsByTrying cX4_hardTurnsByTrying 2 (some .int), Cond.fieldLink RX4 30 "PartcopyistBench" "blocks" "LPartcopyistBench$Blocks;", Cond.methodLink RX4 92 yX4_knownPart, Cond.instanceMethod yX4_knownPart, Cond.selects RX4 yX4_knownPart yX4_knownPart, Cond.code yX4_knownPart cX4_knownPart 3 (some (.object "PartcopyistBench$Part")), Cond.classLink RX4 292 "java/lang/IndexOutOfBoundsException", Cond.initialized "java/lang/IndexOutOfBoundsException", Cond.methodLink RX4 258 yX4_partOrNull, Cond.instanceMethod yX4_partOrNull, Cond.selects RX4 yX4_partOrNull yX4_partOrNull, Cond.code yX4_partOrNull cX4_partOrNull 2 (some (.object "PartcopyistBench$Part")), Cond.fieldLink RX4 11 "PartcopyistBench" "parts" "[LPartcopyistBench$Part;", Cond.methodLink RX4 189 yX4_makeBlocks, Cond.instanceMethod yX4_makeBlocks, Cond.selects RX4 yX4_makeBlocks yX4_makeBlocks, Cond.code yX4_makeBlocks cX4_makeBlocks 4 none, Cond.fieldLink RX4 44 "PartcopyistBench" "pagePlaces" "I", Cond.fieldLink RX4 47 "PartcopyistBench" "turnTicks" "I"]
def wsL_hardTurnsByTrying_r2 : List Cond := [Cond.fieldLink RX4 17 "PartcopyistBench" "bars" "[LPartcopyistBench$Bar;", Cond.methodLink RX4 329 yX1_begin, Cond.instanceMethod yX1_begin, Cond.selects RX1 yX1_begin yX1_begin, Cond.initialized RX1, Cond.code yX1_begin cX1_begin 3 none, Cond.fieldLink RX1 44 "PartcopyistBench$Blocks" "pagePlaces" "I", Cond.fieldLink RX1 47 "PartcopyistBench$Blocks" "turnTicks" "I", Cond.fieldLink RX1 40 "PartcopyistBench$Blocks" "count" "I", Cond.methodLink RX4 333 yX4_addToBlocks, Cond.instanceMethod yX4_addToBlocks, Cond.selects RX4 yX4_addToBlocks yX4_addToBlocks, Cond.code yX4_addToBlocks cX4_addToBlocks 9 none, Cond.fieldLink RX4 337 "PartcopyistBench$Bar" "ticks" "I", Cond.fieldLink RX4 23 "PartcopyistBench" "notes" "[LPartcopyistBench$Note;", Cond.fieldLink RX4 137 "PartcopyistBench$Note" "tick" "I", Cond.methodLink RX4 340 Lib.Math.min.name, Cond.static Lib.Math.min.name, Cond.initialized "java/lang/Math", Cond.code Lib.Math.min.name Lib.Math.min.code 2 (some .int), Cond.fieldLink RX4 144 "PartcopyistBench$Note" "length" "I", Cond.methodLink RX4 343 Lib.Math.max.name, Cond.static Lib.Math.max.name, Cond.code Lib.Math.max.name Lib.Math.max.code 2 (some .int)]
def wsL_hardTurnsByTrying_r3 : List Cond := [Cond.fieldLink RX4 83 "PartcopyistBench$Bar" "hasMark" "Z", Cond.methodLink RX4 303 yX2_isAt, Cond.instanceMethod yX2_isAt, Cond.selects RX2 yX2_isAt yX2_isAt, Cond.initialized RX2, Cond.code yX2_isAt cX2_isAt 3 (some .boolean), Cond.fieldLink RX2 7 "PartcopyistBench$Note" "isIn" "Z", Cond.fieldLink RX2 26 "PartcopyistBench$Note" "part" "I", Cond.fieldLink RX2 29 "PartcopyistBench$Note" "bar" "I", Cond.methodLink RX4 346 yX1_addBarWithNotes, Cond.instanceMethod yX1_addBarWithNotes, Cond.selects RX1 yX1_addBarWithNotes yX1_addBarWithNotes, Cond.code yX1_addBarWithNotes cX1_addBarWithNotes 5 none, Cond.methodLink RX1 50 yX1_add, Cond.instanceMethod yX1_add, Cond.selects RX1 yX1_add yX1_add, Cond.code yX1_add cX1_add 6 none, Cond.fieldLink RX1 11 "PartcopyistBench$Blocks" "firstBars" "[I", Cond.fieldLink RX1 15 "PartcopyistBench$Blocks" "barCounts" "[I", Cond.fieldLink RX1 18 "PartcopyistBench$Blocks" "places" "[I", Cond.fieldLink RX1 21 "PartcopyistBench$Blocks" "restAtStart" "[I", Cond.fieldLink RX1 24 "PartcopyistBench$Blocks" "restAtEnd" "[I", Cond.fieldLink RX1 27 "PartcopyistBench$Blocks" "isRest" "[Z", Cond.methodLink RX4 350 yX1_addEmptyBar]
def wsL_hardTurnsByTrying_r4 : List Cond := [Cond.instanceMethod yX1_addEmptyBar, Cond.selects RX1 yX1_addEmptyBar yX1_addEmptyBar, Cond.code yX1_addEmptyBar cX1_addEmptyBar 5 none, Cond.methodLink RX1 54 yX1_isBlock, Cond.instanceMethod yX1_isBlock, Cond.selects RX1 yX1_isBlock yX1_isBlock, Cond.code yX1_isBlock cX1_isBlock 2 (some .boolean), Cond.static yX1_fewestHardTurns, Cond.code yX1_fewestHardTurns cX1_fewestHardTurns 6 (some .int), Cond.methodLink RX1 73 Lib.Math.min.name, Cond.methodLink RX1 65 yX1_hardTurnAhead, Cond.instanceMethod yX1_hardTurnAhead, Cond.selects RX1 yX1_hardTurnAhead yX1_hardTurnAhead, Cond.code yX1_hardTurnAhead cX1_hardTurnAhead 2 (some .int), Cond.methodLink RX1 69 yX1_fewestHardTurns]
def wsL_hardTurnsByTrying : List Cond := .codeWith yL_hardTurnsByTrying cL_hardTurnsByTrying 4 (some .int) [(0, 9, 12, 25)] :: ((wsL_hardTurnsByTrying_r1 ++ (wsL_hardTurnsByTrying_r2 ++ (wsL_hardTurnsByTrying_r3 ++ wsL_hardTurnsByTrying_r4))) ++ wsX40 ++ wsX10 ++ wsX00 ++ wsX20 ++ (vx_atM "java/lang/ArrayIndexOutOfBoundsException" ["java/lang/IndexOutOfBoundsException", "java/lang/RuntimeException", "java/lang/Exception"]).filter goodWord ++ (vx_atS RX4 296 "java/lang/IndexOutOfBoundsException" ["java/lang/RuntimeException", "java/lang/Exception"]).filter goodWord)
def wsL_pages_r1 : List Cond := [Cond.classLink RL 25 "java/lang/IndexOutOfBoundsException", Cond.methodLink RL 102 yX4_pages, Cond.instanceMethod yX4_pages, Cond.selects RX4 yX4_pages yX4_pages, Cond.initialized RX4, Cond.code yX4_pages cX4_pages 2 (some .int), Cond.fieldLink RX4 30 "PartcopyistBench" "blocks" "LPartcopyistBench$Blocks;", Cond.methodLink RX4 92 yX4_knownPart, Cond.instanceMethod yX4_knownPart, Cond.selects RX4 yX4_knownPart yX4_knownPart, Cond.code yX4_knownPart cX4_knownPart 3 (some (.object "PartcopyistBench$Part")), Cond.classLink RX4 292 "java/lang/IndexOutOfBoundsException", Cond.initialized "java/lang/IndexOutOfBoundsException", Cond.methodLink RX4 258 yX4_partOrNull, Cond.instanceMethod yX4_partOrNull, Cond.selects RX4 yX4_partOrNull yX4_partOrNull, Cond.code yX4_partOrNull cX4_partOrNull 2 (some (.object "PartcopyistBench$Part")), Cond.fieldLink RX4 11 "PartcopyistBench" "parts" "[LPartcopyistBench$Part;", Cond.methodLink RX4 189 yX4_makeBlocks, Cond.instanceMethod yX4_makeBlocks, Cond.selects RX4 yX4_makeBlocks yX4_makeBlocks, Cond.code yX4_makeBlocks cX4_makeBlocks 4 none, Cond.fieldLink RX4 44 "PartcopyistBench" "pagePlaces" "I", Cond.fieldLink RX4 47 "PartcopyistBench" "turnTicks" "I"]
def wsL_pages_r2 : List Cond := [Cond.fieldLink RX4 17 "PartcopyistBench" "bars" "[LPartcopyistBench$Bar;", Cond.methodLink RX4 329 yX1_begin, Cond.instanceMethod yX1_begin, Cond.selects RX1 yX1_begin yX1_begin, Cond.initialized RX1, Cond.code yX1_begin cX1_begin 3 none, Cond.fieldLink RX1 44 "PartcopyistBench$Blocks" "pagePlaces" "I", Cond.fieldLink RX1 47 "PartcopyistBench$Blocks" "turnTicks" "I", Cond.fieldLink RX1 40 "PartcopyistBench$Blocks" "count" "I", Cond.methodLink RX4 333 yX4_addToBlocks, Cond.instanceMethod yX4_addToBlocks, Cond.selects RX4 yX4_addToBlocks yX4_addToBlocks, Cond.code yX4_addToBlocks cX4_addToBlocks 9 none, Cond.fieldLink RX4 337 "PartcopyistBench$Bar" "ticks" "I", Cond.fieldLink RX4 23 "PartcopyistBench" "notes" "[LPartcopyistBench$Note;", Cond.fieldLink RX4 137 "PartcopyistBench$Note" "tick" "I", Cond.methodLink RX4 340 Lib.Math.min.name, Cond.static Lib.Math.min.name, Cond.initialized "java/lang/Math", Cond.code Lib.Math.min.name Lib.Math.min.code 2 (some .int), Cond.fieldLink RX4 144 "PartcopyistBench$Note" "length" "I", Cond.methodLink RX4 343 Lib.Math.max.name, Cond.static Lib.Math.max.name, Cond.code Lib.Math.max.name Lib.Math.max.code 2 (some .int)]
def wsL_pages_r3 : List Cond := [Cond.fieldLink RX4 83 "PartcopyistBench$Bar" "hasMark" "Z", Cond.methodLink RX4 303 yX2_isAt, Cond.instanceMethod yX2_isAt, Cond.selects RX2 yX2_isAt yX2_isAt, Cond.initialized RX2, Cond.code yX2_isAt cX2_isAt 3 (some .boolean), Cond.fieldLink RX2 7 "PartcopyistBench$Note" "isIn" "Z", Cond.fieldLink RX2 26 "PartcopyistBench$Note" "part" "I", Cond.fieldLink RX2 29 "PartcopyistBench$Note" "bar" "I", Cond.methodLink RX4 346 yX1_addBarWithNotes, Cond.instanceMethod yX1_addBarWithNotes, Cond.selects RX1 yX1_addBarWithNotes yX1_addBarWithNotes, Cond.code yX1_addBarWithNotes cX1_addBarWithNotes 5 none, Cond.methodLink RX1 50 yX1_add, Cond.instanceMethod yX1_add, Cond.selects RX1 yX1_add yX1_add, Cond.code yX1_add cX1_add 6 none, Cond.fieldLink RX1 11 "PartcopyistBench$Blocks" "firstBars" "[I", Cond.fieldLink RX1 15 "PartcopyistBench$Blocks" "barCounts" "[I", Cond.fieldLink RX1 18 "PartcopyistBench$Blocks" "places" "[I", Cond.fieldLink RX1 21 "PartcopyistBench$Blocks" "restAtStart" "[I", Cond.fieldLink RX1 24 "PartcopyistBench$Blocks" "restAtEnd" "[I", Cond.fieldLink RX1 27 "PartcopyistBench$Blocks" "isRest" "[Z", Cond.methodLink RX4 350 yX1_addEmptyBar]
def wsL_pages_r4 : List Cond := [Cond.instanceMethod yX1_addEmptyBar, Cond.selects RX1 yX1_addEmptyBar yX1_addEmptyBar, Cond.code yX1_addEmptyBar cX1_addEmptyBar 5 none, Cond.methodLink RX1 54 yX1_isBlock, Cond.instanceMethod yX1_isBlock, Cond.selects RX1 yX1_isBlock yX1_isBlock, Cond.code yX1_isBlock cX1_isBlock 2 (some .boolean), Cond.methodLink RX4 211 yX1_makePages, Cond.instanceMethod yX1_makePages, Cond.selects RX1 yX1_makePages yX1_makePages, Cond.code yX1_makePages cX1_makePages 2 none, Cond.fieldLink RX1 31 "PartcopyistBench$Blocks" "hardFrom" "[I", Cond.constant RX1 60 (2147483647), Cond.fieldLink RX1 34 "PartcopyistBench$Blocks" "pagesFrom" "[I", Cond.fieldLink RX1 37 "PartcopyistBench$Blocks" "nextPageFrom" "[I", Cond.methodLink RX1 61 yX1_makePageFrom, Cond.instanceMethod yX1_makePageFrom, Cond.selects RX1 yX1_makePageFrom yX1_makePageFrom, Cond.code yX1_makePageFrom cX1_makePageFrom 6 none, Cond.methodLink RX1 65 yX1_hardTurnAhead, Cond.instanceMethod yX1_hardTurnAhead, Cond.selects RX1 yX1_hardTurnAhead yX1_hardTurnAhead, Cond.code yX1_hardTurnAhead cX1_hardTurnAhead 2 (some .int), Cond.methodLink RX4 221 yX1_countOfPages]
def wsL_pages_r5 : List Cond := [Cond.instanceMethod yX1_countOfPages, Cond.selects RX1 yX1_countOfPages yX1_countOfPages, Cond.code yX1_countOfPages cX1_countOfPages 1 (some .int)]
def wsL_pages : List Cond := .codeWith yL_pages cL_pages 4 (some .int) [(0, 9, 12, 25)] :: ((wsL_pages_r1 ++ (wsL_pages_r2 ++ (wsL_pages_r3 ++ (wsL_pages_r4 ++ wsL_pages_r5)))) ++ wsX40 ++ wsX10 ++ wsX00 ++ wsX20 ++ (vx_atM "java/lang/ArrayIndexOutOfBoundsException" ["java/lang/IndexOutOfBoundsException", "java/lang/RuntimeException", "java/lang/Exception"]).filter goodWord ++ (vx_atS RX4 296 "java/lang/IndexOutOfBoundsException" ["java/lang/RuntimeException", "java/lang/Exception"]).filter goodWord)
def wsL_pageEnd_r1 : List Cond := [Cond.classLink RL 25 "java/lang/IndexOutOfBoundsException", Cond.classLink RL 40 "java/util/NoSuchElementException", Cond.methodLink RL 105 yX4_pageEnd, Cond.instanceMethod yX4_pageEnd, Cond.selects RX4 yX4_pageEnd yX4_pageEnd, Cond.initialized RX4, Cond.code yX4_pageEnd cX4_pageEnd 3 (some .int), Cond.classLink RX4 224 "java/util/NoSuchElementException", Cond.initialized "java/util/NoSuchElementException", Cond.fieldLink RX4 30 "PartcopyistBench" "blocks" "LPartcopyistBench$Blocks;", Cond.methodLink RX4 92 yX4_knownPart, Cond.instanceMethod yX4_knownPart, Cond.selects RX4 yX4_knownPart yX4_knownPart, Cond.code yX4_knownPart cX4_knownPart 3 (some (.object "PartcopyistBench$Part")), Cond.classLink RX4 292 "java/lang/IndexOutOfBoundsException", Cond.initialized "java/lang/IndexOutOfBoundsException", Cond.methodLink RX4 258 yX4_partOrNull, Cond.instanceMethod yX4_partOrNull, Cond.selects RX4 yX4_partOrNull yX4_partOrNull, Cond.code yX4_partOrNull cX4_partOrNull 2 (some (.object "PartcopyistBench$Part")), Cond.fieldLink RX4 11 "PartcopyistBench" "parts" "[LPartcopyistBench$Part;", Cond.methodLink RX4 189 yX4_makeBlocks, Cond.instanceMethod yX4_makeBlocks, Cond.selects RX4 yX4_makeBlocks yX4_makeBlocks]
def wsL_pageEnd_r2 : List Cond := [Cond.code yX4_makeBlocks cX4_makeBlocks 4 none, Cond.fieldLink RX4 44 "PartcopyistBench" "pagePlaces" "I", Cond.fieldLink RX4 47 "PartcopyistBench" "turnTicks" "I", Cond.fieldLink RX4 17 "PartcopyistBench" "bars" "[LPartcopyistBench$Bar;", Cond.methodLink RX4 329 yX1_begin, Cond.instanceMethod yX1_begin, Cond.selects RX1 yX1_begin yX1_begin, Cond.initialized RX1, Cond.code yX1_begin cX1_begin 3 none, Cond.fieldLink RX1 44 "PartcopyistBench$Blocks" "pagePlaces" "I", Cond.fieldLink RX1 47 "PartcopyistBench$Blocks" "turnTicks" "I", Cond.fieldLink RX1 40 "PartcopyistBench$Blocks" "count" "I", Cond.methodLink RX4 333 yX4_addToBlocks, Cond.instanceMethod yX4_addToBlocks, Cond.selects RX4 yX4_addToBlocks yX4_addToBlocks, Cond.code yX4_addToBlocks cX4_addToBlocks 9 none, Cond.fieldLink RX4 337 "PartcopyistBench$Bar" "ticks" "I", Cond.fieldLink RX4 23 "PartcopyistBench" "notes" "[LPartcopyistBench$Note;", Cond.fieldLink RX4 137 "PartcopyistBench$Note" "tick" "I", Cond.methodLink RX4 340 Lib.Math.min.name, Cond.static Lib.Math.min.name, Cond.initialized "java/lang/Math", Cond.code Lib.Math.min.name Lib.Math.min.code 2 (some .int), Cond.fieldLink RX4 144 "PartcopyistBench$Note" "length" "I"]
def wsL_pageEnd_r3 : List Cond := [Cond.methodLink RX4 343 Lib.Math.max.name, Cond.static Lib.Math.max.name, Cond.code Lib.Math.max.name Lib.Math.max.code 2 (some .int), Cond.fieldLink RX4 83 "PartcopyistBench$Bar" "hasMark" "Z", Cond.methodLink RX4 303 yX2_isAt, Cond.instanceMethod yX2_isAt, Cond.selects RX2 yX2_isAt yX2_isAt, Cond.initialized RX2, Cond.code yX2_isAt cX2_isAt 3 (some .boolean), Cond.fieldLink RX2 7 "PartcopyistBench$Note" "isIn" "Z", Cond.fieldLink RX2 26 "PartcopyistBench$Note" "part" "I", Cond.fieldLink RX2 29 "PartcopyistBench$Note" "bar" "I", Cond.methodLink RX4 346 yX1_addBarWithNotes, Cond.instanceMethod yX1_addBarWithNotes, Cond.selects RX1 yX1_addBarWithNotes yX1_addBarWithNotes, Cond.code yX1_addBarWithNotes cX1_addBarWithNotes 5 none, Cond.methodLink RX1 50 yX1_add, Cond.instanceMethod yX1_add, Cond.selects RX1 yX1_add yX1_add, Cond.code yX1_add cX1_add 6 none, Cond.fieldLink RX1 11 "PartcopyistBench$Blocks" "firstBars" "[I", Cond.fieldLink RX1 15 "PartcopyistBench$Blocks" "barCounts" "[I", Cond.fieldLink RX1 18 "PartcopyistBench$Blocks" "places" "[I", Cond.fieldLink RX1 21 "PartcopyistBench$Blocks" "restAtStart" "[I"]
def wsL_pageEnd_r4 : List Cond := [Cond.fieldLink RX1 24 "PartcopyistBench$Blocks" "restAtEnd" "[I", Cond.fieldLink RX1 27 "PartcopyistBench$Blocks" "isRest" "[Z", Cond.methodLink RX4 350 yX1_addEmptyBar, Cond.instanceMethod yX1_addEmptyBar, Cond.selects RX1 yX1_addEmptyBar yX1_addEmptyBar, Cond.code yX1_addEmptyBar cX1_addEmptyBar 5 none, Cond.methodLink RX1 54 yX1_isBlock, Cond.instanceMethod yX1_isBlock, Cond.selects RX1 yX1_isBlock yX1_isBlock, Cond.code yX1_isBlock cX1_isBlock 2 (some .boolean), Cond.methodLink RX4 211 yX1_makePages, Cond.instanceMethod yX1_makePages, Cond.selects RX1 yX1_makePages yX1_makePages, Cond.code yX1_makePages cX1_makePages 2 none, Cond.fieldLink RX1 31 "PartcopyistBench$Blocks" "hardFrom" "[I", Cond.constant RX1 60 (2147483647), Cond.fieldLink RX1 34 "PartcopyistBench$Blocks" "pagesFrom" "[I", Cond.fieldLink RX1 37 "PartcopyistBench$Blocks" "nextPageFrom" "[I", Cond.methodLink RX1 61 yX1_makePageFrom, Cond.instanceMethod yX1_makePageFrom, Cond.selects RX1 yX1_makePageFrom yX1_makePageFrom, Cond.code yX1_makePageFrom cX1_makePageFrom 6 none, Cond.methodLink RX1 65 yX1_hardTurnAhead, Cond.instanceMethod yX1_hardTurnAhead]
def wsL_pageEnd_r5 : List Cond := [Cond.selects RX1 yX1_hardTurnAhead yX1_hardTurnAhead, Cond.code yX1_hardTurnAhead cX1_hardTurnAhead 2 (some .int), Cond.methodLink RX4 221 yX1_countOfPages, Cond.instanceMethod yX1_countOfPages, Cond.selects RX1 yX1_countOfPages yX1_countOfPages, Cond.code yX1_countOfPages cX1_countOfPages 1 (some .int), Cond.methodLink RX4 229 yX1_lastBlockOfPage, Cond.instanceMethod yX1_lastBlockOfPage, Cond.selects RX1 yX1_lastBlockOfPage yX1_lastBlockOfPage, Cond.code yX1_lastBlockOfPage cX1_lastBlockOfPage 4 (some .int), Cond.methodLink RX4 232 yX1_lastBarOf, Cond.instanceMethod yX1_lastBarOf, Cond.selects RX1 yX1_lastBarOf yX1_lastBarOf, Cond.code yX1_lastBarOf cX1_lastBarOf 2 (some .int)]
def wsL_pageEnd : List Cond := .codeWith yL_pageEnd cL_pageEnd 5 (some .int) [(0, 10, 13, 25), (0, 10, 17, 40)] :: ((wsL_pageEnd_r1 ++ (wsL_pageEnd_r2 ++ (wsL_pageEnd_r3 ++ (wsL_pageEnd_r4 ++ wsL_pageEnd_r5)))) ++ wsX40 ++ wsX10 ++ wsX00 ++ wsX20 ++ (vx_atM "java/lang/ArrayIndexOutOfBoundsException" ["java/lang/IndexOutOfBoundsException", "java/lang/RuntimeException", "java/lang/Exception"]).filter goodWord ++ (vx_atS RX4 228 "java/util/NoSuchElementException" ["java/lang/RuntimeException", "java/lang/Exception"]).filter goodWord ++ (vx_atS RX4 296 "java/lang/IndexOutOfBoundsException" ["java/lang/RuntimeException", "java/lang/Exception"]).filter goodWord)
def wsL_cuePart_r1 : List Cond := [Cond.classLink RL 25 "java/lang/IndexOutOfBoundsException", Cond.classLink RL 35 "java/lang/UnsupportedOperationException", Cond.methodLink RL 108 yX4_cuePart, Cond.instanceMethod yX4_cuePart, Cond.selects RX4 yX4_cuePart yX4_cuePart, Cond.initialized RX4, Cond.code yX4_cuePart cX4_cuePart 4 (some .int), Cond.methodLink RX4 92 yX4_knownPart, Cond.instanceMethod yX4_knownPart, Cond.selects RX4 yX4_knownPart yX4_knownPart, Cond.code yX4_knownPart cX4_knownPart 3 (some (.object "PartcopyistBench$Part")), Cond.classLink RX4 292 "java/lang/IndexOutOfBoundsException", Cond.initialized "java/lang/IndexOutOfBoundsException", Cond.methodLink RX4 258 yX4_partOrNull, Cond.instanceMethod yX4_partOrNull, Cond.selects RX4 yX4_partOrNull yX4_partOrNull, Cond.code yX4_partOrNull cX4_partOrNull 2 (some (.object "PartcopyistBench$Part")), Cond.fieldLink RX4 11 "PartcopyistBench" "parts" "[LPartcopyistBench$Part;", Cond.methodLink RX4 196 yX4_knownRest, Cond.instanceMethod yX4_knownRest, Cond.selects RX4 yX4_knownRest yX4_knownRest, Cond.code yX4_knownRest cX4_knownRest 4 (some .int), Cond.fieldLink RX4 30 "PartcopyistBench" "blocks" "LPartcopyistBench$Blocks;", Cond.methodLink RX4 189 yX4_makeBlocks]
def wsL_cuePart_r2 : List Cond := [Cond.instanceMethod yX4_makeBlocks, Cond.selects RX4 yX4_makeBlocks yX4_makeBlocks, Cond.code yX4_makeBlocks cX4_makeBlocks 4 none, Cond.fieldLink RX4 44 "PartcopyistBench" "pagePlaces" "I", Cond.fieldLink RX4 47 "PartcopyistBench" "turnTicks" "I", Cond.fieldLink RX4 17 "PartcopyistBench" "bars" "[LPartcopyistBench$Bar;", Cond.methodLink RX4 329 yX1_begin, Cond.instanceMethod yX1_begin, Cond.selects RX1 yX1_begin yX1_begin, Cond.initialized RX1, Cond.code yX1_begin cX1_begin 3 none, Cond.fieldLink RX1 44 "PartcopyistBench$Blocks" "pagePlaces" "I", Cond.fieldLink RX1 47 "PartcopyistBench$Blocks" "turnTicks" "I", Cond.fieldLink RX1 40 "PartcopyistBench$Blocks" "count" "I", Cond.methodLink RX4 333 yX4_addToBlocks, Cond.instanceMethod yX4_addToBlocks, Cond.selects RX4 yX4_addToBlocks yX4_addToBlocks, Cond.code yX4_addToBlocks cX4_addToBlocks 9 none, Cond.fieldLink RX4 337 "PartcopyistBench$Bar" "ticks" "I", Cond.fieldLink RX4 23 "PartcopyistBench" "notes" "[LPartcopyistBench$Note;", Cond.fieldLink RX4 137 "PartcopyistBench$Note" "tick" "I", Cond.methodLink RX4 340 Lib.Math.min.name, Cond.static Lib.Math.min.name, Cond.initialized "java/lang/Math"]
def wsL_cuePart_r3 : List Cond := [Cond.code Lib.Math.min.name Lib.Math.min.code 2 (some .int), Cond.fieldLink RX4 144 "PartcopyistBench$Note" "length" "I", Cond.methodLink RX4 343 Lib.Math.max.name, Cond.static Lib.Math.max.name, Cond.code Lib.Math.max.name Lib.Math.max.code 2 (some .int), Cond.fieldLink RX4 83 "PartcopyistBench$Bar" "hasMark" "Z", Cond.methodLink RX4 303 yX2_isAt, Cond.instanceMethod yX2_isAt, Cond.selects RX2 yX2_isAt yX2_isAt, Cond.initialized RX2, Cond.code yX2_isAt cX2_isAt 3 (some .boolean), Cond.fieldLink RX2 7 "PartcopyistBench$Note" "isIn" "Z", Cond.fieldLink RX2 26 "PartcopyistBench$Note" "part" "I", Cond.fieldLink RX2 29 "PartcopyistBench$Note" "bar" "I", Cond.methodLink RX4 346 yX1_addBarWithNotes, Cond.instanceMethod yX1_addBarWithNotes, Cond.selects RX1 yX1_addBarWithNotes yX1_addBarWithNotes, Cond.code yX1_addBarWithNotes cX1_addBarWithNotes 5 none, Cond.methodLink RX1 50 yX1_add, Cond.instanceMethod yX1_add, Cond.selects RX1 yX1_add yX1_add, Cond.code yX1_add cX1_add 6 none, Cond.fieldLink RX1 11 "PartcopyistBench$Blocks" "firstBars" "[I", Cond.fieldLink RX1 15 "PartcopyistBench$Blocks" "barCounts" "[I"]
def wsL_cuePart_r4 : List Cond := [Cond.fieldLink RX1 18 "PartcopyistBench$Blocks" "places" "[I", Cond.fieldLink RX1 21 "PartcopyistBench$Blocks" "restAtStart" "[I", Cond.fieldLink RX1 24 "PartcopyistBench$Blocks" "restAtEnd" "[I", Cond.fieldLink RX1 27 "PartcopyistBench$Blocks" "isRest" "[Z", Cond.methodLink RX4 350 yX1_addEmptyBar, Cond.instanceMethod yX1_addEmptyBar, Cond.selects RX1 yX1_addEmptyBar yX1_addEmptyBar, Cond.code yX1_addEmptyBar cX1_addEmptyBar 5 none, Cond.methodLink RX1 54 yX1_isBlock, Cond.instanceMethod yX1_isBlock, Cond.selects RX1 yX1_isBlock yX1_isBlock, Cond.code yX1_isBlock cX1_isBlock 2 (some .boolean), Cond.methodLink RX4 353 yX1_blockOfRest, Cond.instanceMethod yX1_blockOfRest, Cond.selects RX1 yX1_blockOfRest yX1_blockOfRest, Cond.code yX1_blockOfRest cX1_blockOfRest 4 (some .int), Cond.methodLink RX4 235 yX4_knownCue, Cond.instanceMethod yX4_knownCue, Cond.selects RX4 yX4_knownCue yX4_knownCue, Cond.code yX4_knownCue cX4_knownCue 7 (some .int), Cond.classLink RX4 112 "java/lang/UnsupportedOperationException", Cond.initialized "java/lang/UnsupportedOperationException", Cond.fieldLink RX4 50 "PartcopyistBench" "cueBars" "I", Cond.fieldLink RX4 38 "PartcopyistBench" "barCount" "I"]
def wsL_cuePart_r5 : List Cond := [Cond.methodLink RX4 232 yX1_lastBarOf, Cond.instanceMethod yX1_lastBarOf, Cond.selects RX1 yX1_lastBarOf yX1_lastBarOf, Cond.code yX1_lastBarOf cX1_lastBarOf 2 (some .int), Cond.methodLink RX4 202 yX1_barsOf, Cond.instanceMethod yX1_barsOf, Cond.selects RX1 yX1_barsOf yX1_barsOf, Cond.code yX1_barsOf cX1_barsOf 2 (some .int), Cond.methodLink RX4 358 yX4_fullestOtherPart, Cond.instanceMethod yX4_fullestOtherPart, Cond.selects RX4 yX4_fullestOtherPart yX4_fullestOtherPart, Cond.code yX4_fullestOtherPart cX4_fullestOtherPart 7 (some .int), Cond.fieldLink RX4 34 "PartcopyistBench" "partCount" "I", Cond.methodLink RX4 157 yX4_countInBar, Cond.instanceMethod yX4_countInBar, Cond.selects RX4 yX4_countInBar yX4_countInBar, Cond.code yX4_countInBar cX4_countInBar 6 (some .int)]
def wsL_cuePart : List Cond := .codeWith yL_cuePart cL_cuePart 5 (some .int) [(0, 10, 13, 25), (0, 10, 17, 35)] :: ((wsL_cuePart_r1 ++ (wsL_cuePart_r2 ++ (wsL_cuePart_r3 ++ (wsL_cuePart_r4 ++ wsL_cuePart_r5)))) ++ wsX40 ++ wsX10 ++ wsX00 ++ wsX20 ++ (vx_atM "java/lang/ArrayIndexOutOfBoundsException" ["java/lang/IndexOutOfBoundsException", "java/lang/RuntimeException", "java/lang/Exception"]).filter goodWord ++ (vx_atS RX4 296 "java/lang/IndexOutOfBoundsException" ["java/lang/RuntimeException", "java/lang/Exception"]).filter goodWord ++ (vx_atS RX4 116 "java/lang/UnsupportedOperationException" ["java/lang/RuntimeException", "java/lang/Exception"]).filter goodWord)
def wsL_cuePitch_r1 : List Cond := [Cond.classLink RL 25 "java/lang/IndexOutOfBoundsException", Cond.classLink RL 35 "java/lang/UnsupportedOperationException", Cond.classLink RL 40 "java/util/NoSuchElementException", Cond.methodLink RL 111 yX4_cuePitch, Cond.instanceMethod yX4_cuePitch, Cond.selects RX4 yX4_cuePitch yX4_cuePitch, Cond.initialized RX4, Cond.code yX4_cuePitch cX4_cuePitch 8 (some .int), Cond.fieldLink RX4 30 "PartcopyistBench" "blocks" "LPartcopyistBench$Blocks;", Cond.fieldLink RX4 125 "PartcopyistBench$Note" "pitch" "I", Cond.fieldLink RX4 173 "PartcopyistBench$Part" "shift" "I", Cond.methodLink RX4 92 yX4_knownPart, Cond.instanceMethod yX4_knownPart, Cond.selects RX4 yX4_knownPart yX4_knownPart, Cond.code yX4_knownPart cX4_knownPart 3 (some (.object "PartcopyistBench$Part")), Cond.classLink RX4 292 "java/lang/IndexOutOfBoundsException", Cond.initialized "java/lang/IndexOutOfBoundsException", Cond.methodLink RX4 258 yX4_partOrNull, Cond.instanceMethod yX4_partOrNull, Cond.selects RX4 yX4_partOrNull yX4_partOrNull, Cond.code yX4_partOrNull cX4_partOrNull 2 (some (.object "PartcopyistBench$Part")), Cond.fieldLink RX4 11 "PartcopyistBench" "parts" "[LPartcopyistBench$Part;", Cond.methodLink RX4 196 yX4_knownRest, Cond.instanceMethod yX4_knownRest]
def wsL_cuePitch_r2 : List Cond := [Cond.selects RX4 yX4_knownRest yX4_knownRest, Cond.code yX4_knownRest cX4_knownRest 4 (some .int), Cond.methodLink RX4 189 yX4_makeBlocks, Cond.instanceMethod yX4_makeBlocks, Cond.selects RX4 yX4_makeBlocks yX4_makeBlocks, Cond.code yX4_makeBlocks cX4_makeBlocks 4 none, Cond.fieldLink RX4 44 "PartcopyistBench" "pagePlaces" "I", Cond.fieldLink RX4 47 "PartcopyistBench" "turnTicks" "I", Cond.fieldLink RX4 17 "PartcopyistBench" "bars" "[LPartcopyistBench$Bar;", Cond.methodLink RX4 329 yX1_begin, Cond.instanceMethod yX1_begin, Cond.selects RX1 yX1_begin yX1_begin, Cond.initialized RX1, Cond.code yX1_begin cX1_begin 3 none, Cond.fieldLink RX1 44 "PartcopyistBench$Blocks" "pagePlaces" "I", Cond.fieldLink RX1 47 "PartcopyistBench$Blocks" "turnTicks" "I", Cond.fieldLink RX1 40 "PartcopyistBench$Blocks" "count" "I", Cond.methodLink RX4 333 yX4_addToBlocks, Cond.instanceMethod yX4_addToBlocks, Cond.selects RX4 yX4_addToBlocks yX4_addToBlocks, Cond.code yX4_addToBlocks cX4_addToBlocks 9 none, Cond.fieldLink RX4 337 "PartcopyistBench$Bar" "ticks" "I", Cond.fieldLink RX4 23 "PartcopyistBench" "notes" "[LPartcopyistBench$Note;", Cond.fieldLink RX4 137 "PartcopyistBench$Note" "tick" "I"]
def wsL_cuePitch_r3 : List Cond := [Cond.methodLink RX4 340 Lib.Math.min.name, Cond.static Lib.Math.min.name, Cond.initialized "java/lang/Math", Cond.code Lib.Math.min.name Lib.Math.min.code 2 (some .int), Cond.fieldLink RX4 144 "PartcopyistBench$Note" "length" "I", Cond.methodLink RX4 343 Lib.Math.max.name, Cond.static Lib.Math.max.name, Cond.code Lib.Math.max.name Lib.Math.max.code 2 (some .int), Cond.fieldLink RX4 83 "PartcopyistBench$Bar" "hasMark" "Z", Cond.methodLink RX4 303 yX2_isAt, Cond.instanceMethod yX2_isAt, Cond.selects RX2 yX2_isAt yX2_isAt, Cond.initialized RX2, Cond.code yX2_isAt cX2_isAt 3 (some .boolean), Cond.fieldLink RX2 7 "PartcopyistBench$Note" "isIn" "Z", Cond.fieldLink RX2 26 "PartcopyistBench$Note" "part" "I", Cond.fieldLink RX2 29 "PartcopyistBench$Note" "bar" "I", Cond.methodLink RX4 346 yX1_addBarWithNotes, Cond.instanceMethod yX1_addBarWithNotes, Cond.selects RX1 yX1_addBarWithNotes yX1_addBarWithNotes, Cond.code yX1_addBarWithNotes cX1_addBarWithNotes 5 none, Cond.methodLink RX1 50 yX1_add, Cond.instanceMethod yX1_add, Cond.selects RX1 yX1_add yX1_add]
def wsL_cuePitch_r4 : List Cond := [Cond.code yX1_add cX1_add 6 none, Cond.fieldLink RX1 11 "PartcopyistBench$Blocks" "firstBars" "[I", Cond.fieldLink RX1 15 "PartcopyistBench$Blocks" "barCounts" "[I", Cond.fieldLink RX1 18 "PartcopyistBench$Blocks" "places" "[I", Cond.fieldLink RX1 21 "PartcopyistBench$Blocks" "restAtStart" "[I", Cond.fieldLink RX1 24 "PartcopyistBench$Blocks" "restAtEnd" "[I", Cond.fieldLink RX1 27 "PartcopyistBench$Blocks" "isRest" "[Z", Cond.methodLink RX4 350 yX1_addEmptyBar, Cond.instanceMethod yX1_addEmptyBar, Cond.selects RX1 yX1_addEmptyBar yX1_addEmptyBar, Cond.code yX1_addEmptyBar cX1_addEmptyBar 5 none, Cond.methodLink RX1 54 yX1_isBlock, Cond.instanceMethod yX1_isBlock, Cond.selects RX1 yX1_isBlock yX1_isBlock, Cond.code yX1_isBlock cX1_isBlock 2 (some .boolean), Cond.methodLink RX4 353 yX1_blockOfRest, Cond.instanceMethod yX1_blockOfRest, Cond.selects RX1 yX1_blockOfRest yX1_blockOfRest, Cond.code yX1_blockOfRest cX1_blockOfRest 4 (some .int), Cond.methodLink RX4 235 yX4_knownCue, Cond.instanceMethod yX4_knownCue, Cond.selects RX4 yX4_knownCue yX4_knownCue, Cond.code yX4_knownCue cX4_knownCue 7 (some .int), Cond.classLink RX4 112 "java/lang/UnsupportedOperationException"]
def wsL_cuePitch_r5 : List Cond := [Cond.initialized "java/lang/UnsupportedOperationException", Cond.fieldLink RX4 50 "PartcopyistBench" "cueBars" "I", Cond.fieldLink RX4 38 "PartcopyistBench" "barCount" "I", Cond.methodLink RX4 232 yX1_lastBarOf, Cond.instanceMethod yX1_lastBarOf, Cond.selects RX1 yX1_lastBarOf yX1_lastBarOf, Cond.code yX1_lastBarOf cX1_lastBarOf 2 (some .int), Cond.methodLink RX4 202 yX1_barsOf, Cond.instanceMethod yX1_barsOf, Cond.selects RX1 yX1_barsOf yX1_barsOf, Cond.code yX1_barsOf cX1_barsOf 2 (some .int), Cond.methodLink RX4 358 yX4_fullestOtherPart, Cond.instanceMethod yX4_fullestOtherPart, Cond.selects RX4 yX4_fullestOtherPart yX4_fullestOtherPart, Cond.code yX4_fullestOtherPart cX4_fullestOtherPart 7 (some .int), Cond.fieldLink RX4 34 "PartcopyistBench" "partCount" "I", Cond.methodLink RX4 157 yX4_countInBar, Cond.instanceMethod yX4_countInBar, Cond.selects RX4 yX4_countInBar yX4_countInBar, Cond.code yX4_countInBar cX4_countInBar 6 (some .int), Cond.methodLink RX4 161 yX4_knownNoteInOrder, Cond.instanceMethod yX4_knownNoteInOrder, Cond.selects RX4 yX4_knownNoteInOrder yX4_knownNoteInOrder, Cond.code yX4_knownNoteInOrder cX4_knownNoteInOrder 6 (some .int)]
def wsL_cuePitch_r6 : List Cond := [Cond.classLink RX4 224 "java/util/NoSuchElementException", Cond.initialized "java/util/NoSuchElementException", Cond.methodLink RX4 312 yX4_countAhead, Cond.instanceMethod yX4_countAhead, Cond.selects RX4 yX4_countAhead yX4_countAhead, Cond.code yX4_countAhead cX4_countAhead 5 (some .int), Cond.fieldLink RX4 150 "PartcopyistBench$Note" "part" "I", Cond.fieldLink RX4 131 "PartcopyistBench$Note" "bar" "I", Cond.methodLink RX4 317 yX2_comesAheadOf, Cond.instanceMethod yX2_comesAheadOf, Cond.selects RX2 yX2_comesAheadOf yX2_comesAheadOf, Cond.code yX2_comesAheadOf cX2_comesAheadOf 2 (some .boolean), Cond.fieldLink RX2 35 "PartcopyistBench$Note" "tick" "I", Cond.fieldLink RX2 32 "PartcopyistBench$Note" "voice" "I", Cond.methodLink RX4 119 yX4_knownNote, Cond.instanceMethod yX4_knownNote, Cond.selects RX4 yX4_knownNote yX4_knownNote, Cond.code yX4_knownNote cX4_knownNote 3 (some (.object "PartcopyistBench$Note")), Cond.fieldLink RX4 147 "PartcopyistBench$Note" "isIn" "Z", Cond.methodLink RX4 253 yX4_noteOrNull, Cond.instanceMethod yX4_noteOrNull, Cond.selects RX4 yX4_noteOrNull yX4_noteOrNull, Cond.code yX4_noteOrNull cX4_noteOrNull 2 (some (.object "PartcopyistBench$Note"))]
def wsL_cuePitch : List Cond := .codeWith yL_cuePitch cL_cuePitch 6 (some .int) [(0, 12, 15, 25), (0, 12, 19, 35), (0, 12, 23, 40)] :: ((wsL_cuePitch_r1 ++ (wsL_cuePitch_r2 ++ (wsL_cuePitch_r3 ++ (wsL_cuePitch_r4 ++ (wsL_cuePitch_r5 ++ wsL_cuePitch_r6))))) ++ wsX40 ++ wsX20 ++ wsX30 ++ wsX10 ++ wsX00 ++ (vx_atM "java/lang/ArrayIndexOutOfBoundsException" ["java/lang/IndexOutOfBoundsException", "java/lang/RuntimeException", "java/lang/Exception"]).filter goodWord ++ (vx_atS RX4 296 "java/lang/IndexOutOfBoundsException" ["java/lang/RuntimeException", "java/lang/Exception"]).filter goodWord ++ (vx_atS RX4 116 "java/lang/UnsupportedOperationException" ["java/lang/RuntimeException", "java/lang/Exception"]).filter goodWord ++ (vx_atS RX4 228 "java/util/NoSuchElementException" ["java/lang/RuntimeException", "java/lang/Exception"]).filter goodWord)
def wsL_copyOut_r1 : List Cond := [Cond.classLink RL 25 "java/lang/IndexOutOfBoundsException", Cond.methodLink RL 114 yX4_copyOut, Cond.instanceMethod yX4_copyOut, Cond.selects RX4 yX4_copyOut yX4_copyOut, Cond.initialized RX4, Cond.code yX4_copyOut cX4_copyOut 3 (some .int), Cond.fieldLink RX4 238 "PartcopyistBench$Part" "isCopied" "Z", Cond.methodLink RX4 92 yX4_knownPart, Cond.instanceMethod yX4_knownPart, Cond.selects RX4 yX4_knownPart yX4_knownPart, Cond.code yX4_knownPart cX4_knownPart 3 (some (.object "PartcopyistBench$Part")), Cond.classLink RX4 292 "java/lang/IndexOutOfBoundsException", Cond.initialized "java/lang/IndexOutOfBoundsException", Cond.methodLink RX4 258 yX4_partOrNull, Cond.instanceMethod yX4_partOrNull, Cond.selects RX4 yX4_partOrNull yX4_partOrNull, Cond.code yX4_partOrNull cX4_partOrNull 2 (some (.object "PartcopyistBench$Part")), Cond.fieldLink RX4 11 "PartcopyistBench" "parts" "[LPartcopyistBench$Part;", Cond.methodLink RX4 241 yX4_bringCopyUpToDate, Cond.instanceMethod yX4_bringCopyUpToDate, Cond.selects RX4 yX4_bringCopyUpToDate yX4_bringCopyUpToDate, Cond.code yX4_bringCopyUpToDate cX4_bringCopyUpToDate 4 none, Cond.fieldLink RX4 23 "PartcopyistBench" "notes" "[LPartcopyistBench$Note;", Cond.fieldLink RX4 150 "PartcopyistBench$Note" "part" "I"]
def wsL_copyOut_r2 : List Cond := [Cond.methodLink RX4 363 yX2_enterCopy, Cond.instanceMethod yX2_enterCopy, Cond.selects RX2 yX2_enterCopy yX2_enterCopy, Cond.initialized RX2, Cond.code yX2_enterCopy cX2_enterCopy 1 none, Cond.fieldLink RX2 7 "PartcopyistBench$Note" "isIn" "Z", Cond.fieldLink RX2 13 "PartcopyistBench$Note" "isInCopy" "Z", Cond.fieldLink RX2 41 "PartcopyistBench$Note" "pitch" "I", Cond.fieldLink RX2 20 "PartcopyistBench$Note" "copyPitch" "I", Cond.fieldLink RX2 38 "PartcopyistBench$Note" "length" "I", Cond.fieldLink RX2 16 "PartcopyistBench$Note" "copyLength" "I", Cond.fieldLink RX2 23 "PartcopyistBench$Note" "isTouched" "Z", Cond.methodLink RX4 153 yX4_countOfPart, Cond.instanceMethod yX4_countOfPart, Cond.selects RX4 yX4_countOfPart yX4_countOfPart, Cond.code yX4_countOfPart cX4_countOfPart 5 (some .int), Cond.fieldLink RX4 147 "PartcopyistBench$Note" "isIn" "Z"]
def wsL_copyOut : List Cond := .codeWith yL_copyOut cL_copyOut 4 (some .int) [(0, 9, 12, 25)] :: ((wsL_copyOut_r1 ++ wsL_copyOut_r2) ++ wsX30 ++ wsX40 ++ wsX20 ++ (vx_atM "java/lang/ArrayIndexOutOfBoundsException" ["java/lang/IndexOutOfBoundsException", "java/lang/RuntimeException", "java/lang/Exception"]).filter goodWord ++ (vx_atS RX4 296 "java/lang/IndexOutOfBoundsException" ["java/lang/RuntimeException", "java/lang/Exception"]).filter goodWord)
def wsL_carry_r1 : List Cond := [Cond.classLink RL 25 "java/lang/IndexOutOfBoundsException", Cond.classLink RL 15 "java/lang/IllegalStateException", Cond.methodLink RL 117 yX4_carry, Cond.instanceMethod yX4_carry, Cond.selects RX4 yX4_carry yX4_carry, Cond.initialized RX4, Cond.code yX4_carry cX4_carry 3 (some .int), Cond.methodLink RX4 244 yX4_knownCopy, Cond.instanceMethod yX4_knownCopy, Cond.selects RX4 yX4_knownCopy yX4_knownCopy, Cond.code yX4_knownCopy cX4_knownCopy 3 none, Cond.classLink RX4 60 "java/lang/IllegalStateException", Cond.initialized "java/lang/IllegalStateException", Cond.fieldLink RX4 238 "PartcopyistBench$Part" "isCopied" "Z", Cond.methodLink RX4 92 yX4_knownPart, Cond.instanceMethod yX4_knownPart, Cond.selects RX4 yX4_knownPart yX4_knownPart, Cond.code yX4_knownPart cX4_knownPart 3 (some (.object "PartcopyistBench$Part")), Cond.classLink RX4 292 "java/lang/IndexOutOfBoundsException", Cond.initialized "java/lang/IndexOutOfBoundsException", Cond.methodLink RX4 258 yX4_partOrNull, Cond.instanceMethod yX4_partOrNull, Cond.selects RX4 yX4_partOrNull yX4_partOrNull, Cond.code yX4_partOrNull cX4_partOrNull 2 (some (.object "PartcopyistBench$Part"))]
def wsL_carry_r2 : List Cond := [Cond.fieldLink RX4 11 "PartcopyistBench" "parts" "[LPartcopyistBench$Part;", Cond.methodLink RX4 247 yX4_touchedDifferences, Cond.instanceMethod yX4_touchedDifferences, Cond.selects RX4 yX4_touchedDifferences yX4_touchedDifferences, Cond.code yX4_touchedDifferences cX4_touchedDifferences 5 (some .int), Cond.fieldLink RX4 23 "PartcopyistBench" "notes" "[LPartcopyistBench$Note;", Cond.fieldLink RX4 150 "PartcopyistBench$Note" "part" "I", Cond.fieldLink RX4 128 "PartcopyistBench$Note" "isTouched" "Z", Cond.methodLink RX4 366 yX2_differs, Cond.instanceMethod yX2_differs, Cond.selects RX2 yX2_differs yX2_differs, Cond.initialized RX2, Cond.code yX2_differs cX2_differs 1 (some .boolean), Cond.fieldLink RX2 7 "PartcopyistBench$Note" "isIn" "Z", Cond.fieldLink RX2 13 "PartcopyistBench$Note" "isInCopy" "Z", Cond.fieldLink RX2 41 "PartcopyistBench$Note" "pitch" "I", Cond.fieldLink RX2 20 "PartcopyistBench$Note" "copyPitch" "I", Cond.fieldLink RX2 38 "PartcopyistBench$Note" "length" "I", Cond.fieldLink RX2 16 "PartcopyistBench$Note" "copyLength" "I", Cond.methodLink RX4 241 yX4_bringCopyUpToDate, Cond.instanceMethod yX4_bringCopyUpToDate, Cond.selects RX4 yX4_bringCopyUpToDate yX4_bringCopyUpToDate, Cond.code yX4_bringCopyUpToDate cX4_bringCopyUpToDate 4 none, Cond.methodLink RX4 363 yX2_enterCopy]
def wsL_carry_r3 : List Cond := [Cond.instanceMethod yX2_enterCopy, Cond.selects RX2 yX2_enterCopy yX2_enterCopy, Cond.code yX2_enterCopy cX2_enterCopy 1 none, Cond.fieldLink RX2 23 "PartcopyistBench$Note" "isTouched" "Z"]
def wsL_carry : List Cond := .codeWith yL_carry cL_carry 4 (some .int) [(0, 9, 12, 25), (0, 9, 15, 15)] :: ((wsL_carry_r1 ++ (wsL_carry_r2 ++ wsL_carry_r3)) ++ wsX30 ++ wsX40 ++ wsX20 ++ (vx_atM "java/lang/ArrayIndexOutOfBoundsException" ["java/lang/IndexOutOfBoundsException", "java/lang/RuntimeException", "java/lang/Exception"]).filter goodWord ++ (vx_atS RX4 64 "java/lang/IllegalStateException" ["java/lang/RuntimeException", "java/lang/Exception"]).filter goodWord ++ (vx_atS RX4 296 "java/lang/IndexOutOfBoundsException" ["java/lang/RuntimeException", "java/lang/Exception"]).filter goodWord)
def wsL_differences_r1 : List Cond := [Cond.classLink RL 25 "java/lang/IndexOutOfBoundsException", Cond.classLink RL 15 "java/lang/IllegalStateException", Cond.methodLink RL 120 yX4_differences, Cond.instanceMethod yX4_differences, Cond.selects RX4 yX4_differences yX4_differences, Cond.initialized RX4, Cond.code yX4_differences cX4_differences 2 (some .int), Cond.methodLink RX4 244 yX4_knownCopy, Cond.instanceMethod yX4_knownCopy, Cond.selects RX4 yX4_knownCopy yX4_knownCopy, Cond.code yX4_knownCopy cX4_knownCopy 3 none, Cond.classLink RX4 60 "java/lang/IllegalStateException", Cond.initialized "java/lang/IllegalStateException", Cond.fieldLink RX4 238 "PartcopyistBench$Part" "isCopied" "Z", Cond.methodLink RX4 92 yX4_knownPart, Cond.instanceMethod yX4_knownPart, Cond.selects RX4 yX4_knownPart yX4_knownPart, Cond.code yX4_knownPart cX4_knownPart 3 (some (.object "PartcopyistBench$Part")), Cond.classLink RX4 292 "java/lang/IndexOutOfBoundsException", Cond.initialized "java/lang/IndexOutOfBoundsException", Cond.methodLink RX4 258 yX4_partOrNull, Cond.instanceMethod yX4_partOrNull, Cond.selects RX4 yX4_partOrNull yX4_partOrNull, Cond.code yX4_partOrNull cX4_partOrNull 2 (some (.object "PartcopyistBench$Part"))]
def wsL_differences_r2 : List Cond := [Cond.fieldLink RX4 11 "PartcopyistBench" "parts" "[LPartcopyistBench$Part;", Cond.methodLink RX4 247 yX4_touchedDifferences, Cond.instanceMethod yX4_touchedDifferences, Cond.selects RX4 yX4_touchedDifferences yX4_touchedDifferences, Cond.code yX4_touchedDifferences cX4_touchedDifferences 5 (some .int), Cond.fieldLink RX4 23 "PartcopyistBench" "notes" "[LPartcopyistBench$Note;", Cond.fieldLink RX4 150 "PartcopyistBench$Note" "part" "I", Cond.fieldLink RX4 128 "PartcopyistBench$Note" "isTouched" "Z", Cond.methodLink RX4 366 yX2_differs, Cond.instanceMethod yX2_differs, Cond.selects RX2 yX2_differs yX2_differs, Cond.initialized RX2, Cond.code yX2_differs cX2_differs 1 (some .boolean), Cond.fieldLink RX2 7 "PartcopyistBench$Note" "isIn" "Z", Cond.fieldLink RX2 13 "PartcopyistBench$Note" "isInCopy" "Z", Cond.fieldLink RX2 41 "PartcopyistBench$Note" "pitch" "I", Cond.fieldLink RX2 20 "PartcopyistBench$Note" "copyPitch" "I", Cond.fieldLink RX2 38 "PartcopyistBench$Note" "length" "I", Cond.fieldLink RX2 16 "PartcopyistBench$Note" "copyLength" "I"]
def wsL_differences : List Cond := .codeWith yL_differences cL_differences 4 (some .int) [(0, 9, 12, 25), (0, 9, 15, 15)] :: ((wsL_differences_r1 ++ wsL_differences_r2) ++ wsX30 ++ wsX40 ++ wsX20 ++ (vx_atM "java/lang/ArrayIndexOutOfBoundsException" ["java/lang/IndexOutOfBoundsException", "java/lang/RuntimeException", "java/lang/Exception"]).filter goodWord ++ (vx_atS RX4 64 "java/lang/IllegalStateException" ["java/lang/RuntimeException", "java/lang/Exception"]).filter goodWord ++ (vx_atS RX4 296 "java/lang/IndexOutOfBoundsException" ["java/lang/RuntimeException", "java/lang/Exception"]).filter goodWord)
def wsL_differencesByComparing_r1 : List Cond := [Cond.classLink RL 25 "java/lang/IndexOutOfBoundsException", Cond.classLink RL 15 "java/lang/IllegalStateException", Cond.methodLink RL 123 yX4_differencesByComparing, Cond.instanceMethod yX4_differencesByComparing, Cond.selects RX4 yX4_differencesByComparing yX4_differencesByComparing, Cond.initialized RX4, Cond.code yX4_differencesByComparing cX4_differencesByComparing 2 (some .int), Cond.methodLink RX4 244 yX4_knownCopy, Cond.instanceMethod yX4_knownCopy, Cond.selects RX4 yX4_knownCopy yX4_knownCopy, Cond.code yX4_knownCopy cX4_knownCopy 3 none, Cond.classLink RX4 60 "java/lang/IllegalStateException", Cond.initialized "java/lang/IllegalStateException", Cond.fieldLink RX4 238 "PartcopyistBench$Part" "isCopied" "Z", Cond.methodLink RX4 92 yX4_knownPart, Cond.instanceMethod yX4_knownPart, Cond.selects RX4 yX4_knownPart yX4_knownPart, Cond.code yX4_knownPart cX4_knownPart 3 (some (.object "PartcopyistBench$Part")), Cond.classLink RX4 292 "java/lang/IndexOutOfBoundsException", Cond.initialized "java/lang/IndexOutOfBoundsException", Cond.methodLink RX4 258 yX4_partOrNull, Cond.instanceMethod yX4_partOrNull, Cond.selects RX4 yX4_partOrNull yX4_partOrNull, Cond.code yX4_partOrNull cX4_partOrNull 2 (some (.object "PartcopyistBench$Part"))]
def wsL_differencesByComparing_r2 : List Cond := [Cond.fieldLink RX4 11 "PartcopyistBench" "parts" "[LPartcopyistBench$Part;", Cond.methodLink RX4 250 yX4_comparedDifferences, Cond.instanceMethod yX4_comparedDifferences, Cond.selects RX4 yX4_comparedDifferences yX4_comparedDifferences, Cond.code yX4_comparedDifferences cX4_comparedDifferences 5 (some .int), Cond.fieldLink RX4 23 "PartcopyistBench" "notes" "[LPartcopyistBench$Note;", Cond.fieldLink RX4 150 "PartcopyistBench$Note" "part" "I", Cond.methodLink RX4 366 yX2_differs, Cond.instanceMethod yX2_differs, Cond.selects RX2 yX2_differs yX2_differs, Cond.initialized RX2, Cond.code yX2_differs cX2_differs 1 (some .boolean), Cond.fieldLink RX2 7 "PartcopyistBench$Note" "isIn" "Z", Cond.fieldLink RX2 13 "PartcopyistBench$Note" "isInCopy" "Z", Cond.fieldLink RX2 41 "PartcopyistBench$Note" "pitch" "I", Cond.fieldLink RX2 20 "PartcopyistBench$Note" "copyPitch" "I", Cond.fieldLink RX2 38 "PartcopyistBench$Note" "length" "I", Cond.fieldLink RX2 16 "PartcopyistBench$Note" "copyLength" "I"]
def wsL_differencesByComparing : List Cond := .codeWith yL_differencesByComparing cL_differencesByComparing 4 (some .int) [(0, 9, 12, 25), (0, 9, 15, 15)] :: ((wsL_differencesByComparing_r1 ++ wsL_differencesByComparing_r2) ++ wsX30 ++ wsX40 ++ wsX20 ++ (vx_atM "java/lang/ArrayIndexOutOfBoundsException" ["java/lang/IndexOutOfBoundsException", "java/lang/RuntimeException", "java/lang/Exception"]).filter goodWord ++ (vx_atS RX4 64 "java/lang/IllegalStateException" ["java/lang/RuntimeException", "java/lang/Exception"]).filter goodWord ++ (vx_atS RX4 296 "java/lang/IndexOutOfBoundsException" ["java/lang/RuntimeException", "java/lang/Exception"]).filter goodWord)
def wsL_copied_r1 : List Cond := [Cond.classLink RL 40 "java/util/NoSuchElementException", Cond.classLink RL 15 "java/lang/IllegalStateException", Cond.methodLink RL 126 yX4_copied, Cond.instanceMethod yX4_copied, Cond.selects RX4 yX4_copied yX4_copied, Cond.initialized RX4, Cond.code yX4_copied cX4_copied 4 (some .int), Cond.classLink RX4 224 "java/util/NoSuchElementException", Cond.initialized "java/util/NoSuchElementException", Cond.classLink RX4 60 "java/lang/IllegalStateException", Cond.initialized "java/lang/IllegalStateException", Cond.fieldLink RX4 150 "PartcopyistBench$Note" "part" "I", Cond.fieldLink RX4 238 "PartcopyistBench$Part" "isCopied" "Z", Cond.fieldLink RX4 261 "PartcopyistBench$Note" "isInCopy" "Z", Cond.fieldLink RX4 266 "PartcopyistBench$Note" "copyPitch" "I", Cond.fieldLink RX4 173 "PartcopyistBench$Part" "shift" "I", Cond.methodLink RX4 253 yX4_noteOrNull, Cond.instanceMethod yX4_noteOrNull, Cond.selects RX4 yX4_noteOrNull yX4_noteOrNull, Cond.code yX4_noteOrNull cX4_noteOrNull 2 (some (.object "PartcopyistBench$Note")), Cond.fieldLink RX4 23 "PartcopyistBench" "notes" "[LPartcopyistBench$Note;", Cond.methodLink RX4 258 yX4_partOrNull, Cond.instanceMethod yX4_partOrNull, Cond.selects RX4 yX4_partOrNull yX4_partOrNull]
def wsL_copied_r2 : List Cond := [Cond.code yX4_partOrNull cX4_partOrNull 2 (some (.object "PartcopyistBench$Part")), Cond.fieldLink RX4 11 "PartcopyistBench" "parts" "[LPartcopyistBench$Part;"]
def wsL_copied : List Cond := .codeWith yL_copied cL_copied 4 (some .int) [(0, 9, 12, 40), (0, 9, 15, 15)] :: ((wsL_copied_r1 ++ wsL_copied_r2) ++ wsX20 ++ wsX30 ++ wsX40 ++ (vx_atM "java/lang/ArrayIndexOutOfBoundsException" ["java/lang/IndexOutOfBoundsException", "java/lang/RuntimeException", "java/lang/Exception"]).filter goodWord ++ (vx_atS RX4 228 "java/util/NoSuchElementException" ["java/lang/RuntimeException", "java/lang/Exception"]).filter goodWord ++ (vx_atS RX4 64 "java/lang/IllegalStateException" ["java/lang/RuntimeException", "java/lang/Exception"]).filter goodWord)
def wsL_meanPitch_r1 : List Cond := [Cond.classLink RL 25 "java/lang/IndexOutOfBoundsException", Cond.classLink RL 133 "java/lang/ArithmeticException", Cond.methodLink RL 129 yX4_meanPitch, Cond.instanceMethod yX4_meanPitch, Cond.selects RX4 yX4_meanPitch yX4_meanPitch, Cond.initialized RX4, Cond.code yX4_meanPitch cX4_meanPitch 3 (some .double), Cond.classLink RX4 269 "java/lang/ArithmeticException", Cond.initialized "java/lang/ArithmeticException", Cond.methodLink RX4 92 yX4_knownPart, Cond.instanceMethod yX4_knownPart, Cond.selects RX4 yX4_knownPart yX4_knownPart, Cond.code yX4_knownPart cX4_knownPart 3 (some (.object "PartcopyistBench$Part")), Cond.classLink RX4 292 "java/lang/IndexOutOfBoundsException", Cond.initialized "java/lang/IndexOutOfBoundsException", Cond.methodLink RX4 258 yX4_partOrNull, Cond.instanceMethod yX4_partOrNull, Cond.selects RX4 yX4_partOrNull yX4_partOrNull, Cond.code yX4_partOrNull cX4_partOrNull 2 (some (.object "PartcopyistBench$Part")), Cond.fieldLink RX4 11 "PartcopyistBench" "parts" "[LPartcopyistBench$Part;", Cond.methodLink RX4 153 yX4_countOfPart, Cond.instanceMethod yX4_countOfPart, Cond.selects RX4 yX4_countOfPart yX4_countOfPart, Cond.code yX4_countOfPart cX4_countOfPart 5 (some .int)]
def wsL_meanPitch_r2 : List Cond := [Cond.fieldLink RX4 23 "PartcopyistBench" "notes" "[LPartcopyistBench$Note;", Cond.fieldLink RX4 147 "PartcopyistBench$Note" "isIn" "Z", Cond.fieldLink RX4 150 "PartcopyistBench$Note" "part" "I", Cond.methodLink RX4 274 yX4_sumOfPitches, Cond.instanceMethod yX4_sumOfPitches, Cond.selects RX4 yX4_sumOfPitches yX4_sumOfPitches, Cond.code yX4_sumOfPitches cX4_sumOfPitches 5 (some .int), Cond.fieldLink RX4 125 "PartcopyistBench$Note" "pitch" "I"]
def wsL_meanPitch : List Cond := .codeWith yL_meanPitch cL_meanPitch 4 (some .int) [(0, 8, 11, 25), (0, 8, 14, 133)] :: ((wsL_meanPitch_r1 ++ wsL_meanPitch_r2) ++ wsX40 ++ wsX20 ++ (vx_atM "java/lang/ArrayIndexOutOfBoundsException" ["java/lang/IndexOutOfBoundsException", "java/lang/RuntimeException", "java/lang/Exception"]).filter goodWord ++ (vx_atS RX4 273 "java/lang/ArithmeticException" ["java/lang/RuntimeException", "java/lang/Exception"]).filter goodWord ++ (vx_atS RX4 296 "java/lang/IndexOutOfBoundsException" ["java/lang/RuntimeException", "java/lang/Exception"]).filter goodWord)
def wsL_restShare_r1 : List Cond := [Cond.classLink RL 25 "java/lang/IndexOutOfBoundsException", Cond.classLink RL 133 "java/lang/ArithmeticException", Cond.methodLink RL 135 yX4_restShare, Cond.instanceMethod yX4_restShare, Cond.selects RX4 yX4_restShare yX4_restShare, Cond.initialized RX4, Cond.code yX4_restShare cX4_restShare 2 (some .float), Cond.classLink RX4 269 "java/lang/ArithmeticException", Cond.initialized "java/lang/ArithmeticException", Cond.fieldLink RX4 38 "PartcopyistBench" "barCount" "I", Cond.methodLink RX4 92 yX4_knownPart, Cond.instanceMethod yX4_knownPart, Cond.selects RX4 yX4_knownPart yX4_knownPart, Cond.code yX4_knownPart cX4_knownPart 3 (some (.object "PartcopyistBench$Part")), Cond.classLink RX4 292 "java/lang/IndexOutOfBoundsException", Cond.initialized "java/lang/IndexOutOfBoundsException", Cond.methodLink RX4 258 yX4_partOrNull, Cond.instanceMethod yX4_partOrNull, Cond.selects RX4 yX4_partOrNull yX4_partOrNull, Cond.code yX4_partOrNull cX4_partOrNull 2 (some (.object "PartcopyistBench$Part")), Cond.fieldLink RX4 11 "PartcopyistBench" "parts" "[LPartcopyistBench$Part;", Cond.methodLink RX4 279 yX4_countOfEmptyBars, Cond.instanceMethod yX4_countOfEmptyBars, Cond.selects RX4 yX4_countOfEmptyBars yX4_countOfEmptyBars]
def wsL_restShare_r2 : List Cond := [Cond.code yX4_countOfEmptyBars cX4_countOfEmptyBars 4 (some .int), Cond.methodLink RX4 157 yX4_countInBar, Cond.instanceMethod yX4_countInBar, Cond.selects RX4 yX4_countInBar yX4_countInBar, Cond.code yX4_countInBar cX4_countInBar 6 (some .int), Cond.fieldLink RX4 23 "PartcopyistBench" "notes" "[LPartcopyistBench$Note;", Cond.methodLink RX4 303 yX2_isAt, Cond.instanceMethod yX2_isAt, Cond.selects RX2 yX2_isAt yX2_isAt, Cond.initialized RX2, Cond.code yX2_isAt cX2_isAt 3 (some .boolean), Cond.fieldLink RX2 7 "PartcopyistBench$Note" "isIn" "Z", Cond.fieldLink RX2 26 "PartcopyistBench$Note" "part" "I", Cond.fieldLink RX2 29 "PartcopyistBench$Note" "bar" "I"]
def wsL_restShare : List Cond := .codeWith yL_restShare cL_restShare 4 (some .int) [(0, 9, 12, 25), (0, 9, 15, 133)] :: ((wsL_restShare_r1 ++ wsL_restShare_r2) ++ wsX40 ++ wsX20 ++ (vx_atM "java/lang/ArrayIndexOutOfBoundsException" ["java/lang/IndexOutOfBoundsException", "java/lang/RuntimeException", "java/lang/Exception"]).filter goodWord ++ (vx_atS RX4 273 "java/lang/ArithmeticException" ["java/lang/RuntimeException", "java/lang/Exception"]).filter goodWord ++ (vx_atS RX4 296 "java/lang/IndexOutOfBoundsException" ["java/lang/RuntimeException", "java/lang/Exception"]).filter goodWord)
def wsL_law0_r1 : List Cond := [Cond.classLink RL 8 RX4, Cond.instantiable RX4 10, Cond.initialized RX4, Cond.classLink RL 140 RX5, Cond.instantiable RX5 27, Cond.initialized RX5, Cond.arrayClass .long, Cond.arrayClass .double, Cond.methodLink RL 139 yX4_init, Cond.instanceMethod yX4_init, Cond.code yX4_init cX4_init 1 none, Cond.methodLink RX4 1 objectInit, Cond.instanceMethod objectInit, Cond.code objectInit ⟨#[0xb1]⟩ 1 none, Cond.classLink RX4 9 RX3, Cond.fieldLink RX4 11 "PartcopyistBench" "parts" "[LPartcopyistBench$Part;", Cond.classLink RX4 15 RX0, Cond.fieldLink RX4 17 "PartcopyistBench" "bars" "[LPartcopyistBench$Bar;", Cond.classLink RX4 21 RX2, Cond.fieldLink RX4 23 "PartcopyistBench" "notes" "[LPartcopyistBench$Note;", Cond.classLink RX4 27 RX1, Cond.instantiable RX1 12, Cond.initialized RX1, Cond.fieldLink RX4 30 "PartcopyistBench" "blocks" "LPartcopyistBench$Blocks;"]
def wsL_law0_r2 : List Cond := [Cond.fieldLink RX4 34 "PartcopyistBench" "partCount" "I", Cond.fieldLink RX4 38 "PartcopyistBench" "barCount" "I", Cond.fieldLink RX4 41 "PartcopyistBench" "noteCount" "I", Cond.fieldLink RX4 44 "PartcopyistBench" "pagePlaces" "I", Cond.fieldLink RX4 47 "PartcopyistBench" "turnTicks" "I", Cond.fieldLink RX4 50 "PartcopyistBench" "cueBars" "I", Cond.instanceMethod yX1_init, Cond.code yX1_init cX1_init 1 none, Cond.methodLink RX1 3 objectInit, Cond.arrayClass .int, Cond.fieldLink RX1 11 "PartcopyistBench$Blocks" "firstBars" "[I", Cond.fieldLink RX1 15 "PartcopyistBench$Blocks" "barCounts" "[I", Cond.fieldLink RX1 18 "PartcopyistBench$Blocks" "places" "[I", Cond.fieldLink RX1 21 "PartcopyistBench$Blocks" "restAtStart" "[I", Cond.fieldLink RX1 24 "PartcopyistBench$Blocks" "restAtEnd" "[I", Cond.arrayClass .boolean, Cond.fieldLink RX1 27 "PartcopyistBench$Blocks" "isRest" "[Z", Cond.fieldLink RX1 31 "PartcopyistBench$Blocks" "hardFrom" "[I", Cond.fieldLink RX1 34 "PartcopyistBench$Blocks" "pagesFrom" "[I", Cond.fieldLink RX1 37 "PartcopyistBench$Blocks" "nextPageFrom" "[I", Cond.fieldLink RX1 40 "PartcopyistBench$Blocks" "count" "I", Cond.fieldLink RX1 44 "PartcopyistBench$Blocks" "pagePlaces" "I", Cond.fieldLink RX1 47 "PartcopyistBench$Blocks" "turnTicks" "I", Cond.methodLink RL 142 yX5_init]
def wsL_law0_r3 : List Cond := [Cond.instanceMethod yX5_init, Cond.code yX5_init cX5_init 1 none, Cond.methodLink RX5 1 objectInit, Cond.fieldLink RX5 9 "PartcopyistBenchModel" "shifts" "[I", Cond.fieldLink RX5 13 "PartcopyistBenchModel" "beats" "[I", Cond.fieldLink RX5 16 "PartcopyistBenchModel" "keys" "[I", Cond.fieldLink RX5 19 "PartcopyistBenchModel" "partOf" "[I", Cond.fieldLink RX5 22 "PartcopyistBenchModel" "barOf" "[I", Cond.fieldLink RX5 25 "PartcopyistBenchModel" "voices" "[I", Cond.fieldLink RX5 28 "PartcopyistBenchModel" "firsts" "[I", Cond.fieldLink RX5 31 "PartcopyistBenchModel" "lengths" "[I", Cond.fieldLink RX5 34 "PartcopyistBenchModel" "pitches" "[I", Cond.fieldLink RX5 37 "PartcopyistBenchModel" "copyLengths" "[I", Cond.fieldLink RX5 40 "PartcopyistBenchModel" "copyPitches" "[I", Cond.fieldLink RX5 43 "PartcopyistBenchModel" "marks" "[Z", Cond.fieldLink RX5 47 "PartcopyistBenchModel" "isOut" "[Z", Cond.fieldLink RX5 50 "PartcopyistBenchModel" "isCopied" "[Z", Cond.fieldLink RX5 53 "PartcopyistBenchModel" "page" "I", Cond.fieldLink RX5 57 "PartcopyistBenchModel" "turn" "I", Cond.fieldLink RX5 60 "PartcopyistBenchModel" "cue" "I", Cond.fieldLink RX5 63 "PartcopyistBenchModel" "blockFirst" "[I", Cond.fieldLink RX5 66 "PartcopyistBenchModel" "blockRest" "[I", Cond.fieldLink RX5 69 "PartcopyistBenchModel" "hard" "[I", Cond.fieldLink RX5 72 "PartcopyistBenchModel" "pageMany" "[I"]
def wsL_law0_r4 : List Cond := [Cond.fieldLink RX5 75 "PartcopyistBenchModel" "take" "[I", Cond.methodLink RL 143 yL_addPart, Cond.static yL_addPart, Cond.initialized RL, Cond.codeWith yL_addPart cL_addPart 4 (some .int) [(0, 9, 12, 13), (0, 9, 15, 15)], Cond.classLink RL 13 "java/lang/IllegalArgumentException", Cond.classLink RL 15 "java/lang/IllegalStateException", Cond.methodLink RL 7 yX4_addPart, Cond.instanceMethod yX4_addPart, Cond.selects RX4 yX4_addPart yX4_addPart, Cond.code yX4_addPart cX4_addPart 3 (some .int), Cond.classLink RX4 53 "java/lang/IllegalArgumentException", Cond.initialized "java/lang/IllegalArgumentException", Cond.classLink RX4 60 "java/lang/IllegalStateException", Cond.initialized "java/lang/IllegalStateException", Cond.instantiable RX3 2, Cond.initialized RX3, Cond.methodLink RX4 65 yX3_init, Cond.instanceMethod yX3_init, Cond.code yX3_init cX3_init 2 none, Cond.methodLink RX3 1 objectInit, Cond.fieldLink RX3 7 "PartcopyistBench$Part" "isCopied" "Z", Cond.fieldLink RX3 13 "PartcopyistBench$Part" "shift" "I", Cond.methodLink RL 148 yX5_addPart]
def wsL_law0_r5 : List Cond := [Cond.instanceMethod yX5_addPart, Cond.selects RX5 yX5_addPart yX5_addPart, Cond.code yX5_addPart cX5_addPart 2 (some .int), Cond.fieldLink RX5 78 "PartcopyistBenchModel" "thrown" "I", Cond.fieldLink RX5 81 "PartcopyistBenchModel" "parts" "I", Cond.methodLink RX5 84 yX5_isBetween, Cond.static yX5_isBetween, Cond.code yX5_isBetween cX5_isBetween 3 (some .boolean), Cond.methodLink RX5 94 yX5_fails, Cond.instanceMethod yX5_fails, Cond.selects RX5 yX5_fails yX5_fails, Cond.code yX5_fails cX5_fails 2 (some .int), Cond.methodLink RL 149 yX5_thrown, Cond.instanceMethod yX5_thrown, Cond.selects RX5 yX5_thrown yX5_thrown, Cond.code yX5_thrown cX5_thrown 1 (some .int), Cond.methodLink RL 153 yL_addBar, Cond.static yL_addBar, Cond.codeWith yL_addBar cL_addBar 6 (some .int) [(0, 12, 15, 13), (0, 12, 19, 15)], Cond.methodLink RL 17 yX4_addBar, Cond.instanceMethod yX4_addBar, Cond.selects RX4 yX4_addBar yX4_addBar, Cond.code yX4_addBar cX4_addBar 5 (some .int), Cond.instantiable RX0 3]
def wsL_law0_r6 : List Cond := [Cond.initialized RX0, Cond.methodLink RX4 68 yX4_isKey, Cond.static yX4_isKey, Cond.code yX4_isKey cX4_isKey 1 (some .boolean), Cond.methodLink RX4 76 yX0_init, Cond.instanceMethod yX0_init, Cond.code yX0_init cX0_init 4 none, Cond.methodLink RX0 1 objectInit, Cond.fieldLink RX0 7 "PartcopyistBench$Bar" "ticks" "I", Cond.fieldLink RX0 13 "PartcopyistBench$Bar" "key" "I", Cond.fieldLink RX0 16 "PartcopyistBench$Bar" "hasMark" "Z", Cond.methodLink RL 156 yX5_addBar, Cond.instanceMethod yX5_addBar, Cond.selects RX5 yX5_addBar yX5_addBar, Cond.code yX5_addBar cX5_addBar 4 (some .int), Cond.fieldLink RX5 88 "PartcopyistBenchModel" "bars" "I", Cond.methodLink RL 157 yL_setMark, Cond.static yL_setMark, Cond.codeWith yL_setMark cL_setMark 5 (some .int) [(0, 17, 20, 25)], Cond.classLink RL 25 "java/lang/IndexOutOfBoundsException", Cond.methodLink RL 21 yX4_setMark, Cond.instanceMethod yX4_setMark, Cond.selects RX4 yX4_setMark yX4_setMark, Cond.code yX4_setMark cX4_setMark 5 (some .boolean)]
def wsL_law0_r7 : List Cond := [Cond.fieldLink RX4 83 "PartcopyistBench$Bar" "hasMark" "Z", Cond.methodLink RX4 79 yX4_knownBar, Cond.instanceMethod yX4_knownBar, Cond.selects RX4 yX4_knownBar yX4_knownBar, Cond.code yX4_knownBar cX4_knownBar 3 (some (.object "PartcopyistBench$Bar")), Cond.classLink RX4 292 "java/lang/IndexOutOfBoundsException", Cond.initialized "java/lang/IndexOutOfBoundsException", Cond.methodLink RX4 134 yX4_barOrNull, Cond.instanceMethod yX4_barOrNull, Cond.selects RX4 yX4_barOrNull yX4_barOrNull, Cond.code yX4_barOrNull cX4_barOrNull 2 (some (.object "PartcopyistBench$Bar")), Cond.methodLink RL 160 yX5_setMark, Cond.instanceMethod yX5_setMark, Cond.selects RX5 yX5_setMark yX5_setMark, Cond.code yX5_setMark cX5_setMark 4 (some .boolean), Cond.methodLink RX5 98 yX5_isBar, Cond.instanceMethod yX5_isBar, Cond.selects RX5 yX5_isBar yX5_isBar, Cond.code yX5_isBar cX5_isBar 2 (some .boolean), Cond.methodLink RX5 102 yX5_isWrong, Cond.instanceMethod yX5_isWrong, Cond.selects RX5 yX5_isWrong yX5_isWrong, Cond.code yX5_isWrong cX5_isWrong 2 (some .boolean), Cond.methodLink RL 161 yL_setKey]
def wsL_law0_r8 : List Cond := [Cond.static yL_setKey, Cond.codeWith yL_setKey cL_setKey 5 (some .int) [(0, 10, 13, 25), (0, 10, 17, 13)], Cond.methodLink RL 27 yX4_setKey, Cond.instanceMethod yX4_setKey, Cond.selects RX4 yX4_setKey yX4_setKey, Cond.code yX4_setKey cX4_setKey 5 (some .int), Cond.fieldLink RX4 89 "PartcopyistBench$Bar" "key" "I", Cond.methodLink RL 164 yX5_setKey, Cond.instanceMethod yX5_setKey, Cond.selects RX5 yX5_setKey yX5_setKey, Cond.code yX5_setKey cX5_setKey 4 (some .int), Cond.methodLink RL 165 yL_addNote, Cond.static yL_addNote, Cond.codeWith yL_addNote cL_addNote 9 (some .int) [(0, 18, 21, 25), (0, 18, 25, 13), (0, 18, 29, 35), (0, 18, 33, 15)], Cond.classLink RL 35 "java/lang/UnsupportedOperationException", Cond.methodLink RL 31 yX4_addNote, Cond.instanceMethod yX4_addNote, Cond.selects RX4 yX4_addNote yX4_addNote, Cond.code yX4_addNote cX4_addNote 10 (some .int), Cond.classLink RX4 112 "java/lang/UnsupportedOperationException", Cond.initialized "java/lang/UnsupportedOperationException", Cond.instantiable RX2 11, Cond.initialized RX2, Cond.methodLink RX4 92 yX4_knownPart]
def wsL_law0_r9 : List Cond := [Cond.instanceMethod yX4_knownPart, Cond.selects RX4 yX4_knownPart yX4_knownPart, Cond.code yX4_knownPart cX4_knownPart 3 (some (.object "PartcopyistBench$Part")), Cond.methodLink RX4 258 yX4_partOrNull, Cond.instanceMethod yX4_partOrNull, Cond.selects RX4 yX4_partOrNull yX4_partOrNull, Cond.code yX4_partOrNull cX4_partOrNull 2 (some (.object "PartcopyistBench$Part")), Cond.methodLink RX4 96 yX4_isPitch, Cond.static yX4_isPitch, Cond.code yX4_isPitch cX4_isPitch 1 (some .boolean), Cond.methodLink RX4 99 yX0_holds, Cond.instanceMethod yX0_holds, Cond.selects RX0 yX0_holds yX0_holds, Cond.code yX0_holds cX0_holds 3 (some .boolean), Cond.methodLink RX4 105 yX2_init, Cond.instanceMethod yX2_init, Cond.code yX2_init cX2_init 7 none, Cond.methodLink RX2 1 objectInit, Cond.fieldLink RX2 7 "PartcopyistBench$Note" "isIn" "Z", Cond.fieldLink RX2 13 "PartcopyistBench$Note" "isInCopy" "Z", Cond.fieldLink RX2 16 "PartcopyistBench$Note" "copyLength" "I", Cond.fieldLink RX2 20 "PartcopyistBench$Note" "copyPitch" "I", Cond.fieldLink RX2 23 "PartcopyistBench$Note" "isTouched" "Z", Cond.fieldLink RX2 26 "PartcopyistBench$Note" "part" "I"]
def wsL_law0_r10 : List Cond := [Cond.fieldLink RX2 29 "PartcopyistBench$Note" "bar" "I", Cond.fieldLink RX2 32 "PartcopyistBench$Note" "voice" "I", Cond.fieldLink RX2 35 "PartcopyistBench$Note" "tick" "I", Cond.fieldLink RX2 38 "PartcopyistBench$Note" "length" "I", Cond.fieldLink RX2 41 "PartcopyistBench$Note" "pitch" "I", Cond.methodLink RX4 108 yX4_meetsAnother, Cond.instanceMethod yX4_meetsAnother, Cond.selects RX4 yX4_meetsAnother yX4_meetsAnother, Cond.code yX4_meetsAnother cX4_meetsAnother 5 (some .boolean), Cond.fieldLink RX4 150 "PartcopyistBench$Note" "part" "I", Cond.fieldLink RX4 131 "PartcopyistBench$Note" "bar" "I", Cond.fieldLink RX4 306 "PartcopyistBench$Note" "voice" "I", Cond.fieldLink RX4 137 "PartcopyistBench$Note" "tick" "I", Cond.methodLink RX4 303 yX2_isAt, Cond.instanceMethod yX2_isAt, Cond.selects RX2 yX2_isAt yX2_isAt, Cond.code yX2_isAt cX2_isAt 3 (some .boolean), Cond.methodLink RX4 309 yX2_sharesTicks, Cond.instanceMethod yX2_sharesTicks, Cond.selects RX2 yX2_sharesTicks yX2_sharesTicks, Cond.code yX2_sharesTicks cX2_sharesTicks 3 (some .boolean), Cond.methodLink RL 168 yX5_addNote, Cond.instanceMethod yX5_addNote, Cond.selects RX5 yX5_addNote yX5_addNote]
def wsL_law0_r11 : List Cond := [Cond.code yX5_addNote cX5_addNote 7 (some .int), Cond.fieldLink RX5 91 "PartcopyistBenchModel" "notes" "I", Cond.methodLink RX5 108 yX5_isPart, Cond.instanceMethod yX5_isPart, Cond.selects RX5 yX5_isPart yX5_isPart, Cond.code yX5_isPart cX5_isPart 2 (some .boolean), Cond.methodLink RX5 111 yX5_isWithin, Cond.instanceMethod yX5_isWithin, Cond.selects RX5 yX5_isWithin yX5_isWithin, Cond.code yX5_isWithin cX5_isWithin 4 (some .boolean), Cond.methodLink RX5 114 yX5_isTaken, Cond.instanceMethod yX5_isTaken, Cond.selects RX5 yX5_isTaken yX5_isTaken, Cond.code yX5_isTaken cX5_isTaken 8 (some .boolean), Cond.methodLink RX5 105 yX5_isAt, Cond.instanceMethod yX5_isAt, Cond.selects RX5 yX5_isAt yX5_isAt, Cond.code yX5_isAt cX5_isAt 4 (some .boolean), Cond.methodLink RL 169 yL_correct, Cond.static yL_correct, Cond.codeWith yL_correct cL_correct 5 (some .int) [(0, 10, 13, 40), (0, 10, 17, 13)], Cond.classLink RL 40 "java/util/NoSuchElementException", Cond.methodLink RL 37 yX4_correct, Cond.instanceMethod yX4_correct]
def wsL_law0_r12 : List Cond := [Cond.selects RX4 yX4_correct yX4_correct, Cond.code yX4_correct cX4_correct 5 (some .int), Cond.fieldLink RX4 125 "PartcopyistBench$Note" "pitch" "I", Cond.fieldLink RX4 128 "PartcopyistBench$Note" "isTouched" "Z", Cond.methodLink RX4 119 yX4_knownNote, Cond.instanceMethod yX4_knownNote, Cond.selects RX4 yX4_knownNote yX4_knownNote, Cond.code yX4_knownNote cX4_knownNote 3 (some (.object "PartcopyistBench$Note")), Cond.classLink RX4 224 "java/util/NoSuchElementException", Cond.initialized "java/util/NoSuchElementException", Cond.fieldLink RX4 147 "PartcopyistBench$Note" "isIn" "Z", Cond.methodLink RX4 253 yX4_noteOrNull, Cond.instanceMethod yX4_noteOrNull, Cond.selects RX4 yX4_noteOrNull yX4_noteOrNull, Cond.code yX4_noteOrNull cX4_noteOrNull 2 (some (.object "PartcopyistBench$Note")), Cond.methodLink RL 171 yX5_correct, Cond.instanceMethod yX5_correct, Cond.selects RX5 yX5_correct yX5_correct, Cond.code yX5_correct cX5_correct 4 (some .int), Cond.methodLink RX5 118 yX5_isNote, Cond.instanceMethod yX5_isNote, Cond.selects RX5 yX5_isNote yX5_isNote, Cond.code yX5_isNote cX5_isNote 2 (some .boolean), Cond.methodLink RL 172 yL_stretch]
def wsL_law0_r13 : List Cond := [Cond.static yL_stretch, Cond.codeWith yL_stretch cL_stretch 5 (some .int) [(0, 10, 13, 40), (0, 10, 17, 13), (0, 10, 21, 35)], Cond.methodLink RL 42 yX4_stretch, Cond.instanceMethod yX4_stretch, Cond.selects RX4 yX4_stretch yX4_stretch, Cond.code yX4_stretch cX4_stretch 6 (some .int), Cond.fieldLink RX4 144 "PartcopyistBench$Note" "length" "I", Cond.methodLink RL 174 yX5_stretch, Cond.instanceMethod yX5_stretch, Cond.selects RX5 yX5_stretch yX5_stretch, Cond.code yX5_stretch cX5_stretch 4 (some .int), Cond.methodLink RL 175 yL_takeOut, Cond.static yL_takeOut, Cond.codeWith yL_takeOut cL_takeOut 4 (some .int) [(0, 9, 12, 40)], Cond.methodLink RL 45 yX4_takeOut, Cond.instanceMethod yX4_takeOut, Cond.selects RX4 yX4_takeOut yX4_takeOut, Cond.code yX4_takeOut cX4_takeOut 3 (some .int), Cond.methodLink RX4 153 yX4_countOfPart, Cond.instanceMethod yX4_countOfPart, Cond.selects RX4 yX4_countOfPart yX4_countOfPart, Cond.code yX4_countOfPart cX4_countOfPart 5 (some .int), Cond.methodLink RL 177 yX5_takeOut, Cond.instanceMethod yX5_takeOut]
def wsL_law0_r14 : List Cond := [Cond.selects RX5 yX5_takeOut yX5_takeOut, Cond.code yX5_takeOut cX5_takeOut 2 (some .int), Cond.methodLink RX5 121 yX5_manyOf, Cond.instanceMethod yX5_manyOf, Cond.selects RX5 yX5_manyOf yX5_manyOf, Cond.code yX5_manyOf cX5_manyOf 4 (some .int), Cond.methodLink RL 178 yL_notesIn, Cond.static yL_notesIn, Cond.codeWith yL_notesIn cL_notesIn 5 (some .int) [(0, 10, 13, 25)], Cond.methodLink RL 48 yX4_notesIn, Cond.instanceMethod yX4_notesIn, Cond.selects RX4 yX4_notesIn yX4_notesIn, Cond.code yX4_notesIn cX4_notesIn 3 (some .int), Cond.methodLink RX4 157 yX4_countInBar, Cond.instanceMethod yX4_countInBar, Cond.selects RX4 yX4_countInBar yX4_countInBar, Cond.code yX4_countInBar cX4_countInBar 6 (some .int), Cond.methodLink RL 180 yX5_notesIn, Cond.instanceMethod yX5_notesIn, Cond.selects RX5 yX5_notesIn yX5_notesIn, Cond.code yX5_notesIn cX5_notesIn 3 (some .int), Cond.methodLink RX5 124 yX5_isNowhere, Cond.instanceMethod yX5_isNowhere, Cond.selects RX5 yX5_isNowhere yX5_isNowhere]
def wsL_law0_r15 : List Cond := [Cond.code yX5_isNowhere cX5_isNowhere 3 (some .boolean), Cond.methodLink RX5 128 yX5_many, Cond.instanceMethod yX5_many, Cond.selects RX5 yX5_many yX5_many, Cond.code yX5_many cX5_many 5 (some .int), Cond.methodLink RL 181 yL_noteAt, Cond.static yL_noteAt, Cond.codeWith yL_noteAt cL_noteAt 6 (some .int) [(0, 12, 15, 25), (0, 12, 19, 40)], Cond.methodLink RL 51 yX4_noteAt, Cond.instanceMethod yX4_noteAt, Cond.selects RX4 yX4_noteAt yX4_noteAt, Cond.code yX4_noteAt cX4_noteAt 4 (some .int), Cond.methodLink RX4 161 yX4_knownNoteInOrder, Cond.instanceMethod yX4_knownNoteInOrder, Cond.selects RX4 yX4_knownNoteInOrder yX4_knownNoteInOrder, Cond.code yX4_knownNoteInOrder cX4_knownNoteInOrder 6 (some .int), Cond.methodLink RX4 312 yX4_countAhead, Cond.instanceMethod yX4_countAhead, Cond.selects RX4 yX4_countAhead yX4_countAhead, Cond.code yX4_countAhead cX4_countAhead 5 (some .int), Cond.methodLink RX4 317 yX2_comesAheadOf, Cond.instanceMethod yX2_comesAheadOf, Cond.selects RX2 yX2_comesAheadOf yX2_comesAheadOf, Cond.code yX2_comesAheadOf cX2_comesAheadOf 2 (some .boolean)]
def wsL_law0_r16 : List Cond := [Cond.methodLink RL 184 yX5_noteAt, Cond.instanceMethod yX5_noteAt, Cond.selects RX5 yX5_noteAt yX5_noteAt, Cond.code yX5_noteAt cX5_noteAt 5 (some .int), Cond.methodLink RX5 132 yX5_noteBy, Cond.instanceMethod yX5_noteBy, Cond.selects RX5 yX5_noteBy yX5_noteBy, Cond.code yX5_noteBy cX5_noteBy 7 (some .int), Cond.methodLink RL 185 yL_pitchOf, Cond.static yL_pitchOf, Cond.codeWith yL_pitchOf cL_pitchOf 4 (some .int) [(0, 9, 12, 40)], Cond.methodLink RL 55 yX4_pitchOf, Cond.instanceMethod yX4_pitchOf, Cond.selects RX4 yX4_pitchOf yX4_pitchOf, Cond.code yX4_pitchOf cX4_pitchOf 2 (some .int), Cond.methodLink RL 187 yX5_pitchOf, Cond.instanceMethod yX5_pitchOf, Cond.selects RX5 yX5_pitchOf yX5_pitchOf, Cond.code yX5_pitchOf cX5_pitchOf 2 (some .int), Cond.methodLink RX5 136 yX5_isNone, Cond.instanceMethod yX5_isNone, Cond.selects RX5 yX5_isNone yX5_isNone, Cond.code yX5_isNone cX5_isNone 2 (some .boolean), Cond.methodLink RL 188 yL_lengthOf]
def wsL_law0_r17 : List Cond := [Cond.static yL_lengthOf, Cond.codeWith yL_lengthOf cL_lengthOf 4 (some .int) [(0, 9, 12, 40)], Cond.methodLink RL 58 yX4_lengthOf, Cond.instanceMethod yX4_lengthOf, Cond.selects RX4 yX4_lengthOf yX4_lengthOf, Cond.code yX4_lengthOf cX4_lengthOf 2 (some .int), Cond.methodLink RL 190 yX5_lengthOf, Cond.instanceMethod yX5_lengthOf, Cond.selects RX5 yX5_lengthOf yX5_lengthOf, Cond.code yX5_lengthOf cX5_lengthOf 2 (some .int), Cond.methodLink RL 191 yL_isDivided, Cond.static yL_isDivided, Cond.codeWith yL_isDivided cL_isDivided 5 (some .int) [(0, 17, 20, 25)], Cond.methodLink RL 61 yX4_isDivided, Cond.instanceMethod yX4_isDivided, Cond.selects RX4 yX4_isDivided yX4_isDivided, Cond.code yX4_isDivided cX4_isDivided 3 (some .boolean), Cond.methodLink RX4 165 yX4_hasVoice, Cond.instanceMethod yX4_hasVoice, Cond.selects RX4 yX4_hasVoice yX4_hasVoice, Cond.code yX4_hasVoice cX4_hasVoice 6 (some .boolean), Cond.methodLink RL 193 yX5_isDivided, Cond.instanceMethod yX5_isDivided, Cond.selects RX5 yX5_isDivided yX5_isDivided]
def wsL_law0_r18 : List Cond := [Cond.code yX5_isDivided cX5_isDivided 5 (some .boolean), Cond.methodLink RL 194 yL_written, Cond.static yL_written, Cond.codeWith yL_written cL_written 4 (some .int) [(0, 9, 12, 40)], Cond.methodLink RL 65 yX4_written, Cond.instanceMethod yX4_written, Cond.selects RX4 yX4_written yX4_written, Cond.code yX4_written cX4_written 2 (some .int), Cond.methodLink RX4 169 yX4_writtenPitch, Cond.instanceMethod yX4_writtenPitch, Cond.selects RX4 yX4_writtenPitch yX4_writtenPitch, Cond.code yX4_writtenPitch cX4_writtenPitch 3 (some .int), Cond.fieldLink RX4 173 "PartcopyistBench$Part" "shift" "I", Cond.methodLink RL 196 yX5_written, Cond.instanceMethod yX5_written, Cond.selects RX5 yX5_written yX5_written, Cond.code yX5_written cX5_written 2 (some .int), Cond.methodLink RX5 139 yX5_writtenOf, Cond.instanceMethod yX5_writtenOf, Cond.selects RX5 yX5_writtenOf yX5_writtenOf, Cond.code yX5_writtenOf cX5_writtenOf 2 (some .int), Cond.methodLink RL 197 yL_writtenKey, Cond.static yL_writtenKey, Cond.codeWith yL_writtenKey cL_writtenKey 5 (some .int) [(0, 10, 13, 25)]]
def wsL_law0_r19 : List Cond := [Cond.methodLink RL 68 yX4_writtenKey, Cond.instanceMethod yX4_writtenKey, Cond.selects RX4 yX4_writtenKey yX4_writtenKey, Cond.code yX4_writtenKey cX4_writtenKey 5 (some .int), Cond.methodLink RX4 176 yX4_shiftedKey, Cond.static yX4_shiftedKey, Cond.code yX4_shiftedKey cX4_shiftedKey 3 (some .int), Cond.methodLink RX4 321 yJ9_floorMod_7cf53, Cond.static yJ9_floorMod_7cf53, Cond.initialized RJ9, Cond.code yJ9_floorMod_7cf53 cJ9_floorMod_7cf53 3 (some .int), Cond.methodLink RL 199 yX5_writtenKey, Cond.instanceMethod yX5_writtenKey, Cond.selects RX5 yX5_writtenKey yX5_writtenKey, Cond.code yX5_writtenKey cX5_writtenKey 3 (some .int), Cond.methodLink RX5 145 yX5_keyOf, Cond.instanceMethod yX5_keyOf, Cond.selects RX5 yX5_keyOf yX5_keyOf, Cond.code yX5_keyOf cX5_keyOf 3 (some .int), Cond.methodLink RX5 142 yX5_rest, Cond.static yX5_rest, Cond.code yX5_rest cX5_rest 2 (some .int), Cond.methodLink RL 200 yL_letterOf, Cond.static yL_letterOf]
def wsL_law0_r20 : List Cond := [Cond.codeWith yL_letterOf cL_letterOf 4 (some .int) [(0, 9, 12, 40)], Cond.methodLink RL 71 yX4_letterOf, Cond.instanceMethod yX4_letterOf, Cond.selects RX4 yX4_letterOf yX4_letterOf, Cond.code yX4_letterOf cX4_letterOf 2 (some .char), Cond.methodLink RX4 179 yX4_placeOf, Cond.instanceMethod yX4_placeOf, Cond.selects RX4 yX4_placeOf yX4_placeOf, Cond.code yX4_placeOf cX4_placeOf 7 (some .int), Cond.methodLink RX4 182 yX4_letterOfPlace, Cond.static yX4_letterOfPlace, Cond.code yX4_letterOfPlace cX4_letterOfPlace 1 (some .char), Cond.methodLink RL 202 yX5_letterOf, Cond.instanceMethod yX5_letterOf, Cond.selects RX5 yX5_letterOf yX5_letterOf, Cond.code yX5_letterOf cX5_letterOf 2 (some .char), Cond.methodLink RX5 150 yX5_placeOf, Cond.instanceMethod yX5_placeOf, Cond.selects RX5 yX5_placeOf yX5_placeOf, Cond.code yX5_placeOf cX5_placeOf 3 (some .int), Cond.methodLink RX5 153 yJ0_charAt_5068e, Cond.instanceMethod yJ0_charAt_5068e, Cond.selects RJ0 yJ0_charAt_5068e yJ0_charAt_5068e, Cond.initialized RJ0]
def wsL_law0_r21 : List Cond := [Cond.code yJ0_charAt_5068e cJ0_charAt_5068e 2 (some .char), Cond.fieldLink RJ0 9 "java/lang/String" "value" "[B", Cond.methodLink RJ0 492 yJ0_isLatin1_aae02, Cond.instanceMethod yJ0_isLatin1_aae02, Cond.selects RJ0 yJ0_isLatin1_aae02 yJ0_isLatin1_aae02, Cond.code yJ0_isLatin1_aae02 cJ0_isLatin1_aae02 1 (some .boolean), Cond.fieldLink RJ0 38 "java/lang/String" "COMPACT_STRINGS" "Z", Cond.fieldLink RJ0 15 "java/lang/String" "coder" "B", Cond.methodLink RJ0 495 yJ1_charAt_3b067, Cond.static yJ1_charAt_3b067, Cond.initialized RJ1, Cond.code yJ1_charAt_3b067 cJ1_charAt_3b067 2 (some .char), Cond.methodLink RJ1 9 yJ0_checkIndex_df160, Cond.static yJ0_checkIndex_df160, Cond.code yJ0_checkIndex_df160 cJ0_checkIndex_df160 2 none, Cond.fieldLink RJ0 1053 "jdk/internal/util/Preconditions" "SIOOBE_FORMATTER" "Ljava/util/function/BiFunction;", Cond.methodLink RJ0 1059 yJ3_checkIndex_8e157, Cond.static yJ3_checkIndex_8e157, Cond.initialized RJ3, Cond.code yJ3_checkIndex_8e157 cJ3_checkIndex_8e157 3 (some .int), Cond.methodLink RJ0 498 yJ2_charAt_3b067, Cond.static yJ2_charAt_3b067, Cond.initialized RJ2, Cond.code yJ2_charAt_3b067 cJ2_charAt_3b067 2 (some .char)]
def wsL_law0_r22 : List Cond := [Cond.methodLink RJ2 67 yJ2_checkIndex_2214a, Cond.static yJ2_checkIndex_2214a, Cond.code yJ2_checkIndex_2214a cJ2_checkIndex_2214a 2 none, Cond.methodLink RJ2 48 yJ2_length_9d52b, Cond.static yJ2_length_9d52b, Cond.code yJ2_length_9d52b cJ2_length_9d52b 1 (some .int), Cond.methodLink RJ2 414 yJ0_checkIndex_df160, Cond.methodLink RJ2 71 yJ2_getChar_3b067, Cond.static yJ2_getChar_3b067, Cond.code yJ2_getChar_3b067 cJ2_getChar_3b067 2 (some .char), Cond.fieldLink RJ2 44 "java/lang/StringUTF16" "$assertionsDisabled" "Z", Cond.fieldLink RJ2 59 "java/lang/StringUTF16" "HI_BYTE_SHIFT" "I", Cond.fieldLink RJ2 63 "java/lang/StringUTF16" "LO_BYTE_SHIFT" "I", Cond.methodLink RL 203 yL_accidentalOf, Cond.static yL_accidentalOf, Cond.codeWith yL_accidentalOf cL_accidentalOf 4 (some .int) [(0, 9, 12, 40)], Cond.methodLink RL 75 yX4_accidentalOf, Cond.instanceMethod yX4_accidentalOf, Cond.selects RX4 yX4_accidentalOf yX4_accidentalOf, Cond.code yX4_accidentalOf cX4_accidentalOf 2 (some .int), Cond.methodLink RX4 186 yX4_sharpsOfPlace, Cond.static yX4_sharpsOfPlace, Cond.code yX4_sharpsOfPlace cX4_sharpsOfPlace 1 (some .int), Cond.methodLink RX4 326 yJ9_floorDiv_7cf53]
def wsL_law0_r23 : List Cond := [Cond.static yJ9_floorDiv_7cf53, Cond.code yJ9_floorDiv_7cf53 cJ9_floorDiv_7cf53 3 (some .int), Cond.methodLink RL 205 yX5_accidentalOf, Cond.instanceMethod yX5_accidentalOf, Cond.selects RX5 yX5_accidentalOf yX5_accidentalOf, Cond.code yX5_accidentalOf cX5_accidentalOf 3 (some .int), Cond.methodLink RL 206 yL_rests, Cond.static yL_rests, Cond.codeWith yL_rests cL_rests 4 (some .int) [(0, 9, 12, 25)], Cond.methodLink RL 78 yX4_rests, Cond.instanceMethod yX4_rests, Cond.selects RX4 yX4_rests yX4_rests, Cond.code yX4_rests cX4_rests 2 (some .int), Cond.methodLink RX4 189 yX4_makeBlocks, Cond.instanceMethod yX4_makeBlocks, Cond.selects RX4 yX4_makeBlocks yX4_makeBlocks, Cond.code yX4_makeBlocks cX4_makeBlocks 4 none, Cond.methodLink RX4 329 yX1_begin, Cond.instanceMethod yX1_begin, Cond.selects RX1 yX1_begin yX1_begin, Cond.code yX1_begin cX1_begin 3 none, Cond.methodLink RX4 333 yX4_addToBlocks, Cond.instanceMethod yX4_addToBlocks, Cond.selects RX4 yX4_addToBlocks yX4_addToBlocks]
def wsL_law0_r24 : List Cond := [Cond.code yX4_addToBlocks cX4_addToBlocks 9 none, Cond.fieldLink RX4 337 "PartcopyistBench$Bar" "ticks" "I", Cond.methodLink RX4 340 Lib.Math.min.name, Cond.static Lib.Math.min.name, Cond.initialized "java/lang/Math", Cond.code Lib.Math.min.name Lib.Math.min.code 2 (some .int), Cond.methodLink RX4 343 Lib.Math.max.name, Cond.static Lib.Math.max.name, Cond.code Lib.Math.max.name Lib.Math.max.code 2 (some .int), Cond.methodLink RX4 346 yX1_addBarWithNotes, Cond.instanceMethod yX1_addBarWithNotes, Cond.selects RX1 yX1_addBarWithNotes yX1_addBarWithNotes, Cond.code yX1_addBarWithNotes cX1_addBarWithNotes 5 none, Cond.methodLink RX1 50 yX1_add, Cond.instanceMethod yX1_add, Cond.selects RX1 yX1_add yX1_add, Cond.code yX1_add cX1_add 6 none, Cond.methodLink RX4 350 yX1_addEmptyBar, Cond.instanceMethod yX1_addEmptyBar, Cond.selects RX1 yX1_addEmptyBar yX1_addEmptyBar, Cond.code yX1_addEmptyBar cX1_addEmptyBar 5 none, Cond.methodLink RX1 54 yX1_isBlock, Cond.instanceMethod yX1_isBlock, Cond.selects RX1 yX1_isBlock yX1_isBlock]
def wsL_law0_r25 : List Cond := [Cond.code yX1_isBlock cX1_isBlock 2 (some .boolean), Cond.methodLink RX4 192 yX1_countOfRests, Cond.instanceMethod yX1_countOfRests, Cond.selects RX1 yX1_countOfRests yX1_countOfRests, Cond.code yX1_countOfRests cX1_countOfRests 3 (some .int), Cond.methodLink RL 208 yX5_rests, Cond.instanceMethod yX5_rests, Cond.selects RX5 yX5_rests yX5_rests, Cond.code yX5_rests cX5_rests 4 (some .int), Cond.fieldLink RX5 159 "PartcopyistBenchModel" "blocks" "I", Cond.methodLink RX5 171 yX5_isNoPart, Cond.instanceMethod yX5_isNoPart, Cond.selects RX5 yX5_isNoPart yX5_isNoPart, Cond.code yX5_isNoPart cX5_isNoPart 2 (some .boolean), Cond.methodLink RX5 167 yX5_finds, Cond.instanceMethod yX5_finds, Cond.selects RX5 yX5_finds yX5_finds, Cond.code yX5_finds cX5_finds 4 none, Cond.methodLink RL 209 yL_restFirst, Cond.static yL_restFirst, Cond.codeWith yL_restFirst cL_restFirst 5 (some .int) [(0, 10, 13, 25)], Cond.methodLink RL 81 yX4_restFirst, Cond.instanceMethod yX4_restFirst, Cond.selects RX4 yX4_restFirst yX4_restFirst]
def wsL_law0_r26 : List Cond := [Cond.code yX4_restFirst cX4_restFirst 3 (some .int), Cond.methodLink RX4 196 yX4_knownRest, Cond.instanceMethod yX4_knownRest, Cond.selects RX4 yX4_knownRest yX4_knownRest, Cond.code yX4_knownRest cX4_knownRest 4 (some .int), Cond.methodLink RX4 353 yX1_blockOfRest, Cond.instanceMethod yX1_blockOfRest, Cond.selects RX1 yX1_blockOfRest yX1_blockOfRest, Cond.code yX1_blockOfRest cX1_blockOfRest 4 (some .int), Cond.methodLink RX4 199 yX1_firstBarOf, Cond.instanceMethod yX1_firstBarOf, Cond.selects RX1 yX1_firstBarOf yX1_firstBarOf, Cond.code yX1_firstBarOf cX1_firstBarOf 2 (some .int), Cond.methodLink RL 211 yX5_restFirst, Cond.instanceMethod yX5_restFirst, Cond.selects RX5 yX5_restFirst yX5_restFirst, Cond.code yX5_restFirst cX5_restFirst 4 (some .int), Cond.methodLink RX5 174 yX5_blockOf, Cond.instanceMethod yX5_blockOf, Cond.selects RX5 yX5_blockOf yX5_blockOf, Cond.code yX5_blockOf cX5_blockOf 5 (some .int), Cond.methodLink RL 212 yL_restBars, Cond.static yL_restBars, Cond.codeWith yL_restBars cL_restBars 5 (some .int) [(0, 10, 13, 25)]]
def wsL_law0_r27 : List Cond := [Cond.methodLink RL 84 yX4_restBars, Cond.instanceMethod yX4_restBars, Cond.selects RX4 yX4_restBars yX4_restBars, Cond.code yX4_restBars cX4_restBars 3 (some .int), Cond.methodLink RX4 202 yX1_barsOf, Cond.instanceMethod yX1_barsOf, Cond.selects RX1 yX1_barsOf yX1_barsOf, Cond.code yX1_barsOf cX1_barsOf 2 (some .int), Cond.methodLink RL 214 yX5_restBars, Cond.instanceMethod yX5_restBars, Cond.selects RX5 yX5_restBars yX5_restBars, Cond.code yX5_restBars cX5_restBars 4 (some .int), Cond.methodLink RL 215 yL_setPage, Cond.static yL_setPage, Cond.codeWith yL_setPage cL_setPage 4 (some .int) [(0, 9, 12, 13)], Cond.methodLink RL 87 yX4_setPage, Cond.instanceMethod yX4_setPage, Cond.selects RX4 yX4_setPage yX4_setPage, Cond.code yX4_setPage cX4_setPage 3 (some .int), Cond.methodLink RL 217 yX5_setPage, Cond.instanceMethod yX5_setPage, Cond.selects RX5 yX5_setPage yX5_setPage, Cond.code yX5_setPage cX5_setPage 3 (some .int), Cond.methodLink RL 218 yL_setTurn]
def wsL_law0_r28 : List Cond := [Cond.static yL_setTurn, Cond.codeWith yL_setTurn cL_setTurn 4 (some .int) [(0, 9, 12, 13)], Cond.methodLink RL 90 yX4_setTurn, Cond.instanceMethod yX4_setTurn, Cond.selects RX4 yX4_setTurn yX4_setTurn, Cond.code yX4_setTurn cX4_setTurn 3 (some .int), Cond.methodLink RL 220 yX5_setTurn, Cond.instanceMethod yX5_setTurn, Cond.selects RX5 yX5_setTurn yX5_setTurn, Cond.code yX5_setTurn cX5_setTurn 3 (some .int), Cond.methodLink RL 221 yL_setCue, Cond.static yL_setCue, Cond.codeWith yL_setCue cL_setCue 4 (some .int) [(0, 9, 12, 13)], Cond.methodLink RL 93 yX4_setCue, Cond.instanceMethod yX4_setCue, Cond.selects RX4 yX4_setCue yX4_setCue, Cond.code yX4_setCue cX4_setCue 3 (some .int), Cond.methodLink RL 223 yX5_setCue, Cond.instanceMethod yX5_setCue, Cond.selects RX5 yX5_setCue yX5_setCue, Cond.code yX5_setCue cX5_setCue 3 (some .int), Cond.methodLink RL 224 yL_hardTurns, Cond.static yL_hardTurns, Cond.codeWith yL_hardTurns cL_hardTurns 4 (some .int) [(0, 9, 12, 25)]]
def wsL_law0_r29 : List Cond := [Cond.methodLink RL 96 yX4_hardTurns, Cond.instanceMethod yX4_hardTurns, Cond.selects RX4 yX4_hardTurns yX4_hardTurns, Cond.code yX4_hardTurns cX4_hardTurns 2 (some .int), Cond.methodLink RX4 211 yX1_makePages, Cond.instanceMethod yX1_makePages, Cond.selects RX1 yX1_makePages yX1_makePages, Cond.code yX1_makePages cX1_makePages 2 none, Cond.constant RX1 60 (2147483647), Cond.methodLink RX1 61 yX1_makePageFrom, Cond.instanceMethod yX1_makePageFrom, Cond.selects RX1 yX1_makePageFrom yX1_makePageFrom, Cond.code yX1_makePageFrom cX1_makePageFrom 6 none, Cond.methodLink RX1 65 yX1_hardTurnAhead, Cond.instanceMethod yX1_hardTurnAhead, Cond.selects RX1 yX1_hardTurnAhead yX1_hardTurnAhead, Cond.code yX1_hardTurnAhead cX1_hardTurnAhead 2 (some .int), Cond.methodLink RX4 214 yX1_hardTurnsOfPages, Cond.instanceMethod yX1_hardTurnsOfPages, Cond.selects RX1 yX1_hardTurnsOfPages yX1_hardTurnsOfPages, Cond.code yX1_hardTurnsOfPages cX1_hardTurnsOfPages 1 (some .int), Cond.methodLink RL 226 yX5_hardTurns, Cond.instanceMethod yX5_hardTurns, Cond.selects RX5 yX5_hardTurns yX5_hardTurns]
def wsL_law0_r30 : List Cond := [Cond.code yX5_hardTurns cX5_hardTurns 2 (some .int), Cond.methodLink RX5 190 yX5_makes, Cond.instanceMethod yX5_makes, Cond.selects RX5 yX5_makes yX5_makes, Cond.code yX5_makes cX5_makes 7 none, Cond.methodLink RX5 187 yX5_turnBehind, Cond.instanceMethod yX5_turnBehind, Cond.selects RX5 yX5_turnBehind yX5_turnBehind, Cond.code yX5_turnBehind cX5_turnBehind 3 (some .int), Cond.methodLink RX5 183 yX5_quiet, Cond.instanceMethod yX5_quiet, Cond.selects RX5 yX5_quiet yX5_quiet, Cond.code yX5_quiet cX5_quiet 7 (some .int), Cond.methodLink RX5 180 Lib.Math.min.name, Cond.methodLink RX5 177 yX5_lastBar, Cond.instanceMethod yX5_lastBar, Cond.selects RX5 yX5_lastBar yX5_lastBar, Cond.code yX5_lastBar cX5_lastBar 2 (some .int), Cond.methodLink RX5 162 Lib.Math.max.name, Cond.methodLink RL 227 yL_hardTurnsByTrying, Cond.static yL_hardTurnsByTrying, Cond.codeWith yL_hardTurnsByTrying cL_hardTurnsByTrying 4 (some .int) [(0, 9, 12, 25)], Cond.methodLink RL 99 yX4_hardTurnsByTrying, Cond.instanceMethod yX4_hardTurnsByTrying]
def wsL_law0_r31 : List Cond := [Cond.selects RX4 yX4_hardTurnsByTrying yX4_hardTurnsByTrying, Cond.code yX4_hardTurnsByTrying cX4_hardTurnsByTrying 2 (some .int), Cond.static yX1_fewestHardTurns, Cond.code yX1_fewestHardTurns cX1_fewestHardTurns 6 (some .int), Cond.methodLink RX1 73 Lib.Math.min.name, Cond.methodLink RX1 69 yX1_fewestHardTurns, Cond.methodLink RL 229 yX5_hardTurnsByTrying, Cond.instanceMethod yX5_hardTurnsByTrying, Cond.selects RX5 yX5_hardTurnsByTrying yX5_hardTurnsByTrying, Cond.code yX5_hardTurnsByTrying cX5_hardTurnsByTrying 2 (some .int), Cond.methodLink RX5 193 yX5_hardTurns, Cond.methodLink RL 230 yL_pages, Cond.static yL_pages, Cond.codeWith yL_pages cL_pages 4 (some .int) [(0, 9, 12, 25)], Cond.methodLink RL 102 yX4_pages, Cond.instanceMethod yX4_pages, Cond.selects RX4 yX4_pages yX4_pages, Cond.code yX4_pages cX4_pages 2 (some .int), Cond.methodLink RX4 221 yX1_countOfPages, Cond.instanceMethod yX1_countOfPages, Cond.selects RX1 yX1_countOfPages yX1_countOfPages, Cond.code yX1_countOfPages cX1_countOfPages 1 (some .int), Cond.methodLink RL 232 yX5_pages, Cond.instanceMethod yX5_pages]
def wsL_law0_r32 : List Cond := [Cond.selects RX5 yX5_pages yX5_pages, Cond.code yX5_pages cX5_pages 2 (some .int), Cond.methodLink RL 233 yL_pageEnd, Cond.static yL_pageEnd, Cond.codeWith yL_pageEnd cL_pageEnd 5 (some .int) [(0, 10, 13, 25), (0, 10, 17, 40)], Cond.methodLink RL 105 yX4_pageEnd, Cond.instanceMethod yX4_pageEnd, Cond.selects RX4 yX4_pageEnd yX4_pageEnd, Cond.code yX4_pageEnd cX4_pageEnd 3 (some .int), Cond.methodLink RX4 229 yX1_lastBlockOfPage, Cond.instanceMethod yX1_lastBlockOfPage, Cond.selects RX1 yX1_lastBlockOfPage yX1_lastBlockOfPage, Cond.code yX1_lastBlockOfPage cX1_lastBlockOfPage 4 (some .int), Cond.methodLink RX4 232 yX1_lastBarOf, Cond.instanceMethod yX1_lastBarOf, Cond.selects RX1 yX1_lastBarOf yX1_lastBarOf, Cond.code yX1_lastBarOf cX1_lastBarOf 2 (some .int), Cond.methodLink RL 235 yX5_pageEnd, Cond.instanceMethod yX5_pageEnd, Cond.selects RX5 yX5_pageEnd yX5_pageEnd, Cond.code yX5_pageEnd cX5_pageEnd 5 (some .int), Cond.methodLink RL 236 yL_cuePart, Cond.static yL_cuePart, Cond.codeWith yL_cuePart cL_cuePart 5 (some .int) [(0, 10, 13, 25), (0, 10, 17, 35)]]
def wsL_law0_r33 : List Cond := [Cond.methodLink RL 108 yX4_cuePart, Cond.instanceMethod yX4_cuePart, Cond.selects RX4 yX4_cuePart yX4_cuePart, Cond.code yX4_cuePart cX4_cuePart 4 (some .int), Cond.methodLink RX4 235 yX4_knownCue, Cond.instanceMethod yX4_knownCue, Cond.selects RX4 yX4_knownCue yX4_knownCue, Cond.code yX4_knownCue cX4_knownCue 7 (some .int), Cond.methodLink RX4 358 yX4_fullestOtherPart, Cond.instanceMethod yX4_fullestOtherPart, Cond.selects RX4 yX4_fullestOtherPart yX4_fullestOtherPart, Cond.code yX4_fullestOtherPart cX4_fullestOtherPart 7 (some .int), Cond.methodLink RL 238 yX5_cuePart, Cond.instanceMethod yX5_cuePart, Cond.selects RX5 yX5_cuePart yX5_cuePart, Cond.code yX5_cuePart cX5_cuePart 5 (some .int), Cond.methodLink RX5 196 yX5_cueOf, Cond.instanceMethod yX5_cueOf, Cond.selects RX5 yX5_cueOf yX5_cueOf, Cond.code yX5_cueOf cX5_cueOf 6 (some .int), Cond.methodLink RL 239 yL_cuePitch, Cond.static yL_cuePitch, Cond.codeWith yL_cuePitch cL_cuePitch 6 (some .int) [(0, 12, 15, 25), (0, 12, 19, 35), (0, 12, 23, 40)], Cond.methodLink RL 111 yX4_cuePitch]
def wsL_law0_r34 : List Cond := [Cond.instanceMethod yX4_cuePitch, Cond.selects RX4 yX4_cuePitch yX4_cuePitch, Cond.code yX4_cuePitch cX4_cuePitch 8 (some .int), Cond.methodLink RL 241 yX5_cuePitch, Cond.instanceMethod yX5_cuePitch, Cond.selects RX5 yX5_cuePitch yX5_cuePitch, Cond.code yX5_cuePitch cX5_cuePitch 6 (some .int), Cond.methodLink RX5 199 yX5_cuePart, Cond.methodLink RL 242 yL_copyOut, Cond.static yL_copyOut, Cond.codeWith yL_copyOut cL_copyOut 4 (some .int) [(0, 9, 12, 25)], Cond.methodLink RL 114 yX4_copyOut, Cond.instanceMethod yX4_copyOut, Cond.selects RX4 yX4_copyOut yX4_copyOut, Cond.code yX4_copyOut cX4_copyOut 3 (some .int), Cond.fieldLink RX4 238 "PartcopyistBench$Part" "isCopied" "Z", Cond.methodLink RX4 241 yX4_bringCopyUpToDate, Cond.instanceMethod yX4_bringCopyUpToDate, Cond.selects RX4 yX4_bringCopyUpToDate yX4_bringCopyUpToDate, Cond.code yX4_bringCopyUpToDate cX4_bringCopyUpToDate 4 none, Cond.methodLink RX4 363 yX2_enterCopy, Cond.instanceMethod yX2_enterCopy, Cond.selects RX2 yX2_enterCopy yX2_enterCopy, Cond.code yX2_enterCopy cX2_enterCopy 1 none]
def wsL_law0_r35 : List Cond := [Cond.methodLink RL 244 yX5_copyOut, Cond.instanceMethod yX5_copyOut, Cond.selects RX5 yX5_copyOut yX5_copyOut, Cond.code yX5_copyOut cX5_copyOut 2 (some .int), Cond.methodLink RX5 202 yX5_takes, Cond.instanceMethod yX5_takes, Cond.selects RX5 yX5_takes yX5_takes, Cond.code yX5_takes cX5_takes 3 none, Cond.methodLink RL 245 yL_carry, Cond.static yL_carry, Cond.codeWith yL_carry cL_carry 4 (some .int) [(0, 9, 12, 25), (0, 9, 15, 15)], Cond.methodLink RL 117 yX4_carry, Cond.instanceMethod yX4_carry, Cond.selects RX4 yX4_carry yX4_carry, Cond.code yX4_carry cX4_carry 3 (some .int), Cond.methodLink RX4 244 yX4_knownCopy, Cond.instanceMethod yX4_knownCopy, Cond.selects RX4 yX4_knownCopy yX4_knownCopy, Cond.code yX4_knownCopy cX4_knownCopy 3 none, Cond.methodLink RX4 247 yX4_touchedDifferences, Cond.instanceMethod yX4_touchedDifferences, Cond.selects RX4 yX4_touchedDifferences yX4_touchedDifferences, Cond.code yX4_touchedDifferences cX4_touchedDifferences 5 (some .int), Cond.methodLink RX4 366 yX2_differs]
def wsL_law0_r36 : List Cond := [Cond.instanceMethod yX2_differs, Cond.selects RX2 yX2_differs yX2_differs, Cond.code yX2_differs cX2_differs 1 (some .boolean), Cond.methodLink RL 247 yX5_carry, Cond.instanceMethod yX5_carry, Cond.selects RX5 yX5_carry yX5_carry, Cond.code yX5_carry cX5_carry 3 (some .int), Cond.methodLink RX5 205 yX5_isNotCopied, Cond.instanceMethod yX5_isNotCopied, Cond.selects RX5 yX5_isNotCopied yX5_isNotCopied, Cond.code yX5_isNotCopied cX5_isNotCopied 2 (some .boolean), Cond.methodLink RX5 208 yX5_differs, Cond.instanceMethod yX5_differs, Cond.selects RX5 yX5_differs yX5_differs, Cond.code yX5_differs cX5_differs 4 (some .int), Cond.methodLink RL 248 yL_differences, Cond.static yL_differences, Cond.codeWith yL_differences cL_differences 4 (some .int) [(0, 9, 12, 25), (0, 9, 15, 15)], Cond.methodLink RL 120 yX4_differences, Cond.instanceMethod yX4_differences, Cond.selects RX4 yX4_differences yX4_differences, Cond.code yX4_differences cX4_differences 2 (some .int), Cond.methodLink RL 250 yX5_differences, Cond.instanceMethod yX5_differences]
def wsL_law0_r37 : List Cond := [Cond.selects RX5 yX5_differences yX5_differences, Cond.code yX5_differences cX5_differences 2 (some .int), Cond.methodLink RL 251 yL_differencesByComparing, Cond.static yL_differencesByComparing, Cond.codeWith yL_differencesByComparing cL_differencesByComparing 4 (some .int) [(0, 9, 12, 25), (0, 9, 15, 15)], Cond.methodLink RL 123 yX4_differencesByComparing, Cond.instanceMethod yX4_differencesByComparing, Cond.selects RX4 yX4_differencesByComparing yX4_differencesByComparing, Cond.code yX4_differencesByComparing cX4_differencesByComparing 2 (some .int), Cond.methodLink RX4 250 yX4_comparedDifferences, Cond.instanceMethod yX4_comparedDifferences, Cond.selects RX4 yX4_comparedDifferences yX4_comparedDifferences, Cond.code yX4_comparedDifferences cX4_comparedDifferences 5 (some .int), Cond.methodLink RL 253 yX5_differencesByComparing, Cond.instanceMethod yX5_differencesByComparing, Cond.selects RX5 yX5_differencesByComparing yX5_differencesByComparing, Cond.code yX5_differencesByComparing cX5_differencesByComparing 2 (some .int), Cond.methodLink RX5 211 yX5_differences, Cond.methodLink RL 254 yL_copied, Cond.static yL_copied, Cond.codeWith yL_copied cL_copied 4 (some .int) [(0, 9, 12, 40), (0, 9, 15, 15)], Cond.methodLink RL 126 yX4_copied, Cond.instanceMethod yX4_copied, Cond.selects RX4 yX4_copied yX4_copied]
def wsL_law0_r38 : List Cond := [Cond.code yX4_copied cX4_copied 4 (some .int), Cond.fieldLink RX4 261 "PartcopyistBench$Note" "isInCopy" "Z", Cond.fieldLink RX4 266 "PartcopyistBench$Note" "copyPitch" "I", Cond.methodLink RL 256 yX5_copied, Cond.instanceMethod yX5_copied, Cond.selects RX5 yX5_copied yX5_copied, Cond.code yX5_copied cX5_copied 2 (some .int), Cond.methodLink RL 257 yX4_ticks, Cond.instanceMethod yX4_ticks, Cond.selects RX4 yX4_ticks yX4_ticks, Cond.code yX4_ticks cX4_ticks 5 (some .long), Cond.methodLink RL 261 yX5_ticks, Cond.instanceMethod yX5_ticks, Cond.selects RX5 yX5_ticks yX5_ticks, Cond.code yX5_ticks cX5_ticks 4 (some .long), Cond.methodLink RL 262 yL_meanPitch, Cond.static yL_meanPitch, Cond.codeWith yL_meanPitch cL_meanPitch 4 (some .int) [(0, 8, 11, 25), (0, 8, 14, 133)], Cond.classLink RL 133 "java/lang/ArithmeticException", Cond.methodLink RL 129 yX4_meanPitch, Cond.instanceMethod yX4_meanPitch, Cond.selects RX4 yX4_meanPitch yX4_meanPitch, Cond.code yX4_meanPitch cX4_meanPitch 3 (some .double), Cond.classLink RX4 269 "java/lang/ArithmeticException"]
def wsL_law0_r39 : List Cond := [Cond.initialized "java/lang/ArithmeticException", Cond.methodLink RX4 274 yX4_sumOfPitches, Cond.instanceMethod yX4_sumOfPitches, Cond.selects RX4 yX4_sumOfPitches yX4_sumOfPitches, Cond.code yX4_sumOfPitches cX4_sumOfPitches 5 (some .int), Cond.methodLink RL 265 yX5_meanPitch, Cond.instanceMethod yX5_meanPitch, Cond.selects RX5 yX5_meanPitch yX5_meanPitch, Cond.code yX5_meanPitch cX5_meanPitch 5 (some .double), Cond.methodLink RL 266 yL_restShare, Cond.static yL_restShare, Cond.codeWith yL_restShare cL_restShare 4 (some .int) [(0, 9, 12, 25), (0, 9, 15, 133)], Cond.methodLink RL 135 yX4_restShare, Cond.instanceMethod yX4_restShare, Cond.selects RX4 yX4_restShare yX4_restShare, Cond.code yX4_restShare cX4_restShare 2 (some .float), Cond.methodLink RX4 279 yX4_countOfEmptyBars, Cond.instanceMethod yX4_countOfEmptyBars, Cond.selects RX4 yX4_countOfEmptyBars yX4_countOfEmptyBars, Cond.code yX4_countOfEmptyBars cX4_countOfEmptyBars 4 (some .int), Cond.methodLink RL 268 yX5_restShare, Cond.instanceMethod yX5_restShare, Cond.selects RX5 yX5_restShare yX5_restShare, Cond.code yX5_restShare cX5_restShare 4 (some .float)]
def wsL_law0_r40 : List Cond := [Cond.methodLink RL 269 yX4_isTrue, Cond.instanceMethod yX4_isTrue, Cond.selects RX4 yX4_isTrue yX4_isTrue, Cond.code yX4_isTrue cX4_isTrue 2 (some .boolean), Cond.methodLink RX4 282 yX4_turnsAgree, Cond.instanceMethod yX4_turnsAgree, Cond.selects RX4 yX4_turnsAgree yX4_turnsAgree, Cond.code yX4_turnsAgree cX4_turnsAgree 2 (some .boolean), Cond.methodLink RX4 285 yX4_copyAgrees, Cond.instanceMethod yX4_copyAgrees, Cond.selects RX4 yX4_copyAgrees yX4_copyAgrees, Cond.code yX4_copyAgrees cX4_copyAgrees 3 (some .boolean), Cond.methodLink RX4 288 yX4_spellingsSound, Cond.instanceMethod yX4_spellingsSound, Cond.selects RX4 yX4_spellingsSound yX4_spellingsSound, Cond.code yX4_spellingsSound cX4_spellingsSound 3 (some .boolean), Cond.methodLink RX4 369 yX4_spellingSounds, Cond.instanceMethod yX4_spellingSounds, Cond.selects RX4 yX4_spellingSounds yX4_spellingSounds, Cond.code yX4_spellingSounds cX4_spellingSounds 4 (some .boolean), Cond.methodLink RX4 372 yX4_soundOfLetter, Cond.static yX4_soundOfLetter, Cond.code yX4_soundOfLetter cX4_soundOfLetter 1 (some .int), Cond.methodLink RL 273 yX5_isTrue]
def wsL_law0_r41 : List Cond := [Cond.instanceMethod yX5_isTrue, Cond.selects RX5 yX5_isTrue yX5_isTrue, Cond.code yX5_isTrue cX5_isTrue 1 (some .boolean)]
def wsL_law0 : List Cond := (wsL_law0_r1 ++ (wsL_law0_r2 ++ (wsL_law0_r3 ++ (wsL_law0_r4 ++ (wsL_law0_r5 ++ (wsL_law0_r6 ++ (wsL_law0_r7 ++ (wsL_law0_r8 ++ (wsL_law0_r9 ++ (wsL_law0_r10 ++ (wsL_law0_r11 ++ (wsL_law0_r12 ++ (wsL_law0_r13 ++ (wsL_law0_r14 ++ (wsL_law0_r15 ++ (wsL_law0_r16 ++ (wsL_law0_r17 ++ (wsL_law0_r18 ++ (wsL_law0_r19 ++ (wsL_law0_r20 ++ (wsL_law0_r21 ++ (wsL_law0_r22 ++ (wsL_law0_r23 ++ (wsL_law0_r24 ++ (wsL_law0_r25 ++ (wsL_law0_r26 ++ (wsL_law0_r27 ++ (wsL_law0_r28 ++ (wsL_law0_r29 ++ (wsL_law0_r30 ++ (wsL_law0_r31 ++ (wsL_law0_r32 ++ (wsL_law0_r33 ++ (wsL_law0_r34 ++ (wsL_law0_r35 ++ (wsL_law0_r36 ++ (wsL_law0_r37 ++ (wsL_law0_r38 ++ (wsL_law0_r39 ++ (wsL_law0_r40 ++ wsL_law0_r41)))))))))))))))))))))))))))))))))))))))) ++ wsX40 ++ wsX50 ++ wsX10 ++ wsX30 ++ wsX00 ++ wsX20 ++ wsJ00 ++ ([] : List Cond)
def wsL_law : List Cond := wsL_law0 ++ (vx_atM "java/lang/ArrayIndexOutOfBoundsException" ["java/lang/IndexOutOfBoundsException", "java/lang/RuntimeException", "java/lang/Exception"]).filter goodWord ++ (vx_atS RX4 57 "java/lang/IllegalArgumentException" ["java/lang/RuntimeException", "java/lang/Exception"]).filter goodWord ++ (vx_atS RX4 64 "java/lang/IllegalStateException" ["java/lang/RuntimeException", "java/lang/Exception"]).filter goodWord ++ (vx_atS RX4 296 "java/lang/IndexOutOfBoundsException" ["java/lang/RuntimeException", "java/lang/Exception"]).filter goodWord ++ (vx_atS RX4 116 "java/lang/UnsupportedOperationException" ["java/lang/RuntimeException", "java/lang/Exception"]).filter goodWord ++ (vx_atS RX4 228 "java/util/NoSuchElementException" ["java/lang/RuntimeException", "java/lang/Exception"]).filter goodWord ++ (vx_atM "java/lang/ArithmeticException" ["java/lang/RuntimeException", "java/lang/Exception"]).filter goodWord ++ (vx_atS RX4 273 "java/lang/ArithmeticException" ["java/lang/RuntimeException", "java/lang/Exception"]).filter goodWord
set_option maxRecDepth 20000 in
theorem wsL_law_in0 : ∀ w ∈ wsL_law0, w ∈ lw_tbl := fun w h => (goodIn_p wsL_law0 [87, 90, 101, 956, 311, 403, 1047, 1050, 1054, 1043, 420, 423, 429, 1058, 474, 478, 280, 1062, 1066, 1070, 498, 1074, 507, 511, 252, 515, 519, 524, 573, 200, 577, 1078, 1082, 1086, 1090, 1094, 602, 606, 610, 1098, 1102, 634, 1106, 643, 647, 1110, 1114, 654, 658, 1118, 1122, 1126, 665, 669, 673, 677, 1130, 1134, 685, 1138, 1142, 692, 1146, 699, 703, 1150, 710, 290, 1154, 1158, 717, 283, 286, 1162, 1166, 1169, 724, 276, 293, 1173, 1178, 1182, 1186, 1191, 1194, 1199, 1202, 1205, 1208, 1212, 731, 299, 302, 1222, 738, 188, 192, 196, 203, 206, 210, 214, 218, 222, 742, 1226, 1230, 1234, 749, 753, 757, 762, 1238, 1242, 769, 773, 1246, 780, 1250, 788, 1254, 796, 1258, 804, 226, 231, 235, 239, 1262, 1266, 1270, 1274, 1278, 811, 242, 1284, 818, 822, 1289, 829, 834, 838, 1293, 845, 849, 853, 1297, 1301, 861, 1305, 868, 872, 876, 1310, 1314, 883, 887, 256, 260, 1318, 1322, 1326, 895, 1330, 902, 264, 1334, 909, 1339, 176, 1343, 932, 939, 1347, 946, 951, 1351, 180, 184, 248, 268, 272, 296, 1355] (by decide +kernel) (by decide +kernel) w h).1
theorem wsL_law_x0 : ∀ w ∈ (vx_atM "java/lang/ArrayIndexOutOfBoundsException" ["java/lang/IndexOutOfBoundsException", "java/lang/RuntimeException", "java/lang/Exception"]).filter goodWord, w ∈ lw_tbl := by decide +kernel
theorem wsL_law_x1 : ∀ w ∈ (vx_atS RX4 57 "java/lang/IllegalArgumentException" ["java/lang/RuntimeException", "java/lang/Exception"]).filter goodWord, w ∈ lw_tbl := by decide +kernel
theorem wsL_law_x2 : ∀ w ∈ (vx_atS RX4 64 "java/lang/IllegalStateException" ["java/lang/RuntimeException", "java/lang/Exception"]).filter goodWord, w ∈ lw_tbl := by decide +kernel
theorem wsL_law_x3 : ∀ w ∈ (vx_atS RX4 296 "java/lang/IndexOutOfBoundsException" ["java/lang/RuntimeException", "java/lang/Exception"]).filter goodWord, w ∈ lw_tbl := by decide +kernel
theorem wsL_law_x4 : ∀ w ∈ (vx_atS RX4 116 "java/lang/UnsupportedOperationException" ["java/lang/RuntimeException", "java/lang/Exception"]).filter goodWord, w ∈ lw_tbl := by decide +kernel
theorem wsL_law_x5 : ∀ w ∈ (vx_atS RX4 228 "java/util/NoSuchElementException" ["java/lang/RuntimeException", "java/lang/Exception"]).filter goodWord, w ∈ lw_tbl := by decide +kernel
theorem wsL_law_x6 : ∀ w ∈ (vx_atM "java/lang/ArithmeticException" ["java/lang/RuntimeException", "java/lang/Exception"]).filter goodWord, w ∈ lw_tbl := by decide +kernel
theorem wsL_law_x7 : ∀ w ∈ (vx_atS RX4 273 "java/lang/ArithmeticException" ["java/lang/RuntimeException", "java/lang/Exception"]).filter goodWord, w ∈ lw_tbl := by decide +kernel
theorem wsL_law_in : ∀ w ∈ wsL_law, w ∈ lw_tbl := fun w h => (List.mem_append.mp h).elim (fun h => (List.mem_append.mp h).elim (fun h => (List.mem_append.mp h).elim (fun h => (List.mem_append.mp h).elim (fun h => (List.mem_append.mp h).elim (fun h => (List.mem_append.mp h).elim (fun h => (List.mem_append.mp h).elim (fun h => (List.mem_append.mp h).elim (fun h => wsL_law_in0 w h) (fun h => wsL_law_x0 w h)) (fun h => wsL_law_x1 w h)) (fun h => wsL_law_x2 w h)) (fun h => wsL_law_x3 w h)) (fun h => wsL_law_x4 w h)) (fun h => wsL_law_x5 w h)) (fun h => wsL_law_x6 w h)) (fun h => wsL_law_x7 w h)
theorem inlX0 : ∀ w ∈ wsX00, w ∈ wsL_law := fun _ h => List.mem_append_left _ (List.mem_append_left _ (List.mem_append_left _ (List.mem_append_left _ (List.mem_append_left _ (List.mem_append_left _ (List.mem_append_left _ (List.mem_append_left _ (List.mem_append_left _ (List.mem_append_left _ (List.mem_append_left _ (List.mem_append_right _ h)))))))))))
theorem inX0 : ∀ w ∈ wsX00, w ∈ lw_tbl := fun w h => wsL_law_in w (inlX0 w h)
theorem inlX1 : ∀ w ∈ wsX10, w ∈ wsL_law := fun _ h => List.mem_append_left _ (List.mem_append_left _ (List.mem_append_left _ (List.mem_append_left _ (List.mem_append_left _ (List.mem_append_left _ (List.mem_append_left _ (List.mem_append_left _ (List.mem_append_left _ (List.mem_append_left _ (List.mem_append_left _ (List.mem_append_left _ (List.mem_append_left _ (List.mem_append_right _ h)))))))))))))
theorem inX1 : ∀ w ∈ wsX10, w ∈ lw_tbl := fun w h => wsL_law_in w (inlX1 w h)
theorem inlX2 : ∀ w ∈ wsX20, w ∈ wsL_law := fun _ h => List.mem_append_left _ (List.mem_append_left _ (List.mem_append_left _ (List.mem_append_left _ (List.mem_append_left _ (List.mem_append_left _ (List.mem_append_left _ (List.mem_append_left _ (List.mem_append_left _ (List.mem_append_left _ (List.mem_append_right _ h))))))))))
theorem inX2 : ∀ w ∈ wsX20, w ∈ lw_tbl := fun w h => wsL_law_in w (inlX2 w h)
theorem inlX3 : ∀ w ∈ wsX30, w ∈ wsL_law := fun _ h => List.mem_append_left _ (List.mem_append_left _ (List.mem_append_left _ (List.mem_append_left _ (List.mem_append_left _ (List.mem_append_left _ (List.mem_append_left _ (List.mem_append_left _ (List.mem_append_left _ (List.mem_append_left _ (List.mem_append_left _ (List.mem_append_left _ (List.mem_append_right _ h))))))))))))
theorem inX3 : ∀ w ∈ wsX30, w ∈ lw_tbl := fun w h => wsL_law_in w (inlX3 w h)
theorem inlX4 : ∀ w ∈ wsX40, w ∈ wsL_law := fun _ h => List.mem_append_left _ (List.mem_append_left _ (List.mem_append_left _ (List.mem_append_left _ (List.mem_append_left _ (List.mem_append_left _ (List.mem_append_left _ (List.mem_append_left _ (List.mem_append_left _ (List.mem_append_left _ (List.mem_append_left _ (List.mem_append_left _ (List.mem_append_left _ (List.mem_append_left _ (List.mem_append_left _ (List.mem_append_right _ h)))))))))))))))
theorem inX4 : ∀ w ∈ wsX40, w ∈ lw_tbl := fun w h => wsL_law_in w (inlX4 w h)
theorem inlX5 : ∀ w ∈ wsX50, w ∈ wsL_law := fun _ h => List.mem_append_left _ (List.mem_append_left _ (List.mem_append_left _ (List.mem_append_left _ (List.mem_append_left _ (List.mem_append_left _ (List.mem_append_left _ (List.mem_append_left _ (List.mem_append_left _ (List.mem_append_left _ (List.mem_append_left _ (List.mem_append_left _ (List.mem_append_left _ (List.mem_append_left _ (List.mem_append_right _ h))))))))))))))
theorem inX5 : ∀ w ∈ wsX50, w ∈ lw_tbl := fun w h => wsL_law_in w (inlX5 w h)
theorem inJx145de : ∀ w ∈ wsJx145de0, w ∈ lw_tbl := by decide +kernel
theorem inJx00060 : ∀ w ∈ wsJx000600, w ∈ lw_tbl := by decide +kernel
theorem inJx9f9b0 : ∀ w ∈ wsJx9f9b00, w ∈ lw_tbl := by decide +kernel
theorem inJxb160c : ∀ w ∈ wsJxb160c0, w ∈ lw_tbl := by decide +kernel
theorem inJ9 : ∀ w ∈ wsJ90, w ∈ lw_tbl := by decide +kernel
theorem inlJ0 : ∀ w ∈ wsJ00, w ∈ wsL_law := fun _ h => List.mem_append_left _ (List.mem_append_left _ (List.mem_append_left _ (List.mem_append_left _ (List.mem_append_left _ (List.mem_append_left _ (List.mem_append_left _ (List.mem_append_left _ (List.mem_append_left _ (List.mem_append_right _ h)))))))))
theorem inJ0 : ∀ w ∈ wsJ00, w ∈ lw_tbl := fun w h => wsL_law_in w (inlJ0 w h)
theorem inJ1 : ∀ w ∈ wsJ10, w ∈ lw_tbl := by decide +kernel
theorem inJ2 : ∀ w ∈ wsJ20, w ∈ lw_tbl := by decide +kernel
theorem inJxfd54e : ∀ w ∈ wsJxfd54e0, w ∈ lw_tbl := by decide +kernel
theorem inJx3cf43 : ∀ w ∈ wsJx3cf430, w ∈ lw_tbl := by decide +kernel
theorem inJ3 : ∀ w ∈ wsJ30, w ∈ lw_tbl := by decide +kernel
theorem ggL_addPart_X4_addPart : GoodIn wsL_addPart wsX4_addPart := goodIn_ca (goodIn_ca (goodIn_r _ [7, 8, 9, 10, 11, 12, 13, 14, 15, 16, 17, 18, 19, 20, 21, 22, 23, 24, 25, 26, 27, 28, 29, 30, 31, 32, 33, 34, 35, 36] (by decide +kernel) (by decide +kernel)) (goodIn_sub (fun _ h => List.mem_cons_of_mem _ (List.mem_append_left _ (List.mem_append_right _ h))) (by decide +kernel))) (goodIn_sub (fun _ h => List.mem_cons_of_mem _ (List.mem_append_right _ h)) (by decide +kernel))
set_option maxRecDepth 20000 in
theorem gL_addPart_X4_addPart : GoodIn wsL_addPart (wsV RL 7 RX4 yX4_addPart wsX4_addPart) := goodIn_app (goodIn_of _ (by decide +kernel)) ggL_addPart_X4_addPart
theorem dL_addPart_0 : decode cL_addPart 0 = .ok (.aload_n 2, 1) := by decide +kernel
theorem dL_addPart_1 : decode cL_addPart 1 = .ok (.iconst 0, 1) := by decide +kernel
theorem dL_addPart_2 : decode cL_addPart 2 = .ok (.aload_n 0, 1) := by decide +kernel
theorem dL_addPart_3 : decode cL_addPart 3 = .ok (.iload_n 1, 1) := by decide +kernel
theorem dL_addPart_4 : decode cL_addPart 4 = .ok (.invokevirtual 7, 3) := by decide +kernel
theorem dL_addPart_7 : decode cL_addPart 7 = .ok (.i2l, 1) := by decide +kernel
theorem dL_addPart_8 : decode cL_addPart 8 = .ok (.lastore, 1) := by decide +kernel
theorem dL_addPart_9 : decode cL_addPart 9 = .ok (.goto 9, 3) := by decide +kernel
theorem dL_addPart_12 : decode cL_addPart 12 = .ok (.astore_n 3, 1) := by decide +kernel
theorem dL_addPart_13 : decode cL_addPart 13 = .ok (.iconst 1, 1) := by decide +kernel
theorem dL_addPart_14 : decode cL_addPart 14 = .ok (.ireturn, 1) := by decide +kernel
theorem dL_addPart_15 : decode cL_addPart 15 = .ok (.astore_n 3, 1) := by decide +kernel
theorem dL_addPart_16 : decode cL_addPart 16 = .ok (.iconst 2, 1) := by decide +kernel
theorem dL_addPart_17 : decode cL_addPart 17 = .ok (.ireturn, 1) := by decide +kernel
theorem dL_addPart_18 : decode cL_addPart 18 = .ok (.iconst 0, 1) := by decide +kernel
theorem dL_addPart_19 : decode cL_addPart 19 = .ok (.ireturn, 1) := by decide +kernel
set_option maxRecDepth 20000 in
theorem ggL_addBar_X4_addBar : GoodIn wsL_addBar wsX4_addBar := goodIn_ca (goodIn_ca (goodIn_r _ [7, 8, 9, 10, 11, 12, 13, 14, 15, 16, 17, 18, 6, 19, 20, 21, 22, 23, 24, 25, 26, 27, 28, 29, 30, 31, 32, 33, 34, 35, 36, 37, 38, 39, 40, 41] (by decide +kernel) (by decide +kernel)) (goodIn_sub (fun _ h => List.mem_cons_of_mem _ (List.mem_append_left _ (List.mem_append_right _ h))) (by decide +kernel))) (goodIn_sub (fun _ h => List.mem_cons_of_mem _ (List.mem_append_right _ h)) (by decide +kernel))
set_option maxRecDepth 20000 in
theorem gL_addBar_X4_addBar : GoodIn wsL_addBar (wsV RL 17 RX4 yX4_addBar wsX4_addBar) := goodIn_app (goodIn_of _ (by decide +kernel)) ggL_addBar_X4_addBar
theorem dL_addBar_0 : decode cL_addBar 0 = .ok (.aload 4, 2) := by decide +kernel
theorem dL_addBar_2 : decode cL_addBar 2 = .ok (.iconst 0, 1) := by decide +kernel
theorem dL_addBar_3 : decode cL_addBar 3 = .ok (.aload_n 0, 1) := by decide +kernel
theorem dL_addBar_4 : decode cL_addBar 4 = .ok (.iload_n 1, 1) := by decide +kernel
theorem dL_addBar_5 : decode cL_addBar 5 = .ok (.iload_n 2, 1) := by decide +kernel
theorem dL_addBar_6 : decode cL_addBar 6 = .ok (.iload_n 3, 1) := by decide +kernel
theorem dL_addBar_7 : decode cL_addBar 7 = .ok (.invokevirtual 17, 3) := by decide +kernel
theorem dL_addBar_10 : decode cL_addBar 10 = .ok (.i2l, 1) := by decide +kernel
theorem dL_addBar_11 : decode cL_addBar 11 = .ok (.lastore, 1) := by decide +kernel
theorem dL_addBar_12 : decode cL_addBar 12 = .ok (.goto 11, 3) := by decide +kernel
theorem dL_addBar_15 : decode cL_addBar 15 = .ok (.astore 5, 2) := by decide +kernel
theorem dL_addBar_17 : decode cL_addBar 17 = .ok (.iconst 1, 1) := by decide +kernel
theorem dL_addBar_18 : decode cL_addBar 18 = .ok (.ireturn, 1) := by decide +kernel
theorem dL_addBar_19 : decode cL_addBar 19 = .ok (.astore 5, 2) := by decide +kernel
theorem dL_addBar_21 : decode cL_addBar 21 = .ok (.iconst 2, 1) := by decide +kernel
theorem dL_addBar_22 : decode cL_addBar 22 = .ok (.ireturn, 1) := by decide +kernel
theorem dL_addBar_23 : decode cL_addBar 23 = .ok (.iconst 0, 1) := by decide +kernel
theorem dL_addBar_24 : decode cL_addBar 24 = .ok (.ireturn, 1) := by decide +kernel
set_option maxRecDepth 20000 in
theorem ggL_setMark_X4_setMark : GoodIn wsL_setMark wsX4_setMark := goodIn_ca (goodIn_r _ [6, 7, 8, 9, 10, 5, 11, 12, 13, 14, 15, 16, 17, 18, 19, 20, 21, 22, 23, 24, 25, 26, 27, 28, 29, 30, 31] (by decide +kernel) (by decide +kernel)) (goodIn_sub (fun _ h => List.mem_cons_of_mem _ (List.mem_append_right _ h)) (by decide +kernel))
set_option maxRecDepth 20000 in
theorem gL_setMark_X4_setMark : GoodIn wsL_setMark (wsV RL 21 RX4 yX4_setMark wsX4_setMark) := goodIn_app (goodIn_of _ (by decide +kernel)) ggL_setMark_X4_setMark
theorem dL_setMark_0 : decode cL_setMark 0 = .ok (.aload_n 3, 1) := by decide +kernel
theorem dL_setMark_1 : decode cL_setMark 1 = .ok (.iconst 0, 1) := by decide +kernel
theorem dL_setMark_2 : decode cL_setMark 2 = .ok (.aload_n 0, 1) := by decide +kernel
theorem dL_setMark_3 : decode cL_setMark 3 = .ok (.iload_n 1, 1) := by decide +kernel
theorem dL_setMark_4 : decode cL_setMark 4 = .ok (.iload_n 2, 1) := by decide +kernel
theorem dL_setMark_5 : decode cL_setMark 5 = .ok (.invokevirtual 21, 3) := by decide +kernel
theorem dL_setMark_8 : decode cL_setMark 8 = .ok (.ifCond .eq 7, 3) := by decide +kernel
theorem dL_setMark_11 : decode cL_setMark 11 = .ok (.lconst 1, 1) := by decide +kernel
theorem dL_setMark_12 : decode cL_setMark 12 = .ok (.goto 4, 3) := by decide +kernel
theorem dL_setMark_15 : decode cL_setMark 15 = .ok (.lconst 0, 1) := by decide +kernel
theorem dL_setMark_16 : decode cL_setMark 16 = .ok (.lastore, 1) := by decide +kernel
theorem dL_setMark_17 : decode cL_setMark 17 = .ok (.goto 7, 3) := by decide +kernel
theorem dL_setMark_20 : decode cL_setMark 20 = .ok (.astore 4, 2) := by decide +kernel
theorem dL_setMark_22 : decode cL_setMark 22 = .ok (.iconst 1, 1) := by decide +kernel
theorem dL_setMark_23 : decode cL_setMark 23 = .ok (.ireturn, 1) := by decide +kernel
theorem dL_setMark_24 : decode cL_setMark 24 = .ok (.iconst 0, 1) := by decide +kernel
theorem dL_setMark_25 : decode cL_setMark 25 = .ok (.ireturn, 1) := by decide +kernel
set_option maxRecDepth 20000 in
theorem ggL_setKey_X4_setKey : GoodIn wsL_setKey wsX4_setKey := goodIn_ca (goodIn_ca (goodIn_r _ [7, 8, 9, 10, 11, 12, 13, 6, 14, 15, 16, 17, 18, 19, 20, 21, 22, 23, 24, 25, 26, 27, 28, 29, 30, 31, 32, 33, 34, 35, 36, 37] (by decide +kernel) (by decide +kernel)) (goodIn_sub (fun _ h => List.mem_cons_of_mem _ (List.mem_append_left _ (List.mem_append_right _ h))) (by decide +kernel))) (goodIn_sub (fun _ h => List.mem_cons_of_mem _ (List.mem_append_right _ h)) (by decide +kernel))
set_option maxRecDepth 20000 in
theorem gL_setKey_X4_setKey : GoodIn wsL_setKey (wsV RL 27 RX4 yX4_setKey wsX4_setKey) := goodIn_app (goodIn_of _ (by decide +kernel)) ggL_setKey_X4_setKey
theorem dL_setKey_0 : decode cL_setKey 0 = .ok (.aload_n 3, 1) := by decide +kernel
theorem dL_setKey_1 : decode cL_setKey 1 = .ok (.iconst 0, 1) := by decide +kernel
theorem dL_setKey_2 : decode cL_setKey 2 = .ok (.aload_n 0, 1) := by decide +kernel
theorem dL_setKey_3 : decode cL_setKey 3 = .ok (.iload_n 1, 1) := by decide +kernel
theorem dL_setKey_4 : decode cL_setKey 4 = .ok (.iload_n 2, 1) := by decide +kernel
theorem dL_setKey_5 : decode cL_setKey 5 = .ok (.invokevirtual 27, 3) := by decide +kernel
theorem dL_setKey_8 : decode cL_setKey 8 = .ok (.i2l, 1) := by decide +kernel
theorem dL_setKey_9 : decode cL_setKey 9 = .ok (.lastore, 1) := by decide +kernel
theorem dL_setKey_10 : decode cL_setKey 10 = .ok (.goto 11, 3) := by decide +kernel
theorem dL_setKey_13 : decode cL_setKey 13 = .ok (.astore 4, 2) := by decide +kernel
theorem dL_setKey_15 : decode cL_setKey 15 = .ok (.iconst 1, 1) := by decide +kernel
theorem dL_setKey_16 : decode cL_setKey 16 = .ok (.ireturn, 1) := by decide +kernel
theorem dL_setKey_17 : decode cL_setKey 17 = .ok (.astore 4, 2) := by decide +kernel
theorem dL_setKey_19 : decode cL_setKey 19 = .ok (.iconst 2, 1) := by decide +kernel
theorem dL_setKey_20 : decode cL_setKey 20 = .ok (.ireturn, 1) := by decide +kernel
theorem dL_setKey_21 : decode cL_setKey 21 = .ok (.iconst 0, 1) := by decide +kernel
theorem dL_setKey_22 : decode cL_setKey 22 = .ok (.ireturn, 1) := by decide +kernel
set_option maxRecDepth 20000 in
theorem ggL_addNote_X4_addNote : GoodIn wsL_addNote wsX4_addNote := goodIn_ca (goodIn_ca (goodIn_ca (goodIn_ca (goodIn_r _ [9, 10, 11, 12, 13, 14, 15, 16, 17, 18, 19, 20, 21, 22, 23, 8, 24, 25, 26, 27, 28, 29, 30, 31, 32, 33, 34, 35, 36, 37, 38, 39, 40, 41, 42, 43, 44, 45, 46, 47, 48, 49, 50, 51, 52, 53, 54, 55, 56, 57, 58, 59, 60, 61, 62, 63, 64, 65, 66, 67, 68, 69, 70, 71, 72, 73, 74, 75, 76, 77, 78, 79, 80, 81, 82, 83, 84, 85, 86, 87, 88, 89, 90, 91, 92, 93, 94, 95, 96, 97, 98, 99, 100, 101, 102, 103, 104, 105, 106] (by decide +kernel) (by decide +kernel)) (goodIn_sub (fun _ h => List.mem_cons_of_mem _ (List.mem_append_left _ (List.mem_append_left _ (List.mem_append_left _ (List.mem_append_right _ h))))) (by decide +kernel))) (goodIn_sub (fun _ h => List.mem_cons_of_mem _ (List.mem_append_left _ (List.mem_append_left _ (List.mem_append_right _ h)))) (by decide +kernel))) (goodIn_sub (fun _ h => List.mem_cons_of_mem _ (List.mem_append_left _ (List.mem_append_right _ h))) (by decide +kernel))) (goodIn_sub (fun _ h => List.mem_cons_of_mem _ (List.mem_append_right _ h)) (by decide +kernel))
set_option maxRecDepth 20000 in
theorem gL_addNote_X4_addNote : GoodIn wsL_addNote (wsV RL 31 RX4 yX4_addNote wsX4_addNote) := goodIn_app (goodIn_of _ (by decide +kernel)) ggL_addNote_X4_addNote
theorem dL_addNote_0 : decode cL_addNote 0 = .ok (.aload 7, 2) := by decide +kernel
theorem dL_addNote_2 : decode cL_addNote 2 = .ok (.iconst 0, 1) := by decide +kernel
theorem dL_addNote_3 : decode cL_addNote 3 = .ok (.aload_n 0, 1) := by decide +kernel
theorem dL_addNote_4 : decode cL_addNote 4 = .ok (.iload_n 1, 1) := by decide +kernel
theorem dL_addNote_5 : decode cL_addNote 5 = .ok (.iload_n 2, 1) := by decide +kernel
theorem dL_addNote_6 : decode cL_addNote 6 = .ok (.iload_n 3, 1) := by decide +kernel
theorem dL_addNote_7 : decode cL_addNote 7 = .ok (.iload 4, 2) := by decide +kernel
theorem dL_addNote_9 : decode cL_addNote 9 = .ok (.iload 5, 2) := by decide +kernel
theorem dL_addNote_11 : decode cL_addNote 11 = .ok (.iload 6, 2) := by decide +kernel
theorem dL_addNote_13 : decode cL_addNote 13 = .ok (.invokevirtual 31, 3) := by decide +kernel
theorem dL_addNote_16 : decode cL_addNote 16 = .ok (.i2l, 1) := by decide +kernel
theorem dL_addNote_17 : decode cL_addNote 17 = .ok (.lastore, 1) := by decide +kernel
theorem dL_addNote_18 : decode cL_addNote 18 = .ok (.goto 19, 3) := by decide +kernel
theorem dL_addNote_21 : decode cL_addNote 21 = .ok (.astore 8, 2) := by decide +kernel
theorem dL_addNote_23 : decode cL_addNote 23 = .ok (.iconst 1, 1) := by decide +kernel
theorem dL_addNote_24 : decode cL_addNote 24 = .ok (.ireturn, 1) := by decide +kernel
theorem dL_addNote_25 : decode cL_addNote 25 = .ok (.astore 8, 2) := by decide +kernel
theorem dL_addNote_27 : decode cL_addNote 27 = .ok (.iconst 2, 1) := by decide +kernel
theorem dL_addNote_28 : decode cL_addNote 28 = .ok (.ireturn, 1) := by decide +kernel
theorem dL_addNote_29 : decode cL_addNote 29 = .ok (.astore 8, 2) := by decide +kernel
theorem dL_addNote_31 : decode cL_addNote 31 = .ok (.iconst 3, 1) := by decide +kernel
theorem dL_addNote_32 : decode cL_addNote 32 = .ok (.ireturn, 1) := by decide +kernel
theorem dL_addNote_33 : decode cL_addNote 33 = .ok (.astore 8, 2) := by decide +kernel
theorem dL_addNote_35 : decode cL_addNote 35 = .ok (.iconst 4, 1) := by decide +kernel
theorem dL_addNote_36 : decode cL_addNote 36 = .ok (.ireturn, 1) := by decide +kernel
theorem dL_addNote_37 : decode cL_addNote 37 = .ok (.iconst 0, 1) := by decide +kernel
theorem dL_addNote_38 : decode cL_addNote 38 = .ok (.ireturn, 1) := by decide +kernel
set_option maxRecDepth 20000 in
theorem ggL_correct_X4_correct : GoodIn wsL_correct wsX4_correct := goodIn_ca (goodIn_ca (goodIn_r _ [7, 8, 9, 10, 11, 12, 13, 14, 6, 15, 16, 17, 18, 19, 20, 21, 22, 23, 24, 25, 26, 27, 28, 29, 30, 31, 32, 33, 34, 35, 36, 37, 38, 39, 40, 41, 42, 43, 44, 45, 46, 47] (by decide +kernel) (by decide +kernel)) (goodIn_sub (fun _ h => List.mem_cons_of_mem _ (List.mem_append_left _ (List.mem_append_right _ h))) (by decide +kernel))) (goodIn_sub (fun _ h => List.mem_cons_of_mem _ (List.mem_append_right _ h)) (by decide +kernel))
set_option maxRecDepth 20000 in
theorem gL_correct_X4_correct : GoodIn wsL_correct (wsV RL 37 RX4 yX4_correct wsX4_correct) := goodIn_app (goodIn_of _ (by decide +kernel)) ggL_correct_X4_correct
theorem dL_correct_0 : decode cL_correct 0 = .ok (.aload_n 3, 1) := by decide +kernel
theorem dL_correct_1 : decode cL_correct 1 = .ok (.iconst 0, 1) := by decide +kernel
theorem dL_correct_2 : decode cL_correct 2 = .ok (.aload_n 0, 1) := by decide +kernel
theorem dL_correct_3 : decode cL_correct 3 = .ok (.iload_n 1, 1) := by decide +kernel
theorem dL_correct_4 : decode cL_correct 4 = .ok (.iload_n 2, 1) := by decide +kernel
theorem dL_correct_5 : decode cL_correct 5 = .ok (.invokevirtual 37, 3) := by decide +kernel
theorem dL_correct_8 : decode cL_correct 8 = .ok (.i2l, 1) := by decide +kernel
theorem dL_correct_9 : decode cL_correct 9 = .ok (.lastore, 1) := by decide +kernel
theorem dL_correct_10 : decode cL_correct 10 = .ok (.goto 11, 3) := by decide +kernel
theorem dL_correct_13 : decode cL_correct 13 = .ok (.astore 4, 2) := by decide +kernel
theorem dL_correct_15 : decode cL_correct 15 = .ok (.iconst 1, 1) := by decide +kernel
theorem dL_correct_16 : decode cL_correct 16 = .ok (.ireturn, 1) := by decide +kernel
theorem dL_correct_17 : decode cL_correct 17 = .ok (.astore 4, 2) := by decide +kernel
theorem dL_correct_19 : decode cL_correct 19 = .ok (.iconst 2, 1) := by decide +kernel
theorem dL_correct_20 : decode cL_correct 20 = .ok (.ireturn, 1) := by decide +kernel
theorem dL_correct_21 : decode cL_correct 21 = .ok (.iconst 0, 1) := by decide +kernel
theorem dL_correct_22 : decode cL_correct 22 = .ok (.ireturn, 1) := by decide +kernel
set_option maxRecDepth 20000 in
theorem ggL_stretch_X4_stretch : GoodIn wsL_stretch wsX4_stretch := goodIn_ca (goodIn_ca (goodIn_ca (goodIn_r _ [8, 9, 10, 11, 12, 13, 14, 15, 16, 17, 18, 19, 7, 20, 21, 22, 23, 24, 25, 26, 27, 28, 29, 30, 31, 32, 33, 34, 35, 36, 37, 38, 39, 40, 41, 42, 43, 44, 45, 46, 47, 48, 49, 50, 51, 52, 53, 54, 55, 56, 57, 58, 59, 60, 61, 62, 63, 64, 65, 66, 67, 68, 69, 70, 71, 72, 73, 74, 75, 76, 77, 78, 79, 80, 81, 82, 83] (by decide +kernel) (by decide +kernel)) (goodIn_sub (fun _ h => List.mem_cons_of_mem _ (List.mem_append_left _ (List.mem_append_left _ (List.mem_append_right _ h)))) (by decide +kernel))) (goodIn_sub (fun _ h => List.mem_cons_of_mem _ (List.mem_append_left _ (List.mem_append_right _ h))) (by decide +kernel))) (goodIn_sub (fun _ h => List.mem_cons_of_mem _ (List.mem_append_right _ h)) (by decide +kernel))
set_option maxRecDepth 20000 in
theorem gL_stretch_X4_stretch : GoodIn wsL_stretch (wsV RL 42 RX4 yX4_stretch wsX4_stretch) := goodIn_app (goodIn_of _ (by decide +kernel)) ggL_stretch_X4_stretch
theorem dL_stretch_0 : decode cL_stretch 0 = .ok (.aload_n 3, 1) := by decide +kernel
theorem dL_stretch_1 : decode cL_stretch 1 = .ok (.iconst 0, 1) := by decide +kernel
theorem dL_stretch_2 : decode cL_stretch 2 = .ok (.aload_n 0, 1) := by decide +kernel
theorem dL_stretch_3 : decode cL_stretch 3 = .ok (.iload_n 1, 1) := by decide +kernel
theorem dL_stretch_4 : decode cL_stretch 4 = .ok (.iload_n 2, 1) := by decide +kernel
theorem dL_stretch_5 : decode cL_stretch 5 = .ok (.invokevirtual 42, 3) := by decide +kernel
theorem dL_stretch_8 : decode cL_stretch 8 = .ok (.i2l, 1) := by decide +kernel
theorem dL_stretch_9 : decode cL_stretch 9 = .ok (.lastore, 1) := by decide +kernel
theorem dL_stretch_10 : decode cL_stretch 10 = .ok (.goto 15, 3) := by decide +kernel
theorem dL_stretch_13 : decode cL_stretch 13 = .ok (.astore 4, 2) := by decide +kernel
theorem dL_stretch_15 : decode cL_stretch 15 = .ok (.iconst 1, 1) := by decide +kernel
theorem dL_stretch_16 : decode cL_stretch 16 = .ok (.ireturn, 1) := by decide +kernel
theorem dL_stretch_17 : decode cL_stretch 17 = .ok (.astore 4, 2) := by decide +kernel
theorem dL_stretch_19 : decode cL_stretch 19 = .ok (.iconst 2, 1) := by decide +kernel
theorem dL_stretch_20 : decode cL_stretch 20 = .ok (.ireturn, 1) := by decide +kernel
theorem dL_stretch_21 : decode cL_stretch 21 = .ok (.astore 4, 2) := by decide +kernel
theorem dL_stretch_23 : decode cL_stretch 23 = .ok (.iconst 3, 1) := by decide +kernel
theorem dL_stretch_24 : decode cL_stretch 24 = .ok (.ireturn, 1) := by decide +kernel
theorem dL_stretch_25 : decode cL_stretch 25 = .ok (.iconst 0, 1) := by decide +kernel
theorem dL_stretch_26 : decode cL_stretch 26 = .ok (.ireturn, 1) := by decide +kernel
set_option maxRecDepth 20000 in
theorem ggL_takeOut_X4_takeOut : GoodIn wsL_takeOut wsX4_takeOut := goodIn_ca (goodIn_r _ [6, 7, 8, 9, 10, 11, 12, 5, 13, 14, 15, 16, 17, 18, 19, 20, 21, 22, 23, 24, 25, 26, 27, 28, 29, 30, 31, 32, 33, 34, 35, 36, 37, 38, 39, 40, 41, 42, 43, 44, 45] (by decide +kernel) (by decide +kernel)) (goodIn_sub (fun _ h => List.mem_cons_of_mem _ (List.mem_append_right _ h)) (by decide +kernel))
set_option maxRecDepth 20000 in
theorem gL_takeOut_X4_takeOut : GoodIn wsL_takeOut (wsV RL 45 RX4 yX4_takeOut wsX4_takeOut) := goodIn_app (goodIn_of _ (by decide +kernel)) ggL_takeOut_X4_takeOut
theorem dL_takeOut_0 : decode cL_takeOut 0 = .ok (.aload_n 2, 1) := by decide +kernel
theorem dL_takeOut_1 : decode cL_takeOut 1 = .ok (.iconst 0, 1) := by decide +kernel
theorem dL_takeOut_2 : decode cL_takeOut 2 = .ok (.aload_n 0, 1) := by decide +kernel
theorem dL_takeOut_3 : decode cL_takeOut 3 = .ok (.iload_n 1, 1) := by decide +kernel
theorem dL_takeOut_4 : decode cL_takeOut 4 = .ok (.invokevirtual 45, 3) := by decide +kernel
theorem dL_takeOut_7 : decode cL_takeOut 7 = .ok (.i2l, 1) := by decide +kernel
theorem dL_takeOut_8 : decode cL_takeOut 8 = .ok (.lastore, 1) := by decide +kernel
theorem dL_takeOut_9 : decode cL_takeOut 9 = .ok (.goto 6, 3) := by decide +kernel
theorem dL_takeOut_12 : decode cL_takeOut 12 = .ok (.astore_n 3, 1) := by decide +kernel
theorem dL_takeOut_13 : decode cL_takeOut 13 = .ok (.iconst 1, 1) := by decide +kernel
theorem dL_takeOut_14 : decode cL_takeOut 14 = .ok (.ireturn, 1) := by decide +kernel
theorem dL_takeOut_15 : decode cL_takeOut 15 = .ok (.iconst 0, 1) := by decide +kernel
theorem dL_takeOut_16 : decode cL_takeOut 16 = .ok (.ireturn, 1) := by decide +kernel
set_option maxRecDepth 20000 in
theorem ggL_notesIn_X4_notesIn : GoodIn wsL_notesIn wsX4_notesIn := goodIn_ca (goodIn_r _ [6, 7, 8, 9, 5, 10, 11, 12, 13, 14, 15, 16, 17, 18, 19, 20, 21, 22, 23, 24, 25, 26, 27, 28, 29, 30, 31, 32, 33, 34, 35, 36, 37, 38, 39, 40, 41, 42, 43, 44, 45, 46, 47, 48, 49, 50, 51, 52, 53, 54, 55, 56, 57, 58, 59, 60] (by decide +kernel) (by decide +kernel)) (goodIn_sub (fun _ h => List.mem_cons_of_mem _ (List.mem_append_right _ h)) (by decide +kernel))
set_option maxRecDepth 20000 in
theorem gL_notesIn_X4_notesIn : GoodIn wsL_notesIn (wsV RL 48 RX4 yX4_notesIn wsX4_notesIn) := goodIn_app (goodIn_of _ (by decide +kernel)) ggL_notesIn_X4_notesIn
theorem dL_notesIn_0 : decode cL_notesIn 0 = .ok (.aload_n 3, 1) := by decide +kernel
theorem dL_notesIn_1 : decode cL_notesIn 1 = .ok (.iconst 0, 1) := by decide +kernel
theorem dL_notesIn_2 : decode cL_notesIn 2 = .ok (.aload_n 0, 1) := by decide +kernel
theorem dL_notesIn_3 : decode cL_notesIn 3 = .ok (.iload_n 1, 1) := by decide +kernel
theorem dL_notesIn_4 : decode cL_notesIn 4 = .ok (.iload_n 2, 1) := by decide +kernel
theorem dL_notesIn_5 : decode cL_notesIn 5 = .ok (.invokevirtual 48, 3) := by decide +kernel
theorem dL_notesIn_8 : decode cL_notesIn 8 = .ok (.i2l, 1) := by decide +kernel
theorem dL_notesIn_9 : decode cL_notesIn 9 = .ok (.lastore, 1) := by decide +kernel
theorem dL_notesIn_10 : decode cL_notesIn 10 = .ok (.goto 7, 3) := by decide +kernel
theorem dL_notesIn_13 : decode cL_notesIn 13 = .ok (.astore 4, 2) := by decide +kernel
theorem dL_notesIn_15 : decode cL_notesIn 15 = .ok (.iconst 1, 1) := by decide +kernel
theorem dL_notesIn_16 : decode cL_notesIn 16 = .ok (.ireturn, 1) := by decide +kernel
theorem dL_notesIn_17 : decode cL_notesIn 17 = .ok (.iconst 0, 1) := by decide +kernel
theorem dL_notesIn_18 : decode cL_notesIn 18 = .ok (.ireturn, 1) := by decide +kernel
set_option maxRecDepth 20000 in
theorem ggL_noteAt_X4_noteAt : GoodIn wsL_noteAt wsX4_noteAt := goodIn_ca (goodIn_ca (goodIn_r _ [7, 8, 9, 10, 6, 11, 12, 13, 14, 15, 16, 17, 18, 19, 20, 21, 22, 23, 24, 25, 26, 27, 28, 29, 30, 31, 32, 33, 34, 35, 36, 37, 38, 39, 40, 41, 42, 43, 44, 45, 46, 47, 48, 49, 50, 51, 52, 53, 54, 55, 56, 57, 58, 59, 60, 61, 62, 63, 64, 65, 66, 67, 68, 69, 70, 71, 72, 73, 74, 75] (by decide +kernel) (by decide +kernel)) (goodIn_sub (fun _ h => List.mem_cons_of_mem _ (List.mem_append_left _ (List.mem_append_right _ h))) (by decide +kernel))) (goodIn_sub (fun _ h => List.mem_cons_of_mem _ (List.mem_append_right _ h)) (by decide +kernel))
set_option maxRecDepth 20000 in
theorem gL_noteAt_X4_noteAt : GoodIn wsL_noteAt (wsV RL 51 RX4 yX4_noteAt wsX4_noteAt) := goodIn_app (goodIn_of _ (by decide +kernel)) ggL_noteAt_X4_noteAt
theorem dL_noteAt_0 : decode cL_noteAt 0 = .ok (.aload 4, 2) := by decide +kernel
theorem dL_noteAt_2 : decode cL_noteAt 2 = .ok (.iconst 0, 1) := by decide +kernel
theorem dL_noteAt_3 : decode cL_noteAt 3 = .ok (.aload_n 0, 1) := by decide +kernel
theorem dL_noteAt_4 : decode cL_noteAt 4 = .ok (.iload_n 1, 1) := by decide +kernel
theorem dL_noteAt_5 : decode cL_noteAt 5 = .ok (.iload_n 2, 1) := by decide +kernel
theorem dL_noteAt_6 : decode cL_noteAt 6 = .ok (.iload_n 3, 1) := by decide +kernel
theorem dL_noteAt_7 : decode cL_noteAt 7 = .ok (.invokevirtual 51, 3) := by decide +kernel
theorem dL_noteAt_10 : decode cL_noteAt 10 = .ok (.i2l, 1) := by decide +kernel
theorem dL_noteAt_11 : decode cL_noteAt 11 = .ok (.lastore, 1) := by decide +kernel
theorem dL_noteAt_12 : decode cL_noteAt 12 = .ok (.goto 11, 3) := by decide +kernel
theorem dL_noteAt_15 : decode cL_noteAt 15 = .ok (.astore 5, 2) := by decide +kernel
theorem dL_noteAt_17 : decode cL_noteAt 17 = .ok (.iconst 1, 1) := by decide +kernel
theorem dL_noteAt_18 : decode cL_noteAt 18 = .ok (.ireturn, 1) := by decide +kernel
theorem dL_noteAt_19 : decode cL_noteAt 19 = .ok (.astore 5, 2) := by decide +kernel
theorem dL_noteAt_21 : decode cL_noteAt 21 = .ok (.iconst 2, 1) := by decide +kernel
theorem dL_noteAt_22 : decode cL_noteAt 22 = .ok (.ireturn, 1) := by decide +kernel
theorem dL_noteAt_23 : decode cL_noteAt 23 = .ok (.iconst 0, 1) := by decide +kernel
theorem dL_noteAt_24 : decode cL_noteAt 24 = .ok (.ireturn, 1) := by decide +kernel
set_option maxRecDepth 20000 in
theorem ggL_pitchOf_X4_pitchOf : GoodIn wsL_pitchOf wsX4_pitchOf := goodIn_ca (goodIn_r _ [6, 7, 8, 9, 10, 5, 11, 12, 13, 14, 15, 16, 17, 18, 19, 20, 21, 22, 23, 24, 25, 26, 27, 28, 29, 30, 31, 32, 33, 34, 35, 36, 37, 38, 39, 40] (by decide +kernel) (by decide +kernel)) (goodIn_sub (fun _ h => List.mem_cons_of_mem _ (List.mem_append_right _ h)) (by decide +kernel))
set_option maxRecDepth 20000 in
theorem gL_pitchOf_X4_pitchOf : GoodIn wsL_pitchOf (wsV RL 55 RX4 yX4_pitchOf wsX4_pitchOf) := goodIn_app (goodIn_of _ (by decide +kernel)) ggL_pitchOf_X4_pitchOf
theorem dL_pitchOf_0 : decode cL_pitchOf 0 = .ok (.aload_n 2, 1) := by decide +kernel
theorem dL_pitchOf_1 : decode cL_pitchOf 1 = .ok (.iconst 0, 1) := by decide +kernel
theorem dL_pitchOf_2 : decode cL_pitchOf 2 = .ok (.aload_n 0, 1) := by decide +kernel
theorem dL_pitchOf_3 : decode cL_pitchOf 3 = .ok (.iload_n 1, 1) := by decide +kernel
theorem dL_pitchOf_4 : decode cL_pitchOf 4 = .ok (.invokevirtual 55, 3) := by decide +kernel
theorem dL_pitchOf_7 : decode cL_pitchOf 7 = .ok (.i2l, 1) := by decide +kernel
theorem dL_pitchOf_8 : decode cL_pitchOf 8 = .ok (.lastore, 1) := by decide +kernel
theorem dL_pitchOf_9 : decode cL_pitchOf 9 = .ok (.goto 6, 3) := by decide +kernel
theorem dL_pitchOf_12 : decode cL_pitchOf 12 = .ok (.astore_n 3, 1) := by decide +kernel
theorem dL_pitchOf_13 : decode cL_pitchOf 13 = .ok (.iconst 1, 1) := by decide +kernel
theorem dL_pitchOf_14 : decode cL_pitchOf 14 = .ok (.ireturn, 1) := by decide +kernel
theorem dL_pitchOf_15 : decode cL_pitchOf 15 = .ok (.iconst 0, 1) := by decide +kernel
theorem dL_pitchOf_16 : decode cL_pitchOf 16 = .ok (.ireturn, 1) := by decide +kernel
set_option maxRecDepth 20000 in
theorem ggL_lengthOf_X4_lengthOf : GoodIn wsL_lengthOf wsX4_lengthOf := goodIn_ca (goodIn_r _ [6, 7, 8, 9, 10, 5, 11, 12, 13, 14, 15, 16, 17, 18, 19, 20, 21, 22, 23, 24, 25, 26, 27, 28, 29, 30, 31, 32, 33, 34, 35, 36, 37, 38, 39, 40] (by decide +kernel) (by decide +kernel)) (goodIn_sub (fun _ h => List.mem_cons_of_mem _ (List.mem_append_right _ h)) (by decide +kernel))
set_option maxRecDepth 20000 in
theorem gL_lengthOf_X4_lengthOf : GoodIn wsL_lengthOf (wsV RL 58 RX4 yX4_lengthOf wsX4_lengthOf) := goodIn_app (goodIn_of _ (by decide +kernel)) ggL_lengthOf_X4_lengthOf
theorem dL_lengthOf_0 : decode cL_lengthOf 0 = .ok (.aload_n 2, 1) := by decide +kernel
theorem dL_lengthOf_1 : decode cL_lengthOf 1 = .ok (.iconst 0, 1) := by decide +kernel
theorem dL_lengthOf_2 : decode cL_lengthOf 2 = .ok (.aload_n 0, 1) := by decide +kernel
theorem dL_lengthOf_3 : decode cL_lengthOf 3 = .ok (.iload_n 1, 1) := by decide +kernel
theorem dL_lengthOf_4 : decode cL_lengthOf 4 = .ok (.invokevirtual 58, 3) := by decide +kernel
theorem dL_lengthOf_7 : decode cL_lengthOf 7 = .ok (.i2l, 1) := by decide +kernel
theorem dL_lengthOf_8 : decode cL_lengthOf 8 = .ok (.lastore, 1) := by decide +kernel
theorem dL_lengthOf_9 : decode cL_lengthOf 9 = .ok (.goto 6, 3) := by decide +kernel
theorem dL_lengthOf_12 : decode cL_lengthOf 12 = .ok (.astore_n 3, 1) := by decide +kernel
theorem dL_lengthOf_13 : decode cL_lengthOf 13 = .ok (.iconst 1, 1) := by decide +kernel
theorem dL_lengthOf_14 : decode cL_lengthOf 14 = .ok (.ireturn, 1) := by decide +kernel
theorem dL_lengthOf_15 : decode cL_lengthOf 15 = .ok (.iconst 0, 1) := by decide +kernel
theorem dL_lengthOf_16 : decode cL_lengthOf 16 = .ok (.ireturn, 1) := by decide +kernel
set_option maxRecDepth 20000 in
theorem ggL_isDivided_X4_isDivided : GoodIn wsL_isDivided wsX4_isDivided := goodIn_ca (goodIn_r _ [6, 7, 8, 9, 5, 10, 11, 12, 13, 14, 15, 16, 17, 18, 19, 20, 21, 22, 23, 24, 25, 26, 27, 28, 29, 30, 31, 32, 33, 34, 35, 36, 37, 38, 39, 40, 41, 42, 43, 44, 45, 46, 47, 48, 49, 50, 51, 52, 53, 54, 55, 56, 57, 58, 59, 60, 61] (by decide +kernel) (by decide +kernel)) (goodIn_sub (fun _ h => List.mem_cons_of_mem _ (List.mem_append_right _ h)) (by decide +kernel))
set_option maxRecDepth 20000 in
theorem gL_isDivided_X4_isDivided : GoodIn wsL_isDivided (wsV RL 61 RX4 yX4_isDivided wsX4_isDivided) := goodIn_app (goodIn_of _ (by decide +kernel)) ggL_isDivided_X4_isDivided
theorem dL_isDivided_0 : decode cL_isDivided 0 = .ok (.aload_n 3, 1) := by decide +kernel
theorem dL_isDivided_1 : decode cL_isDivided 1 = .ok (.iconst 0, 1) := by decide +kernel
theorem dL_isDivided_2 : decode cL_isDivided 2 = .ok (.aload_n 0, 1) := by decide +kernel
theorem dL_isDivided_3 : decode cL_isDivided 3 = .ok (.iload_n 1, 1) := by decide +kernel
theorem dL_isDivided_4 : decode cL_isDivided 4 = .ok (.iload_n 2, 1) := by decide +kernel
theorem dL_isDivided_5 : decode cL_isDivided 5 = .ok (.invokevirtual 61, 3) := by decide +kernel
theorem dL_isDivided_8 : decode cL_isDivided 8 = .ok (.ifCond .eq 7, 3) := by decide +kernel
theorem dL_isDivided_11 : decode cL_isDivided 11 = .ok (.lconst 1, 1) := by decide +kernel
theorem dL_isDivided_12 : decode cL_isDivided 12 = .ok (.goto 4, 3) := by decide +kernel
theorem dL_isDivided_15 : decode cL_isDivided 15 = .ok (.lconst 0, 1) := by decide +kernel
theorem dL_isDivided_16 : decode cL_isDivided 16 = .ok (.lastore, 1) := by decide +kernel
theorem dL_isDivided_17 : decode cL_isDivided 17 = .ok (.goto 7, 3) := by decide +kernel
theorem dL_isDivided_20 : decode cL_isDivided 20 = .ok (.astore 4, 2) := by decide +kernel
theorem dL_isDivided_22 : decode cL_isDivided 22 = .ok (.iconst 1, 1) := by decide +kernel
theorem dL_isDivided_23 : decode cL_isDivided 23 = .ok (.ireturn, 1) := by decide +kernel
theorem dL_isDivided_24 : decode cL_isDivided 24 = .ok (.iconst 0, 1) := by decide +kernel
theorem dL_isDivided_25 : decode cL_isDivided 25 = .ok (.ireturn, 1) := by decide +kernel
set_option maxRecDepth 20000 in
theorem ggL_written_X4_written : GoodIn wsL_written wsX4_written := goodIn_ca (goodIn_r _ [6, 7, 8, 9, 5, 10, 11, 12, 13, 14, 15, 16, 17, 18, 19, 20, 21, 22, 23, 24, 25, 26, 27, 28, 29, 30, 31, 32, 33, 34, 35, 36, 37, 38, 39, 40, 41, 42, 43, 44, 45, 46, 47, 48, 49, 50, 51, 52, 53] (by decide +kernel) (by decide +kernel)) (goodIn_sub (fun _ h => List.mem_cons_of_mem _ (List.mem_append_right _ h)) (by decide +kernel))
set_option maxRecDepth 20000 in
theorem gL_written_X4_written : GoodIn wsL_written (wsV RL 65 RX4 yX4_written wsX4_written) := goodIn_app (goodIn_of _ (by decide +kernel)) ggL_written_X4_written
theorem dL_written_0 : decode cL_written 0 = .ok (.aload_n 2, 1) := by decide +kernel
theorem dL_written_1 : decode cL_written 1 = .ok (.iconst 0, 1) := by decide +kernel
theorem dL_written_2 : decode cL_written 2 = .ok (.aload_n 0, 1) := by decide +kernel
theorem dL_written_3 : decode cL_written 3 = .ok (.iload_n 1, 1) := by decide +kernel
theorem dL_written_4 : decode cL_written 4 = .ok (.invokevirtual 65, 3) := by decide +kernel
theorem dL_written_7 : decode cL_written 7 = .ok (.i2l, 1) := by decide +kernel
theorem dL_written_8 : decode cL_written 8 = .ok (.lastore, 1) := by decide +kernel
theorem dL_written_9 : decode cL_written 9 = .ok (.goto 6, 3) := by decide +kernel
theorem dL_written_12 : decode cL_written 12 = .ok (.astore_n 3, 1) := by decide +kernel
theorem dL_written_13 : decode cL_written 13 = .ok (.iconst 1, 1) := by decide +kernel
theorem dL_written_14 : decode cL_written 14 = .ok (.ireturn, 1) := by decide +kernel
theorem dL_written_15 : decode cL_written 15 = .ok (.iconst 0, 1) := by decide +kernel
theorem dL_written_16 : decode cL_written 16 = .ok (.ireturn, 1) := by decide +kernel
set_option maxRecDepth 20000 in
theorem ggL_writtenKey_X4_writtenKey : GoodIn wsL_writtenKey wsX4_writtenKey := goodIn_ca (goodIn_r _ [6, 7, 8, 9, 10, 11, 5, 12, 13, 14, 15, 16, 17, 18, 19, 20, 21, 22, 23, 24, 25, 26, 27, 28, 29, 30, 31, 32, 33, 34, 35, 36, 37, 38, 39, 40, 41, 42, 43, 44, 45, 46, 47, 48, 49, 50] (by decide +kernel) (by decide +kernel)) (goodIn_sub (fun _ h => List.mem_cons_of_mem _ (List.mem_append_right _ h)) (by decide +kernel))
set_option maxRecDepth 20000 in
theorem gL_writtenKey_X4_writtenKey : GoodIn wsL_writtenKey (wsV RL 68 RX4 yX4_writtenKey wsX4_writtenKey) := goodIn_app (goodIn_of _ (by decide +kernel)) ggL_writtenKey_X4_writtenKey
theorem dL_writtenKey_0 : decode cL_writtenKey 0 = .ok (.aload_n 3, 1) := by decide +kernel
theorem dL_writtenKey_1 : decode cL_writtenKey 1 = .ok (.iconst 0, 1) := by decide +kernel
theorem dL_writtenKey_2 : decode cL_writtenKey 2 = .ok (.aload_n 0, 1) := by decide +kernel
theorem dL_writtenKey_3 : decode cL_writtenKey 3 = .ok (.iload_n 1, 1) := by decide +kernel
theorem dL_writtenKey_4 : decode cL_writtenKey 4 = .ok (.iload_n 2, 1) := by decide +kernel
theorem dL_writtenKey_5 : decode cL_writtenKey 5 = .ok (.invokevirtual 68, 3) := by decide +kernel
theorem dL_writtenKey_8 : decode cL_writtenKey 8 = .ok (.i2l, 1) := by decide +kernel
theorem dL_writtenKey_9 : decode cL_writtenKey 9 = .ok (.lastore, 1) := by decide +kernel
theorem dL_writtenKey_10 : decode cL_writtenKey 10 = .ok (.goto 7, 3) := by decide +kernel
theorem dL_writtenKey_13 : decode cL_writtenKey 13 = .ok (.astore 4, 2) := by decide +kernel
theorem dL_writtenKey_15 : decode cL_writtenKey 15 = .ok (.iconst 1, 1) := by decide +kernel
theorem dL_writtenKey_16 : decode cL_writtenKey 16 = .ok (.ireturn, 1) := by decide +kernel
theorem dL_writtenKey_17 : decode cL_writtenKey 17 = .ok (.iconst 0, 1) := by decide +kernel
theorem dL_writtenKey_18 : decode cL_writtenKey 18 = .ok (.ireturn, 1) := by decide +kernel
set_option maxRecDepth 20000 in
theorem ggL_letterOf_X4_letterOf : GoodIn wsL_letterOf wsX4_letterOf := goodIn_ca (goodIn_r _ [6, 7, 8, 9, 5, 10, 11, 12, 13, 14, 15, 16, 17, 18, 19, 20, 21, 22, 23, 24, 25, 26, 27, 28, 29, 30, 31, 32, 33, 34, 35, 36, 37, 38, 39, 40, 41, 42, 43, 44, 45, 46, 47, 48, 49, 50, 51, 52, 53, 54, 55, 56, 57, 58, 59, 60, 61, 62, 63, 64, 65, 66, 67, 68, 69, 70, 71, 72, 73, 74, 75, 76, 77] (by decide +kernel) (by decide +kernel)) (goodIn_sub (fun _ h => List.mem_cons_of_mem _ (List.mem_append_right _ h)) (by decide +kernel))
set_option maxRecDepth 20000 in
theorem gL_letterOf_X4_letterOf : GoodIn wsL_letterOf (wsV RL 71 RX4 yX4_letterOf wsX4_letterOf) := goodIn_app (goodIn_of _ (by decide +kernel)) ggL_letterOf_X4_letterOf
theorem dL_letterOf_0 : decode cL_letterOf 0 = .ok (.aload_n 2, 1) := by decide +kernel
theorem dL_letterOf_1 : decode cL_letterOf 1 = .ok (.iconst 0, 1) := by decide +kernel
theorem dL_letterOf_2 : decode cL_letterOf 2 = .ok (.aload_n 0, 1) := by decide +kernel
theorem dL_letterOf_3 : decode cL_letterOf 3 = .ok (.iload_n 1, 1) := by decide +kernel
theorem dL_letterOf_4 : decode cL_letterOf 4 = .ok (.invokevirtual 71, 3) := by decide +kernel
theorem dL_letterOf_7 : decode cL_letterOf 7 = .ok (.i2l, 1) := by decide +kernel
theorem dL_letterOf_8 : decode cL_letterOf 8 = .ok (.lastore, 1) := by decide +kernel
theorem dL_letterOf_9 : decode cL_letterOf 9 = .ok (.goto 6, 3) := by decide +kernel
theorem dL_letterOf_12 : decode cL_letterOf 12 = .ok (.astore_n 3, 1) := by decide +kernel
theorem dL_letterOf_13 : decode cL_letterOf 13 = .ok (.iconst 1, 1) := by decide +kernel
theorem dL_letterOf_14 : decode cL_letterOf 14 = .ok (.ireturn, 1) := by decide +kernel
theorem dL_letterOf_15 : decode cL_letterOf 15 = .ok (.iconst 0, 1) := by decide +kernel
theorem dL_letterOf_16 : decode cL_letterOf 16 = .ok (.ireturn, 1) := by decide +kernel
set_option maxRecDepth 20000 in
theorem ggL_accidentalOf_X4_accidentalOf : GoodIn wsL_accidentalOf wsX4_accidentalOf := goodIn_ca (goodIn_r _ [6, 7, 8, 9, 5, 10, 11, 12, 13, 14, 15, 16, 17, 18, 19, 20, 21, 22, 23, 24, 25, 26, 27, 28, 29, 30, 31, 32, 33, 34, 35, 36, 37, 38, 39, 40, 41, 42, 43, 44, 45, 46, 47, 48, 49, 50, 51, 52, 53, 54, 55, 56, 57, 58, 59, 60, 61, 62, 63, 64, 65, 66, 67, 68, 69, 70, 71, 72, 73, 74, 75, 76, 77, 78, 79, 80] (by decide +kernel) (by decide +kernel)) (goodIn_sub (fun _ h => List.mem_cons_of_mem _ (List.mem_append_right _ h)) (by decide +kernel))
set_option maxRecDepth 20000 in
theorem gL_accidentalOf_X4_accidentalOf : GoodIn wsL_accidentalOf (wsV RL 75 RX4 yX4_accidentalOf wsX4_accidentalOf) := goodIn_app (goodIn_of _ (by decide +kernel)) ggL_accidentalOf_X4_accidentalOf
theorem dL_accidentalOf_0 : decode cL_accidentalOf 0 = .ok (.aload_n 2, 1) := by decide +kernel
theorem dL_accidentalOf_1 : decode cL_accidentalOf 1 = .ok (.iconst 0, 1) := by decide +kernel
theorem dL_accidentalOf_2 : decode cL_accidentalOf 2 = .ok (.aload_n 0, 1) := by decide +kernel
theorem dL_accidentalOf_3 : decode cL_accidentalOf 3 = .ok (.iload_n 1, 1) := by decide +kernel
theorem dL_accidentalOf_4 : decode cL_accidentalOf 4 = .ok (.invokevirtual 75, 3) := by decide +kernel
theorem dL_accidentalOf_7 : decode cL_accidentalOf 7 = .ok (.i2l, 1) := by decide +kernel
theorem dL_accidentalOf_8 : decode cL_accidentalOf 8 = .ok (.lastore, 1) := by decide +kernel
theorem dL_accidentalOf_9 : decode cL_accidentalOf 9 = .ok (.goto 6, 3) := by decide +kernel
theorem dL_accidentalOf_12 : decode cL_accidentalOf 12 = .ok (.astore_n 3, 1) := by decide +kernel
theorem dL_accidentalOf_13 : decode cL_accidentalOf 13 = .ok (.iconst 1, 1) := by decide +kernel
theorem dL_accidentalOf_14 : decode cL_accidentalOf 14 = .ok (.ireturn, 1) := by decide +kernel
theorem dL_accidentalOf_15 : decode cL_accidentalOf 15 = .ok (.iconst 0, 1) := by decide +kernel
theorem dL_accidentalOf_16 : decode cL_accidentalOf 16 = .ok (.ireturn, 1) := by decide +kernel
set_option maxRecDepth 20000 in
theorem ggL_rests_X4_rests : GoodIn wsL_rests wsX4_rests := goodIn_ca (goodIn_ca (goodIn_r _ [6, 7, 8, 9, 10, 5, 11, 12, 13, 14, 15, 16, 17, 18, 19, 20, 21, 22, 23, 24, 25, 26, 27, 28, 29, 30, 31, 32, 33, 34, 35, 36, 37, 38, 39, 40, 41, 42, 43, 44, 45, 46, 47, 48, 49, 50, 51, 52, 53, 54, 55, 56, 57, 58, 59, 60, 61, 62, 63, 64, 65, 66, 67, 68, 69, 70, 71, 72, 73, 74, 75, 76, 77, 78, 79, 80, 81, 82, 83, 84, 85, 86, 87, 88, 89, 90, 91, 92, 93, 94, 95, 96, 97, 98, 99, 100, 101, 102, 103, 104, 105, 106, 107, 108, 109, 110, 111, 112, 113, 114, 115, 116, 117, 118, 119] (by decide +kernel) (by decide +kernel)) (goodIn_sub (fun _ h => List.mem_cons_of_mem _ (List.mem_append_right _ h)) (by decide +kernel))) (goodIn_sub (fun _ h => List.mem_cons_of_mem _ (List.mem_append_left _ (List.mem_append_right _ h))) (by decide +kernel))
set_option maxRecDepth 20000 in
theorem gL_rests_X4_rests : GoodIn wsL_rests (wsV RL 78 RX4 yX4_rests wsX4_rests) := goodIn_app (goodIn_of _ (by decide +kernel)) ggL_rests_X4_rests
theorem dL_rests_0 : decode cL_rests 0 = .ok (.aload_n 2, 1) := by decide +kernel
theorem dL_rests_1 : decode cL_rests 1 = .ok (.iconst 0, 1) := by decide +kernel
theorem dL_rests_2 : decode cL_rests 2 = .ok (.aload_n 0, 1) := by decide +kernel
theorem dL_rests_3 : decode cL_rests 3 = .ok (.iload_n 1, 1) := by decide +kernel
theorem dL_rests_4 : decode cL_rests 4 = .ok (.invokevirtual 78, 3) := by decide +kernel
theorem dL_rests_7 : decode cL_rests 7 = .ok (.i2l, 1) := by decide +kernel
theorem dL_rests_8 : decode cL_rests 8 = .ok (.lastore, 1) := by decide +kernel
theorem dL_rests_9 : decode cL_rests 9 = .ok (.goto 6, 3) := by decide +kernel
theorem dL_rests_12 : decode cL_rests 12 = .ok (.astore_n 3, 1) := by decide +kernel
theorem dL_rests_13 : decode cL_rests 13 = .ok (.iconst 1, 1) := by decide +kernel
theorem dL_rests_14 : decode cL_rests 14 = .ok (.ireturn, 1) := by decide +kernel
theorem dL_rests_15 : decode cL_rests 15 = .ok (.iconst 0, 1) := by decide +kernel
theorem dL_rests_16 : decode cL_rests 16 = .ok (.ireturn, 1) := by decide +kernel
set_option maxRecDepth 20000 in
theorem ggL_restFirst_X4_restFirst : GoodIn wsL_restFirst wsX4_restFirst := goodIn_ca (goodIn_ca (goodIn_r _ [6, 7, 8, 9, 10, 5, 11, 12, 13, 14, 15, 16, 17, 18, 19, 20, 21, 22, 23, 24, 25, 26, 27, 28, 29, 30, 31, 32, 33, 34, 35, 36, 37, 38, 39, 40, 41, 42, 43, 44, 45, 46, 47, 48, 49, 50, 51, 52, 53, 54, 55, 56, 57, 58, 59, 60, 61, 62, 63, 64, 65, 66, 67, 68, 69, 70, 71, 72, 73, 74, 75, 76, 77, 78, 79, 80, 81, 82, 83, 84, 85, 86, 87, 88, 89, 90, 91, 92, 93, 94, 95, 96, 97, 98, 99, 100, 101, 102, 103, 104, 105, 106, 107, 108, 109, 110, 111, 112, 113, 114, 115, 116, 117, 118, 119, 120, 121, 122, 123, 124, 125, 126, 127] (by decide +kernel) (by decide +kernel)) (goodIn_sub (fun _ h => List.mem_cons_of_mem _ (List.mem_append_right _ h)) (by decide +kernel))) (goodIn_sub (fun _ h => List.mem_cons_of_mem _ (List.mem_append_left _ (List.mem_append_right _ h))) (by decide +kernel))
set_option maxRecDepth 20000 in
theorem gL_restFirst_X4_restFirst : GoodIn wsL_restFirst (wsV RL 81 RX4 yX4_restFirst wsX4_restFirst) := goodIn_app (goodIn_of _ (by decide +kernel)) ggL_restFirst_X4_restFirst
theorem dL_restFirst_0 : decode cL_restFirst 0 = .ok (.aload_n 3, 1) := by decide +kernel
theorem dL_restFirst_1 : decode cL_restFirst 1 = .ok (.iconst 0, 1) := by decide +kernel
theorem dL_restFirst_2 : decode cL_restFirst 2 = .ok (.aload_n 0, 1) := by decide +kernel
theorem dL_restFirst_3 : decode cL_restFirst 3 = .ok (.iload_n 1, 1) := by decide +kernel
theorem dL_restFirst_4 : decode cL_restFirst 4 = .ok (.iload_n 2, 1) := by decide +kernel
theorem dL_restFirst_5 : decode cL_restFirst 5 = .ok (.invokevirtual 81, 3) := by decide +kernel
theorem dL_restFirst_8 : decode cL_restFirst 8 = .ok (.i2l, 1) := by decide +kernel
theorem dL_restFirst_9 : decode cL_restFirst 9 = .ok (.lastore, 1) := by decide +kernel
theorem dL_restFirst_10 : decode cL_restFirst 10 = .ok (.goto 7, 3) := by decide +kernel
theorem dL_restFirst_13 : decode cL_restFirst 13 = .ok (.astore 4, 2) := by decide +kernel
theorem dL_restFirst_15 : decode cL_restFirst 15 = .ok (.iconst 1, 1) := by decide +kernel
theorem dL_restFirst_16 : decode cL_restFirst 16 = .ok (.ireturn, 1) := by decide +kernel
theorem dL_restFirst_17 : decode cL_restFirst 17 = .ok (.iconst 0, 1) := by decide +kernel
theorem dL_restFirst_18 : decode cL_restFirst 18 = .ok (.ireturn, 1) := by decide +kernel
set_option maxRecDepth 20000 in
theorem ggL_restBars_X4_restBars : GoodIn wsL_restBars wsX4_restBars := goodIn_ca (goodIn_ca (goodIn_r _ [6, 7, 8, 9, 10, 5, 11, 12, 13, 14, 15, 16, 17, 18, 19, 20, 21, 22, 23, 24, 25, 26, 27, 28, 29, 30, 31, 32, 33, 34, 35, 36, 37, 38, 39, 40, 41, 42, 43, 44, 45, 46, 47, 48, 49, 50, 51, 52, 53, 54, 55, 56, 57, 58, 59, 60, 61, 62, 63, 64, 65, 66, 67, 68, 69, 70, 71, 72, 73, 74, 75, 76, 77, 78, 79, 80, 81, 82, 83, 84, 85, 86, 87, 88, 89, 90, 91, 92, 93, 94, 95, 96, 97, 98, 99, 100, 101, 102, 103, 104, 105, 106, 107, 108, 109, 110, 111, 112, 113, 114, 115, 116, 117, 118, 119, 120, 121, 122, 123, 124, 125, 126, 127] (by decide +kernel) (by decide +kernel)) (goodIn_sub (fun _ h => List.mem_cons_of_mem _ (List.mem_append_right _ h)) (by decide +kernel))) (goodIn_sub (fun _ h => List.mem_cons_of_mem _ (List.mem_append_left _ (List.mem_append_right _ h))) (by decide +kernel))
set_option maxRecDepth 20000 in
theorem gL_restBars_X4_restBars : GoodIn wsL_restBars (wsV RL 84 RX4 yX4_restBars wsX4_restBars) := goodIn_app (goodIn_of _ (by decide +kernel)) ggL_restBars_X4_restBars
theorem dL_restBars_0 : decode cL_restBars 0 = .ok (.aload_n 3, 1) := by decide +kernel
theorem dL_restBars_1 : decode cL_restBars 1 = .ok (.iconst 0, 1) := by decide +kernel
theorem dL_restBars_2 : decode cL_restBars 2 = .ok (.aload_n 0, 1) := by decide +kernel
theorem dL_restBars_3 : decode cL_restBars 3 = .ok (.iload_n 1, 1) := by decide +kernel
theorem dL_restBars_4 : decode cL_restBars 4 = .ok (.iload_n 2, 1) := by decide +kernel
theorem dL_restBars_5 : decode cL_restBars 5 = .ok (.invokevirtual 84, 3) := by decide +kernel
theorem dL_restBars_8 : decode cL_restBars 8 = .ok (.i2l, 1) := by decide +kernel
theorem dL_restBars_9 : decode cL_restBars 9 = .ok (.lastore, 1) := by decide +kernel
theorem dL_restBars_10 : decode cL_restBars 10 = .ok (.goto 7, 3) := by decide +kernel
theorem dL_restBars_13 : decode cL_restBars 13 = .ok (.astore 4, 2) := by decide +kernel
theorem dL_restBars_15 : decode cL_restBars 15 = .ok (.iconst 1, 1) := by decide +kernel
theorem dL_restBars_16 : decode cL_restBars 16 = .ok (.ireturn, 1) := by decide +kernel
theorem dL_restBars_17 : decode cL_restBars 17 = .ok (.iconst 0, 1) := by decide +kernel
theorem dL_restBars_18 : decode cL_restBars 18 = .ok (.ireturn, 1) := by decide +kernel
set_option maxRecDepth 20000 in
theorem ggL_setPage_X4_setPage : GoodIn wsL_setPage wsX4_setPage := goodIn_ca (goodIn_r _ [6, 7, 8, 9, 10, 11, 12, 13, 14, 15, 16, 17, 18, 19] (by decide +kernel) (by decide +kernel)) (goodIn_sub (fun _ h => List.mem_cons_of_mem _ (List.mem_append_right _ h)) (by decide +kernel))
set_option maxRecDepth 20000 in
theorem gL_setPage_X4_setPage : GoodIn wsL_setPage (wsV RL 87 RX4 yX4_setPage wsX4_setPage) := goodIn_app (goodIn_of _ (by decide +kernel)) ggL_setPage_X4_setPage
theorem dL_setPage_0 : decode cL_setPage 0 = .ok (.aload_n 2, 1) := by decide +kernel
theorem dL_setPage_1 : decode cL_setPage 1 = .ok (.iconst 0, 1) := by decide +kernel
theorem dL_setPage_2 : decode cL_setPage 2 = .ok (.aload_n 0, 1) := by decide +kernel
theorem dL_setPage_3 : decode cL_setPage 3 = .ok (.iload_n 1, 1) := by decide +kernel
theorem dL_setPage_4 : decode cL_setPage 4 = .ok (.invokevirtual 87, 3) := by decide +kernel
theorem dL_setPage_7 : decode cL_setPage 7 = .ok (.i2l, 1) := by decide +kernel
theorem dL_setPage_8 : decode cL_setPage 8 = .ok (.lastore, 1) := by decide +kernel
theorem dL_setPage_9 : decode cL_setPage 9 = .ok (.goto 6, 3) := by decide +kernel
theorem dL_setPage_12 : decode cL_setPage 12 = .ok (.astore_n 3, 1) := by decide +kernel
theorem dL_setPage_13 : decode cL_setPage 13 = .ok (.iconst 1, 1) := by decide +kernel
theorem dL_setPage_14 : decode cL_setPage 14 = .ok (.ireturn, 1) := by decide +kernel
theorem dL_setPage_15 : decode cL_setPage 15 = .ok (.iconst 0, 1) := by decide +kernel
theorem dL_setPage_16 : decode cL_setPage 16 = .ok (.ireturn, 1) := by decide +kernel
set_option maxRecDepth 20000 in
theorem ggL_setTurn_X4_setTurn : GoodIn wsL_setTurn wsX4_setTurn := goodIn_ca (goodIn_r _ [6, 7, 8, 9, 10, 11, 12, 13, 14, 15, 16, 17, 18, 19] (by decide +kernel) (by decide +kernel)) (goodIn_sub (fun _ h => List.mem_cons_of_mem _ (List.mem_append_right _ h)) (by decide +kernel))
set_option maxRecDepth 20000 in
theorem gL_setTurn_X4_setTurn : GoodIn wsL_setTurn (wsV RL 90 RX4 yX4_setTurn wsX4_setTurn) := goodIn_app (goodIn_of _ (by decide +kernel)) ggL_setTurn_X4_setTurn
theorem dL_setTurn_0 : decode cL_setTurn 0 = .ok (.aload_n 2, 1) := by decide +kernel
theorem dL_setTurn_1 : decode cL_setTurn 1 = .ok (.iconst 0, 1) := by decide +kernel
theorem dL_setTurn_2 : decode cL_setTurn 2 = .ok (.aload_n 0, 1) := by decide +kernel
theorem dL_setTurn_3 : decode cL_setTurn 3 = .ok (.iload_n 1, 1) := by decide +kernel
theorem dL_setTurn_4 : decode cL_setTurn 4 = .ok (.invokevirtual 90, 3) := by decide +kernel
theorem dL_setTurn_7 : decode cL_setTurn 7 = .ok (.i2l, 1) := by decide +kernel
theorem dL_setTurn_8 : decode cL_setTurn 8 = .ok (.lastore, 1) := by decide +kernel
theorem dL_setTurn_9 : decode cL_setTurn 9 = .ok (.goto 6, 3) := by decide +kernel
theorem dL_setTurn_12 : decode cL_setTurn 12 = .ok (.astore_n 3, 1) := by decide +kernel
theorem dL_setTurn_13 : decode cL_setTurn 13 = .ok (.iconst 1, 1) := by decide +kernel
theorem dL_setTurn_14 : decode cL_setTurn 14 = .ok (.ireturn, 1) := by decide +kernel
theorem dL_setTurn_15 : decode cL_setTurn 15 = .ok (.iconst 0, 1) := by decide +kernel
theorem dL_setTurn_16 : decode cL_setTurn 16 = .ok (.ireturn, 1) := by decide +kernel
set_option maxRecDepth 20000 in
theorem ggL_setCue_X4_setCue : GoodIn wsL_setCue wsX4_setCue := goodIn_ca (goodIn_r _ [6, 7, 8, 9, 10, 11, 12, 13, 14, 15, 16, 17, 18, 19] (by decide +kernel) (by decide +kernel)) (goodIn_sub (fun _ h => List.mem_cons_of_mem _ (List.mem_append_right _ h)) (by decide +kernel))
set_option maxRecDepth 20000 in
theorem gL_setCue_X4_setCue : GoodIn wsL_setCue (wsV RL 93 RX4 yX4_setCue wsX4_setCue) := goodIn_app (goodIn_of _ (by decide +kernel)) ggL_setCue_X4_setCue
theorem dL_setCue_0 : decode cL_setCue 0 = .ok (.aload_n 2, 1) := by decide +kernel
theorem dL_setCue_1 : decode cL_setCue 1 = .ok (.iconst 0, 1) := by decide +kernel
theorem dL_setCue_2 : decode cL_setCue 2 = .ok (.aload_n 0, 1) := by decide +kernel
theorem dL_setCue_3 : decode cL_setCue 3 = .ok (.iload_n 1, 1) := by decide +kernel
theorem dL_setCue_4 : decode cL_setCue 4 = .ok (.invokevirtual 93, 3) := by decide +kernel
theorem dL_setCue_7 : decode cL_setCue 7 = .ok (.i2l, 1) := by decide +kernel
theorem dL_setCue_8 : decode cL_setCue 8 = .ok (.lastore, 1) := by decide +kernel
theorem dL_setCue_9 : decode cL_setCue 9 = .ok (.goto 6, 3) := by decide +kernel
theorem dL_setCue_12 : decode cL_setCue 12 = .ok (.astore_n 3, 1) := by decide +kernel
theorem dL_setCue_13 : decode cL_setCue 13 = .ok (.iconst 1, 1) := by decide +kernel
theorem dL_setCue_14 : decode cL_setCue 14 = .ok (.ireturn, 1) := by decide +kernel
theorem dL_setCue_15 : decode cL_setCue 15 = .ok (.iconst 0, 1) := by decide +kernel
theorem dL_setCue_16 : decode cL_setCue 16 = .ok (.ireturn, 1) := by decide +kernel
set_option maxRecDepth 20000 in
theorem ggL_hardTurns_X4_hardTurns : GoodIn wsL_hardTurns wsX4_hardTurns := goodIn_ca (goodIn_ca (goodIn_r _ [6, 7, 8, 9, 10, 5, 11, 12, 13, 14, 15, 16, 17, 18, 19, 20, 21, 22, 23, 24, 25, 26, 27, 28, 29, 30, 31, 32, 33, 34, 35, 36, 37, 38, 39, 40, 41, 42, 43, 44, 45, 46, 47, 48, 49, 50, 51, 52, 53, 54, 55, 56, 57, 58, 59, 60, 61, 62, 63, 64, 65, 66, 67, 68, 69, 70, 71, 72, 73, 74, 75, 76, 77, 78, 79, 80, 81, 82, 83, 84, 85, 86, 87, 88, 89, 90, 91, 92, 93, 94, 95, 96, 97, 98, 99, 100, 101, 102, 103, 104, 105, 106, 107, 108, 109, 110, 111, 112, 113, 114, 115, 116, 117, 118, 119, 120, 121, 122, 123, 124, 125, 126, 127, 128, 129, 130, 131, 132, 133, 134, 135] (by decide +kernel) (by decide +kernel)) (goodIn_sub (fun _ h => List.mem_cons_of_mem _ (List.mem_append_right _ h)) (by decide +kernel))) (goodIn_sub (fun _ h => List.mem_cons_of_mem _ (List.mem_append_left _ (List.mem_append_right _ h))) (by decide +kernel))
set_option maxRecDepth 20000 in
theorem gL_hardTurns_X4_hardTurns : GoodIn wsL_hardTurns (wsV RL 96 RX4 yX4_hardTurns wsX4_hardTurns) := goodIn_app (goodIn_of _ (by decide +kernel)) ggL_hardTurns_X4_hardTurns
theorem dL_hardTurns_0 : decode cL_hardTurns 0 = .ok (.aload_n 2, 1) := by decide +kernel
theorem dL_hardTurns_1 : decode cL_hardTurns 1 = .ok (.iconst 0, 1) := by decide +kernel
theorem dL_hardTurns_2 : decode cL_hardTurns 2 = .ok (.aload_n 0, 1) := by decide +kernel
theorem dL_hardTurns_3 : decode cL_hardTurns 3 = .ok (.iload_n 1, 1) := by decide +kernel
theorem dL_hardTurns_4 : decode cL_hardTurns 4 = .ok (.invokevirtual 96, 3) := by decide +kernel
theorem dL_hardTurns_7 : decode cL_hardTurns 7 = .ok (.i2l, 1) := by decide +kernel
theorem dL_hardTurns_8 : decode cL_hardTurns 8 = .ok (.lastore, 1) := by decide +kernel
theorem dL_hardTurns_9 : decode cL_hardTurns 9 = .ok (.goto 6, 3) := by decide +kernel
theorem dL_hardTurns_12 : decode cL_hardTurns 12 = .ok (.astore_n 3, 1) := by decide +kernel
theorem dL_hardTurns_13 : decode cL_hardTurns 13 = .ok (.iconst 1, 1) := by decide +kernel
theorem dL_hardTurns_14 : decode cL_hardTurns 14 = .ok (.ireturn, 1) := by decide +kernel
theorem dL_hardTurns_15 : decode cL_hardTurns 15 = .ok (.iconst 0, 1) := by decide +kernel
theorem dL_hardTurns_16 : decode cL_hardTurns 16 = .ok (.ireturn, 1) := by decide +kernel
set_option maxRecDepth 20000 in
theorem ggL_hardTurnsByTrying_X4_hardTurnsByTrying : GoodIn wsL_hardTurnsByTrying wsX4_hardTurnsByTrying := goodIn_ca (goodIn_ca (goodIn_r _ [6, 7, 8, 9, 10, 5, 11, 12, 13, 14, 15, 16, 17, 18, 19, 20, 21, 22, 23, 24, 25, 26, 27, 28, 29, 30, 31, 32, 33, 34, 35, 36, 37, 38, 39, 40, 41, 42, 43, 44, 45, 46, 47, 48, 49, 50, 51, 52, 53, 54, 55, 56, 57, 58, 59, 60, 61, 62, 63, 64, 65, 66, 67, 68, 69, 70, 71, 72, 73, 74, 75, 76, 77, 78, 79, 80, 81, 82, 83, 84, 85, 86, 87, 88, 89, 90, 91, 92, 93, 94, 95, 96, 97, 98, 99, 100, 101, 102, 103, 104, 105, 106, 107, 108, 109, 110, 111, 112, 113, 114, 115, 116, 117, 118, 119, 120, 121, 122, 123] (by decide +kernel) (by decide +kernel)) (goodIn_sub (fun _ h => List.mem_cons_of_mem _ (List.mem_append_right _ h)) (by decide +kernel))) (goodIn_sub (fun _ h => List.mem_cons_of_mem _ (List.mem_append_left _ (List.mem_append_right _ h))) (by decide +kernel))
set_option maxRecDepth 20000 in
theorem gL_hardTurnsByTrying_X4_hardTurnsByTrying : GoodIn wsL_hardTurnsByTrying (wsV RL 99 RX4 yX4_hardTurnsByTrying wsX4_hardTurnsByTrying) := goodIn_app (goodIn_of _ (by decide +kernel)) ggL_hardTurnsByTrying_X4_hardTurnsByTrying
theorem dL_hardTurnsByTrying_0 : decode cL_hardTurnsByTrying 0 = .ok (.aload_n 2, 1) := by decide +kernel
theorem dL_hardTurnsByTrying_1 : decode cL_hardTurnsByTrying 1 = .ok (.iconst 0, 1) := by decide +kernel
theorem dL_hardTurnsByTrying_2 : decode cL_hardTurnsByTrying 2 = .ok (.aload_n 0, 1) := by decide +kernel
theorem dL_hardTurnsByTrying_3 : decode cL_hardTurnsByTrying 3 = .ok (.iload_n 1, 1) := by decide +kernel
theorem dL_hardTurnsByTrying_4 : decode cL_hardTurnsByTrying 4 = .ok (.invokevirtual 99, 3) := by decide +kernel
theorem dL_hardTurnsByTrying_7 : decode cL_hardTurnsByTrying 7 = .ok (.i2l, 1) := by decide +kernel
theorem dL_hardTurnsByTrying_8 : decode cL_hardTurnsByTrying 8 = .ok (.lastore, 1) := by decide +kernel
theorem dL_hardTurnsByTrying_9 : decode cL_hardTurnsByTrying 9 = .ok (.goto 6, 3) := by decide +kernel
theorem dL_hardTurnsByTrying_12 : decode cL_hardTurnsByTrying 12 = .ok (.astore_n 3, 1) := by decide +kernel
theorem dL_hardTurnsByTrying_13 : decode cL_hardTurnsByTrying 13 = .ok (.iconst 1, 1) := by decide +kernel
theorem dL_hardTurnsByTrying_14 : decode cL_hardTurnsByTrying 14 = .ok (.ireturn, 1) := by decide +kernel
theorem dL_hardTurnsByTrying_15 : decode cL_hardTurnsByTrying 15 = .ok (.iconst 0, 1) := by decide +kernel
theorem dL_hardTurnsByTrying_16 : decode cL_hardTurnsByTrying 16 = .ok (.ireturn, 1) := by decide +kernel
set_option maxRecDepth 20000 in
theorem ggL_pages_X4_pages : GoodIn wsL_pages wsX4_pages := goodIn_ca (goodIn_ca (goodIn_r _ [6, 7, 8, 9, 10, 5, 11, 12, 13, 14, 15, 16, 17, 18, 19, 20, 21, 22, 23, 24, 25, 26, 27, 28, 29, 30, 31, 32, 33, 34, 35, 36, 37, 38, 39, 40, 41, 42, 43, 44, 45, 46, 47, 48, 49, 50, 51, 52, 53, 54, 55, 56, 57, 58, 59, 60, 61, 62, 63, 64, 65, 66, 67, 68, 69, 70, 71, 72, 73, 74, 75, 76, 77, 78, 79, 80, 81, 82, 83, 84, 85, 86, 87, 88, 89, 90, 91, 92, 93, 94, 95, 96, 97, 98, 99, 100, 101, 102, 103, 104, 105, 106, 107, 108, 109, 110, 111, 112, 113, 114, 115, 116, 117, 118, 119, 120, 121, 122, 123, 124, 125, 126, 127, 128, 129, 130, 131, 132, 133, 134, 135] (by decide +kernel) (by decide +kernel)) (goodIn_sub (fun _ h => List.mem_cons_of_mem _ (List.mem_append_right _ h)) (by decide +kernel))) (goodIn_sub (fun _ h => List.mem_cons_of_mem _ (List.mem_append_left _ (List.mem_append_right _ h))) (by decide +kernel))
set_option maxRecDepth 20000 in
theorem gL_pages_X4_pages : GoodIn wsL_pages (wsV RL 102 RX4 yX4_pages wsX4_pages) := goodIn_app (goodIn_of _ (by decide +kernel)) ggL_pages_X4_pages
theorem dL_pages_0 : decode cL_pages 0 = .ok (.aload_n 2, 1) := by decide +kernel
theorem dL_pages_1 : decode cL_pages 1 = .ok (.iconst 0, 1) := by decide +kernel
theorem dL_pages_2 : decode cL_pages 2 = .ok (.aload_n 0, 1) := by decide +kernel
theorem dL_pages_3 : decode cL_pages 3 = .ok (.iload_n 1, 1) := by decide +kernel
theorem dL_pages_4 : decode cL_pages 4 = .ok (.invokevirtual 102, 3) := by decide +kernel
theorem dL_pages_7 : decode cL_pages 7 = .ok (.i2l, 1) := by decide +kernel
theorem dL_pages_8 : decode cL_pages 8 = .ok (.lastore, 1) := by decide +kernel
theorem dL_pages_9 : decode cL_pages 9 = .ok (.goto 6, 3) := by decide +kernel
theorem dL_pages_12 : decode cL_pages 12 = .ok (.astore_n 3, 1) := by decide +kernel
theorem dL_pages_13 : decode cL_pages 13 = .ok (.iconst 1, 1) := by decide +kernel
theorem dL_pages_14 : decode cL_pages 14 = .ok (.ireturn, 1) := by decide +kernel
theorem dL_pages_15 : decode cL_pages 15 = .ok (.iconst 0, 1) := by decide +kernel
theorem dL_pages_16 : decode cL_pages 16 = .ok (.ireturn, 1) := by decide +kernel
set_option maxRecDepth 20000 in
theorem ggL_pageEnd_X4_pageEnd : GoodIn wsL_pageEnd wsX4_pageEnd := goodIn_ca (goodIn_ca (goodIn_ca (goodIn_r _ [7, 8, 9, 10, 11, 12, 13, 6, 14, 15, 16, 17, 18, 19, 20, 21, 22, 23, 24, 25, 26, 27, 28, 29, 30, 31, 32, 33, 34, 35, 36, 37, 38, 39, 40, 41, 42, 43, 44, 45, 46, 47, 48, 49, 50, 51, 52, 53, 54, 55, 56, 57, 58, 59, 60, 61, 62, 63, 64, 65, 66, 67, 68, 69, 70, 71, 72, 73, 74, 75, 76, 77, 78, 79, 80, 81, 82, 83, 84, 85, 86, 87, 88, 89, 90, 91, 92, 93, 94, 95, 96, 97, 98, 99, 100, 101, 102, 103, 104, 105, 106, 107, 108, 109, 110, 111, 112, 113, 114, 115, 116, 117, 118, 119, 120, 121, 122, 123, 124, 125, 126, 127, 128, 129, 130, 131, 132, 133, 134, 135, 136, 137, 138, 139, 140, 141, 142, 143, 144, 145, 146] (by decide +kernel) (by decide +kernel)) (goodIn_sub (fun _ h => List.mem_cons_of_mem _ (List.mem_append_left _ (List.mem_append_right _ h))) (by decide +kernel))) (goodIn_sub (fun _ h => List.mem_cons_of_mem _ (List.mem_append_right _ h)) (by decide +kernel))) (goodIn_sub (fun _ h => List.mem_cons_of_mem _ (List.mem_append_left _ (List.mem_append_left _ (List.mem_append_right _ h)))) (by decide +kernel))
set_option maxRecDepth 20000 in
theorem gL_pageEnd_X4_pageEnd : GoodIn wsL_pageEnd (wsV RL 105 RX4 yX4_pageEnd wsX4_pageEnd) := goodIn_app (goodIn_of _ (by decide +kernel)) ggL_pageEnd_X4_pageEnd
theorem dL_pageEnd_0 : decode cL_pageEnd 0 = .ok (.aload_n 3, 1) := by decide +kernel
theorem dL_pageEnd_1 : decode cL_pageEnd 1 = .ok (.iconst 0, 1) := by decide +kernel
theorem dL_pageEnd_2 : decode cL_pageEnd 2 = .ok (.aload_n 0, 1) := by decide +kernel
theorem dL_pageEnd_3 : decode cL_pageEnd 3 = .ok (.iload_n 1, 1) := by decide +kernel
theorem dL_pageEnd_4 : decode cL_pageEnd 4 = .ok (.iload_n 2, 1) := by decide +kernel
theorem dL_pageEnd_5 : decode cL_pageEnd 5 = .ok (.invokevirtual 105, 3) := by decide +kernel
theorem dL_pageEnd_8 : decode cL_pageEnd 8 = .ok (.i2l, 1) := by decide +kernel
theorem dL_pageEnd_9 : decode cL_pageEnd 9 = .ok (.lastore, 1) := by decide +kernel
theorem dL_pageEnd_10 : decode cL_pageEnd 10 = .ok (.goto 11, 3) := by decide +kernel
theorem dL_pageEnd_13 : decode cL_pageEnd 13 = .ok (.astore 4, 2) := by decide +kernel
theorem dL_pageEnd_15 : decode cL_pageEnd 15 = .ok (.iconst 1, 1) := by decide +kernel
theorem dL_pageEnd_16 : decode cL_pageEnd 16 = .ok (.ireturn, 1) := by decide +kernel
theorem dL_pageEnd_17 : decode cL_pageEnd 17 = .ok (.astore 4, 2) := by decide +kernel
theorem dL_pageEnd_19 : decode cL_pageEnd 19 = .ok (.iconst 2, 1) := by decide +kernel
theorem dL_pageEnd_20 : decode cL_pageEnd 20 = .ok (.ireturn, 1) := by decide +kernel
theorem dL_pageEnd_21 : decode cL_pageEnd 21 = .ok (.iconst 0, 1) := by decide +kernel
theorem dL_pageEnd_22 : decode cL_pageEnd 22 = .ok (.ireturn, 1) := by decide +kernel
set_option maxRecDepth 20000 in
theorem ggL_cuePart_X4_cuePart : GoodIn wsL_cuePart wsX4_cuePart := goodIn_ca (goodIn_ca (goodIn_ca (goodIn_r _ [7, 8, 9, 10, 6, 11, 12, 13, 14, 15, 16, 17, 18, 19, 20, 21, 22, 23, 24, 25, 26, 27, 28, 29, 30, 31, 32, 33, 34, 35, 36, 37, 38, 39, 40, 41, 42, 43, 44, 45, 46, 47, 48, 49, 50, 51, 52, 53, 54, 55, 56, 57, 58, 59, 60, 61, 62, 63, 64, 65, 66, 67, 68, 69, 70, 71, 72, 73, 74, 75, 76, 77, 78, 79, 80, 81, 82, 83, 84, 85, 86, 87, 88, 89, 90, 91, 92, 93, 94, 95, 96, 97, 98, 99, 100, 101, 102, 103, 104, 105, 106, 107, 108, 109, 110, 111, 112, 113, 114, 115, 116, 117, 118, 119, 120, 121, 122, 123, 124, 125, 126, 127, 128, 129, 130, 131, 132, 133, 134, 135, 136, 137, 138, 139, 140, 141, 142, 143, 144, 145, 146, 147, 148, 149] (by decide +kernel) (by decide +kernel)) (goodIn_sub (fun _ h => List.mem_cons_of_mem _ (List.mem_append_left _ (List.mem_append_right _ h))) (by decide +kernel))) (goodIn_sub (fun _ h => List.mem_cons_of_mem _ (List.mem_append_left _ (List.mem_append_left _ (List.mem_append_right _ h)))) (by decide +kernel))) (goodIn_sub (fun _ h => List.mem_cons_of_mem _ (List.mem_append_right _ h)) (by decide +kernel))
set_option maxRecDepth 20000 in
theorem gL_cuePart_X4_cuePart : GoodIn wsL_cuePart (wsV RL 108 RX4 yX4_cuePart wsX4_cuePart) := goodIn_app (goodIn_of _ (by decide +kernel)) ggL_cuePart_X4_cuePart
theorem dL_cuePart_0 : decode cL_cuePart 0 = .ok (.aload_n 3, 1) := by decide +kernel
theorem dL_cuePart_1 : decode cL_cuePart 1 = .ok (.iconst 0, 1) := by decide +kernel
theorem dL_cuePart_2 : decode cL_cuePart 2 = .ok (.aload_n 0, 1) := by decide +kernel
theorem dL_cuePart_3 : decode cL_cuePart 3 = .ok (.iload_n 1, 1) := by decide +kernel
theorem dL_cuePart_4 : decode cL_cuePart 4 = .ok (.iload_n 2, 1) := by decide +kernel
theorem dL_cuePart_5 : decode cL_cuePart 5 = .ok (.invokevirtual 108, 3) := by decide +kernel
theorem dL_cuePart_8 : decode cL_cuePart 8 = .ok (.i2l, 1) := by decide +kernel
theorem dL_cuePart_9 : decode cL_cuePart 9 = .ok (.lastore, 1) := by decide +kernel
theorem dL_cuePart_10 : decode cL_cuePart 10 = .ok (.goto 11, 3) := by decide +kernel
theorem dL_cuePart_13 : decode cL_cuePart 13 = .ok (.astore 4, 2) := by decide +kernel
theorem dL_cuePart_15 : decode cL_cuePart 15 = .ok (.iconst 1, 1) := by decide +kernel
theorem dL_cuePart_16 : decode cL_cuePart 16 = .ok (.ireturn, 1) := by decide +kernel
theorem dL_cuePart_17 : decode cL_cuePart 17 = .ok (.astore 4, 2) := by decide +kernel
theorem dL_cuePart_19 : decode cL_cuePart 19 = .ok (.iconst 2, 1) := by decide +kernel
theorem dL_cuePart_20 : decode cL_cuePart 20 = .ok (.ireturn, 1) := by decide +kernel
theorem dL_cuePart_21 : decode cL_cuePart 21 = .ok (.iconst 0, 1) := by decide +kernel
theorem dL_cuePart_22 : decode cL_cuePart 22 = .ok (.ireturn, 1) := by decide +kernel
set_option maxRecDepth 20000 in
theorem ggL_cuePitch_X4_cuePitch : GoodIn wsL_cuePitch wsX4_cuePitch := goodIn_ca (goodIn_ca (goodIn_ca (goodIn_ca (goodIn_r _ [8, 9, 10, 11, 12, 13, 14, 7, 15, 16, 17, 18, 19, 20, 21, 22, 23, 24, 25, 26, 27, 28, 29, 30, 31, 32, 33, 34, 35, 36, 37, 38, 39, 40, 41, 42, 43, 44, 45, 46, 47, 48, 49, 50, 51, 52, 53, 54, 55, 56, 57, 58, 59, 60, 61, 62, 63, 64, 65, 66, 67, 68, 69, 70, 71, 72, 73, 74, 75, 76, 77, 78, 79, 80, 81, 82, 83, 84, 85, 86, 87, 88, 89, 90, 91, 92, 93, 94, 95, 96, 97, 98, 99, 100, 101, 102, 103, 104, 105, 106, 107, 108, 109, 110, 111, 112, 113, 114, 115, 116, 117, 118, 119, 120, 121, 122, 123, 124, 125, 126, 127, 128, 129, 130, 131, 132, 133, 134, 135, 136, 137, 138, 139, 140, 141, 142, 143, 144, 145, 146, 147, 148, 149, 150, 151, 152, 153, 154, 155, 156, 157, 158, 159, 160, 161, 162, 163, 164, 165, 166, 167, 168, 169, 170, 171, 172, 173, 174, 175, 176, 177, 178, 179, 180, 181] (by decide +kernel) (by decide +kernel)) (goodIn_sub (fun _ h => List.mem_cons_of_mem _ (List.mem_append_left _ (List.mem_append_left _ (List.mem_append_right _ h)))) (by decide +kernel))) (goodIn_sub (fun _ h => List.mem_cons_of_mem _ (List.mem_append_left _ (List.mem_append_left _ (List.mem_append_left _ (List.mem_append_right _ h))))) (by decide +kernel))) (goodIn_sub (fun _ h => List.mem_cons_of_mem _ (List.mem_append_left _ (List.mem_append_right _ h))) (by decide +kernel))) (goodIn_sub (fun _ h => List.mem_cons_of_mem _ (List.mem_append_right _ h)) (by decide +kernel))
set_option maxRecDepth 20000 in
theorem gL_cuePitch_X4_cuePitch : GoodIn wsL_cuePitch (wsV RL 111 RX4 yX4_cuePitch wsX4_cuePitch) := goodIn_app (goodIn_of _ (by decide +kernel)) ggL_cuePitch_X4_cuePitch
theorem dL_cuePitch_0 : decode cL_cuePitch 0 = .ok (.aload 4, 2) := by decide +kernel
theorem dL_cuePitch_2 : decode cL_cuePitch 2 = .ok (.iconst 0, 1) := by decide +kernel
theorem dL_cuePitch_3 : decode cL_cuePitch 3 = .ok (.aload_n 0, 1) := by decide +kernel
theorem dL_cuePitch_4 : decode cL_cuePitch 4 = .ok (.iload_n 1, 1) := by decide +kernel
theorem dL_cuePitch_5 : decode cL_cuePitch 5 = .ok (.iload_n 2, 1) := by decide +kernel
theorem dL_cuePitch_6 : decode cL_cuePitch 6 = .ok (.iload_n 3, 1) := by decide +kernel
theorem dL_cuePitch_7 : decode cL_cuePitch 7 = .ok (.invokevirtual 111, 3) := by decide +kernel
theorem dL_cuePitch_10 : decode cL_cuePitch 10 = .ok (.i2l, 1) := by decide +kernel
theorem dL_cuePitch_11 : decode cL_cuePitch 11 = .ok (.lastore, 1) := by decide +kernel
theorem dL_cuePitch_12 : decode cL_cuePitch 12 = .ok (.goto 15, 3) := by decide +kernel
theorem dL_cuePitch_15 : decode cL_cuePitch 15 = .ok (.astore 5, 2) := by decide +kernel
theorem dL_cuePitch_17 : decode cL_cuePitch 17 = .ok (.iconst 1, 1) := by decide +kernel
theorem dL_cuePitch_18 : decode cL_cuePitch 18 = .ok (.ireturn, 1) := by decide +kernel
theorem dL_cuePitch_19 : decode cL_cuePitch 19 = .ok (.astore 5, 2) := by decide +kernel
theorem dL_cuePitch_21 : decode cL_cuePitch 21 = .ok (.iconst 2, 1) := by decide +kernel
theorem dL_cuePitch_22 : decode cL_cuePitch 22 = .ok (.ireturn, 1) := by decide +kernel
theorem dL_cuePitch_23 : decode cL_cuePitch 23 = .ok (.astore 5, 2) := by decide +kernel
theorem dL_cuePitch_25 : decode cL_cuePitch 25 = .ok (.iconst 3, 1) := by decide +kernel
theorem dL_cuePitch_26 : decode cL_cuePitch 26 = .ok (.ireturn, 1) := by decide +kernel
theorem dL_cuePitch_27 : decode cL_cuePitch 27 = .ok (.iconst 0, 1) := by decide +kernel
theorem dL_cuePitch_28 : decode cL_cuePitch 28 = .ok (.ireturn, 1) := by decide +kernel
set_option maxRecDepth 20000 in
theorem ggL_copyOut_X4_copyOut : GoodIn wsL_copyOut wsX4_copyOut := goodIn_ca (goodIn_r _ [6, 7, 8, 9, 10, 5, 11, 12, 13, 14, 15, 16, 17, 18, 19, 20, 21, 22, 23, 24, 25, 26, 27, 28, 29, 30, 31, 32, 33, 34, 35, 36, 37, 38, 39, 40, 41, 42, 43, 44, 45, 46, 47, 48, 49, 50, 51, 52, 53, 54, 55, 56, 57, 58, 59, 60, 61, 62, 63, 64] (by decide +kernel) (by decide +kernel)) (goodIn_sub (fun _ h => List.mem_cons_of_mem _ (List.mem_append_right _ h)) (by decide +kernel))
set_option maxRecDepth 20000 in
theorem gL_copyOut_X4_copyOut : GoodIn wsL_copyOut (wsV RL 114 RX4 yX4_copyOut wsX4_copyOut) := goodIn_app (goodIn_of _ (by decide +kernel)) ggL_copyOut_X4_copyOut
theorem dL_copyOut_0 : decode cL_copyOut 0 = .ok (.aload_n 2, 1) := by decide +kernel
theorem dL_copyOut_1 : decode cL_copyOut 1 = .ok (.iconst 0, 1) := by decide +kernel
theorem dL_copyOut_2 : decode cL_copyOut 2 = .ok (.aload_n 0, 1) := by decide +kernel
theorem dL_copyOut_3 : decode cL_copyOut 3 = .ok (.iload_n 1, 1) := by decide +kernel
theorem dL_copyOut_4 : decode cL_copyOut 4 = .ok (.invokevirtual 114, 3) := by decide +kernel
theorem dL_copyOut_7 : decode cL_copyOut 7 = .ok (.i2l, 1) := by decide +kernel
theorem dL_copyOut_8 : decode cL_copyOut 8 = .ok (.lastore, 1) := by decide +kernel
theorem dL_copyOut_9 : decode cL_copyOut 9 = .ok (.goto 6, 3) := by decide +kernel
theorem dL_copyOut_12 : decode cL_copyOut 12 = .ok (.astore_n 3, 1) := by decide +kernel
theorem dL_copyOut_13 : decode cL_copyOut 13 = .ok (.iconst 1, 1) := by decide +kernel
theorem dL_copyOut_14 : decode cL_copyOut 14 = .ok (.ireturn, 1) := by decide +kernel
theorem dL_copyOut_15 : decode cL_copyOut 15 = .ok (.iconst 0, 1) := by decide +kernel
theorem dL_copyOut_16 : decode cL_copyOut 16 = .ok (.ireturn, 1) := by decide +kernel
set_option maxRecDepth 20000 in
theorem ggL_carry_X4_carry : GoodIn wsL_carry wsX4_carry := goodIn_ca (goodIn_ca (goodIn_r _ [7, 8, 9, 10, 6, 11, 12, 13, 14, 15, 16, 17, 18, 19, 20, 21, 22, 23, 24, 25, 26, 27, 28, 29, 30, 31, 32, 33, 34, 35, 36, 37, 38, 39, 40, 41, 42, 43, 44, 45, 46, 47, 48, 49, 50, 51, 52, 53, 54, 55, 56, 57, 58, 59, 60, 61, 62, 63, 64, 65, 66, 67, 68, 69, 70, 71, 72, 73, 74, 75] (by decide +kernel) (by decide +kernel)) (goodIn_sub (fun _ h => List.mem_cons_of_mem _ (List.mem_append_left _ (List.mem_append_right _ h))) (by decide +kernel))) (goodIn_sub (fun _ h => List.mem_cons_of_mem _ (List.mem_append_right _ h)) (by decide +kernel))
set_option maxRecDepth 20000 in
theorem gL_carry_X4_carry : GoodIn wsL_carry (wsV RL 117 RX4 yX4_carry wsX4_carry) := goodIn_app (goodIn_of _ (by decide +kernel)) ggL_carry_X4_carry
theorem dL_carry_0 : decode cL_carry 0 = .ok (.aload_n 2, 1) := by decide +kernel
theorem dL_carry_1 : decode cL_carry 1 = .ok (.iconst 0, 1) := by decide +kernel
theorem dL_carry_2 : decode cL_carry 2 = .ok (.aload_n 0, 1) := by decide +kernel
theorem dL_carry_3 : decode cL_carry 3 = .ok (.iload_n 1, 1) := by decide +kernel
theorem dL_carry_4 : decode cL_carry 4 = .ok (.invokevirtual 117, 3) := by decide +kernel
theorem dL_carry_7 : decode cL_carry 7 = .ok (.i2l, 1) := by decide +kernel
theorem dL_carry_8 : decode cL_carry 8 = .ok (.lastore, 1) := by decide +kernel
theorem dL_carry_9 : decode cL_carry 9 = .ok (.goto 9, 3) := by decide +kernel
theorem dL_carry_12 : decode cL_carry 12 = .ok (.astore_n 3, 1) := by decide +kernel
theorem dL_carry_13 : decode cL_carry 13 = .ok (.iconst 1, 1) := by decide +kernel
theorem dL_carry_14 : decode cL_carry 14 = .ok (.ireturn, 1) := by decide +kernel
theorem dL_carry_15 : decode cL_carry 15 = .ok (.astore_n 3, 1) := by decide +kernel
theorem dL_carry_16 : decode cL_carry 16 = .ok (.iconst 2, 1) := by decide +kernel
theorem dL_carry_17 : decode cL_carry 17 = .ok (.ireturn, 1) := by decide +kernel
theorem dL_carry_18 : decode cL_carry 18 = .ok (.iconst 0, 1) := by decide +kernel
theorem dL_carry_19 : decode cL_carry 19 = .ok (.ireturn, 1) := by decide +kernel
set_option maxRecDepth 20000 in
theorem ggL_differences_X4_differences : GoodIn wsL_differences wsX4_differences := goodIn_ca (goodIn_ca (goodIn_r _ [7, 8, 9, 10, 6, 11, 12, 13, 14, 15, 16, 17, 18, 19, 20, 21, 22, 23, 24, 25, 26, 27, 28, 29, 30, 31, 32, 33, 34, 35, 36, 37, 38, 39, 40, 41, 42, 43, 44, 45, 46, 47, 48, 49, 50, 51, 52, 53, 54, 55, 56, 57, 58, 59, 60, 61, 62, 63, 64, 65, 66] (by decide +kernel) (by decide +kernel)) (goodIn_sub (fun _ h => List.mem_cons_of_mem _ (List.mem_append_left _ (List.mem_append_right _ h))) (by decide +kernel))) (goodIn_sub (fun _ h => List.mem_cons_of_mem _ (List.mem_append_right _ h)) (by decide +kernel))
set_option maxRecDepth 20000 in
theorem gL_differences_X4_differences : GoodIn wsL_differences (wsV RL 120 RX4 yX4_differences wsX4_differences) := goodIn_app (goodIn_of _ (by decide +kernel)) ggL_differences_X4_differences
theorem dL_differences_0 : decode cL_differences 0 = .ok (.aload_n 2, 1) := by decide +kernel
theorem dL_differences_1 : decode cL_differences 1 = .ok (.iconst 0, 1) := by decide +kernel
theorem dL_differences_2 : decode cL_differences 2 = .ok (.aload_n 0, 1) := by decide +kernel
theorem dL_differences_3 : decode cL_differences 3 = .ok (.iload_n 1, 1) := by decide +kernel
theorem dL_differences_4 : decode cL_differences 4 = .ok (.invokevirtual 120, 3) := by decide +kernel
theorem dL_differences_7 : decode cL_differences 7 = .ok (.i2l, 1) := by decide +kernel
theorem dL_differences_8 : decode cL_differences 8 = .ok (.lastore, 1) := by decide +kernel
theorem dL_differences_9 : decode cL_differences 9 = .ok (.goto 9, 3) := by decide +kernel
theorem dL_differences_12 : decode cL_differences 12 = .ok (.astore_n 3, 1) := by decide +kernel
theorem dL_differences_13 : decode cL_differences 13 = .ok (.iconst 1, 1) := by decide +kernel
theorem dL_differences_14 : decode cL_differences 14 = .ok (.ireturn, 1) := by decide +kernel
theorem dL_differences_15 : decode cL_differences 15 = .ok (.astore_n 3, 1) := by decide +kernel
theorem dL_differences_16 : decode cL_differences 16 = .ok (.iconst 2, 1) := by decide +kernel
theorem dL_differences_17 : decode cL_differences 17 = .ok (.ireturn, 1) := by decide +kernel
theorem dL_differences_18 : decode cL_differences 18 = .ok (.iconst 0, 1) := by decide +kernel
theorem dL_differences_19 : decode cL_differences 19 = .ok (.ireturn, 1) := by decide +kernel
set_option maxRecDepth 20000 in
theorem ggL_differencesByComparing_X4_differencesByComparing : GoodIn wsL_differencesByComparing wsX4_differencesByComparing := goodIn_ca (goodIn_ca (goodIn_r _ [7, 8, 9, 10, 6, 11, 12, 13, 14, 15, 16, 17, 18, 19, 20, 21, 22, 23, 24, 25, 26, 27, 28, 29, 30, 31, 32, 33, 34, 35, 36, 37, 38, 39, 40, 41, 42, 43, 44, 45, 46, 47, 48, 49, 50, 51, 52, 53, 54, 55, 56, 57, 58, 59, 60, 61, 62, 63, 64, 65] (by decide +kernel) (by decide +kernel)) (goodIn_sub (fun _ h => List.mem_cons_of_mem _ (List.mem_append_left _ (List.mem_append_right _ h))) (by decide +kernel))) (goodIn_sub (fun _ h => List.mem_cons_of_mem _ (List.mem_append_right _ h)) (by decide +kernel))
set_option maxRecDepth 20000 in
theorem gL_differencesByComparing_X4_differencesByComparing : GoodIn wsL_differencesByComparing (wsV RL 123 RX4 yX4_differencesByComparing wsX4_differencesByComparing) := goodIn_app (goodIn_of _ (by decide +kernel)) ggL_differencesByComparing_X4_differencesByComparing
theorem dL_differencesByComparing_0 : decode cL_differencesByComparing 0 = .ok (.aload_n 2, 1) := by decide +kernel
theorem dL_differencesByComparing_1 : decode cL_differencesByComparing 1 = .ok (.iconst 0, 1) := by decide +kernel
theorem dL_differencesByComparing_2 : decode cL_differencesByComparing 2 = .ok (.aload_n 0, 1) := by decide +kernel
theorem dL_differencesByComparing_3 : decode cL_differencesByComparing 3 = .ok (.iload_n 1, 1) := by decide +kernel
theorem dL_differencesByComparing_4 : decode cL_differencesByComparing 4 = .ok (.invokevirtual 123, 3) := by decide +kernel
theorem dL_differencesByComparing_7 : decode cL_differencesByComparing 7 = .ok (.i2l, 1) := by decide +kernel
theorem dL_differencesByComparing_8 : decode cL_differencesByComparing 8 = .ok (.lastore, 1) := by decide +kernel
theorem dL_differencesByComparing_9 : decode cL_differencesByComparing 9 = .ok (.goto 9, 3) := by decide +kernel
theorem dL_differencesByComparing_12 : decode cL_differencesByComparing 12 = .ok (.astore_n 3, 1) := by decide +kernel
theorem dL_differencesByComparing_13 : decode cL_differencesByComparing 13 = .ok (.iconst 1, 1) := by decide +kernel
theorem dL_differencesByComparing_14 : decode cL_differencesByComparing 14 = .ok (.ireturn, 1) := by decide +kernel
theorem dL_differencesByComparing_15 : decode cL_differencesByComparing 15 = .ok (.astore_n 3, 1) := by decide +kernel
theorem dL_differencesByComparing_16 : decode cL_differencesByComparing 16 = .ok (.iconst 2, 1) := by decide +kernel
theorem dL_differencesByComparing_17 : decode cL_differencesByComparing 17 = .ok (.ireturn, 1) := by decide +kernel
theorem dL_differencesByComparing_18 : decode cL_differencesByComparing 18 = .ok (.iconst 0, 1) := by decide +kernel
theorem dL_differencesByComparing_19 : decode cL_differencesByComparing 19 = .ok (.ireturn, 1) := by decide +kernel
set_option maxRecDepth 20000 in
theorem ggL_copied_X4_copied : GoodIn wsL_copied wsX4_copied := goodIn_ca (goodIn_ca (goodIn_r _ [7, 8, 9, 10, 11, 12, 13, 14, 15, 16, 17, 18, 19, 6, 20, 21, 22, 23, 24, 25, 26, 27, 28, 29, 30, 31, 32, 33, 34, 35, 36, 37, 38, 39, 40, 41, 42, 43, 44, 45, 46, 47, 48, 49] (by decide +kernel) (by decide +kernel)) (goodIn_sub (fun _ h => List.mem_cons_of_mem _ (List.mem_append_left _ (List.mem_append_right _ h))) (by decide +kernel))) (goodIn_sub (fun _ h => List.mem_cons_of_mem _ (List.mem_append_right _ h)) (by decide +kernel))
set_option maxRecDepth 20000 in
theorem gL_copied_X4_copied : GoodIn wsL_copied (wsV RL 126 RX4 yX4_copied wsX4_copied) := goodIn_app (goodIn_of _ (by decide +kernel)) ggL_copied_X4_copied
theorem dL_copied_0 : decode cL_copied 0 = .ok (.aload_n 2, 1) := by decide +kernel
theorem dL_copied_1 : decode cL_copied 1 = .ok (.iconst 0, 1) := by decide +kernel
theorem dL_copied_2 : decode cL_copied 2 = .ok (.aload_n 0, 1) := by decide +kernel
theorem dL_copied_3 : decode cL_copied 3 = .ok (.iload_n 1, 1) := by decide +kernel
theorem dL_copied_4 : decode cL_copied 4 = .ok (.invokevirtual 126, 3) := by decide +kernel
theorem dL_copied_7 : decode cL_copied 7 = .ok (.i2l, 1) := by decide +kernel
theorem dL_copied_8 : decode cL_copied 8 = .ok (.lastore, 1) := by decide +kernel
theorem dL_copied_9 : decode cL_copied 9 = .ok (.goto 9, 3) := by decide +kernel
theorem dL_copied_12 : decode cL_copied 12 = .ok (.astore_n 3, 1) := by decide +kernel
theorem dL_copied_13 : decode cL_copied 13 = .ok (.iconst 1, 1) := by decide +kernel
theorem dL_copied_14 : decode cL_copied 14 = .ok (.ireturn, 1) := by decide +kernel
theorem dL_copied_15 : decode cL_copied 15 = .ok (.astore_n 3, 1) := by decide +kernel
theorem dL_copied_16 : decode cL_copied 16 = .ok (.iconst 2, 1) := by decide +kernel
theorem dL_copied_17 : decode cL_copied 17 = .ok (.ireturn, 1) := by decide +kernel
theorem dL_copied_18 : decode cL_copied 18 = .ok (.iconst 0, 1) := by decide +kernel
theorem dL_copied_19 : decode cL_copied 19 = .ok (.ireturn, 1) := by decide +kernel
set_option maxRecDepth 20000 in
theorem ggL_meanPitch_X4_meanPitch : GoodIn wsL_meanPitch wsX4_meanPitch := goodIn_ca (goodIn_ca (goodIn_r _ [7, 8, 9, 10, 11, 12, 6, 13, 14, 15, 16, 17, 18, 19, 20, 21, 22, 23, 24, 25, 26, 27, 28, 29, 30, 31, 32, 33, 34, 35, 36, 37, 38, 39, 40, 41, 42, 43, 44, 45, 46, 47, 48, 49, 50, 51, 52, 53] (by decide +kernel) (by decide +kernel)) (goodIn_sub (fun _ h => List.mem_cons_of_mem _ (List.mem_append_left _ (List.mem_append_right _ h))) (by decide +kernel))) (goodIn_sub (fun _ h => List.mem_cons_of_mem _ (List.mem_append_right _ h)) (by decide +kernel))
set_option maxRecDepth 20000 in
theorem gL_meanPitch_X4_meanPitch : GoodIn wsL_meanPitch (wsV RL 129 RX4 yX4_meanPitch wsX4_meanPitch) := goodIn_app (goodIn_of _ (by decide +kernel)) ggL_meanPitch_X4_meanPitch
theorem dL_meanPitch_0 : decode cL_meanPitch 0 = .ok (.aload_n 2, 1) := by decide +kernel
theorem dL_meanPitch_1 : decode cL_meanPitch 1 = .ok (.iconst 0, 1) := by decide +kernel
theorem dL_meanPitch_2 : decode cL_meanPitch 2 = .ok (.aload_n 0, 1) := by decide +kernel
theorem dL_meanPitch_3 : decode cL_meanPitch 3 = .ok (.iload_n 1, 1) := by decide +kernel
theorem dL_meanPitch_4 : decode cL_meanPitch 4 = .ok (.invokevirtual 129, 3) := by decide +kernel
theorem dL_meanPitch_7 : decode cL_meanPitch 7 = .ok (.dastore, 1) := by decide +kernel
theorem dL_meanPitch_8 : decode cL_meanPitch 8 = .ok (.goto 9, 3) := by decide +kernel
theorem dL_meanPitch_11 : decode cL_meanPitch 11 = .ok (.astore_n 3, 1) := by decide +kernel
theorem dL_meanPitch_12 : decode cL_meanPitch 12 = .ok (.iconst 1, 1) := by decide +kernel
theorem dL_meanPitch_13 : decode cL_meanPitch 13 = .ok (.ireturn, 1) := by decide +kernel
theorem dL_meanPitch_14 : decode cL_meanPitch 14 = .ok (.astore_n 3, 1) := by decide +kernel
theorem dL_meanPitch_15 : decode cL_meanPitch 15 = .ok (.iconst 2, 1) := by decide +kernel
theorem dL_meanPitch_16 : decode cL_meanPitch 16 = .ok (.ireturn, 1) := by decide +kernel
theorem dL_meanPitch_17 : decode cL_meanPitch 17 = .ok (.iconst 0, 1) := by decide +kernel
theorem dL_meanPitch_18 : decode cL_meanPitch 18 = .ok (.ireturn, 1) := by decide +kernel
set_option maxRecDepth 20000 in
theorem ggL_restShare_X4_restShare : GoodIn wsL_restShare wsX4_restShare := goodIn_ca (goodIn_ca (goodIn_r _ [7, 8, 9, 10, 11, 12, 13, 6, 14, 15, 16, 17, 18, 19, 20, 21, 22, 23, 24, 25, 26, 27, 28, 29, 30, 31, 32, 33, 34, 35, 36, 37, 38, 39, 40, 41, 42, 43, 44, 45, 46, 47, 48, 49, 50, 51, 52, 53, 54, 55, 56, 57, 58, 59] (by decide +kernel) (by decide +kernel)) (goodIn_sub (fun _ h => List.mem_cons_of_mem _ (List.mem_append_left _ (List.mem_append_right _ h))) (by decide +kernel))) (goodIn_sub (fun _ h => List.mem_cons_of_mem _ (List.mem_append_right _ h)) (by decide +kernel))
set_option maxRecDepth 20000 in
theorem gL_restShare_X4_restShare : GoodIn wsL_restShare (wsV RL 135 RX4 yX4_restShare wsX4_restShare) := goodIn_app (goodIn_of _ (by decide +kernel)) ggL_restShare_X4_restShare
theorem dL_restShare_0 : decode cL_restShare 0 = .ok (.aload_n 2, 1) := by decide +kernel
theorem dL_restShare_1 : decode cL_restShare 1 = .ok (.iconst 0, 1) := by decide +kernel
theorem dL_restShare_2 : decode cL_restShare 2 = .ok (.aload_n 0, 1) := by decide +kernel
theorem dL_restShare_3 : decode cL_restShare 3 = .ok (.iload_n 1, 1) := by decide +kernel
theorem dL_restShare_4 : decode cL_restShare 4 = .ok (.invokevirtual 135, 3) := by decide +kernel
theorem dL_restShare_7 : decode cL_restShare 7 = .ok (.f2d, 1) := by decide +kernel
theorem dL_restShare_8 : decode cL_restShare 8 = .ok (.dastore, 1) := by decide +kernel
theorem dL_restShare_9 : decode cL_restShare 9 = .ok (.goto 9, 3) := by decide +kernel
theorem dL_restShare_12 : decode cL_restShare 12 = .ok (.astore_n 3, 1) := by decide +kernel
theorem dL_restShare_13 : decode cL_restShare 13 = .ok (.iconst 1, 1) := by decide +kernel
theorem dL_restShare_14 : decode cL_restShare 14 = .ok (.ireturn, 1) := by decide +kernel
theorem dL_restShare_15 : decode cL_restShare 15 = .ok (.astore_n 3, 1) := by decide +kernel
theorem dL_restShare_16 : decode cL_restShare 16 = .ok (.iconst 2, 1) := by decide +kernel
theorem dL_restShare_17 : decode cL_restShare 17 = .ok (.ireturn, 1) := by decide +kernel
theorem dL_restShare_18 : decode cL_restShare 18 = .ok (.iconst 0, 1) := by decide +kernel
theorem dL_restShare_19 : decode cL_restShare 19 = .ok (.ireturn, 1) := by decide +kernel
set_option maxRecDepth 20000 in
theorem ggL_law_X4_init : GoodIn wsL_law wsX4_init := goodIn_r _ [10, 11, 12, 13, 14, 15, 16, 17, 18, 19, 20, 21, 22, 23, 24, 25, 26, 27, 28, 29, 30, 31, 32, 33, 34, 35, 36, 37, 38, 39, 40, 41, 42, 43, 44, 45, 46, 963, 964, 965, 966, 967, 968, 969, 970, 971, 972, 1000, 1001, 1002, 1003, 1004, 1005, 1006, 1007, 1008, 1009, 1010, 1011] (by decide +kernel) (by decide +kernel)
set_option maxRecDepth 20000 in
theorem gL_law_X4_init : GoodIn wsL_law (wsX4_init) := ggL_law_X4_init
set_option maxRecDepth 20000 in
theorem ggL_law_X5_init : GoodIn wsL_law wsX5_init := goodIn_r _ [49, 50, 12, 13, 33, 51, 52, 53, 54, 55, 56, 57, 58, 59, 60, 61, 39, 62, 63, 64, 65, 66, 67, 68, 69, 70, 71, 72, 973, 974, 975, 976, 977, 978, 979, 980, 981, 982, 983, 984, 985, 986, 987, 988, 989, 990, 991, 992, 993, 994, 995, 996, 997, 998, 999] (by decide +kernel) (by decide +kernel)
set_option maxRecDepth 20000 in
theorem gL_law_X5_init : GoodIn wsL_law (wsX5_init) := ggL_law_X5_init
set_option maxRecDepth 20000 in
theorem ggL_law_L_addPart : GoodIn wsL_law wsL_addPart := goodIn_ca (goodIn_ca (goodIn_ca (goodIn_r _ [76, 77, 78, 79, 80, 81, 2, 82, 83, 84, 85, 86, 24, 15, 14, 87, 88, 89, 90, 91, 92, 12, 13, 93, 94, 963, 964, 965, 966, 967, 968, 969, 970, 971, 972, 1012, 1013] (by decide +kernel) (by decide +kernel)) (goodIn_sub (fun _ h => List.mem_append_left _ (List.mem_append_left _ (List.mem_append_left _ (List.mem_append_left _ (List.mem_append_left _ (List.mem_append_left _ (List.mem_append_left _ (List.mem_append_right _ h)))))))) (by decide +kernel))) (goodIn_sub (fun _ h => List.mem_append_left _ (List.mem_append_left _ (List.mem_append_left _ (List.mem_append_left _ (List.mem_append_left _ (List.mem_append_left _ (List.mem_append_right _ h))))))) (by decide +kernel))) (goodIn_sub (fun _ h => List.mem_append_left _ (List.mem_append_left _ (List.mem_append_left _ (List.mem_append_left _ (List.mem_append_left _ (List.mem_append_right _ h)))))) (by decide +kernel))
set_option maxRecDepth 20000 in
theorem gL_law_L_addPart : GoodIn wsL_law (va_wsS RL 143 yL_addPart wsL_addPart) := goodIn_app (goodIn_of _ (by decide +kernel)) ggL_law_L_addPart
set_option maxRecDepth 20000 in
theorem ggL_law_X5_addPart : GoodIn wsL_law wsX5_addPart := goodIn_ca (goodIn_r _ [98, 99, 100, 51, 101, 102, 5, 103, 104, 105, 106, 107, 973, 974, 975, 976, 977, 978, 979, 980, 981, 982, 983, 984, 985, 986, 987, 988, 989, 990, 991, 992, 993, 994, 995, 996, 997, 998, 999] (by decide +kernel) (by decide +kernel)) (goodIn_sub (fun _ h => List.mem_append_left _ (List.mem_append_left _ (List.mem_append_left _ (List.mem_append_left _ (List.mem_append_left _ (List.mem_append_left _ (List.mem_append_left _ (List.mem_append_right _ h)))))))) (by decide +kernel))
set_option maxRecDepth 20000 in
theorem gL_law_X5_addPart : GoodIn wsL_law (wsV RL 148 RX5 yX5_addPart wsX5_addPart) := goodIn_app (goodIn_of _ (by decide +kernel)) ggL_law_X5_addPart
set_option maxRecDepth 20000 in
theorem ggL_law_X5_thrown : GoodIn wsL_law wsX5_thrown := goodIn_r _ [111, 99, 973, 974, 975, 976, 977, 978, 979, 980, 981, 982, 983, 984, 985, 986, 987, 988, 989, 990, 991, 992, 993, 994, 995, 996, 997, 998, 999] (by decide +kernel) (by decide +kernel)
set_option maxRecDepth 20000 in
theorem gL_law_X5_thrown : GoodIn wsL_law (wsV RL 149 RX5 yX5_thrown wsX5_thrown) := goodIn_app (goodIn_of _ (by decide +kernel)) ggL_law_X5_thrown
set_option maxRecDepth 20000 in
theorem ggL_law_L_addBar : GoodIn wsL_law wsL_addBar := goodIn_ca (goodIn_ca (goodIn_ca (goodIn_r _ [114, 77, 78, 115, 116, 117, 2, 118, 83, 84, 85, 86, 25, 17, 16, 119, 120, 121, 122, 123, 124, 125, 126, 127, 12, 13, 128, 129, 130, 963, 964, 965, 966, 967, 968, 969, 970, 971, 972, 1014, 1015, 1016] (by decide +kernel) (by decide +kernel)) (goodIn_sub (fun _ h => List.mem_append_left _ (List.mem_append_left _ (List.mem_append_left _ (List.mem_append_left _ (List.mem_append_left _ (List.mem_append_left _ (List.mem_append_left _ (List.mem_append_right _ h)))))))) (by decide +kernel))) (goodIn_sub (fun _ h => List.mem_append_left _ (List.mem_append_left _ (List.mem_append_left _ (List.mem_append_left _ (List.mem_append_left _ (List.mem_append_left _ (List.mem_append_right _ h))))))) (by decide +kernel))) (goodIn_sub (fun _ h => List.mem_append_left _ (List.mem_append_left _ (List.mem_append_left _ (List.mem_append_left _ (List.mem_append_left _ (List.mem_append_right _ h)))))) (by decide +kernel))
set_option maxRecDepth 20000 in
theorem gL_law_L_addBar : GoodIn wsL_law (va_wsS RL 153 yL_addBar wsL_addBar) := goodIn_app (goodIn_of _ (by decide +kernel)) ggL_law_L_addBar
set_option maxRecDepth 20000 in
theorem ggL_law_X5_addBar : GoodIn wsL_law wsX5_addBar := goodIn_ca (goodIn_r _ [134, 99, 135, 52, 53, 62, 101, 102, 5, 103, 104, 105, 106, 107, 973, 974, 975, 976, 977, 978, 979, 980, 981, 982, 983, 984, 985, 986, 987, 988, 989, 990, 991, 992, 993, 994, 995, 996, 997, 998, 999] (by decide +kernel) (by decide +kernel)) (goodIn_sub (fun _ h => List.mem_append_left _ (List.mem_append_left _ (List.mem_append_left _ (List.mem_append_left _ (List.mem_append_left _ (List.mem_append_left _ (List.mem_append_left _ (List.mem_append_right _ h)))))))) (by decide +kernel))
set_option maxRecDepth 20000 in
theorem gL_law_X5_addBar : GoodIn wsL_law (wsV RL 156 RX5 yX5_addBar wsX5_addBar) := goodIn_app (goodIn_of _ (by decide +kernel)) ggL_law_X5_addBar
set_option maxRecDepth 20000 in
theorem ggL_law_L_setMark : GoodIn wsL_law wsL_setMark := goodIn_ca (goodIn_ca (goodIn_r _ [138, 139, 140, 141, 142, 2, 143, 144, 145, 146, 147, 148, 149, 150, 151, 152, 153, 154, 17, 1014, 1015, 1016, 963, 964, 965, 966, 967, 968, 969, 970, 971, 972] (by decide +kernel) (by decide +kernel)) (goodIn_sub (fun _ h => List.mem_append_left _ (List.mem_append_left _ (List.mem_append_left _ (List.mem_append_left _ (List.mem_append_left _ (List.mem_append_left _ (List.mem_append_left _ (List.mem_append_right _ h)))))))) (by decide +kernel))) (goodIn_sub (fun _ h => List.mem_append_left _ (List.mem_append_left _ (List.mem_append_left _ (List.mem_append_left _ (List.mem_append_right _ h))))) (by decide +kernel))
set_option maxRecDepth 20000 in
theorem gL_law_L_setMark : GoodIn wsL_law (va_wsS RL 157 yL_setMark wsL_setMark) := goodIn_app (goodIn_of _ (by decide +kernel)) ggL_law_L_setMark
set_option maxRecDepth 20000 in
theorem ggL_law_X5_setMark : GoodIn wsL_law wsX5_setMark := goodIn_ca (goodIn_r _ [158, 99, 62, 159, 160, 161, 5, 162, 135, 101, 102, 103, 163, 164, 165, 166, 973, 974, 975, 976, 977, 978, 979, 980, 981, 982, 983, 984, 985, 986, 987, 988, 989, 990, 991, 992, 993, 994, 995, 996, 997, 998, 999] (by decide +kernel) (by decide +kernel)) (goodIn_sub (fun _ h => List.mem_append_left _ (List.mem_append_left _ (List.mem_append_left _ (List.mem_append_left _ (List.mem_append_left _ (List.mem_append_left _ (List.mem_append_left _ (List.mem_append_right _ h)))))))) (by decide +kernel))
set_option maxRecDepth 20000 in
theorem gL_law_X5_setMark : GoodIn wsL_law (wsV RL 160 RX5 yX5_setMark wsX5_setMark) := goodIn_app (goodIn_of _ (by decide +kernel)) ggL_law_X5_setMark
set_option maxRecDepth 20000 in
theorem ggL_law_L_setKey : GoodIn wsL_law wsL_setKey := goodIn_ca (goodIn_ca (goodIn_ca (goodIn_r _ [169, 139, 77, 170, 171, 172, 2, 173, 83, 84, 174, 145, 146, 147, 148, 149, 150, 151, 152, 153, 154, 17, 121, 122, 123, 1014, 1015, 1016, 963, 964, 965, 966, 967, 968, 969, 970, 971, 972] (by decide +kernel) (by decide +kernel)) (goodIn_sub (fun _ h => List.mem_append_left _ (List.mem_append_left _ (List.mem_append_left _ (List.mem_append_left _ (List.mem_append_left _ (List.mem_append_left _ (List.mem_append_left _ (List.mem_append_right _ h)))))))) (by decide +kernel))) (goodIn_sub (fun _ h => List.mem_append_left _ (List.mem_append_left _ (List.mem_append_left _ (List.mem_append_left _ (List.mem_append_left _ (List.mem_append_left _ (List.mem_append_right _ h))))))) (by decide +kernel))) (goodIn_sub (fun _ h => List.mem_append_left _ (List.mem_append_left _ (List.mem_append_left _ (List.mem_append_left _ (List.mem_append_right _ h))))) (by decide +kernel))
set_option maxRecDepth 20000 in
theorem gL_law_L_setKey : GoodIn wsL_law (va_wsS RL 161 yL_setKey wsL_setKey) := goodIn_app (goodIn_of _ (by decide +kernel)) ggL_law_L_setKey
set_option maxRecDepth 20000 in
theorem ggL_law_X5_setKey : GoodIn wsL_law wsX5_setKey := goodIn_ca (goodIn_r _ [178, 99, 53, 159, 160, 161, 5, 162, 135, 101, 102, 103, 104, 105, 106, 107, 973, 974, 975, 976, 977, 978, 979, 980, 981, 982, 983, 984, 985, 986, 987, 988, 989, 990, 991, 992, 993, 994, 995, 996, 997, 998, 999] (by decide +kernel) (by decide +kernel)) (goodIn_sub (fun _ h => List.mem_append_left _ (List.mem_append_left _ (List.mem_append_left _ (List.mem_append_left _ (List.mem_append_left _ (List.mem_append_left _ (List.mem_append_left _ (List.mem_append_right _ h)))))))) (by decide +kernel))
set_option maxRecDepth 20000 in
theorem gL_law_X5_setKey : GoodIn wsL_law (wsV RL 164 RX5 yX5_setKey wsX5_setKey) := goodIn_app (goodIn_of _ (by decide +kernel)) ggL_law_X5_setKey
set_option maxRecDepth 20000 in
theorem ggL_law_L_addNote : GoodIn wsL_law wsL_addNote := goodIn_ca (goodIn_ca (goodIn_ca (goodIn_ca (goodIn_ca (goodIn_r _ [181, 139, 77, 182, 78, 183, 184, 185, 2, 186, 83, 84, 187, 188, 85, 86, 18, 189, 190, 26, 19, 191, 192, 193, 194, 149, 150, 195, 196, 197, 198, 15, 145, 146, 147, 148, 151, 152, 153, 154, 17, 199, 200, 201, 202, 203, 204, 120, 205, 128, 206, 207, 208, 209, 12, 13, 210, 211, 212, 213, 214, 215, 216, 217, 218, 219, 220, 221, 222, 223, 224, 225, 226, 227, 228, 229, 230, 231, 232, 233, 234, 235, 236, 1017, 1018, 1019, 1020, 1021, 1022, 1023, 1024, 1025, 1026, 1027, 963, 964, 965, 966, 967, 968, 969, 970, 971, 972, 1014, 1015, 1016] (by decide +kernel) (by decide +kernel)) (goodIn_sub (fun _ h => List.mem_append_left _ (List.mem_append_left _ (List.mem_append_left _ (List.mem_append_left _ (List.mem_append_left _ (List.mem_append_left _ (List.mem_append_left _ (List.mem_append_right _ h)))))))) (by decide +kernel))) (goodIn_sub (fun _ h => List.mem_append_left _ (List.mem_append_left _ (List.mem_append_left _ (List.mem_append_left _ (List.mem_append_left _ (List.mem_append_left _ (List.mem_append_right _ h))))))) (by decide +kernel))) (goodIn_sub (fun _ h => List.mem_append_left _ (List.mem_append_left _ (List.mem_append_left _ (List.mem_append_right _ h)))) (by decide +kernel))) (goodIn_sub (fun _ h => List.mem_append_left _ (List.mem_append_left _ (List.mem_append_left _ (List.mem_append_left _ (List.mem_append_left _ (List.mem_append_right _ h)))))) (by decide +kernel))) (goodIn_sub (fun _ h => List.mem_append_left _ (List.mem_append_left _ (List.mem_append_left _ (List.mem_append_left _ (List.mem_append_right _ h))))) (by decide +kernel))
set_option maxRecDepth 20000 in
theorem gL_law_L_addNote : GoodIn wsL_law (va_wsS RL 165 yL_addNote wsL_addNote) := goodIn_app (goodIn_of _ (by decide +kernel)) ggL_law_L_addNote
set_option maxRecDepth 20000 in
theorem ggL_law_X5_addNote : GoodIn wsL_law wsX5_addNote := goodIn_ca (goodIn_r _ [240, 99, 241, 54, 55, 56, 57, 58, 59, 242, 243, 244, 5, 245, 100, 101, 102, 103, 159, 160, 161, 162, 135, 104, 105, 106, 107, 246, 247, 248, 249, 52, 250, 251, 252, 253, 254, 255, 256, 257, 63, 973, 974, 975, 976, 977, 978, 979, 980, 981, 982, 983, 984, 985, 986, 987, 988, 989, 990, 991, 992, 993, 994, 995, 996, 997, 998, 999] (by decide +kernel) (by decide +kernel)) (goodIn_sub (fun _ h => List.mem_append_left _ (List.mem_append_left _ (List.mem_append_left _ (List.mem_append_left _ (List.mem_append_left _ (List.mem_append_left _ (List.mem_append_left _ (List.mem_append_right _ h)))))))) (by decide +kernel))
set_option maxRecDepth 20000 in
theorem gL_law_X5_addNote : GoodIn wsL_law (wsV RL 168 RX5 yX5_addNote wsX5_addNote) := goodIn_app (goodIn_of _ (by decide +kernel)) ggL_law_X5_addNote
set_option maxRecDepth 20000 in
theorem ggL_law_L_correct : GoodIn wsL_law wsL_correct := goodIn_ca (goodIn_ca (goodIn_ca (goodIn_r _ [260, 261, 77, 262, 263, 264, 2, 265, 83, 84, 266, 267, 268, 269, 270, 271, 272, 273, 274, 275, 276, 277, 278, 19, 199, 200, 201, 1017, 1018, 1019, 1020, 1021, 1022, 1023, 1024, 1025, 1026, 1027, 963, 964, 965, 966, 967, 968, 969, 970, 971, 972] (by decide +kernel) (by decide +kernel)) (goodIn_sub (fun _ h => List.mem_append_left _ (List.mem_append_left _ (List.mem_append_left _ (List.mem_append_left _ (List.mem_append_left _ (List.mem_append_left _ (List.mem_append_left _ (List.mem_append_right _ h)))))))) (by decide +kernel))) (goodIn_sub (fun _ h => List.mem_append_left _ (List.mem_append_left _ (List.mem_append_left _ (List.mem_append_left _ (List.mem_append_left _ (List.mem_append_left _ (List.mem_append_right _ h))))))) (by decide +kernel))) (goodIn_sub (fun _ h => List.mem_append_left _ (List.mem_append_left _ (List.mem_append_right _ h))) (by decide +kernel))
set_option maxRecDepth 20000 in
theorem gL_law_L_correct : GoodIn wsL_law (va_wsS RL 169 yL_correct wsL_correct) := goodIn_app (goodIn_of _ (by decide +kernel)) ggL_law_L_correct
set_option maxRecDepth 20000 in
theorem ggL_law_X5_correct : GoodIn wsL_law wsX5_correct := goodIn_ca (goodIn_r _ [282, 99, 59, 283, 284, 285, 5, 286, 241, 63, 101, 102, 103, 104, 105, 106, 107, 973, 974, 975, 976, 977, 978, 979, 980, 981, 982, 983, 984, 985, 986, 987, 988, 989, 990, 991, 992, 993, 994, 995, 996, 997, 998, 999] (by decide +kernel) (by decide +kernel)) (goodIn_sub (fun _ h => List.mem_append_left _ (List.mem_append_left _ (List.mem_append_left _ (List.mem_append_left _ (List.mem_append_left _ (List.mem_append_left _ (List.mem_append_left _ (List.mem_append_right _ h)))))))) (by decide +kernel))
set_option maxRecDepth 20000 in
theorem gL_law_X5_correct : GoodIn wsL_law (wsV RL 171 RX5 yX5_correct wsX5_correct) := goodIn_app (goodIn_of _ (by decide +kernel)) ggL_law_X5_correct
set_option maxRecDepth 20000 in
theorem ggL_law_L_stretch : GoodIn wsL_law wsL_stretch := goodIn_ca (goodIn_ca (goodIn_ca (goodIn_ca (goodIn_r _ [289, 261, 77, 182, 290, 291, 292, 2, 293, 83, 84, 187, 188, 226, 228, 294, 267, 268, 269, 270, 271, 272, 273, 274, 275, 276, 277, 278, 19, 151, 152, 153, 154, 17, 202, 203, 204, 120, 205, 128, 221, 222, 223, 224, 225, 227, 229, 230, 231, 190, 232, 210, 215, 216, 233, 234, 235, 236, 218, 219, 1017, 1018, 1019, 1020, 1021, 1022, 1023, 1024, 1025, 1026, 1027, 963, 964, 965, 966, 967, 968, 969, 970, 971, 972, 1014, 1015, 1016] (by decide +kernel) (by decide +kernel)) (goodIn_sub (fun _ h => List.mem_append_left _ (List.mem_append_left _ (List.mem_append_left _ (List.mem_append_left _ (List.mem_append_left _ (List.mem_append_left _ (List.mem_append_left _ (List.mem_append_right _ h)))))))) (by decide +kernel))) (goodIn_sub (fun _ h => List.mem_append_left _ (List.mem_append_left _ (List.mem_append_left _ (List.mem_append_left _ (List.mem_append_left _ (List.mem_append_left _ (List.mem_append_right _ h))))))) (by decide +kernel))) (goodIn_sub (fun _ h => List.mem_append_left _ (List.mem_append_left _ (List.mem_append_left _ (List.mem_append_right _ h)))) (by decide +kernel))) (goodIn_sub (fun _ h => List.mem_append_left _ (List.mem_append_left _ (List.mem_append_right _ h))) (by decide +kernel))
set_option maxRecDepth 20000 in
theorem gL_law_L_stretch : GoodIn wsL_law (va_wsS RL 172 yL_stretch wsL_stretch) := goodIn_app (goodIn_of _ (by decide +kernel)) ggL_law_L_stretch
set_option maxRecDepth 20000 in
theorem ggL_law_X5_stretch : GoodIn wsL_law wsX5_stretch := goodIn_ca (goodIn_r _ [298, 99, 55, 57, 54, 56, 58, 283, 284, 285, 5, 286, 241, 63, 101, 102, 103, 104, 105, 106, 107, 246, 247, 248, 249, 52, 250, 251, 252, 253, 254, 255, 256, 257, 973, 974, 975, 976, 977, 978, 979, 980, 981, 982, 983, 984, 985, 986, 987, 988, 989, 990, 991, 992, 993, 994, 995, 996, 997, 998, 999] (by decide +kernel) (by decide +kernel)) (goodIn_sub (fun _ h => List.mem_append_left _ (List.mem_append_left _ (List.mem_append_left _ (List.mem_append_left _ (List.mem_append_left _ (List.mem_append_left _ (List.mem_append_left _ (List.mem_append_right _ h)))))))) (by decide +kernel))
set_option maxRecDepth 20000 in
theorem gL_law_X5_stretch : GoodIn wsL_law (wsV RL 174 RX5 yX5_stretch wsX5_stretch) := goodIn_app (goodIn_of _ (by decide +kernel)) ggL_law_X5_stretch
set_option maxRecDepth 20000 in
theorem ggL_law_L_takeOut : GoodIn wsL_law wsL_takeOut := goodIn_ca (goodIn_ca (goodIn_r _ [301, 261, 302, 303, 304, 2, 305, 274, 267, 225, 268, 269, 270, 271, 272, 273, 275, 276, 277, 278, 19, 306, 307, 308, 309, 1017, 1018, 1019, 1020, 1021, 1022, 1023, 1024, 1025, 1026, 1027, 963, 964, 965, 966, 967, 968, 969, 970, 971, 972] (by decide +kernel) (by decide +kernel)) (goodIn_sub (fun _ h => List.mem_append_left _ (List.mem_append_left _ (List.mem_append_left _ (List.mem_append_left _ (List.mem_append_left _ (List.mem_append_left _ (List.mem_append_left _ (List.mem_append_right _ h)))))))) (by decide +kernel))) (goodIn_sub (fun _ h => List.mem_append_left _ (List.mem_append_left _ (List.mem_append_right _ h))) (by decide +kernel))
set_option maxRecDepth 20000 in
theorem gL_law_L_takeOut : GoodIn wsL_law (va_wsS RL 175 yL_takeOut wsL_takeOut) := goodIn_app (goodIn_of _ (by decide +kernel)) ggL_law_L_takeOut
set_option maxRecDepth 20000 in
theorem ggL_law_X5_takeOut : GoodIn wsL_law wsX5_takeOut := goodIn_ca (goodIn_r _ [313, 99, 63, 54, 283, 284, 285, 5, 286, 241, 101, 102, 103, 104, 105, 106, 107, 314, 315, 316, 317, 973, 974, 975, 976, 977, 978, 979, 980, 981, 982, 983, 984, 985, 986, 987, 988, 989, 990, 991, 992, 993, 994, 995, 996, 997, 998, 999] (by decide +kernel) (by decide +kernel)) (goodIn_sub (fun _ h => List.mem_append_left _ (List.mem_append_left _ (List.mem_append_left _ (List.mem_append_left _ (List.mem_append_left _ (List.mem_append_left _ (List.mem_append_left _ (List.mem_append_right _ h)))))))) (by decide +kernel))
set_option maxRecDepth 20000 in
theorem gL_law_X5_takeOut : GoodIn wsL_law (wsV RL 177 RX5 yX5_takeOut wsX5_takeOut) := goodIn_app (goodIn_of _ (by decide +kernel)) ggL_law_X5_takeOut
set_option maxRecDepth 20000 in
theorem ggL_law_L_notesIn : GoodIn wsL_law wsL_notesIn := goodIn_ca (goodIn_ca (goodIn_r _ [320, 139, 321, 322, 323, 2, 324, 191, 192, 193, 194, 149, 150, 195, 196, 197, 198, 15, 145, 146, 147, 148, 151, 152, 153, 154, 17, 325, 326, 327, 328, 19, 229, 230, 231, 190, 232, 210, 215, 216, 963, 964, 965, 966, 967, 968, 969, 970, 971, 972, 1017, 1018, 1019, 1020, 1021, 1022, 1023, 1024, 1025, 1026, 1027] (by decide +kernel) (by decide +kernel)) (goodIn_sub (fun _ h => List.mem_append_left _ (List.mem_append_left _ (List.mem_append_left _ (List.mem_append_left _ (List.mem_append_left _ (List.mem_append_left _ (List.mem_append_left _ (List.mem_append_right _ h)))))))) (by decide +kernel))) (goodIn_sub (fun _ h => List.mem_append_left _ (List.mem_append_left _ (List.mem_append_left _ (List.mem_append_left _ (List.mem_append_right _ h))))) (by decide +kernel))
set_option maxRecDepth 20000 in
theorem gL_law_L_notesIn : GoodIn wsL_law (va_wsS RL 178 yL_notesIn wsL_notesIn) := goodIn_app (goodIn_of _ (by decide +kernel)) ggL_law_L_notesIn
set_option maxRecDepth 20000 in
theorem ggL_law_X5_notesIn : GoodIn wsL_law wsX5_notesIn := goodIn_ca (goodIn_r _ [332, 333, 334, 335, 5, 336, 99, 242, 243, 244, 245, 100, 101, 102, 103, 159, 160, 161, 162, 135, 337, 338, 339, 340, 241, 254, 255, 256, 257, 63, 54, 55, 973, 974, 975, 976, 977, 978, 979, 980, 981, 982, 983, 984, 985, 986, 987, 988, 989, 990, 991, 992, 993, 994, 995, 996, 997, 998, 999] (by decide +kernel) (by decide +kernel)) (goodIn_sub (fun _ h => List.mem_append_left _ (List.mem_append_left _ (List.mem_append_left _ (List.mem_append_left _ (List.mem_append_left _ (List.mem_append_left _ (List.mem_append_left _ (List.mem_append_right _ h)))))))) (by decide +kernel))
set_option maxRecDepth 20000 in
theorem gL_law_X5_notesIn : GoodIn wsL_law (wsV RL 180 RX5 yX5_notesIn wsX5_notesIn) := goodIn_app (goodIn_of _ (by decide +kernel)) ggL_law_X5_notesIn
set_option maxRecDepth 20000 in
theorem ggL_law_L_noteAt : GoodIn wsL_law wsL_noteAt := goodIn_ca (goodIn_ca (goodIn_ca (goodIn_r _ [343, 139, 261, 344, 345, 346, 2, 347, 191, 192, 193, 194, 149, 150, 195, 196, 197, 198, 15, 145, 146, 147, 148, 151, 152, 153, 154, 17, 348, 349, 350, 351, 272, 273, 19, 229, 230, 231, 190, 232, 210, 215, 216, 352, 353, 354, 355, 225, 226, 356, 357, 358, 359, 218, 217, 963, 964, 965, 966, 967, 968, 969, 970, 971, 972, 1017, 1018, 1019, 1020, 1021, 1022, 1023, 1024, 1025, 1026, 1027] (by decide +kernel) (by decide +kernel)) (goodIn_sub (fun _ h => List.mem_append_left _ (List.mem_append_left _ (List.mem_append_left _ (List.mem_append_left _ (List.mem_append_left _ (List.mem_append_left _ (List.mem_append_left _ (List.mem_append_right _ h)))))))) (by decide +kernel))) (goodIn_sub (fun _ h => List.mem_append_left _ (List.mem_append_left _ (List.mem_append_left _ (List.mem_append_left _ (List.mem_append_right _ h))))) (by decide +kernel))) (goodIn_sub (fun _ h => List.mem_append_left _ (List.mem_append_left _ (List.mem_append_right _ h))) (by decide +kernel))
set_option maxRecDepth 20000 in
theorem gL_law_L_noteAt : GoodIn wsL_law (va_wsS RL 181 yL_noteAt wsL_noteAt) := goodIn_app (goodIn_of _ (by decide +kernel)) ggL_law_L_noteAt
set_option maxRecDepth 20000 in
theorem ggL_law_X5_noteAt : GoodIn wsL_law wsX5_noteAt := goodIn_ca (goodIn_r _ [363, 333, 334, 335, 5, 336, 99, 242, 243, 244, 245, 100, 101, 102, 103, 159, 160, 161, 162, 135, 364, 365, 366, 367, 241, 57, 56, 254, 255, 256, 257, 63, 54, 55, 104, 105, 106, 107, 973, 974, 975, 976, 977, 978, 979, 980, 981, 982, 983, 984, 985, 986, 987, 988, 989, 990, 991, 992, 993, 994, 995, 996, 997, 998, 999] (by decide +kernel) (by decide +kernel)) (goodIn_sub (fun _ h => List.mem_append_left _ (List.mem_append_left _ (List.mem_append_left _ (List.mem_append_left _ (List.mem_append_left _ (List.mem_append_left _ (List.mem_append_left _ (List.mem_append_right _ h)))))))) (by decide +kernel))
set_option maxRecDepth 20000 in
theorem gL_law_X5_noteAt : GoodIn wsL_law (wsV RL 184 RX5 yX5_noteAt wsX5_noteAt) := goodIn_app (goodIn_of _ (by decide +kernel)) ggL_law_X5_noteAt
set_option maxRecDepth 20000 in
theorem ggL_law_L_pitchOf : GoodIn wsL_law wsL_pitchOf := goodIn_ca (goodIn_ca (goodIn_r _ [370, 261, 371, 372, 373, 2, 374, 266, 268, 269, 270, 271, 272, 273, 274, 275, 276, 277, 278, 19, 1017, 1018, 1019, 1020, 1021, 1022, 1023, 1024, 1025, 1026, 1027, 963, 964, 965, 966, 967, 968, 969, 970, 971, 972] (by decide +kernel) (by decide +kernel)) (goodIn_sub (fun _ h => List.mem_append_left _ (List.mem_append_left _ (List.mem_append_left _ (List.mem_append_left _ (List.mem_append_left _ (List.mem_append_left _ (List.mem_append_left _ (List.mem_append_right _ h)))))))) (by decide +kernel))) (goodIn_sub (fun _ h => List.mem_append_left _ (List.mem_append_left _ (List.mem_append_right _ h))) (by decide +kernel))
set_option maxRecDepth 20000 in
theorem gL_law_L_pitchOf : GoodIn wsL_law (va_wsS RL 185 yL_pitchOf wsL_pitchOf) := goodIn_app (goodIn_of _ (by decide +kernel)) ggL_law_L_pitchOf
set_option maxRecDepth 20000 in
theorem ggL_law_X5_pitchOf : GoodIn wsL_law wsX5_pitchOf := goodIn_ca (goodIn_r _ [378, 59, 379, 380, 381, 5, 382, 99, 283, 284, 285, 286, 241, 63, 101, 102, 103, 973, 974, 975, 976, 977, 978, 979, 980, 981, 982, 983, 984, 985, 986, 987, 988, 989, 990, 991, 992, 993, 994, 995, 996, 997, 998, 999] (by decide +kernel) (by decide +kernel)) (goodIn_sub (fun _ h => List.mem_append_left _ (List.mem_append_left _ (List.mem_append_left _ (List.mem_append_left _ (List.mem_append_left _ (List.mem_append_left _ (List.mem_append_left _ (List.mem_append_right _ h)))))))) (by decide +kernel))
set_option maxRecDepth 20000 in
theorem gL_law_X5_pitchOf : GoodIn wsL_law (wsV RL 187 RX5 yX5_pitchOf wsX5_pitchOf) := goodIn_app (goodIn_of _ (by decide +kernel)) ggL_law_X5_pitchOf
set_option maxRecDepth 20000 in
theorem ggL_law_L_lengthOf : GoodIn wsL_law wsL_lengthOf := goodIn_ca (goodIn_ca (goodIn_r _ [385, 261, 386, 387, 388, 2, 389, 294, 268, 269, 270, 271, 272, 273, 274, 275, 276, 277, 278, 19, 1017, 1018, 1019, 1020, 1021, 1022, 1023, 1024, 1025, 1026, 1027, 963, 964, 965, 966, 967, 968, 969, 970, 971, 972] (by decide +kernel) (by decide +kernel)) (goodIn_sub (fun _ h => List.mem_append_left _ (List.mem_append_left _ (List.mem_append_left _ (List.mem_append_left _ (List.mem_append_left _ (List.mem_append_left _ (List.mem_append_left _ (List.mem_append_right _ h)))))))) (by decide +kernel))) (goodIn_sub (fun _ h => List.mem_append_left _ (List.mem_append_left _ (List.mem_append_right _ h))) (by decide +kernel))
set_option maxRecDepth 20000 in
theorem gL_law_L_lengthOf : GoodIn wsL_law (va_wsS RL 188 yL_lengthOf wsL_lengthOf) := goodIn_app (goodIn_of _ (by decide +kernel)) ggL_law_L_lengthOf
set_option maxRecDepth 20000 in
theorem ggL_law_X5_lengthOf : GoodIn wsL_law wsX5_lengthOf := goodIn_ca (goodIn_r _ [393, 58, 379, 380, 381, 5, 382, 99, 283, 284, 285, 286, 241, 63, 101, 102, 103, 973, 974, 975, 976, 977, 978, 979, 980, 981, 982, 983, 984, 985, 986, 987, 988, 989, 990, 991, 992, 993, 994, 995, 996, 997, 998, 999] (by decide +kernel) (by decide +kernel)) (goodIn_sub (fun _ h => List.mem_append_left _ (List.mem_append_left _ (List.mem_append_left _ (List.mem_append_left _ (List.mem_append_left _ (List.mem_append_left _ (List.mem_append_left _ (List.mem_append_right _ h)))))))) (by decide +kernel))
set_option maxRecDepth 20000 in
theorem gL_law_X5_lengthOf : GoodIn wsL_law (wsV RL 190 RX5 yX5_lengthOf wsX5_lengthOf) := goodIn_app (goodIn_of _ (by decide +kernel)) ggL_law_X5_lengthOf
set_option maxRecDepth 20000 in
theorem ggL_law_L_isDivided : GoodIn wsL_law wsL_isDivided := goodIn_ca (goodIn_ca (goodIn_r _ [396, 139, 397, 398, 399, 2, 400, 191, 192, 193, 194, 149, 150, 195, 196, 197, 198, 15, 145, 146, 147, 148, 151, 152, 153, 154, 17, 401, 402, 403, 404, 19, 227, 229, 230, 231, 190, 232, 210, 215, 216, 963, 964, 965, 966, 967, 968, 969, 970, 971, 972, 1017, 1018, 1019, 1020, 1021, 1022, 1023, 1024, 1025, 1026, 1027] (by decide +kernel) (by decide +kernel)) (goodIn_sub (fun _ h => List.mem_append_left _ (List.mem_append_left _ (List.mem_append_left _ (List.mem_append_left _ (List.mem_append_left _ (List.mem_append_left _ (List.mem_append_left _ (List.mem_append_right _ h)))))))) (by decide +kernel))) (goodIn_sub (fun _ h => List.mem_append_left _ (List.mem_append_left _ (List.mem_append_left _ (List.mem_append_left _ (List.mem_append_right _ h))))) (by decide +kernel))
set_option maxRecDepth 20000 in
theorem gL_law_L_isDivided : GoodIn wsL_law (va_wsS RL 191 yL_isDivided wsL_isDivided) := goodIn_app (goodIn_of _ (by decide +kernel)) ggL_law_L_isDivided
set_option maxRecDepth 20000 in
theorem ggL_law_X5_isDivided : GoodIn wsL_law wsX5_isDivided := goodIn_ca (goodIn_r _ [408, 241, 56, 333, 334, 335, 5, 336, 99, 242, 243, 244, 245, 100, 101, 102, 103, 159, 160, 161, 162, 135, 254, 255, 256, 257, 63, 54, 55, 973, 974, 975, 976, 977, 978, 979, 980, 981, 982, 983, 984, 985, 986, 987, 988, 989, 990, 991, 992, 993, 994, 995, 996, 997, 998, 999] (by decide +kernel) (by decide +kernel)) (goodIn_sub (fun _ h => List.mem_append_left _ (List.mem_append_left _ (List.mem_append_left _ (List.mem_append_left _ (List.mem_append_left _ (List.mem_append_left _ (List.mem_append_left _ (List.mem_append_right _ h)))))))) (by decide +kernel))
set_option maxRecDepth 20000 in
theorem gL_law_X5_isDivided : GoodIn wsL_law (wsV RL 193 RX5 yX5_isDivided wsX5_isDivided) := goodIn_app (goodIn_of _ (by decide +kernel)) ggL_law_X5_isDivided
set_option maxRecDepth 20000 in
theorem ggL_law_L_written : GoodIn wsL_law wsL_written := goodIn_ca (goodIn_ca (goodIn_r _ [411, 261, 412, 413, 414, 2, 415, 268, 269, 270, 271, 272, 273, 274, 275, 276, 277, 278, 19, 416, 417, 418, 419, 225, 266, 420, 195, 196, 197, 198, 15, 1017, 1018, 1019, 1020, 1021, 1022, 1023, 1024, 1025, 1026, 1027, 963, 964, 965, 966, 967, 968, 969, 970, 971, 972, 1012, 1013] (by decide +kernel) (by decide +kernel)) (goodIn_sub (fun _ h => List.mem_append_left _ (List.mem_append_left _ (List.mem_append_left _ (List.mem_append_left _ (List.mem_append_left _ (List.mem_append_left _ (List.mem_append_left _ (List.mem_append_right _ h)))))))) (by decide +kernel))) (goodIn_sub (fun _ h => List.mem_append_left _ (List.mem_append_left _ (List.mem_append_right _ h))) (by decide +kernel))
set_option maxRecDepth 20000 in
theorem gL_law_L_written : GoodIn wsL_law (va_wsS RL 194 yL_written wsL_written) := goodIn_app (goodIn_of _ (by decide +kernel)) ggL_law_L_written
set_option maxRecDepth 20000 in
theorem ggL_law_X5_written : GoodIn wsL_law wsX5_written := goodIn_ca (goodIn_r _ [424, 379, 380, 381, 5, 382, 99, 283, 284, 285, 286, 241, 63, 101, 102, 103, 425, 426, 427, 428, 59, 51, 54, 973, 974, 975, 976, 977, 978, 979, 980, 981, 982, 983, 984, 985, 986, 987, 988, 989, 990, 991, 992, 993, 994, 995, 996, 997, 998, 999] (by decide +kernel) (by decide +kernel)) (goodIn_sub (fun _ h => List.mem_append_left _ (List.mem_append_left _ (List.mem_append_left _ (List.mem_append_left _ (List.mem_append_left _ (List.mem_append_left _ (List.mem_append_left _ (List.mem_append_right _ h)))))))) (by decide +kernel))
set_option maxRecDepth 20000 in
theorem gL_law_X5_written : GoodIn wsL_law (wsV RL 196 RX5 yX5_written wsX5_written) := goodIn_app (goodIn_of _ (by decide +kernel)) ggL_law_X5_written
set_option maxRecDepth 20000 in
theorem ggL_law_L_writtenKey : GoodIn wsL_law wsL_writtenKey := goodIn_ca (goodIn_ca (goodIn_r _ [431, 139, 432, 433, 434, 2, 435, 174, 420, 191, 192, 193, 194, 149, 150, 195, 196, 197, 198, 15, 145, 146, 147, 148, 151, 152, 153, 154, 17, 436, 437, 438, 439, 440, 441, 442, 1014, 1015, 1016, 1012, 1013, 963, 964, 965, 966, 967, 968, 969, 970, 971, 972] (by decide +kernel) (by decide +kernel)) (goodIn_sub (fun _ h => List.mem_append_left _ (List.mem_append_left _ (List.mem_append_left _ (List.mem_append_left _ (List.mem_append_left _ (List.mem_append_left _ (List.mem_append_left _ (List.mem_append_right _ h)))))))) (by decide +kernel))) (goodIn_sub (fun _ h => List.mem_append_left _ (List.mem_append_left _ (List.mem_append_left _ (List.mem_append_left _ (List.mem_append_right _ h))))) (by decide +kernel))
set_option maxRecDepth 20000 in
theorem gL_law_L_writtenKey : GoodIn wsL_law (va_wsS RL 197 yL_writtenKey wsL_writtenKey) := goodIn_app (goodIn_of _ (by decide +kernel)) ggL_law_L_writtenKey
set_option maxRecDepth 20000 in
theorem ggL_law_X5_writtenKey : GoodIn wsL_law wsX5_writtenKey := goodIn_ca (goodIn_ca (goodIn_r _ [446, 333, 334, 335, 5, 336, 99, 242, 243, 244, 245, 100, 101, 102, 103, 159, 160, 161, 162, 135, 447, 448, 449, 450, 53, 51, 451, 452, 453, 973, 974, 975, 976, 977, 978, 979, 980, 981, 982, 983, 984, 985, 986, 987, 988, 989, 990, 991, 992, 993, 994, 995, 996, 997, 998, 999] (by decide +kernel) (by decide +kernel)) (goodIn_sub (fun _ h => List.mem_append_left _ (List.mem_append_left _ (List.mem_append_left _ (List.mem_append_left _ (List.mem_append_left _ (List.mem_append_left _ (List.mem_append_left _ (List.mem_append_right _ h)))))))) (by decide +kernel))) (goodIn_sub (fun _ h => List.mem_append_left _ (List.mem_append_right _ h)) (by decide +kernel))
set_option maxRecDepth 20000 in
theorem gL_law_X5_writtenKey : GoodIn wsL_law (wsV RL 199 RX5 yX5_writtenKey wsX5_writtenKey) := goodIn_app (goodIn_of _ (by decide +kernel)) ggL_law_X5_writtenKey
set_option maxRecDepth 20000 in
theorem ggL_law_L_letterOf : GoodIn wsL_law wsL_letterOf := goodIn_ca (goodIn_ca (goodIn_r _ [456, 261, 457, 458, 459, 2, 460, 268, 269, 270, 271, 272, 273, 274, 275, 276, 277, 278, 19, 461, 462, 463, 464, 225, 226, 174, 420, 195, 196, 197, 198, 15, 151, 152, 153, 154, 17, 436, 437, 438, 439, 440, 441, 442, 416, 417, 418, 419, 266, 465, 466, 467, 1017, 1018, 1019, 1020, 1021, 1022, 1023, 1024, 1025, 1026, 1027, 963, 964, 965, 966, 967, 968, 969, 970, 971, 972, 1014, 1015, 1016, 1012, 1013] (by decide +kernel) (by decide +kernel)) (goodIn_sub (fun _ h => List.mem_append_left _ (List.mem_append_left _ (List.mem_append_left _ (List.mem_append_left _ (List.mem_append_left _ (List.mem_append_left _ (List.mem_append_left _ (List.mem_append_right _ h)))))))) (by decide +kernel))) (goodIn_sub (fun _ h => List.mem_append_left _ (List.mem_append_left _ (List.mem_append_right _ h))) (by decide +kernel))
set_option maxRecDepth 20000 in
theorem gL_law_L_letterOf : GoodIn wsL_law (va_wsS RL 200 yL_letterOf wsL_letterOf) := goodIn_app (goodIn_of _ (by decide +kernel)) ggL_law_L_letterOf
set_option maxRecDepth 20000 in
theorem ggL_law_X5_letterOf : GoodIn wsL_law wsX5_letterOf := goodIn_ca (goodIn_ca (goodIn_r _ [471, 379, 380, 381, 5, 382, 99, 283, 284, 285, 286, 241, 63, 101, 102, 103, 472, 473, 474, 475, 54, 55, 447, 448, 449, 450, 53, 51, 451, 452, 453, 425, 426, 427, 428, 59, 476, 477, 478, 479, 480, 481, 482, 483, 484, 485, 486, 487, 488, 489, 490, 491, 492, 493, 494, 495, 496, 497, 498, 499, 500, 501, 502, 503, 504, 505, 506, 507, 508, 509, 510, 511, 512, 513, 514, 515, 516, 973, 974, 975, 976, 977, 978, 979, 980, 981, 982, 983, 984, 985, 986, 987, 988, 989, 990, 991, 992, 993, 994, 995, 996, 997, 998, 999, 1028, 1029] (by decide +kernel) (by decide +kernel)) (goodIn_sub (fun _ h => List.mem_append_left _ (List.mem_append_left _ (List.mem_append_left _ (List.mem_append_left _ (List.mem_append_left _ (List.mem_append_left _ (List.mem_append_left _ (List.mem_append_right _ h)))))))) (by decide +kernel))) (goodIn_sub (fun _ h => List.mem_append_left _ (List.mem_append_right _ h)) (by decide +kernel))
set_option maxRecDepth 20000 in
theorem gL_law_X5_letterOf : GoodIn wsL_law (wsV RL 202 RX5 yX5_letterOf wsX5_letterOf) := goodIn_app (goodIn_of _ (by decide +kernel)) ggL_law_X5_letterOf
set_option maxRecDepth 20000 in
theorem ggL_law_L_accidentalOf : GoodIn wsL_law wsL_accidentalOf := goodIn_ca (goodIn_ca (goodIn_r _ [519, 261, 520, 521, 522, 2, 523, 268, 269, 270, 271, 272, 273, 274, 275, 276, 277, 278, 19, 461, 462, 463, 464, 225, 226, 174, 420, 195, 196, 197, 198, 15, 151, 152, 153, 154, 17, 436, 437, 438, 439, 440, 441, 442, 416, 417, 418, 419, 266, 524, 525, 526, 527, 528, 529, 1017, 1018, 1019, 1020, 1021, 1022, 1023, 1024, 1025, 1026, 1027, 963, 964, 965, 966, 967, 968, 969, 970, 971, 972, 1014, 1015, 1016, 1012, 1013] (by decide +kernel) (by decide +kernel)) (goodIn_sub (fun _ h => List.mem_append_left _ (List.mem_append_left _ (List.mem_append_left _ (List.mem_append_left _ (List.mem_append_left _ (List.mem_append_left _ (List.mem_append_left _ (List.mem_append_right _ h)))))))) (by decide +kernel))) (goodIn_sub (fun _ h => List.mem_append_left _ (List.mem_append_left _ (List.mem_append_right _ h))) (by decide +kernel))
set_option maxRecDepth 20000 in
theorem gL_law_L_accidentalOf : GoodIn wsL_law (va_wsS RL 203 yL_accidentalOf wsL_accidentalOf) := goodIn_app (goodIn_of _ (by decide +kernel)) ggL_law_L_accidentalOf
set_option maxRecDepth 20000 in
theorem ggL_law_X5_accidentalOf : GoodIn wsL_law wsX5_accidentalOf := goodIn_ca (goodIn_ca (goodIn_r _ [533, 379, 380, 381, 5, 382, 99, 283, 284, 285, 286, 241, 63, 101, 102, 103, 472, 473, 474, 475, 54, 55, 447, 448, 449, 450, 53, 51, 451, 452, 453, 425, 426, 427, 428, 59, 973, 974, 975, 976, 977, 978, 979, 980, 981, 982, 983, 984, 985, 986, 987, 988, 989, 990, 991, 992, 993, 994, 995, 996, 997, 998, 999] (by decide +kernel) (by decide +kernel)) (goodIn_sub (fun _ h => List.mem_append_left _ (List.mem_append_left _ (List.mem_append_left _ (List.mem_append_left _ (List.mem_append_left _ (List.mem_append_left _ (List.mem_append_left _ (List.mem_append_right _ h)))))))) (by decide +kernel))) (goodIn_sub (fun _ h => List.mem_append_left _ (List.mem_append_right _ h)) (by decide +kernel))
set_option maxRecDepth 20000 in
theorem gL_law_X5_accidentalOf : GoodIn wsL_law (wsV RL 205 RX5 yX5_accidentalOf wsX5_accidentalOf) := goodIn_app (goodIn_of _ (by decide +kernel)) ggL_law_X5_accidentalOf
set_option maxRecDepth 20000 in
theorem ggL_law_L_rests : GoodIn wsL_law wsL_rests := goodIn_ca (goodIn_ca (goodIn_r _ [536, 139, 537, 538, 539, 2, 540, 23, 191, 192, 193, 194, 149, 150, 195, 196, 197, 198, 15, 541, 542, 543, 544, 27, 28, 17, 545, 546, 547, 22, 548, 45, 46, 44, 549, 550, 551, 552, 553, 19, 228, 554, 555, 556, 557, 294, 558, 559, 560, 144, 229, 230, 231, 190, 232, 210, 215, 216, 561, 562, 563, 564, 565, 566, 567, 568, 34, 35, 36, 37, 38, 40, 569, 570, 571, 572, 573, 574, 575, 576, 577, 578, 579, 580, 963, 964, 965, 966, 967, 968, 969, 970, 971, 972, 1000, 1001, 1002, 1003, 1004, 1005, 1006, 1007, 1008, 1009, 1010, 1011, 1014, 1015, 1016, 1017, 1018, 1019, 1020, 1021, 1022, 1023, 1024, 1025, 1026, 1027] (by decide +kernel) (by decide +kernel)) (goodIn_sub (fun _ h => List.mem_append_left _ (List.mem_append_left _ (List.mem_append_left _ (List.mem_append_left _ (List.mem_append_left _ (List.mem_append_left _ (List.mem_append_left _ (List.mem_append_right _ h)))))))) (by decide +kernel))) (goodIn_sub (fun _ h => List.mem_append_left _ (List.mem_append_left _ (List.mem_append_left _ (List.mem_append_left _ (List.mem_append_right _ h))))) (by decide +kernel))
set_option maxRecDepth 20000 in
theorem gL_law_L_rests : GoodIn wsL_law (va_wsS RL 206 yL_rests wsL_rests) := goodIn_app (goodIn_of _ (by decide +kernel)) ggL_law_L_rests
set_option maxRecDepth 20000 in
theorem ggL_law_X5_rests : GoodIn wsL_law wsX5_rests := goodIn_ca (goodIn_r _ [584, 585, 69, 586, 587, 588, 5, 589, 99, 242, 243, 244, 245, 100, 101, 102, 103, 590, 591, 592, 593, 135, 62, 68, 337, 338, 339, 340, 241, 254, 255, 256, 257, 63, 54, 55, 973, 974, 975, 976, 977, 978, 979, 980, 981, 982, 983, 984, 985, 986, 987, 988, 989, 990, 991, 992, 993, 994, 995, 996, 997, 998, 999] (by decide +kernel) (by decide +kernel)) (goodIn_sub (fun _ h => List.mem_append_left _ (List.mem_append_left _ (List.mem_append_left _ (List.mem_append_left _ (List.mem_append_left _ (List.mem_append_left _ (List.mem_append_left _ (List.mem_append_right _ h)))))))) (by decide +kernel))
set_option maxRecDepth 20000 in
theorem gL_law_X5_rests : GoodIn wsL_law (wsV RL 208 RX5 yX5_rests wsX5_rests) := goodIn_app (goodIn_of _ (by decide +kernel)) ggL_law_X5_rests
set_option maxRecDepth 20000 in
theorem ggL_law_L_restFirst : GoodIn wsL_law wsL_restFirst := goodIn_ca (goodIn_ca (goodIn_r _ [596, 139, 597, 598, 599, 2, 600, 23, 191, 192, 193, 194, 149, 150, 195, 196, 197, 198, 15, 601, 602, 603, 604, 541, 542, 543, 544, 27, 28, 17, 545, 546, 547, 22, 548, 45, 46, 44, 549, 550, 551, 552, 553, 19, 228, 554, 555, 556, 557, 294, 558, 559, 560, 144, 229, 230, 231, 190, 232, 210, 215, 216, 561, 562, 563, 564, 565, 566, 567, 568, 34, 35, 36, 37, 38, 40, 569, 570, 571, 572, 573, 574, 575, 576, 605, 606, 607, 608, 609, 610, 611, 612, 963, 964, 965, 966, 967, 968, 969, 970, 971, 972, 1000, 1001, 1002, 1003, 1004, 1005, 1006, 1007, 1008, 1009, 1010, 1011, 1014, 1015, 1016, 1017, 1018, 1019, 1020, 1021, 1022, 1023, 1024, 1025, 1026, 1027] (by decide +kernel) (by decide +kernel)) (goodIn_sub (fun _ h => List.mem_append_left _ (List.mem_append_left _ (List.mem_append_left _ (List.mem_append_left _ (List.mem_append_left _ (List.mem_append_left _ (List.mem_append_left _ (List.mem_append_right _ h)))))))) (by decide +kernel))) (goodIn_sub (fun _ h => List.mem_append_left _ (List.mem_append_left _ (List.mem_append_left _ (List.mem_append_left _ (List.mem_append_right _ h))))) (by decide +kernel))
set_option maxRecDepth 20000 in
theorem gL_law_L_restFirst : GoodIn wsL_law (va_wsS RL 209 yL_restFirst wsL_restFirst) := goodIn_app (goodIn_of _ (by decide +kernel)) ggL_law_L_restFirst
set_option maxRecDepth 20000 in
theorem ggL_law_X5_restFirst : GoodIn wsL_law wsX5_restFirst := goodIn_ca (goodIn_r _ [616, 68, 586, 587, 588, 5, 589, 99, 242, 243, 244, 245, 100, 101, 102, 103, 617, 618, 619, 620, 585, 69, 590, 591, 592, 593, 135, 62, 337, 338, 339, 340, 241, 254, 255, 256, 257, 63, 54, 55, 104, 105, 106, 107, 973, 974, 975, 976, 977, 978, 979, 980, 981, 982, 983, 984, 985, 986, 987, 988, 989, 990, 991, 992, 993, 994, 995, 996, 997, 998, 999] (by decide +kernel) (by decide +kernel)) (goodIn_sub (fun _ h => List.mem_append_left _ (List.mem_append_left _ (List.mem_append_left _ (List.mem_append_left _ (List.mem_append_left _ (List.mem_append_left _ (List.mem_append_left _ (List.mem_append_right _ h)))))))) (by decide +kernel))
set_option maxRecDepth 20000 in
theorem gL_law_X5_restFirst : GoodIn wsL_law (wsV RL 211 RX5 yX5_restFirst wsX5_restFirst) := goodIn_app (goodIn_of _ (by decide +kernel)) ggL_law_X5_restFirst
set_option maxRecDepth 20000 in
theorem ggL_law_L_restBars : GoodIn wsL_law wsL_restBars := goodIn_ca (goodIn_ca (goodIn_r _ [623, 139, 624, 625, 626, 2, 627, 23, 191, 192, 193, 194, 149, 150, 195, 196, 197, 198, 15, 601, 602, 603, 604, 541, 542, 543, 544, 27, 28, 17, 545, 546, 547, 22, 548, 45, 46, 44, 549, 550, 551, 552, 553, 19, 228, 554, 555, 556, 557, 294, 558, 559, 560, 144, 229, 230, 231, 190, 232, 210, 215, 216, 561, 562, 563, 564, 565, 566, 567, 568, 34, 35, 36, 37, 38, 40, 569, 570, 571, 572, 573, 574, 575, 576, 605, 606, 607, 608, 628, 629, 630, 631, 963, 964, 965, 966, 967, 968, 969, 970, 971, 972, 1000, 1001, 1002, 1003, 1004, 1005, 1006, 1007, 1008, 1009, 1010, 1011, 1014, 1015, 1016, 1017, 1018, 1019, 1020, 1021, 1022, 1023, 1024, 1025, 1026, 1027] (by decide +kernel) (by decide +kernel)) (goodIn_sub (fun _ h => List.mem_append_left _ (List.mem_append_left _ (List.mem_append_left _ (List.mem_append_left _ (List.mem_append_left _ (List.mem_append_left _ (List.mem_append_left _ (List.mem_append_right _ h)))))))) (by decide +kernel))) (goodIn_sub (fun _ h => List.mem_append_left _ (List.mem_append_left _ (List.mem_append_left _ (List.mem_append_left _ (List.mem_append_right _ h))))) (by decide +kernel))
set_option maxRecDepth 20000 in
theorem gL_law_L_restBars : GoodIn wsL_law (va_wsS RL 212 yL_restBars wsL_restBars) := goodIn_app (goodIn_of _ (by decide +kernel)) ggL_law_L_restBars
set_option maxRecDepth 20000 in
theorem ggL_law_X5_restBars : GoodIn wsL_law wsX5_restBars := goodIn_ca (goodIn_r _ [635, 69, 586, 587, 588, 5, 589, 99, 242, 243, 244, 245, 100, 101, 102, 103, 617, 618, 619, 620, 585, 590, 591, 592, 593, 135, 62, 68, 337, 338, 339, 340, 241, 254, 255, 256, 257, 63, 54, 55, 104, 105, 106, 107, 973, 974, 975, 976, 977, 978, 979, 980, 981, 982, 983, 984, 985, 986, 987, 988, 989, 990, 991, 992, 993, 994, 995, 996, 997, 998, 999] (by decide +kernel) (by decide +kernel)) (goodIn_sub (fun _ h => List.mem_append_left _ (List.mem_append_left _ (List.mem_append_left _ (List.mem_append_left _ (List.mem_append_left _ (List.mem_append_left _ (List.mem_append_left _ (List.mem_append_right _ h)))))))) (by decide +kernel))
set_option maxRecDepth 20000 in
theorem gL_law_X5_restBars : GoodIn wsL_law (wsV RL 214 RX5 yX5_restBars wsX5_restBars) := goodIn_app (goodIn_of _ (by decide +kernel)) ggL_law_X5_restBars
set_option maxRecDepth 20000 in
theorem ggL_law_L_setPage : GoodIn wsL_law wsL_setPage := goodIn_ca (goodIn_ca (goodIn_r _ [638, 77, 639, 640, 641, 2, 642, 83, 84, 27, 963, 964, 965, 966, 967, 968, 969, 970, 971, 972] (by decide +kernel) (by decide +kernel)) (goodIn_sub (fun _ h => List.mem_append_left _ (List.mem_append_left _ (List.mem_append_left _ (List.mem_append_left _ (List.mem_append_left _ (List.mem_append_left _ (List.mem_append_left _ (List.mem_append_right _ h)))))))) (by decide +kernel))) (goodIn_sub (fun _ h => List.mem_append_left _ (List.mem_append_left _ (List.mem_append_left _ (List.mem_append_left _ (List.mem_append_left _ (List.mem_append_left _ (List.mem_append_right _ h))))))) (by decide +kernel))
set_option maxRecDepth 20000 in
theorem gL_law_L_setPage : GoodIn wsL_law (va_wsS RL 215 yL_setPage wsL_setPage) := goodIn_app (goodIn_of _ (by decide +kernel)) ggL_law_L_setPage
set_option maxRecDepth 20000 in
theorem ggL_law_X5_setPage : GoodIn wsL_law wsX5_setPage := goodIn_r _ [646, 99, 65, 101, 102, 5, 103, 104, 105, 106, 107, 973, 974, 975, 976, 977, 978, 979, 980, 981, 982, 983, 984, 985, 986, 987, 988, 989, 990, 991, 992, 993, 994, 995, 996, 997, 998, 999] (by decide +kernel) (by decide +kernel)
set_option maxRecDepth 20000 in
theorem gL_law_X5_setPage : GoodIn wsL_law (wsV RL 217 RX5 yX5_setPage wsX5_setPage) := goodIn_app (goodIn_of _ (by decide +kernel)) ggL_law_X5_setPage
set_option maxRecDepth 20000 in
theorem ggL_law_L_setTurn : GoodIn wsL_law wsL_setTurn := goodIn_ca (goodIn_ca (goodIn_r _ [649, 77, 650, 651, 652, 2, 653, 83, 84, 28, 963, 964, 965, 966, 967, 968, 969, 970, 971, 972] (by decide +kernel) (by decide +kernel)) (goodIn_sub (fun _ h => List.mem_append_left _ (List.mem_append_left _ (List.mem_append_left _ (List.mem_append_left _ (List.mem_append_left _ (List.mem_append_left _ (List.mem_append_left _ (List.mem_append_right _ h)))))))) (by decide +kernel))) (goodIn_sub (fun _ h => List.mem_append_left _ (List.mem_append_left _ (List.mem_append_left _ (List.mem_append_left _ (List.mem_append_left _ (List.mem_append_left _ (List.mem_append_right _ h))))))) (by decide +kernel))
set_option maxRecDepth 20000 in
theorem gL_law_L_setTurn : GoodIn wsL_law (va_wsS RL 218 yL_setTurn wsL_setTurn) := goodIn_app (goodIn_of _ (by decide +kernel)) ggL_law_L_setTurn
set_option maxRecDepth 20000 in
theorem ggL_law_X5_setTurn : GoodIn wsL_law wsX5_setTurn := goodIn_r _ [657, 99, 66, 101, 102, 5, 103, 104, 105, 106, 107, 973, 974, 975, 976, 977, 978, 979, 980, 981, 982, 983, 984, 985, 986, 987, 988, 989, 990, 991, 992, 993, 994, 995, 996, 997, 998, 999] (by decide +kernel) (by decide +kernel)
set_option maxRecDepth 20000 in
theorem gL_law_X5_setTurn : GoodIn wsL_law (wsV RL 220 RX5 yX5_setTurn wsX5_setTurn) := goodIn_app (goodIn_of _ (by decide +kernel)) ggL_law_X5_setTurn
set_option maxRecDepth 20000 in
theorem ggL_law_L_setCue : GoodIn wsL_law wsL_setCue := goodIn_ca (goodIn_ca (goodIn_r _ [660, 77, 661, 662, 663, 2, 664, 83, 84, 29, 963, 964, 965, 966, 967, 968, 969, 970, 971, 972] (by decide +kernel) (by decide +kernel)) (goodIn_sub (fun _ h => List.mem_append_left _ (List.mem_append_left _ (List.mem_append_left _ (List.mem_append_left _ (List.mem_append_left _ (List.mem_append_left _ (List.mem_append_left _ (List.mem_append_right _ h)))))))) (by decide +kernel))) (goodIn_sub (fun _ h => List.mem_append_left _ (List.mem_append_left _ (List.mem_append_left _ (List.mem_append_left _ (List.mem_append_left _ (List.mem_append_left _ (List.mem_append_right _ h))))))) (by decide +kernel))
set_option maxRecDepth 20000 in
theorem gL_law_L_setCue : GoodIn wsL_law (va_wsS RL 221 yL_setCue wsL_setCue) := goodIn_app (goodIn_of _ (by decide +kernel)) ggL_law_L_setCue
set_option maxRecDepth 20000 in
theorem ggL_law_X5_setCue : GoodIn wsL_law wsX5_setCue := goodIn_r _ [668, 99, 67, 101, 102, 5, 103, 104, 105, 106, 107, 973, 974, 975, 976, 977, 978, 979, 980, 981, 982, 983, 984, 985, 986, 987, 988, 989, 990, 991, 992, 993, 994, 995, 996, 997, 998, 999] (by decide +kernel) (by decide +kernel)
set_option maxRecDepth 20000 in
theorem gL_law_X5_setCue : GoodIn wsL_law (wsV RL 223 RX5 yX5_setCue wsX5_setCue) := goodIn_app (goodIn_of _ (by decide +kernel)) ggL_law_X5_setCue
set_option maxRecDepth 20000 in
theorem ggL_law_L_hardTurns : GoodIn wsL_law wsL_hardTurns := goodIn_ca (goodIn_ca (goodIn_r _ [671, 139, 672, 673, 674, 2, 675, 23, 191, 192, 193, 194, 149, 150, 195, 196, 197, 198, 15, 541, 542, 543, 544, 27, 28, 17, 545, 546, 547, 22, 548, 45, 46, 44, 549, 550, 551, 552, 553, 19, 228, 554, 555, 556, 557, 294, 558, 559, 560, 144, 229, 230, 231, 190, 232, 210, 215, 216, 561, 562, 563, 564, 565, 566, 567, 568, 34, 35, 36, 37, 38, 40, 569, 570, 571, 572, 573, 574, 575, 576, 676, 677, 678, 679, 41, 680, 42, 43, 681, 682, 683, 684, 685, 686, 687, 688, 689, 690, 691, 692, 963, 964, 965, 966, 967, 968, 969, 970, 971, 972, 1000, 1001, 1002, 1003, 1004, 1005, 1006, 1007, 1008, 1009, 1010, 1011, 1014, 1015, 1016, 1017, 1018, 1019, 1020, 1021, 1022, 1023, 1024, 1025, 1026, 1027] (by decide +kernel) (by decide +kernel)) (goodIn_sub (fun _ h => List.mem_append_left _ (List.mem_append_left _ (List.mem_append_left _ (List.mem_append_left _ (List.mem_append_left _ (List.mem_append_left _ (List.mem_append_left _ (List.mem_append_right _ h)))))))) (by decide +kernel))) (goodIn_sub (fun _ h => List.mem_append_left _ (List.mem_append_left _ (List.mem_append_left _ (List.mem_append_left _ (List.mem_append_right _ h))))) (by decide +kernel))
set_option maxRecDepth 20000 in
theorem gL_law_L_hardTurns : GoodIn wsL_law (va_wsS RL 224 yL_hardTurns wsL_hardTurns) := goodIn_app (goodIn_of _ (by decide +kernel)) ggL_law_L_hardTurns
set_option maxRecDepth 20000 in
theorem ggL_law_X5_hardTurns : GoodIn wsL_law wsX5_hardTurns := goodIn_ca (goodIn_r _ [696, 70, 586, 587, 588, 5, 589, 99, 242, 243, 244, 245, 100, 101, 102, 103, 697, 698, 699, 700, 585, 71, 72, 69, 68, 65, 590, 591, 592, 593, 135, 62, 337, 338, 339, 340, 241, 254, 255, 256, 257, 63, 54, 55, 701, 702, 703, 704, 66, 705, 706, 707, 708, 52, 57, 58, 709, 555, 556, 557, 710, 711, 712, 713, 714, 559, 560, 973, 974, 975, 976, 977, 978, 979, 980, 981, 982, 983, 984, 985, 986, 987, 988, 989, 990, 991, 992, 993, 994, 995, 996, 997, 998, 999] (by decide +kernel) (by decide +kernel)) (goodIn_sub (fun _ h => List.mem_append_left _ (List.mem_append_left _ (List.mem_append_left _ (List.mem_append_left _ (List.mem_append_left _ (List.mem_append_left _ (List.mem_append_left _ (List.mem_append_right _ h)))))))) (by decide +kernel))
set_option maxRecDepth 20000 in
theorem gL_law_X5_hardTurns : GoodIn wsL_law (wsV RL 226 RX5 yX5_hardTurns wsX5_hardTurns) := goodIn_app (goodIn_of _ (by decide +kernel)) ggL_law_X5_hardTurns
set_option maxRecDepth 20000 in
theorem ggL_law_L_hardTurnsByTrying : GoodIn wsL_law wsL_hardTurnsByTrying := goodIn_ca (goodIn_ca (goodIn_r _ [717, 139, 718, 719, 720, 2, 721, 23, 191, 192, 193, 194, 149, 150, 195, 196, 197, 198, 15, 541, 542, 543, 544, 27, 28, 17, 545, 546, 547, 22, 548, 45, 46, 44, 549, 550, 551, 552, 553, 19, 228, 554, 555, 556, 557, 294, 558, 559, 560, 144, 229, 230, 231, 190, 232, 210, 215, 216, 561, 562, 563, 564, 565, 566, 567, 568, 34, 35, 36, 37, 38, 40, 569, 570, 571, 572, 573, 574, 575, 576, 722, 723, 724, 685, 686, 687, 688, 725, 963, 964, 965, 966, 967, 968, 969, 970, 971, 972, 1000, 1001, 1002, 1003, 1004, 1005, 1006, 1007, 1008, 1009, 1010, 1011, 1014, 1015, 1016, 1017, 1018, 1019, 1020, 1021, 1022, 1023, 1024, 1025, 1026, 1027] (by decide +kernel) (by decide +kernel)) (goodIn_sub (fun _ h => List.mem_append_left _ (List.mem_append_left _ (List.mem_append_left _ (List.mem_append_left _ (List.mem_append_left _ (List.mem_append_left _ (List.mem_append_left _ (List.mem_append_right _ h)))))))) (by decide +kernel))) (goodIn_sub (fun _ h => List.mem_append_left _ (List.mem_append_left _ (List.mem_append_left _ (List.mem_append_left _ (List.mem_append_right _ h))))) (by decide +kernel))
set_option maxRecDepth 20000 in
theorem gL_law_L_hardTurnsByTrying : GoodIn wsL_law (va_wsS RL 227 yL_hardTurnsByTrying wsL_hardTurnsByTrying) := goodIn_app (goodIn_of _ (by decide +kernel)) ggL_law_L_hardTurnsByTrying
set_option maxRecDepth 20000 in
theorem ggL_law_X5_hardTurnsByTrying : GoodIn wsL_law wsX5_hardTurnsByTrying := goodIn_ca (goodIn_r _ [729, 730, 694, 695, 5, 696, 70, 586, 587, 588, 589, 99, 242, 243, 244, 245, 100, 101, 102, 103, 697, 698, 699, 700, 585, 71, 72, 69, 68, 65, 590, 591, 592, 593, 135, 62, 337, 338, 339, 340, 241, 254, 255, 256, 257, 63, 54, 55, 701, 702, 703, 704, 66, 705, 706, 707, 708, 52, 57, 58, 709, 555, 556, 557, 710, 711, 712, 713, 714, 559, 560, 973, 974, 975, 976, 977, 978, 979, 980, 981, 982, 983, 984, 985, 986, 987, 988, 989, 990, 991, 992, 993, 994, 995, 996, 997, 998, 999] (by decide +kernel) (by decide +kernel)) (goodIn_sub (fun _ h => List.mem_append_left _ (List.mem_append_left _ (List.mem_append_left _ (List.mem_append_left _ (List.mem_append_left _ (List.mem_append_left _ (List.mem_append_left _ (List.mem_append_right _ h)))))))) (by decide +kernel))
set_option maxRecDepth 20000 in
theorem gL_law_X5_hardTurnsByTrying : GoodIn wsL_law (wsV RL 229 RX5 yX5_hardTurnsByTrying wsX5_hardTurnsByTrying) := goodIn_app (goodIn_of _ (by decide +kernel)) ggL_law_X5_hardTurnsByTrying
set_option maxRecDepth 20000 in
theorem ggL_law_L_pages : GoodIn wsL_law wsL_pages := goodIn_ca (goodIn_ca (goodIn_r _ [733, 139, 734, 735, 736, 2, 737, 23, 191, 192, 193, 194, 149, 150, 195, 196, 197, 198, 15, 541, 542, 543, 544, 27, 28, 17, 545, 546, 547, 22, 548, 45, 46, 44, 549, 550, 551, 552, 553, 19, 228, 554, 555, 556, 557, 294, 558, 559, 560, 144, 229, 230, 231, 190, 232, 210, 215, 216, 561, 562, 563, 564, 565, 566, 567, 568, 34, 35, 36, 37, 38, 40, 569, 570, 571, 572, 573, 574, 575, 576, 676, 677, 678, 679, 41, 680, 42, 43, 681, 682, 683, 684, 685, 686, 687, 688, 738, 739, 740, 741, 963, 964, 965, 966, 967, 968, 969, 970, 971, 972, 1000, 1001, 1002, 1003, 1004, 1005, 1006, 1007, 1008, 1009, 1010, 1011, 1014, 1015, 1016, 1017, 1018, 1019, 1020, 1021, 1022, 1023, 1024, 1025, 1026, 1027] (by decide +kernel) (by decide +kernel)) (goodIn_sub (fun _ h => List.mem_append_left _ (List.mem_append_left _ (List.mem_append_left _ (List.mem_append_left _ (List.mem_append_left _ (List.mem_append_left _ (List.mem_append_left _ (List.mem_append_right _ h)))))))) (by decide +kernel))) (goodIn_sub (fun _ h => List.mem_append_left _ (List.mem_append_left _ (List.mem_append_left _ (List.mem_append_left _ (List.mem_append_right _ h))))) (by decide +kernel))
set_option maxRecDepth 20000 in
theorem gL_law_L_pages : GoodIn wsL_law (va_wsS RL 230 yL_pages wsL_pages) := goodIn_app (goodIn_of _ (by decide +kernel)) ggL_law_L_pages
set_option maxRecDepth 20000 in
theorem ggL_law_X5_pages : GoodIn wsL_law wsX5_pages := goodIn_ca (goodIn_r _ [745, 71, 586, 587, 588, 5, 589, 99, 242, 243, 244, 245, 100, 101, 102, 103, 697, 698, 699, 700, 70, 585, 72, 69, 68, 65, 590, 591, 592, 593, 135, 62, 337, 338, 339, 340, 241, 254, 255, 256, 257, 63, 54, 55, 701, 702, 703, 704, 66, 705, 706, 707, 708, 52, 57, 58, 709, 555, 556, 557, 710, 711, 712, 713, 714, 559, 560, 973, 974, 975, 976, 977, 978, 979, 980, 981, 982, 983, 984, 985, 986, 987, 988, 989, 990, 991, 992, 993, 994, 995, 996, 997, 998, 999] (by decide +kernel) (by decide +kernel)) (goodIn_sub (fun _ h => List.mem_append_left _ (List.mem_append_left _ (List.mem_append_left _ (List.mem_append_left _ (List.mem_append_left _ (List.mem_append_left _ (List.mem_append_left _ (List.mem_append_right _ h)))))))) (by decide +kernel))
set_option maxRecDepth 20000 in
theorem gL_law_X5_pages : GoodIn wsL_law (wsV RL 232 RX5 yX5_pages wsX5_pages) := goodIn_app (goodIn_of _ (by decide +kernel)) ggL_law_X5_pages
set_option maxRecDepth 20000 in
theorem ggL_law_L_pageEnd : GoodIn wsL_law wsL_pageEnd := goodIn_ca (goodIn_ca (goodIn_ca (goodIn_r _ [748, 139, 261, 749, 750, 751, 2, 752, 272, 273, 23, 191, 192, 193, 194, 149, 150, 195, 196, 197, 198, 15, 541, 542, 543, 544, 27, 28, 17, 545, 546, 547, 22, 548, 45, 46, 44, 549, 550, 551, 552, 553, 19, 228, 554, 555, 556, 557, 294, 558, 559, 560, 144, 229, 230, 231, 190, 232, 210, 215, 216, 561, 562, 563, 564, 565, 566, 567, 568, 34, 35, 36, 37, 38, 40, 569, 570, 571, 572, 573, 574, 575, 576, 676, 677, 678, 679, 41, 680, 42, 43, 681, 682, 683, 684, 685, 686, 687, 688, 738, 739, 740, 741, 753, 754, 755, 756, 757, 758, 759, 760, 963, 964, 965, 966, 967, 968, 969, 970, 971, 972, 1000, 1001, 1002, 1003, 1004, 1005, 1006, 1007, 1008, 1009, 1010, 1011, 1014, 1015, 1016, 1017, 1018, 1019, 1020, 1021, 1022, 1023, 1024, 1025, 1026, 1027] (by decide +kernel) (by decide +kernel)) (goodIn_sub (fun _ h => List.mem_append_left _ (List.mem_append_left _ (List.mem_append_left _ (List.mem_append_left _ (List.mem_append_left _ (List.mem_append_left _ (List.mem_append_left _ (List.mem_append_right _ h)))))))) (by decide +kernel))) (goodIn_sub (fun _ h => List.mem_append_left _ (List.mem_append_left _ (List.mem_append_right _ h))) (by decide +kernel))) (goodIn_sub (fun _ h => List.mem_append_left _ (List.mem_append_left _ (List.mem_append_left _ (List.mem_append_left _ (List.mem_append_right _ h))))) (by decide +kernel))
set_option maxRecDepth 20000 in
theorem gL_law_L_pageEnd : GoodIn wsL_law (va_wsS RL 233 yL_pageEnd wsL_pageEnd) := goodIn_app (goodIn_of _ (by decide +kernel)) ggL_law_L_pageEnd
set_option maxRecDepth 20000 in
theorem ggL_law_X5_pageEnd : GoodIn wsL_law wsX5_pageEnd := goodIn_ca (goodIn_r _ [764, 71, 72, 586, 587, 588, 5, 589, 99, 242, 243, 244, 245, 100, 101, 102, 103, 697, 698, 699, 700, 70, 585, 69, 68, 65, 590, 591, 592, 593, 135, 62, 337, 338, 339, 340, 241, 254, 255, 256, 257, 63, 54, 55, 701, 702, 703, 704, 66, 705, 706, 707, 708, 52, 57, 58, 709, 555, 556, 557, 710, 711, 712, 713, 714, 559, 560, 104, 105, 106, 107, 973, 974, 975, 976, 977, 978, 979, 980, 981, 982, 983, 984, 985, 986, 987, 988, 989, 990, 991, 992, 993, 994, 995, 996, 997, 998, 999] (by decide +kernel) (by decide +kernel)) (goodIn_sub (fun _ h => List.mem_append_left _ (List.mem_append_left _ (List.mem_append_left _ (List.mem_append_left _ (List.mem_append_left _ (List.mem_append_left _ (List.mem_append_left _ (List.mem_append_right _ h)))))))) (by decide +kernel))
set_option maxRecDepth 20000 in
theorem gL_law_X5_pageEnd : GoodIn wsL_law (wsV RL 235 RX5 yX5_pageEnd wsX5_pageEnd) := goodIn_app (goodIn_of _ (by decide +kernel)) ggL_law_X5_pageEnd
set_option maxRecDepth 20000 in
theorem ggL_law_L_cuePart : GoodIn wsL_law wsL_cuePart := goodIn_ca (goodIn_ca (goodIn_ca (goodIn_r _ [767, 139, 182, 768, 769, 770, 2, 771, 191, 192, 193, 194, 149, 150, 195, 196, 197, 198, 15, 601, 602, 603, 604, 23, 541, 542, 543, 544, 27, 28, 17, 545, 546, 547, 22, 548, 45, 46, 44, 549, 550, 551, 552, 553, 19, 228, 554, 555, 556, 557, 294, 558, 559, 560, 144, 229, 230, 231, 190, 232, 210, 215, 216, 561, 562, 563, 564, 565, 566, 567, 568, 34, 35, 36, 37, 38, 40, 569, 570, 571, 572, 573, 574, 575, 576, 605, 606, 607, 608, 772, 773, 774, 775, 187, 188, 29, 25, 757, 758, 759, 760, 628, 629, 630, 631, 776, 777, 778, 779, 24, 325, 326, 327, 328, 963, 964, 965, 966, 967, 968, 969, 970, 971, 972, 1000, 1001, 1002, 1003, 1004, 1005, 1006, 1007, 1008, 1009, 1010, 1011, 1014, 1015, 1016, 1017, 1018, 1019, 1020, 1021, 1022, 1023, 1024, 1025, 1026, 1027] (by decide +kernel) (by decide +kernel)) (goodIn_sub (fun _ h => List.mem_append_left _ (List.mem_append_left _ (List.mem_append_left _ (List.mem_append_left _ (List.mem_append_left _ (List.mem_append_left _ (List.mem_append_left _ (List.mem_append_right _ h)))))))) (by decide +kernel))) (goodIn_sub (fun _ h => List.mem_append_left _ (List.mem_append_left _ (List.mem_append_left _ (List.mem_append_left _ (List.mem_append_right _ h))))) (by decide +kernel))) (goodIn_sub (fun _ h => List.mem_append_left _ (List.mem_append_left _ (List.mem_append_left _ (List.mem_append_right _ h)))) (by decide +kernel))
set_option maxRecDepth 20000 in
theorem gL_law_L_cuePart : GoodIn wsL_law (va_wsS RL 236 yL_cuePart wsL_cuePart) := goodIn_app (goodIn_of _ (by decide +kernel)) ggL_law_L_cuePart
set_option maxRecDepth 20000 in
theorem ggL_law_X5_cuePart : GoodIn wsL_law wsX5_cuePart := goodIn_ca (goodIn_r _ [783, 586, 587, 588, 5, 589, 99, 242, 243, 244, 245, 100, 101, 102, 103, 617, 618, 619, 620, 585, 69, 590, 591, 592, 593, 135, 62, 68, 337, 338, 339, 340, 241, 254, 255, 256, 257, 63, 54, 55, 104, 105, 106, 107, 784, 785, 786, 787, 67, 710, 711, 712, 713, 714, 559, 556, 560, 973, 974, 975, 976, 977, 978, 979, 980, 981, 982, 983, 984, 985, 986, 987, 988, 989, 990, 991, 992, 993, 994, 995, 996, 997, 998, 999] (by decide +kernel) (by decide +kernel)) (goodIn_sub (fun _ h => List.mem_append_left _ (List.mem_append_left _ (List.mem_append_left _ (List.mem_append_left _ (List.mem_append_left _ (List.mem_append_left _ (List.mem_append_left _ (List.mem_append_right _ h)))))))) (by decide +kernel))
set_option maxRecDepth 20000 in
theorem gL_law_X5_cuePart : GoodIn wsL_law (wsV RL 238 RX5 yX5_cuePart wsX5_cuePart) := goodIn_app (goodIn_of _ (by decide +kernel)) ggL_law_X5_cuePart
set_option maxRecDepth 20000 in
theorem ggL_law_L_cuePitch : GoodIn wsL_law wsL_cuePitch := goodIn_ca (goodIn_ca (goodIn_ca (goodIn_ca (goodIn_r _ [790, 139, 182, 261, 791, 792, 793, 2, 794, 23, 266, 420, 191, 192, 193, 194, 149, 150, 195, 196, 197, 198, 15, 601, 602, 603, 604, 541, 542, 543, 544, 27, 28, 17, 545, 546, 547, 22, 548, 45, 46, 44, 549, 550, 551, 552, 553, 19, 228, 554, 555, 556, 557, 294, 558, 559, 560, 144, 229, 230, 231, 190, 232, 210, 215, 216, 561, 562, 563, 564, 565, 566, 567, 568, 34, 35, 36, 37, 38, 40, 569, 570, 571, 572, 573, 574, 575, 576, 605, 606, 607, 608, 772, 773, 774, 775, 187, 188, 29, 25, 757, 758, 759, 760, 628, 629, 630, 631, 776, 777, 778, 779, 24, 325, 326, 327, 328, 348, 349, 350, 351, 272, 273, 352, 353, 354, 355, 225, 226, 356, 357, 358, 359, 218, 217, 268, 269, 270, 271, 274, 275, 276, 277, 278, 963, 964, 965, 966, 967, 968, 969, 970, 971, 972, 1017, 1018, 1019, 1020, 1021, 1022, 1023, 1024, 1025, 1026, 1027, 1012, 1013, 1000, 1001, 1002, 1003, 1004, 1005, 1006, 1007, 1008, 1009, 1010, 1011, 1014, 1015, 1016] (by decide +kernel) (by decide +kernel)) (goodIn_sub (fun _ h => List.mem_append_left _ (List.mem_append_left _ (List.mem_append_left _ (List.mem_append_left _ (List.mem_append_left _ (List.mem_append_left _ (List.mem_append_left _ (List.mem_append_right _ h)))))))) (by decide +kernel))) (goodIn_sub (fun _ h => List.mem_append_left _ (List.mem_append_left _ (List.mem_append_left _ (List.mem_append_left _ (List.mem_append_right _ h))))) (by decide +kernel))) (goodIn_sub (fun _ h => List.mem_append_left _ (List.mem_append_left _ (List.mem_append_left _ (List.mem_append_right _ h)))) (by decide +kernel))) (goodIn_sub (fun _ h => List.mem_append_left _ (List.mem_append_left _ (List.mem_append_right _ h))) (by decide +kernel))
set_option maxRecDepth 20000 in
theorem gL_law_L_cuePitch : GoodIn wsL_law (va_wsS RL 239 yL_cuePitch wsL_cuePitch) := goodIn_app (goodIn_of _ (by decide +kernel)) ggL_law_L_cuePitch
set_option maxRecDepth 20000 in
theorem ggL_law_X5_cuePitch : GoodIn wsL_law wsX5_cuePitch := goodIn_ca (goodIn_r _ [798, 99, 59, 51, 799, 781, 782, 5, 783, 586, 587, 588, 589, 242, 243, 244, 245, 100, 101, 102, 103, 617, 618, 619, 620, 585, 69, 590, 591, 592, 593, 135, 62, 68, 337, 338, 339, 340, 241, 254, 255, 256, 257, 63, 54, 55, 104, 105, 106, 107, 784, 785, 786, 787, 67, 710, 711, 712, 713, 714, 559, 556, 560, 364, 365, 366, 367, 57, 56, 973, 974, 975, 976, 977, 978, 979, 980, 981, 982, 983, 984, 985, 986, 987, 988, 989, 990, 991, 992, 993, 994, 995, 996, 997, 998, 999] (by decide +kernel) (by decide +kernel)) (goodIn_sub (fun _ h => List.mem_append_left _ (List.mem_append_left _ (List.mem_append_left _ (List.mem_append_left _ (List.mem_append_left _ (List.mem_append_left _ (List.mem_append_left _ (List.mem_append_right _ h)))))))) (by decide +kernel))
set_option maxRecDepth 20000 in
theorem gL_law_X5_cuePitch : GoodIn wsL_law (wsV RL 241 RX5 yX5_cuePitch wsX5_cuePitch) := goodIn_app (goodIn_of _ (by decide +kernel)) ggL_law_X5_cuePitch
set_option maxRecDepth 20000 in
theorem ggL_law_L_copyOut : GoodIn wsL_law wsL_copyOut := goodIn_ca (goodIn_ca (goodIn_r _ [802, 139, 803, 804, 805, 2, 806, 807, 191, 192, 193, 194, 149, 150, 195, 196, 197, 198, 15, 808, 809, 810, 811, 19, 225, 812, 813, 814, 190, 815, 210, 211, 220, 213, 219, 212, 214, 306, 307, 308, 309, 274, 1012, 1013, 963, 964, 965, 966, 967, 968, 969, 970, 971, 972, 1017, 1018, 1019, 1020, 1021, 1022, 1023, 1024, 1025, 1026, 1027] (by decide +kernel) (by decide +kernel)) (goodIn_sub (fun _ h => List.mem_append_left _ (List.mem_append_left _ (List.mem_append_left _ (List.mem_append_left _ (List.mem_append_left _ (List.mem_append_left _ (List.mem_append_left _ (List.mem_append_right _ h)))))))) (by decide +kernel))) (goodIn_sub (fun _ h => List.mem_append_left _ (List.mem_append_left _ (List.mem_append_left _ (List.mem_append_left _ (List.mem_append_right _ h))))) (by decide +kernel))
set_option maxRecDepth 20000 in
theorem gL_law_L_copyOut : GoodIn wsL_law (va_wsS RL 242 yL_copyOut wsL_copyOut) := goodIn_app (goodIn_of _ (by decide +kernel)) ggL_law_L_copyOut
set_option maxRecDepth 20000 in
theorem ggL_law_X5_copyOut : GoodIn wsL_law wsX5_copyOut := goodIn_ca (goodIn_r _ [819, 586, 587, 588, 5, 589, 99, 242, 243, 244, 245, 100, 101, 102, 103, 820, 821, 822, 823, 64, 241, 54, 60, 63, 58, 61, 59, 314, 315, 316, 317, 973, 974, 975, 976, 977, 978, 979, 980, 981, 982, 983, 984, 985, 986, 987, 988, 989, 990, 991, 992, 993, 994, 995, 996, 997, 998, 999] (by decide +kernel) (by decide +kernel)) (goodIn_sub (fun _ h => List.mem_append_left _ (List.mem_append_left _ (List.mem_append_left _ (List.mem_append_left _ (List.mem_append_left _ (List.mem_append_left _ (List.mem_append_left _ (List.mem_append_right _ h)))))))) (by decide +kernel))
set_option maxRecDepth 20000 in
theorem gL_law_X5_copyOut : GoodIn wsL_law (wsV RL 244 RX5 yX5_copyOut wsX5_copyOut) := goodIn_app (goodIn_of _ (by decide +kernel)) ggL_law_X5_copyOut
set_option maxRecDepth 20000 in
theorem ggL_law_L_carry : GoodIn wsL_law wsL_carry := goodIn_ca (goodIn_ca (goodIn_ca (goodIn_r _ [826, 139, 78, 827, 828, 829, 2, 830, 831, 832, 833, 834, 85, 86, 807, 191, 192, 193, 194, 149, 150, 195, 196, 197, 198, 15, 835, 836, 837, 838, 19, 225, 267, 839, 840, 841, 190, 842, 210, 211, 220, 213, 219, 212, 808, 809, 810, 811, 812, 813, 814, 815, 214, 1012, 1013, 963, 964, 965, 966, 967, 968, 969, 970, 971, 972, 1017, 1018, 1019, 1020, 1021, 1022, 1023, 1024, 1025, 1026, 1027] (by decide +kernel) (by decide +kernel)) (goodIn_sub (fun _ h => List.mem_append_left _ (List.mem_append_left _ (List.mem_append_left _ (List.mem_append_left _ (List.mem_append_left _ (List.mem_append_left _ (List.mem_append_left _ (List.mem_append_right _ h)))))))) (by decide +kernel))) (goodIn_sub (fun _ h => List.mem_append_left _ (List.mem_append_left _ (List.mem_append_left _ (List.mem_append_left _ (List.mem_append_left _ (List.mem_append_right _ h)))))) (by decide +kernel))) (goodIn_sub (fun _ h => List.mem_append_left _ (List.mem_append_left _ (List.mem_append_left _ (List.mem_append_left _ (List.mem_append_right _ h))))) (by decide +kernel))
set_option maxRecDepth 20000 in
theorem gL_law_L_carry : GoodIn wsL_law (va_wsS RL 245 yL_carry wsL_carry) := goodIn_app (goodIn_of _ (by decide +kernel)) ggL_law_L_carry
set_option maxRecDepth 20000 in
theorem ggL_law_X5_carry : GoodIn wsL_law wsX5_carry := goodIn_ca (goodIn_r _ [846, 847, 848, 849, 5, 850, 64, 99, 586, 587, 588, 589, 242, 243, 244, 245, 100, 101, 102, 103, 104, 105, 106, 107, 851, 852, 853, 854, 241, 54, 63, 60, 58, 61, 59, 820, 821, 822, 823, 973, 974, 975, 976, 977, 978, 979, 980, 981, 982, 983, 984, 985, 986, 987, 988, 989, 990, 991, 992, 993, 994, 995, 996, 997, 998, 999] (by decide +kernel) (by decide +kernel)) (goodIn_sub (fun _ h => List.mem_append_left _ (List.mem_append_left _ (List.mem_append_left _ (List.mem_append_left _ (List.mem_append_left _ (List.mem_append_left _ (List.mem_append_left _ (List.mem_append_right _ h)))))))) (by decide +kernel))
set_option maxRecDepth 20000 in
theorem gL_law_X5_carry : GoodIn wsL_law (wsV RL 247 RX5 yX5_carry wsX5_carry) := goodIn_app (goodIn_of _ (by decide +kernel)) ggL_law_X5_carry
set_option maxRecDepth 20000 in
theorem ggL_law_L_differences : GoodIn wsL_law wsL_differences := goodIn_ca (goodIn_ca (goodIn_ca (goodIn_r _ [857, 139, 78, 858, 859, 860, 2, 861, 831, 832, 833, 834, 85, 86, 807, 191, 192, 193, 194, 149, 150, 195, 196, 197, 198, 15, 835, 836, 837, 838, 19, 225, 267, 839, 840, 841, 190, 842, 210, 211, 220, 213, 219, 212, 1012, 1013, 963, 964, 965, 966, 967, 968, 969, 970, 971, 972, 1017, 1018, 1019, 1020, 1021, 1022, 1023, 1024, 1025, 1026, 1027] (by decide +kernel) (by decide +kernel)) (goodIn_sub (fun _ h => List.mem_append_left _ (List.mem_append_left _ (List.mem_append_left _ (List.mem_append_left _ (List.mem_append_left _ (List.mem_append_left _ (List.mem_append_left _ (List.mem_append_right _ h)))))))) (by decide +kernel))) (goodIn_sub (fun _ h => List.mem_append_left _ (List.mem_append_left _ (List.mem_append_left _ (List.mem_append_left _ (List.mem_append_left _ (List.mem_append_right _ h)))))) (by decide +kernel))) (goodIn_sub (fun _ h => List.mem_append_left _ (List.mem_append_left _ (List.mem_append_left _ (List.mem_append_left _ (List.mem_append_right _ h))))) (by decide +kernel))
set_option maxRecDepth 20000 in
theorem gL_law_L_differences : GoodIn wsL_law (va_wsS RL 248 yL_differences wsL_differences) := goodIn_app (goodIn_of _ (by decide +kernel)) ggL_law_L_differences
set_option maxRecDepth 20000 in
theorem ggL_law_X5_differences : GoodIn wsL_law wsX5_differences := goodIn_ca (goodIn_r _ [865, 847, 848, 849, 5, 850, 64, 99, 586, 587, 588, 589, 242, 243, 244, 245, 100, 101, 102, 103, 104, 105, 106, 107, 851, 852, 853, 854, 241, 54, 63, 60, 58, 61, 59, 973, 974, 975, 976, 977, 978, 979, 980, 981, 982, 983, 984, 985, 986, 987, 988, 989, 990, 991, 992, 993, 994, 995, 996, 997, 998, 999] (by decide +kernel) (by decide +kernel)) (goodIn_sub (fun _ h => List.mem_append_left _ (List.mem_append_left _ (List.mem_append_left _ (List.mem_append_left _ (List.mem_append_left _ (List.mem_append_left _ (List.mem_append_left _ (List.mem_append_right _ h)))))))) (by decide +kernel))
set_option maxRecDepth 20000 in
theorem gL_law_X5_differences : GoodIn wsL_law (wsV RL 250 RX5 yX5_differences wsX5_differences) := goodIn_app (goodIn_of _ (by decide +kernel)) ggL_law_X5_differences
set_option maxRecDepth 20000 in
theorem ggL_law_L_differencesByComparing : GoodIn wsL_law wsL_differencesByComparing := goodIn_ca (goodIn_ca (goodIn_ca (goodIn_r _ [868, 139, 78, 869, 870, 871, 2, 872, 831, 832, 833, 834, 85, 86, 807, 191, 192, 193, 194, 149, 150, 195, 196, 197, 198, 15, 873, 874, 875, 876, 19, 225, 839, 840, 841, 190, 842, 210, 211, 220, 213, 219, 212, 1012, 1013, 963, 964, 965, 966, 967, 968, 969, 970, 971, 972, 1017, 1018, 1019, 1020, 1021, 1022, 1023, 1024, 1025, 1026, 1027] (by decide +kernel) (by decide +kernel)) (goodIn_sub (fun _ h => List.mem_append_left _ (List.mem_append_left _ (List.mem_append_left _ (List.mem_append_left _ (List.mem_append_left _ (List.mem_append_left _ (List.mem_append_left _ (List.mem_append_right _ h)))))))) (by decide +kernel))) (goodIn_sub (fun _ h => List.mem_append_left _ (List.mem_append_left _ (List.mem_append_left _ (List.mem_append_left _ (List.mem_append_left _ (List.mem_append_right _ h)))))) (by decide +kernel))) (goodIn_sub (fun _ h => List.mem_append_left _ (List.mem_append_left _ (List.mem_append_left _ (List.mem_append_left _ (List.mem_append_right _ h))))) (by decide +kernel))
set_option maxRecDepth 20000 in
theorem gL_law_L_differencesByComparing : GoodIn wsL_law (va_wsS RL 251 yL_differencesByComparing wsL_differencesByComparing) := goodIn_app (goodIn_of _ (by decide +kernel)) ggL_law_L_differencesByComparing
set_option maxRecDepth 20000 in
theorem ggL_law_X5_differencesByComparing : GoodIn wsL_law wsX5_differencesByComparing := goodIn_ca (goodIn_r _ [880, 881, 863, 864, 5, 865, 847, 848, 849, 850, 64, 99, 586, 587, 588, 589, 242, 243, 244, 245, 100, 101, 102, 103, 104, 105, 106, 107, 851, 852, 853, 854, 241, 54, 63, 60, 58, 61, 59, 973, 974, 975, 976, 977, 978, 979, 980, 981, 982, 983, 984, 985, 986, 987, 988, 989, 990, 991, 992, 993, 994, 995, 996, 997, 998, 999] (by decide +kernel) (by decide +kernel)) (goodIn_sub (fun _ h => List.mem_append_left _ (List.mem_append_left _ (List.mem_append_left _ (List.mem_append_left _ (List.mem_append_left _ (List.mem_append_left _ (List.mem_append_left _ (List.mem_append_right _ h)))))))) (by decide +kernel))
set_option maxRecDepth 20000 in
theorem gL_law_X5_differencesByComparing : GoodIn wsL_law (wsV RL 253 RX5 yX5_differencesByComparing wsX5_differencesByComparing) := goodIn_app (goodIn_of _ (by decide +kernel)) ggL_law_X5_differencesByComparing
set_option maxRecDepth 20000 in
theorem ggL_law_L_copied : GoodIn wsL_law wsL_copied := goodIn_ca (goodIn_ca (goodIn_ca (goodIn_r _ [884, 261, 78, 885, 886, 887, 2, 888, 272, 273, 85, 86, 225, 807, 889, 890, 420, 275, 276, 277, 278, 19, 195, 196, 197, 198, 15, 1017, 1018, 1019, 1020, 1021, 1022, 1023, 1024, 1025, 1026, 1027, 1012, 1013, 963, 964, 965, 966, 967, 968, 969, 970, 971, 972] (by decide +kernel) (by decide +kernel)) (goodIn_sub (fun _ h => List.mem_append_left _ (List.mem_append_left _ (List.mem_append_left _ (List.mem_append_left _ (List.mem_append_left _ (List.mem_append_left _ (List.mem_append_left _ (List.mem_append_right _ h)))))))) (by decide +kernel))) (goodIn_sub (fun _ h => List.mem_append_left _ (List.mem_append_left _ (List.mem_append_right _ h))) (by decide +kernel))) (goodIn_sub (fun _ h => List.mem_append_left _ (List.mem_append_left _ (List.mem_append_left _ (List.mem_append_left _ (List.mem_append_left _ (List.mem_append_right _ h)))))) (by decide +kernel))
set_option maxRecDepth 20000 in
theorem gL_law_L_copied : GoodIn wsL_law (va_wsS RL 254 yL_copied wsL_copied) := goodIn_app (goodIn_of _ (by decide +kernel)) ggL_law_L_copied
set_option maxRecDepth 20000 in
theorem ggL_law_X5_copied : GoodIn wsL_law wsX5_copied := goodIn_ca (goodIn_r _ [894, 99, 241, 64, 54, 60, 61, 51, 101, 102, 5, 103, 104, 105, 106, 107, 973, 974, 975, 976, 977, 978, 979, 980, 981, 982, 983, 984, 985, 986, 987, 988, 989, 990, 991, 992, 993, 994, 995, 996, 997, 998, 999] (by decide +kernel) (by decide +kernel)) (goodIn_sub (fun _ h => List.mem_append_left _ (List.mem_append_left _ (List.mem_append_left _ (List.mem_append_left _ (List.mem_append_left _ (List.mem_append_left _ (List.mem_append_left _ (List.mem_append_right _ h)))))))) (by decide +kernel))
set_option maxRecDepth 20000 in
theorem gL_law_X5_copied : GoodIn wsL_law (wsV RL 256 RX5 yX5_copied wsX5_copied) := goodIn_app (goodIn_of _ (by decide +kernel)) ggL_law_X5_copied
set_option maxRecDepth 20000 in
theorem ggL_law_X4_ticks : GoodIn wsL_law wsX4_ticks := goodIn_r _ [898, 19, 274, 294, 963, 964, 965, 966, 967, 968, 969, 970, 971, 972, 1017, 1018, 1019, 1020, 1021, 1022, 1023, 1024, 1025, 1026, 1027] (by decide +kernel) (by decide +kernel)
set_option maxRecDepth 20000 in
theorem gL_law_X4_ticks : GoodIn wsL_law (wsV RL 257 RX4 yX4_ticks wsX4_ticks) := goodIn_app (goodIn_of _ (by decide +kernel)) ggL_law_X4_ticks
set_option maxRecDepth 20000 in
theorem ggL_law_X5_ticks : GoodIn wsL_law wsX5_ticks := goodIn_ca (goodIn_r _ [902, 99, 241, 63, 58, 973, 974, 975, 976, 977, 978, 979, 980, 981, 982, 983, 984, 985, 986, 987, 988, 989, 990, 991, 992, 993, 994, 995, 996, 997, 998, 999] (by decide +kernel) (by decide +kernel)) (goodIn_sub (fun _ h => List.mem_append_left _ (List.mem_append_left _ (List.mem_append_left _ (List.mem_append_left _ (List.mem_append_left _ (List.mem_append_left _ (List.mem_append_left _ (List.mem_append_right _ h)))))))) (by decide +kernel))
set_option maxRecDepth 20000 in
theorem gL_law_X5_ticks : GoodIn wsL_law (wsV RL 261 RX5 yX5_ticks wsX5_ticks) := goodIn_app (goodIn_of _ (by decide +kernel)) ggL_law_X5_ticks
set_option maxRecDepth 20000 in
theorem ggL_law_L_meanPitch : GoodIn wsL_law wsL_meanPitch := goodIn_ca (goodIn_ca (goodIn_ca (goodIn_r _ [905, 139, 906, 907, 908, 909, 2, 910, 911, 912, 191, 192, 193, 194, 149, 150, 195, 196, 197, 198, 15, 306, 307, 308, 309, 19, 274, 225, 913, 914, 915, 916, 266, 963, 964, 965, 966, 967, 968, 969, 970, 971, 972, 1017, 1018, 1019, 1020, 1021, 1022, 1023, 1024, 1025, 1026, 1027] (by decide +kernel) (by decide +kernel)) (goodIn_sub (fun _ h => List.mem_append_left _ (List.mem_append_left _ (List.mem_append_left _ (List.mem_append_left _ (List.mem_append_left _ (List.mem_append_left _ (List.mem_append_left _ (List.mem_append_right _ h)))))))) (by decide +kernel))) (goodIn_sub (fun _ h => List.mem_append_right _ h) (by decide +kernel))) (goodIn_sub (fun _ h => List.mem_append_left _ (List.mem_append_left _ (List.mem_append_left _ (List.mem_append_left _ (List.mem_append_right _ h))))) (by decide +kernel))
set_option maxRecDepth 20000 in
theorem gL_law_L_meanPitch : GoodIn wsL_law (va_wsS RL 262 yL_meanPitch wsL_meanPitch) := goodIn_app (goodIn_of _ (by decide +kernel)) ggL_law_L_meanPitch
set_option maxRecDepth 20000 in
theorem ggL_law_X5_meanPitch : GoodIn wsL_law wsX5_meanPitch := goodIn_ca (goodIn_r _ [920, 241, 63, 54, 59, 586, 587, 588, 5, 589, 99, 242, 243, 244, 245, 100, 101, 102, 103, 314, 315, 316, 317, 104, 105, 106, 107, 973, 974, 975, 976, 977, 978, 979, 980, 981, 982, 983, 984, 985, 986, 987, 988, 989, 990, 991, 992, 993, 994, 995, 996, 997, 998, 999] (by decide +kernel) (by decide +kernel)) (goodIn_sub (fun _ h => List.mem_append_left _ (List.mem_append_left _ (List.mem_append_left _ (List.mem_append_left _ (List.mem_append_left _ (List.mem_append_left _ (List.mem_append_left _ (List.mem_append_right _ h)))))))) (by decide +kernel))
set_option maxRecDepth 20000 in
theorem gL_law_X5_meanPitch : GoodIn wsL_law (wsV RL 265 RX5 yX5_meanPitch wsX5_meanPitch) := goodIn_app (goodIn_of _ (by decide +kernel)) ggL_law_X5_meanPitch
set_option maxRecDepth 20000 in
theorem ggL_law_L_restShare : GoodIn wsL_law wsL_restShare := goodIn_ca (goodIn_ca (goodIn_ca (goodIn_r _ [923, 139, 906, 924, 925, 926, 2, 927, 911, 912, 25, 191, 192, 193, 194, 149, 150, 195, 196, 197, 198, 15, 928, 929, 930, 931, 325, 326, 327, 328, 19, 229, 230, 231, 190, 232, 210, 215, 216, 963, 964, 965, 966, 967, 968, 969, 970, 971, 972, 1017, 1018, 1019, 1020, 1021, 1022, 1023, 1024, 1025, 1026, 1027] (by decide +kernel) (by decide +kernel)) (goodIn_sub (fun _ h => List.mem_append_left _ (List.mem_append_left _ (List.mem_append_left _ (List.mem_append_left _ (List.mem_append_left _ (List.mem_append_left _ (List.mem_append_left _ (List.mem_append_right _ h)))))))) (by decide +kernel))) (goodIn_sub (fun _ h => List.mem_append_right _ h) (by decide +kernel))) (goodIn_sub (fun _ h => List.mem_append_left _ (List.mem_append_left _ (List.mem_append_left _ (List.mem_append_left _ (List.mem_append_right _ h))))) (by decide +kernel))
set_option maxRecDepth 20000 in
theorem gL_law_L_restShare : GoodIn wsL_law (va_wsS RL 266 yL_restShare wsL_restShare) := goodIn_app (goodIn_of _ (by decide +kernel)) ggL_law_L_restShare
set_option maxRecDepth 20000 in
theorem ggL_law_X5_restShare : GoodIn wsL_law wsX5_restShare := goodIn_ca (goodIn_r _ [935, 135, 586, 587, 588, 5, 589, 99, 242, 243, 244, 245, 100, 101, 102, 103, 104, 105, 106, 107, 337, 338, 339, 340, 241, 254, 255, 256, 257, 63, 54, 55, 973, 974, 975, 976, 977, 978, 979, 980, 981, 982, 983, 984, 985, 986, 987, 988, 989, 990, 991, 992, 993, 994, 995, 996, 997, 998, 999] (by decide +kernel) (by decide +kernel)) (goodIn_sub (fun _ h => List.mem_append_left _ (List.mem_append_left _ (List.mem_append_left _ (List.mem_append_left _ (List.mem_append_left _ (List.mem_append_left _ (List.mem_append_left _ (List.mem_append_right _ h)))))))) (by decide +kernel))
set_option maxRecDepth 20000 in
theorem gL_law_X5_restShare : GoodIn wsL_law (wsV RL 268 RX5 yX5_restShare wsX5_restShare) := goodIn_app (goodIn_of _ (by decide +kernel)) ggL_law_X5_restShare
set_option maxRecDepth 20000 in
theorem ggL_law_X4_isTrue : GoodIn wsL_law wsX4_isTrue := goodIn_ca (goodIn_r _ [939, 15, 940, 941, 942, 2, 943, 23, 541, 542, 543, 544, 27, 28, 17, 545, 546, 547, 22, 548, 45, 46, 44, 549, 550, 551, 552, 553, 19, 228, 554, 555, 556, 557, 294, 558, 559, 560, 144, 229, 230, 231, 190, 232, 210, 215, 216, 561, 562, 563, 564, 565, 566, 567, 568, 34, 35, 36, 37, 38, 40, 569, 570, 571, 572, 573, 574, 575, 576, 676, 677, 678, 679, 41, 680, 42, 43, 681, 682, 683, 684, 685, 686, 687, 688, 689, 690, 691, 692, 722, 723, 724, 725, 944, 945, 946, 947, 807, 195, 196, 197, 198, 835, 836, 837, 838, 225, 267, 839, 840, 841, 842, 211, 220, 213, 219, 212, 873, 874, 875, 876, 948, 949, 950, 951, 274, 952, 953, 954, 955, 461, 462, 463, 464, 226, 174, 420, 151, 152, 153, 154, 436, 437, 438, 439, 440, 441, 442, 416, 417, 418, 419, 266, 465, 466, 467, 956, 957, 958, 524, 525, 526, 527, 528, 529, 963, 964, 965, 966, 967, 968, 969, 970, 971, 972, 1000, 1001, 1002, 1003, 1004, 1005, 1006, 1007, 1008, 1009, 1010, 1011, 1014, 1015, 1016, 1017, 1018, 1019, 1020, 1021, 1022, 1023, 1024, 1025, 1026, 1027, 1012, 1013] (by decide +kernel) (by decide +kernel)) (goodIn_sub (fun _ h => List.mem_append_left _ (List.mem_append_left _ (List.mem_append_left _ (List.mem_append_left _ (List.mem_append_left _ (List.mem_append_left _ (List.mem_append_left _ (List.mem_append_right _ h)))))))) (by decide +kernel))
set_option maxRecDepth 20000 in
theorem gL_law_X4_isTrue : GoodIn wsL_law (wsV RL 269 RX4 yX4_isTrue wsX4_isTrue) := goodIn_app (goodIn_of _ (by decide +kernel)) ggL_law_X4_isTrue
set_option maxRecDepth 20000 in
theorem ggL_law_X5_isTrue : GoodIn wsL_law wsX5_isTrue := goodIn_r _ [962, 99, 973, 974, 975, 976, 977, 978, 979, 980, 981, 982, 983, 984, 985, 986, 987, 988, 989, 990, 991, 992, 993, 994, 995, 996, 997, 998, 999] (by decide +kernel) (by decide +kernel)
set_option maxRecDepth 20000 in
theorem gL_law_X5_isTrue : GoodIn wsL_law (wsV RL 273 RX5 yX5_isTrue wsX5_isTrue) := goodIn_app (goodIn_of _ (by decide +kernel)) ggL_law_X5_isTrue
theorem dL_law_0 : decode cL_law 0 = .ok (.new 8, 3) := by decide +kernel
theorem dL_law_3 : decode cL_law 3 = .ok (.dup, 1) := by decide +kernel
theorem dL_law_4 : decode cL_law 4 = .ok (.invokespecial 139, 3) := by decide +kernel
theorem dL_law_7 : decode cL_law 7 = .ok (.astore_n 1, 1) := by decide +kernel
theorem dL_law_8 : decode cL_law 8 = .ok (.new 140, 3) := by decide +kernel
theorem dL_law_11 : decode cL_law 11 = .ok (.dup, 1) := by decide +kernel
theorem dL_law_12 : decode cL_law 12 = .ok (.invokespecial 142, 3) := by decide +kernel
theorem dL_law_15 : decode cL_law 15 = .ok (.astore_n 2, 1) := by decide +kernel
theorem dL_law_16 : decode cL_law 16 = .ok (.iconst 1, 1) := by decide +kernel
theorem dL_law_17 : decode cL_law 17 = .ok (.newarray .long, 2) := by decide +kernel
theorem dL_law_19 : decode cL_law 19 = .ok (.astore_n 3, 1) := by decide +kernel
theorem dL_law_20 : decode cL_law 20 = .ok (.iconst 1, 1) := by decide +kernel
theorem dL_law_21 : decode cL_law 21 = .ok (.newarray .double, 2) := by decide +kernel
theorem dL_law_23 : decode cL_law 23 = .ok (.astore 4, 2) := by decide +kernel
theorem dL_law_25 : decode cL_law 25 = .ok (.iconst 0, 1) := by decide +kernel
theorem dL_law_26 : decode cL_law 26 = .ok (.istore 5, 2) := by decide +kernel
theorem dL_law_28 : decode cL_law 28 = .ok (.iload 5, 2) := by decide +kernel
theorem dL_law_30 : decode cL_law 30 = .ok (.aload_n 0, 1) := by decide +kernel
theorem dL_law_31 : decode cL_law 31 = .ok (.arraylength, 1) := by decide +kernel
theorem dL_law_32 : decode cL_law 32 = .ok (.bipush 7, 2) := by decide +kernel
theorem dL_law_34 : decode cL_law 34 = .ok (.isub, 1) := by decide +kernel
theorem dL_law_35 : decode cL_law 35 = .ok (.if_icmp .gt 2581, 3) := by decide +kernel
theorem dL_law_38 : decode cL_law 38 = .ok (.aload_n 0, 1) := by decide +kernel
theorem dL_law_39 : decode cL_law 39 = .ok (.iload 5, 2) := by decide +kernel
theorem dL_law_41 : decode cL_law 41 = .ok (.iaload, 1) := by decide +kernel
theorem dL_law_42 : decode cL_law 42 = .ok (.bipush 63, 2) := by decide +kernel
theorem dL_law_44 : decode cL_law 44 = .ok (.iand, 1) := by decide +kernel
theorem dL_law_45 : decode cL_law 45 = .ok (.tableswitch 2565 0 37 #[167, 223, 319, 410, 478, 596, 664, 732, 788, 856, 936, 992, 1048, 1123, 1179, 1247, 1303, 1359, 1415, 1483, 1551, 1607, 1663, 1719, 1775, 1831, 1887, 1955, 2023, 2103, 2159, 2215, 2271, 2327, 2383, 2397, 2474, 2552], 167) := by decide +kernel
theorem dL_law_212 : decode cL_law 212 = .ok (.aload_n 1, 1) := by decide +kernel
theorem dL_law_213 : decode cL_law 213 = .ok (.aload_n 0, 1) := by decide +kernel
theorem dL_law_214 : decode cL_law 214 = .ok (.iload 5, 2) := by decide +kernel
theorem dL_law_216 : decode cL_law 216 = .ok (.iconst 1, 1) := by decide +kernel
theorem dL_law_217 : decode cL_law 217 = .ok (.iadd, 1) := by decide +kernel
theorem dL_law_218 : decode cL_law 218 = .ok (.iaload, 1) := by decide +kernel
theorem dL_law_219 : decode cL_law 219 = .ok (.aload_n 3, 1) := by decide +kernel
theorem dL_law_220 : decode cL_law 220 = .ok (.invokestatic 143, 3) := by decide +kernel
theorem dL_law_223 : decode cL_law 223 = .ok (.istore 6, 2) := by decide +kernel
theorem dL_law_225 : decode cL_law 225 = .ok (.aload_n 2, 1) := by decide +kernel
theorem dL_law_226 : decode cL_law 226 = .ok (.aload_n 0, 1) := by decide +kernel
theorem dL_law_227 : decode cL_law 227 = .ok (.iload 5, 2) := by decide +kernel
theorem dL_law_229 : decode cL_law 229 = .ok (.iconst 1, 1) := by decide +kernel
theorem dL_law_230 : decode cL_law 230 = .ok (.iadd, 1) := by decide +kernel
theorem dL_law_231 : decode cL_law 231 = .ok (.iaload, 1) := by decide +kernel
theorem dL_law_232 : decode cL_law 232 = .ok (.invokevirtual 148, 3) := by decide +kernel
theorem dL_law_235 : decode cL_law 235 = .ok (.istore 7, 2) := by decide +kernel
theorem dL_law_237 : decode cL_law 237 = .ok (.aload_n 2, 1) := by decide +kernel
theorem dL_law_238 : decode cL_law 238 = .ok (.invokevirtual 149, 3) := by decide +kernel
theorem dL_law_241 : decode cL_law 241 = .ok (.iload 6, 2) := by decide +kernel
theorem dL_law_243 : decode cL_law 243 = .ok (.if_icmp .eq 5, 3) := by decide +kernel
theorem dL_law_246 : decode cL_law 246 = .ok (.iconst 0, 1) := by decide +kernel
theorem dL_law_247 : decode cL_law 247 = .ok (.ireturn, 1) := by decide +kernel
theorem dL_law_248 : decode cL_law 248 = .ok (.iload 6, 2) := by decide +kernel
theorem dL_law_250 : decode cL_law 250 = .ok (.ifCond .ne 15, 3) := by decide +kernel
theorem dL_law_253 : decode cL_law 253 = .ok (.aload_n 3, 1) := by decide +kernel
theorem dL_law_254 : decode cL_law 254 = .ok (.iconst 0, 1) := by decide +kernel
theorem dL_law_255 : decode cL_law 255 = .ok (.laload, 1) := by decide +kernel
theorem dL_law_256 : decode cL_law 256 = .ok (.iload 7, 2) := by decide +kernel
theorem dL_law_258 : decode cL_law 258 = .ok (.i2l, 1) := by decide +kernel
theorem dL_law_259 : decode cL_law 259 = .ok (.lcmp, 1) := by decide +kernel
theorem dL_law_260 : decode cL_law 260 = .ok (.ifCond .eq 5, 3) := by decide +kernel
theorem dL_law_263 : decode cL_law 263 = .ok (.iconst 0, 1) := by decide +kernel
theorem dL_law_264 : decode cL_law 264 = .ok (.ireturn, 1) := by decide +kernel
theorem dL_law_265 : decode cL_law 265 = .ok (.goto 2345, 3) := by decide +kernel
theorem dL_law_268 : decode cL_law 268 = .ok (.aload_n 1, 1) := by decide +kernel
theorem dL_law_269 : decode cL_law 269 = .ok (.aload_n 0, 1) := by decide +kernel
theorem dL_law_270 : decode cL_law 270 = .ok (.iload 5, 2) := by decide +kernel
theorem dL_law_272 : decode cL_law 272 = .ok (.iconst 1, 1) := by decide +kernel
theorem dL_law_273 : decode cL_law 273 = .ok (.iadd, 1) := by decide +kernel
theorem dL_law_274 : decode cL_law 274 = .ok (.iaload, 1) := by decide +kernel
theorem dL_law_275 : decode cL_law 275 = .ok (.aload_n 0, 1) := by decide +kernel
theorem dL_law_276 : decode cL_law 276 = .ok (.iload 5, 2) := by decide +kernel
theorem dL_law_278 : decode cL_law 278 = .ok (.iconst 2, 1) := by decide +kernel
theorem dL_law_279 : decode cL_law 279 = .ok (.iadd, 1) := by decide +kernel
theorem dL_law_280 : decode cL_law 280 = .ok (.iaload, 1) := by decide +kernel
theorem dL_law_281 : decode cL_law 281 = .ok (.aload_n 0, 1) := by decide +kernel
theorem dL_law_282 : decode cL_law 282 = .ok (.iload 5, 2) := by decide +kernel
theorem dL_law_284 : decode cL_law 284 = .ok (.iconst 3, 1) := by decide +kernel
theorem dL_law_285 : decode cL_law 285 = .ok (.iadd, 1) := by decide +kernel
theorem dL_law_286 : decode cL_law 286 = .ok (.iaload, 1) := by decide +kernel
theorem dL_law_287 : decode cL_law 287 = .ok (.ifCond .eq 7, 3) := by decide +kernel
theorem dL_law_290 : decode cL_law 290 = .ok (.iconst 1, 1) := by decide +kernel
theorem dL_law_291 : decode cL_law 291 = .ok (.goto 4, 3) := by decide +kernel
theorem dL_law_294 : decode cL_law 294 = .ok (.iconst 0, 1) := by decide +kernel
theorem dL_law_295 : decode cL_law 295 = .ok (.aload_n 3, 1) := by decide +kernel
theorem dL_law_296 : decode cL_law 296 = .ok (.invokestatic 153, 3) := by decide +kernel
theorem dL_law_299 : decode cL_law 299 = .ok (.istore 6, 2) := by decide +kernel
theorem dL_law_301 : decode cL_law 301 = .ok (.aload_n 2, 1) := by decide +kernel
theorem dL_law_302 : decode cL_law 302 = .ok (.aload_n 0, 1) := by decide +kernel
theorem dL_law_303 : decode cL_law 303 = .ok (.iload 5, 2) := by decide +kernel
theorem dL_law_305 : decode cL_law 305 = .ok (.iconst 1, 1) := by decide +kernel
theorem dL_law_306 : decode cL_law 306 = .ok (.iadd, 1) := by decide +kernel
theorem dL_law_307 : decode cL_law 307 = .ok (.iaload, 1) := by decide +kernel
theorem dL_law_308 : decode cL_law 308 = .ok (.aload_n 0, 1) := by decide +kernel
theorem dL_law_309 : decode cL_law 309 = .ok (.iload 5, 2) := by decide +kernel
theorem dL_law_311 : decode cL_law 311 = .ok (.iconst 2, 1) := by decide +kernel
theorem dL_law_312 : decode cL_law 312 = .ok (.iadd, 1) := by decide +kernel
theorem dL_law_313 : decode cL_law 313 = .ok (.iaload, 1) := by decide +kernel
theorem dL_law_314 : decode cL_law 314 = .ok (.aload_n 0, 1) := by decide +kernel
theorem dL_law_315 : decode cL_law 315 = .ok (.iload 5, 2) := by decide +kernel
theorem dL_law_317 : decode cL_law 317 = .ok (.iconst 3, 1) := by decide +kernel
theorem dL_law_318 : decode cL_law 318 = .ok (.iadd, 1) := by decide +kernel
theorem dL_law_319 : decode cL_law 319 = .ok (.iaload, 1) := by decide +kernel
theorem dL_law_320 : decode cL_law 320 = .ok (.ifCond .eq 7, 3) := by decide +kernel
theorem dL_law_323 : decode cL_law 323 = .ok (.iconst 1, 1) := by decide +kernel
theorem dL_law_324 : decode cL_law 324 = .ok (.goto 4, 3) := by decide +kernel
theorem dL_law_327 : decode cL_law 327 = .ok (.iconst 0, 1) := by decide +kernel
theorem dL_law_328 : decode cL_law 328 = .ok (.invokevirtual 156, 3) := by decide +kernel
theorem dL_law_331 : decode cL_law 331 = .ok (.istore 7, 2) := by decide +kernel
theorem dL_law_333 : decode cL_law 333 = .ok (.aload_n 2, 1) := by decide +kernel
theorem dL_law_334 : decode cL_law 334 = .ok (.invokevirtual 149, 3) := by decide +kernel
theorem dL_law_337 : decode cL_law 337 = .ok (.iload 6, 2) := by decide +kernel
theorem dL_law_339 : decode cL_law 339 = .ok (.if_icmp .eq 5, 3) := by decide +kernel
theorem dL_law_342 : decode cL_law 342 = .ok (.iconst 0, 1) := by decide +kernel
theorem dL_law_343 : decode cL_law 343 = .ok (.ireturn, 1) := by decide +kernel
theorem dL_law_344 : decode cL_law 344 = .ok (.iload 6, 2) := by decide +kernel
theorem dL_law_346 : decode cL_law 346 = .ok (.ifCond .ne 15, 3) := by decide +kernel
theorem dL_law_349 : decode cL_law 349 = .ok (.aload_n 3, 1) := by decide +kernel
theorem dL_law_350 : decode cL_law 350 = .ok (.iconst 0, 1) := by decide +kernel
theorem dL_law_351 : decode cL_law 351 = .ok (.laload, 1) := by decide +kernel
theorem dL_law_352 : decode cL_law 352 = .ok (.iload 7, 2) := by decide +kernel
theorem dL_law_354 : decode cL_law 354 = .ok (.i2l, 1) := by decide +kernel
theorem dL_law_355 : decode cL_law 355 = .ok (.lcmp, 1) := by decide +kernel
theorem dL_law_356 : decode cL_law 356 = .ok (.ifCond .eq 5, 3) := by decide +kernel
theorem dL_law_359 : decode cL_law 359 = .ok (.iconst 0, 1) := by decide +kernel
theorem dL_law_360 : decode cL_law 360 = .ok (.ireturn, 1) := by decide +kernel
theorem dL_law_361 : decode cL_law 361 = .ok (.goto 2249, 3) := by decide +kernel
theorem dL_law_364 : decode cL_law 364 = .ok (.aload_n 1, 1) := by decide +kernel
theorem dL_law_365 : decode cL_law 365 = .ok (.aload_n 0, 1) := by decide +kernel
theorem dL_law_366 : decode cL_law 366 = .ok (.iload 5, 2) := by decide +kernel
theorem dL_law_368 : decode cL_law 368 = .ok (.iconst 1, 1) := by decide +kernel
theorem dL_law_369 : decode cL_law 369 = .ok (.iadd, 1) := by decide +kernel
theorem dL_law_370 : decode cL_law 370 = .ok (.iaload, 1) := by decide +kernel
theorem dL_law_371 : decode cL_law 371 = .ok (.aload_n 0, 1) := by decide +kernel
theorem dL_law_372 : decode cL_law 372 = .ok (.iload 5, 2) := by decide +kernel
theorem dL_law_374 : decode cL_law 374 = .ok (.iconst 2, 1) := by decide +kernel
theorem dL_law_375 : decode cL_law 375 = .ok (.iadd, 1) := by decide +kernel
theorem dL_law_376 : decode cL_law 376 = .ok (.iaload, 1) := by decide +kernel
theorem dL_law_377 : decode cL_law 377 = .ok (.ifCond .eq 7, 3) := by decide +kernel
theorem dL_law_380 : decode cL_law 380 = .ok (.iconst 1, 1) := by decide +kernel
theorem dL_law_381 : decode cL_law 381 = .ok (.goto 4, 3) := by decide +kernel
theorem dL_law_384 : decode cL_law 384 = .ok (.iconst 0, 1) := by decide +kernel
theorem dL_law_385 : decode cL_law 385 = .ok (.aload_n 3, 1) := by decide +kernel
theorem dL_law_386 : decode cL_law 386 = .ok (.invokestatic 157, 3) := by decide +kernel
theorem dL_law_389 : decode cL_law 389 = .ok (.istore 6, 2) := by decide +kernel
theorem dL_law_391 : decode cL_law 391 = .ok (.aload_n 2, 1) := by decide +kernel
theorem dL_law_392 : decode cL_law 392 = .ok (.aload_n 0, 1) := by decide +kernel
theorem dL_law_393 : decode cL_law 393 = .ok (.iload 5, 2) := by decide +kernel
theorem dL_law_395 : decode cL_law 395 = .ok (.iconst 1, 1) := by decide +kernel
theorem dL_law_396 : decode cL_law 396 = .ok (.iadd, 1) := by decide +kernel
theorem dL_law_397 : decode cL_law 397 = .ok (.iaload, 1) := by decide +kernel
theorem dL_law_398 : decode cL_law 398 = .ok (.aload_n 0, 1) := by decide +kernel
theorem dL_law_399 : decode cL_law 399 = .ok (.iload 5, 2) := by decide +kernel
theorem dL_law_401 : decode cL_law 401 = .ok (.iconst 2, 1) := by decide +kernel
theorem dL_law_402 : decode cL_law 402 = .ok (.iadd, 1) := by decide +kernel
theorem dL_law_403 : decode cL_law 403 = .ok (.iaload, 1) := by decide +kernel
theorem dL_law_404 : decode cL_law 404 = .ok (.ifCond .eq 7, 3) := by decide +kernel
theorem dL_law_407 : decode cL_law 407 = .ok (.iconst 1, 1) := by decide +kernel
theorem dL_law_408 : decode cL_law 408 = .ok (.goto 4, 3) := by decide +kernel
theorem dL_law_411 : decode cL_law 411 = .ok (.iconst 0, 1) := by decide +kernel
theorem dL_law_412 : decode cL_law 412 = .ok (.invokevirtual 160, 3) := by decide +kernel
theorem dL_law_415 : decode cL_law 415 = .ok (.istore 7, 2) := by decide +kernel
theorem dL_law_417 : decode cL_law 417 = .ok (.aload_n 2, 1) := by decide +kernel
theorem dL_law_418 : decode cL_law 418 = .ok (.invokevirtual 149, 3) := by decide +kernel
theorem dL_law_421 : decode cL_law 421 = .ok (.iload 6, 2) := by decide +kernel
theorem dL_law_423 : decode cL_law 423 = .ok (.if_icmp .eq 5, 3) := by decide +kernel
theorem dL_law_426 : decode cL_law 426 = .ok (.iconst 0, 1) := by decide +kernel
theorem dL_law_427 : decode cL_law 427 = .ok (.ireturn, 1) := by decide +kernel
theorem dL_law_428 : decode cL_law 428 = .ok (.iload 6, 2) := by decide +kernel
theorem dL_law_430 : decode cL_law 430 = .ok (.ifCond .ne 22, 3) := by decide +kernel
theorem dL_law_433 : decode cL_law 433 = .ok (.aload_n 3, 1) := by decide +kernel
theorem dL_law_434 : decode cL_law 434 = .ok (.iconst 0, 1) := by decide +kernel
theorem dL_law_435 : decode cL_law 435 = .ok (.laload, 1) := by decide +kernel
theorem dL_law_436 : decode cL_law 436 = .ok (.iload 7, 2) := by decide +kernel
theorem dL_law_438 : decode cL_law 438 = .ok (.ifCond .eq 7, 3) := by decide +kernel
theorem dL_law_441 : decode cL_law 441 = .ok (.lconst 1, 1) := by decide +kernel
theorem dL_law_442 : decode cL_law 442 = .ok (.goto 4, 3) := by decide +kernel
theorem dL_law_445 : decode cL_law 445 = .ok (.lconst 0, 1) := by decide +kernel
theorem dL_law_446 : decode cL_law 446 = .ok (.lcmp, 1) := by decide +kernel
theorem dL_law_447 : decode cL_law 447 = .ok (.ifCond .eq 5, 3) := by decide +kernel
theorem dL_law_450 : decode cL_law 450 = .ok (.iconst 0, 1) := by decide +kernel
theorem dL_law_451 : decode cL_law 451 = .ok (.ireturn, 1) := by decide +kernel
theorem dL_law_452 : decode cL_law 452 = .ok (.goto 2158, 3) := by decide +kernel
theorem dL_law_455 : decode cL_law 455 = .ok (.aload_n 1, 1) := by decide +kernel
theorem dL_law_456 : decode cL_law 456 = .ok (.aload_n 0, 1) := by decide +kernel
theorem dL_law_457 : decode cL_law 457 = .ok (.iload 5, 2) := by decide +kernel
theorem dL_law_459 : decode cL_law 459 = .ok (.iconst 1, 1) := by decide +kernel
theorem dL_law_460 : decode cL_law 460 = .ok (.iadd, 1) := by decide +kernel
theorem dL_law_461 : decode cL_law 461 = .ok (.iaload, 1) := by decide +kernel
theorem dL_law_462 : decode cL_law 462 = .ok (.aload_n 0, 1) := by decide +kernel
theorem dL_law_463 : decode cL_law 463 = .ok (.iload 5, 2) := by decide +kernel
theorem dL_law_465 : decode cL_law 465 = .ok (.iconst 2, 1) := by decide +kernel
theorem dL_law_466 : decode cL_law 466 = .ok (.iadd, 1) := by decide +kernel
theorem dL_law_467 : decode cL_law 467 = .ok (.iaload, 1) := by decide +kernel
theorem dL_law_468 : decode cL_law 468 = .ok (.aload_n 3, 1) := by decide +kernel
theorem dL_law_469 : decode cL_law 469 = .ok (.invokestatic 161, 3) := by decide +kernel
theorem dL_law_472 : decode cL_law 472 = .ok (.istore 6, 2) := by decide +kernel
theorem dL_law_474 : decode cL_law 474 = .ok (.aload_n 2, 1) := by decide +kernel
theorem dL_law_475 : decode cL_law 475 = .ok (.aload_n 0, 1) := by decide +kernel
theorem dL_law_476 : decode cL_law 476 = .ok (.iload 5, 2) := by decide +kernel
theorem dL_law_478 : decode cL_law 478 = .ok (.iconst 1, 1) := by decide +kernel
theorem dL_law_479 : decode cL_law 479 = .ok (.iadd, 1) := by decide +kernel
theorem dL_law_480 : decode cL_law 480 = .ok (.iaload, 1) := by decide +kernel
theorem dL_law_481 : decode cL_law 481 = .ok (.aload_n 0, 1) := by decide +kernel
theorem dL_law_482 : decode cL_law 482 = .ok (.iload 5, 2) := by decide +kernel
theorem dL_law_484 : decode cL_law 484 = .ok (.iconst 2, 1) := by decide +kernel
theorem dL_law_485 : decode cL_law 485 = .ok (.iadd, 1) := by decide +kernel
theorem dL_law_486 : decode cL_law 486 = .ok (.iaload, 1) := by decide +kernel
theorem dL_law_487 : decode cL_law 487 = .ok (.invokevirtual 164, 3) := by decide +kernel
theorem dL_law_490 : decode cL_law 490 = .ok (.istore 7, 2) := by decide +kernel
theorem dL_law_492 : decode cL_law 492 = .ok (.aload_n 2, 1) := by decide +kernel
theorem dL_law_493 : decode cL_law 493 = .ok (.invokevirtual 149, 3) := by decide +kernel
theorem dL_law_496 : decode cL_law 496 = .ok (.iload 6, 2) := by decide +kernel
theorem dL_law_498 : decode cL_law 498 = .ok (.if_icmp .eq 5, 3) := by decide +kernel
theorem dL_law_501 : decode cL_law 501 = .ok (.iconst 0, 1) := by decide +kernel
theorem dL_law_502 : decode cL_law 502 = .ok (.ireturn, 1) := by decide +kernel
theorem dL_law_503 : decode cL_law 503 = .ok (.iload 6, 2) := by decide +kernel
theorem dL_law_505 : decode cL_law 505 = .ok (.ifCond .ne 15, 3) := by decide +kernel
theorem dL_law_508 : decode cL_law 508 = .ok (.aload_n 3, 1) := by decide +kernel
theorem dL_law_509 : decode cL_law 509 = .ok (.iconst 0, 1) := by decide +kernel
theorem dL_law_510 : decode cL_law 510 = .ok (.laload, 1) := by decide +kernel
theorem dL_law_511 : decode cL_law 511 = .ok (.iload 7, 2) := by decide +kernel
theorem dL_law_513 : decode cL_law 513 = .ok (.i2l, 1) := by decide +kernel
theorem dL_law_514 : decode cL_law 514 = .ok (.lcmp, 1) := by decide +kernel
theorem dL_law_515 : decode cL_law 515 = .ok (.ifCond .eq 5, 3) := by decide +kernel
theorem dL_law_518 : decode cL_law 518 = .ok (.iconst 0, 1) := by decide +kernel
theorem dL_law_519 : decode cL_law 519 = .ok (.ireturn, 1) := by decide +kernel
theorem dL_law_520 : decode cL_law 520 = .ok (.goto 2090, 3) := by decide +kernel
theorem dL_law_523 : decode cL_law 523 = .ok (.aload_n 1, 1) := by decide +kernel
theorem dL_law_524 : decode cL_law 524 = .ok (.aload_n 0, 1) := by decide +kernel
theorem dL_law_525 : decode cL_law 525 = .ok (.iload 5, 2) := by decide +kernel
theorem dL_law_527 : decode cL_law 527 = .ok (.iconst 1, 1) := by decide +kernel
theorem dL_law_528 : decode cL_law 528 = .ok (.iadd, 1) := by decide +kernel
theorem dL_law_529 : decode cL_law 529 = .ok (.iaload, 1) := by decide +kernel
theorem dL_law_530 : decode cL_law 530 = .ok (.aload_n 0, 1) := by decide +kernel
theorem dL_law_531 : decode cL_law 531 = .ok (.iload 5, 2) := by decide +kernel
theorem dL_law_533 : decode cL_law 533 = .ok (.iconst 2, 1) := by decide +kernel
theorem dL_law_534 : decode cL_law 534 = .ok (.iadd, 1) := by decide +kernel
theorem dL_law_535 : decode cL_law 535 = .ok (.iaload, 1) := by decide +kernel
theorem dL_law_536 : decode cL_law 536 = .ok (.aload_n 0, 1) := by decide +kernel
theorem dL_law_537 : decode cL_law 537 = .ok (.iload 5, 2) := by decide +kernel
theorem dL_law_539 : decode cL_law 539 = .ok (.iconst 3, 1) := by decide +kernel
theorem dL_law_540 : decode cL_law 540 = .ok (.iadd, 1) := by decide +kernel
theorem dL_law_541 : decode cL_law 541 = .ok (.iaload, 1) := by decide +kernel
theorem dL_law_542 : decode cL_law 542 = .ok (.aload_n 0, 1) := by decide +kernel
theorem dL_law_543 : decode cL_law 543 = .ok (.iload 5, 2) := by decide +kernel
theorem dL_law_545 : decode cL_law 545 = .ok (.iconst 4, 1) := by decide +kernel
theorem dL_law_546 : decode cL_law 546 = .ok (.iadd, 1) := by decide +kernel
theorem dL_law_547 : decode cL_law 547 = .ok (.iaload, 1) := by decide +kernel
theorem dL_law_548 : decode cL_law 548 = .ok (.aload_n 0, 1) := by decide +kernel
theorem dL_law_549 : decode cL_law 549 = .ok (.iload 5, 2) := by decide +kernel
theorem dL_law_551 : decode cL_law 551 = .ok (.iconst 5, 1) := by decide +kernel
theorem dL_law_552 : decode cL_law 552 = .ok (.iadd, 1) := by decide +kernel
theorem dL_law_553 : decode cL_law 553 = .ok (.iaload, 1) := by decide +kernel
theorem dL_law_554 : decode cL_law 554 = .ok (.aload_n 0, 1) := by decide +kernel
theorem dL_law_555 : decode cL_law 555 = .ok (.iload 5, 2) := by decide +kernel
theorem dL_law_557 : decode cL_law 557 = .ok (.bipush 6, 2) := by decide +kernel
theorem dL_law_559 : decode cL_law 559 = .ok (.iadd, 1) := by decide +kernel
theorem dL_law_560 : decode cL_law 560 = .ok (.iaload, 1) := by decide +kernel
theorem dL_law_561 : decode cL_law 561 = .ok (.aload_n 3, 1) := by decide +kernel
theorem dL_law_562 : decode cL_law 562 = .ok (.invokestatic 165, 3) := by decide +kernel
theorem dL_law_565 : decode cL_law 565 = .ok (.istore 6, 2) := by decide +kernel
theorem dL_law_567 : decode cL_law 567 = .ok (.aload_n 2, 1) := by decide +kernel
theorem dL_law_568 : decode cL_law 568 = .ok (.aload_n 0, 1) := by decide +kernel
theorem dL_law_569 : decode cL_law 569 = .ok (.iload 5, 2) := by decide +kernel
theorem dL_law_571 : decode cL_law 571 = .ok (.iconst 1, 1) := by decide +kernel
theorem dL_law_572 : decode cL_law 572 = .ok (.iadd, 1) := by decide +kernel
theorem dL_law_573 : decode cL_law 573 = .ok (.iaload, 1) := by decide +kernel
theorem dL_law_574 : decode cL_law 574 = .ok (.aload_n 0, 1) := by decide +kernel
theorem dL_law_575 : decode cL_law 575 = .ok (.iload 5, 2) := by decide +kernel
theorem dL_law_577 : decode cL_law 577 = .ok (.iconst 2, 1) := by decide +kernel
theorem dL_law_578 : decode cL_law 578 = .ok (.iadd, 1) := by decide +kernel
theorem dL_law_579 : decode cL_law 579 = .ok (.iaload, 1) := by decide +kernel
theorem dL_law_580 : decode cL_law 580 = .ok (.aload_n 0, 1) := by decide +kernel
theorem dL_law_581 : decode cL_law 581 = .ok (.iload 5, 2) := by decide +kernel
theorem dL_law_583 : decode cL_law 583 = .ok (.iconst 3, 1) := by decide +kernel
theorem dL_law_584 : decode cL_law 584 = .ok (.iadd, 1) := by decide +kernel
theorem dL_law_585 : decode cL_law 585 = .ok (.iaload, 1) := by decide +kernel
theorem dL_law_586 : decode cL_law 586 = .ok (.aload_n 0, 1) := by decide +kernel
theorem dL_law_587 : decode cL_law 587 = .ok (.iload 5, 2) := by decide +kernel
theorem dL_law_589 : decode cL_law 589 = .ok (.iconst 4, 1) := by decide +kernel
theorem dL_law_590 : decode cL_law 590 = .ok (.iadd, 1) := by decide +kernel
theorem dL_law_591 : decode cL_law 591 = .ok (.iaload, 1) := by decide +kernel
theorem dL_law_592 : decode cL_law 592 = .ok (.aload_n 0, 1) := by decide +kernel
theorem dL_law_593 : decode cL_law 593 = .ok (.iload 5, 2) := by decide +kernel
theorem dL_law_595 : decode cL_law 595 = .ok (.iconst 5, 1) := by decide +kernel
theorem dL_law_596 : decode cL_law 596 = .ok (.iadd, 1) := by decide +kernel
theorem dL_law_597 : decode cL_law 597 = .ok (.iaload, 1) := by decide +kernel
theorem dL_law_598 : decode cL_law 598 = .ok (.aload_n 0, 1) := by decide +kernel
theorem dL_law_599 : decode cL_law 599 = .ok (.iload 5, 2) := by decide +kernel
theorem dL_law_601 : decode cL_law 601 = .ok (.bipush 6, 2) := by decide +kernel
theorem dL_law_603 : decode cL_law 603 = .ok (.iadd, 1) := by decide +kernel
theorem dL_law_604 : decode cL_law 604 = .ok (.iaload, 1) := by decide +kernel
theorem dL_law_605 : decode cL_law 605 = .ok (.invokevirtual 168, 3) := by decide +kernel
theorem dL_law_608 : decode cL_law 608 = .ok (.istore 7, 2) := by decide +kernel
theorem dL_law_610 : decode cL_law 610 = .ok (.aload_n 2, 1) := by decide +kernel
theorem dL_law_611 : decode cL_law 611 = .ok (.invokevirtual 149, 3) := by decide +kernel
theorem dL_law_614 : decode cL_law 614 = .ok (.iload 6, 2) := by decide +kernel
theorem dL_law_616 : decode cL_law 616 = .ok (.if_icmp .eq 5, 3) := by decide +kernel
theorem dL_law_619 : decode cL_law 619 = .ok (.iconst 0, 1) := by decide +kernel
theorem dL_law_620 : decode cL_law 620 = .ok (.ireturn, 1) := by decide +kernel
theorem dL_law_621 : decode cL_law 621 = .ok (.iload 6, 2) := by decide +kernel
theorem dL_law_623 : decode cL_law 623 = .ok (.ifCond .ne 15, 3) := by decide +kernel
theorem dL_law_626 : decode cL_law 626 = .ok (.aload_n 3, 1) := by decide +kernel
theorem dL_law_627 : decode cL_law 627 = .ok (.iconst 0, 1) := by decide +kernel
theorem dL_law_628 : decode cL_law 628 = .ok (.laload, 1) := by decide +kernel
theorem dL_law_629 : decode cL_law 629 = .ok (.iload 7, 2) := by decide +kernel
theorem dL_law_631 : decode cL_law 631 = .ok (.i2l, 1) := by decide +kernel
theorem dL_law_632 : decode cL_law 632 = .ok (.lcmp, 1) := by decide +kernel
theorem dL_law_633 : decode cL_law 633 = .ok (.ifCond .eq 5, 3) := by decide +kernel
theorem dL_law_636 : decode cL_law 636 = .ok (.iconst 0, 1) := by decide +kernel
theorem dL_law_637 : decode cL_law 637 = .ok (.ireturn, 1) := by decide +kernel
theorem dL_law_638 : decode cL_law 638 = .ok (.goto 1972, 3) := by decide +kernel
theorem dL_law_641 : decode cL_law 641 = .ok (.aload_n 1, 1) := by decide +kernel
theorem dL_law_642 : decode cL_law 642 = .ok (.aload_n 0, 1) := by decide +kernel
theorem dL_law_643 : decode cL_law 643 = .ok (.iload 5, 2) := by decide +kernel
theorem dL_law_645 : decode cL_law 645 = .ok (.iconst 1, 1) := by decide +kernel
theorem dL_law_646 : decode cL_law 646 = .ok (.iadd, 1) := by decide +kernel
theorem dL_law_647 : decode cL_law 647 = .ok (.iaload, 1) := by decide +kernel
theorem dL_law_648 : decode cL_law 648 = .ok (.aload_n 0, 1) := by decide +kernel
theorem dL_law_649 : decode cL_law 649 = .ok (.iload 5, 2) := by decide +kernel
theorem dL_law_651 : decode cL_law 651 = .ok (.iconst 2, 1) := by decide +kernel
theorem dL_law_652 : decode cL_law 652 = .ok (.iadd, 1) := by decide +kernel
theorem dL_law_653 : decode cL_law 653 = .ok (.iaload, 1) := by decide +kernel
theorem dL_law_654 : decode cL_law 654 = .ok (.aload_n 3, 1) := by decide +kernel
theorem dL_law_655 : decode cL_law 655 = .ok (.invokestatic 169, 3) := by decide +kernel
theorem dL_law_658 : decode cL_law 658 = .ok (.istore 6, 2) := by decide +kernel
theorem dL_law_660 : decode cL_law 660 = .ok (.aload_n 2, 1) := by decide +kernel
theorem dL_law_661 : decode cL_law 661 = .ok (.aload_n 0, 1) := by decide +kernel
theorem dL_law_662 : decode cL_law 662 = .ok (.iload 5, 2) := by decide +kernel
theorem dL_law_664 : decode cL_law 664 = .ok (.iconst 1, 1) := by decide +kernel
theorem dL_law_665 : decode cL_law 665 = .ok (.iadd, 1) := by decide +kernel
theorem dL_law_666 : decode cL_law 666 = .ok (.iaload, 1) := by decide +kernel
theorem dL_law_667 : decode cL_law 667 = .ok (.aload_n 0, 1) := by decide +kernel
theorem dL_law_668 : decode cL_law 668 = .ok (.iload 5, 2) := by decide +kernel
theorem dL_law_670 : decode cL_law 670 = .ok (.iconst 2, 1) := by decide +kernel
theorem dL_law_671 : decode cL_law 671 = .ok (.iadd, 1) := by decide +kernel
theorem dL_law_672 : decode cL_law 672 = .ok (.iaload, 1) := by decide +kernel
theorem dL_law_673 : decode cL_law 673 = .ok (.invokevirtual 171, 3) := by decide +kernel
theorem dL_law_676 : decode cL_law 676 = .ok (.istore 7, 2) := by decide +kernel
theorem dL_law_678 : decode cL_law 678 = .ok (.aload_n 2, 1) := by decide +kernel
theorem dL_law_679 : decode cL_law 679 = .ok (.invokevirtual 149, 3) := by decide +kernel
theorem dL_law_682 : decode cL_law 682 = .ok (.iload 6, 2) := by decide +kernel
theorem dL_law_684 : decode cL_law 684 = .ok (.if_icmp .eq 5, 3) := by decide +kernel
theorem dL_law_687 : decode cL_law 687 = .ok (.iconst 0, 1) := by decide +kernel
theorem dL_law_688 : decode cL_law 688 = .ok (.ireturn, 1) := by decide +kernel
theorem dL_law_689 : decode cL_law 689 = .ok (.iload 6, 2) := by decide +kernel
theorem dL_law_691 : decode cL_law 691 = .ok (.ifCond .ne 15, 3) := by decide +kernel
theorem dL_law_694 : decode cL_law 694 = .ok (.aload_n 3, 1) := by decide +kernel
theorem dL_law_695 : decode cL_law 695 = .ok (.iconst 0, 1) := by decide +kernel
theorem dL_law_696 : decode cL_law 696 = .ok (.laload, 1) := by decide +kernel
theorem dL_law_697 : decode cL_law 697 = .ok (.iload 7, 2) := by decide +kernel
theorem dL_law_699 : decode cL_law 699 = .ok (.i2l, 1) := by decide +kernel
theorem dL_law_700 : decode cL_law 700 = .ok (.lcmp, 1) := by decide +kernel
theorem dL_law_701 : decode cL_law 701 = .ok (.ifCond .eq 5, 3) := by decide +kernel
theorem dL_law_704 : decode cL_law 704 = .ok (.iconst 0, 1) := by decide +kernel
theorem dL_law_705 : decode cL_law 705 = .ok (.ireturn, 1) := by decide +kernel
theorem dL_law_706 : decode cL_law 706 = .ok (.goto 1904, 3) := by decide +kernel
theorem dL_law_709 : decode cL_law 709 = .ok (.aload_n 1, 1) := by decide +kernel
theorem dL_law_710 : decode cL_law 710 = .ok (.aload_n 0, 1) := by decide +kernel
theorem dL_law_711 : decode cL_law 711 = .ok (.iload 5, 2) := by decide +kernel
theorem dL_law_713 : decode cL_law 713 = .ok (.iconst 1, 1) := by decide +kernel
theorem dL_law_714 : decode cL_law 714 = .ok (.iadd, 1) := by decide +kernel
theorem dL_law_715 : decode cL_law 715 = .ok (.iaload, 1) := by decide +kernel
theorem dL_law_716 : decode cL_law 716 = .ok (.aload_n 0, 1) := by decide +kernel
theorem dL_law_717 : decode cL_law 717 = .ok (.iload 5, 2) := by decide +kernel
theorem dL_law_719 : decode cL_law 719 = .ok (.iconst 2, 1) := by decide +kernel
theorem dL_law_720 : decode cL_law 720 = .ok (.iadd, 1) := by decide +kernel
theorem dL_law_721 : decode cL_law 721 = .ok (.iaload, 1) := by decide +kernel
theorem dL_law_722 : decode cL_law 722 = .ok (.aload_n 3, 1) := by decide +kernel
theorem dL_law_723 : decode cL_law 723 = .ok (.invokestatic 172, 3) := by decide +kernel
theorem dL_law_726 : decode cL_law 726 = .ok (.istore 6, 2) := by decide +kernel
theorem dL_law_728 : decode cL_law 728 = .ok (.aload_n 2, 1) := by decide +kernel
theorem dL_law_729 : decode cL_law 729 = .ok (.aload_n 0, 1) := by decide +kernel
theorem dL_law_730 : decode cL_law 730 = .ok (.iload 5, 2) := by decide +kernel
theorem dL_law_732 : decode cL_law 732 = .ok (.iconst 1, 1) := by decide +kernel
theorem dL_law_733 : decode cL_law 733 = .ok (.iadd, 1) := by decide +kernel
theorem dL_law_734 : decode cL_law 734 = .ok (.iaload, 1) := by decide +kernel
theorem dL_law_735 : decode cL_law 735 = .ok (.aload_n 0, 1) := by decide +kernel
theorem dL_law_736 : decode cL_law 736 = .ok (.iload 5, 2) := by decide +kernel
theorem dL_law_738 : decode cL_law 738 = .ok (.iconst 2, 1) := by decide +kernel
theorem dL_law_739 : decode cL_law 739 = .ok (.iadd, 1) := by decide +kernel
theorem dL_law_740 : decode cL_law 740 = .ok (.iaload, 1) := by decide +kernel
theorem dL_law_741 : decode cL_law 741 = .ok (.invokevirtual 174, 3) := by decide +kernel
theorem dL_law_744 : decode cL_law 744 = .ok (.istore 7, 2) := by decide +kernel
theorem dL_law_746 : decode cL_law 746 = .ok (.aload_n 2, 1) := by decide +kernel
theorem dL_law_747 : decode cL_law 747 = .ok (.invokevirtual 149, 3) := by decide +kernel
theorem dL_law_750 : decode cL_law 750 = .ok (.iload 6, 2) := by decide +kernel
theorem dL_law_752 : decode cL_law 752 = .ok (.if_icmp .eq 5, 3) := by decide +kernel
theorem dL_law_755 : decode cL_law 755 = .ok (.iconst 0, 1) := by decide +kernel
theorem dL_law_756 : decode cL_law 756 = .ok (.ireturn, 1) := by decide +kernel
theorem dL_law_757 : decode cL_law 757 = .ok (.iload 6, 2) := by decide +kernel
theorem dL_law_759 : decode cL_law 759 = .ok (.ifCond .ne 15, 3) := by decide +kernel
theorem dL_law_762 : decode cL_law 762 = .ok (.aload_n 3, 1) := by decide +kernel
theorem dL_law_763 : decode cL_law 763 = .ok (.iconst 0, 1) := by decide +kernel
theorem dL_law_764 : decode cL_law 764 = .ok (.laload, 1) := by decide +kernel
theorem dL_law_765 : decode cL_law 765 = .ok (.iload 7, 2) := by decide +kernel
theorem dL_law_767 : decode cL_law 767 = .ok (.i2l, 1) := by decide +kernel
theorem dL_law_768 : decode cL_law 768 = .ok (.lcmp, 1) := by decide +kernel
theorem dL_law_769 : decode cL_law 769 = .ok (.ifCond .eq 5, 3) := by decide +kernel
theorem dL_law_772 : decode cL_law 772 = .ok (.iconst 0, 1) := by decide +kernel
theorem dL_law_773 : decode cL_law 773 = .ok (.ireturn, 1) := by decide +kernel
theorem dL_law_774 : decode cL_law 774 = .ok (.goto 1836, 3) := by decide +kernel
theorem dL_law_777 : decode cL_law 777 = .ok (.aload_n 1, 1) := by decide +kernel
theorem dL_law_778 : decode cL_law 778 = .ok (.aload_n 0, 1) := by decide +kernel
theorem dL_law_779 : decode cL_law 779 = .ok (.iload 5, 2) := by decide +kernel
theorem dL_law_781 : decode cL_law 781 = .ok (.iconst 1, 1) := by decide +kernel
theorem dL_law_782 : decode cL_law 782 = .ok (.iadd, 1) := by decide +kernel
theorem dL_law_783 : decode cL_law 783 = .ok (.iaload, 1) := by decide +kernel
theorem dL_law_784 : decode cL_law 784 = .ok (.aload_n 3, 1) := by decide +kernel
theorem dL_law_785 : decode cL_law 785 = .ok (.invokestatic 175, 3) := by decide +kernel
theorem dL_law_788 : decode cL_law 788 = .ok (.istore 6, 2) := by decide +kernel
theorem dL_law_790 : decode cL_law 790 = .ok (.aload_n 2, 1) := by decide +kernel
theorem dL_law_791 : decode cL_law 791 = .ok (.aload_n 0, 1) := by decide +kernel
theorem dL_law_792 : decode cL_law 792 = .ok (.iload 5, 2) := by decide +kernel
theorem dL_law_794 : decode cL_law 794 = .ok (.iconst 1, 1) := by decide +kernel
theorem dL_law_795 : decode cL_law 795 = .ok (.iadd, 1) := by decide +kernel
theorem dL_law_796 : decode cL_law 796 = .ok (.iaload, 1) := by decide +kernel
theorem dL_law_797 : decode cL_law 797 = .ok (.invokevirtual 177, 3) := by decide +kernel
theorem dL_law_800 : decode cL_law 800 = .ok (.istore 7, 2) := by decide +kernel
theorem dL_law_802 : decode cL_law 802 = .ok (.aload_n 2, 1) := by decide +kernel
theorem dL_law_803 : decode cL_law 803 = .ok (.invokevirtual 149, 3) := by decide +kernel
theorem dL_law_806 : decode cL_law 806 = .ok (.iload 6, 2) := by decide +kernel
theorem dL_law_808 : decode cL_law 808 = .ok (.if_icmp .eq 5, 3) := by decide +kernel
theorem dL_law_811 : decode cL_law 811 = .ok (.iconst 0, 1) := by decide +kernel
theorem dL_law_812 : decode cL_law 812 = .ok (.ireturn, 1) := by decide +kernel
theorem dL_law_813 : decode cL_law 813 = .ok (.iload 6, 2) := by decide +kernel
theorem dL_law_815 : decode cL_law 815 = .ok (.ifCond .ne 15, 3) := by decide +kernel
theorem dL_law_818 : decode cL_law 818 = .ok (.aload_n 3, 1) := by decide +kernel
theorem dL_law_819 : decode cL_law 819 = .ok (.iconst 0, 1) := by decide +kernel
theorem dL_law_820 : decode cL_law 820 = .ok (.laload, 1) := by decide +kernel
theorem dL_law_821 : decode cL_law 821 = .ok (.iload 7, 2) := by decide +kernel
theorem dL_law_823 : decode cL_law 823 = .ok (.i2l, 1) := by decide +kernel
theorem dL_law_824 : decode cL_law 824 = .ok (.lcmp, 1) := by decide +kernel
theorem dL_law_825 : decode cL_law 825 = .ok (.ifCond .eq 5, 3) := by decide +kernel
theorem dL_law_828 : decode cL_law 828 = .ok (.iconst 0, 1) := by decide +kernel
theorem dL_law_829 : decode cL_law 829 = .ok (.ireturn, 1) := by decide +kernel
theorem dL_law_830 : decode cL_law 830 = .ok (.goto 1780, 3) := by decide +kernel
theorem dL_law_833 : decode cL_law 833 = .ok (.aload_n 1, 1) := by decide +kernel
theorem dL_law_834 : decode cL_law 834 = .ok (.aload_n 0, 1) := by decide +kernel
theorem dL_law_835 : decode cL_law 835 = .ok (.iload 5, 2) := by decide +kernel
theorem dL_law_837 : decode cL_law 837 = .ok (.iconst 1, 1) := by decide +kernel
theorem dL_law_838 : decode cL_law 838 = .ok (.iadd, 1) := by decide +kernel
theorem dL_law_839 : decode cL_law 839 = .ok (.iaload, 1) := by decide +kernel
theorem dL_law_840 : decode cL_law 840 = .ok (.aload_n 0, 1) := by decide +kernel
theorem dL_law_841 : decode cL_law 841 = .ok (.iload 5, 2) := by decide +kernel
theorem dL_law_843 : decode cL_law 843 = .ok (.iconst 2, 1) := by decide +kernel
theorem dL_law_844 : decode cL_law 844 = .ok (.iadd, 1) := by decide +kernel
theorem dL_law_845 : decode cL_law 845 = .ok (.iaload, 1) := by decide +kernel
theorem dL_law_846 : decode cL_law 846 = .ok (.aload_n 3, 1) := by decide +kernel
theorem dL_law_847 : decode cL_law 847 = .ok (.invokestatic 178, 3) := by decide +kernel
theorem dL_law_850 : decode cL_law 850 = .ok (.istore 6, 2) := by decide +kernel
theorem dL_law_852 : decode cL_law 852 = .ok (.aload_n 2, 1) := by decide +kernel
theorem dL_law_853 : decode cL_law 853 = .ok (.aload_n 0, 1) := by decide +kernel
theorem dL_law_854 : decode cL_law 854 = .ok (.iload 5, 2) := by decide +kernel
theorem dL_law_856 : decode cL_law 856 = .ok (.iconst 1, 1) := by decide +kernel
theorem dL_law_857 : decode cL_law 857 = .ok (.iadd, 1) := by decide +kernel
theorem dL_law_858 : decode cL_law 858 = .ok (.iaload, 1) := by decide +kernel
theorem dL_law_859 : decode cL_law 859 = .ok (.aload_n 0, 1) := by decide +kernel
theorem dL_law_860 : decode cL_law 860 = .ok (.iload 5, 2) := by decide +kernel
theorem dL_law_862 : decode cL_law 862 = .ok (.iconst 2, 1) := by decide +kernel
theorem dL_law_863 : decode cL_law 863 = .ok (.iadd, 1) := by decide +kernel
theorem dL_law_864 : decode cL_law 864 = .ok (.iaload, 1) := by decide +kernel
theorem dL_law_865 : decode cL_law 865 = .ok (.invokevirtual 180, 3) := by decide +kernel
theorem dL_law_868 : decode cL_law 868 = .ok (.istore 7, 2) := by decide +kernel
theorem dL_law_870 : decode cL_law 870 = .ok (.aload_n 2, 1) := by decide +kernel
theorem dL_law_871 : decode cL_law 871 = .ok (.invokevirtual 149, 3) := by decide +kernel
theorem dL_law_874 : decode cL_law 874 = .ok (.iload 6, 2) := by decide +kernel
theorem dL_law_876 : decode cL_law 876 = .ok (.if_icmp .eq 5, 3) := by decide +kernel
theorem dL_law_879 : decode cL_law 879 = .ok (.iconst 0, 1) := by decide +kernel
theorem dL_law_880 : decode cL_law 880 = .ok (.ireturn, 1) := by decide +kernel
theorem dL_law_881 : decode cL_law 881 = .ok (.iload 6, 2) := by decide +kernel
theorem dL_law_883 : decode cL_law 883 = .ok (.ifCond .ne 15, 3) := by decide +kernel
theorem dL_law_886 : decode cL_law 886 = .ok (.aload_n 3, 1) := by decide +kernel
theorem dL_law_887 : decode cL_law 887 = .ok (.iconst 0, 1) := by decide +kernel
theorem dL_law_888 : decode cL_law 888 = .ok (.laload, 1) := by decide +kernel
theorem dL_law_889 : decode cL_law 889 = .ok (.iload 7, 2) := by decide +kernel
theorem dL_law_891 : decode cL_law 891 = .ok (.i2l, 1) := by decide +kernel
theorem dL_law_892 : decode cL_law 892 = .ok (.lcmp, 1) := by decide +kernel
theorem dL_law_893 : decode cL_law 893 = .ok (.ifCond .eq 5, 3) := by decide +kernel
theorem dL_law_896 : decode cL_law 896 = .ok (.iconst 0, 1) := by decide +kernel
theorem dL_law_897 : decode cL_law 897 = .ok (.ireturn, 1) := by decide +kernel
theorem dL_law_898 : decode cL_law 898 = .ok (.goto 1712, 3) := by decide +kernel
theorem dL_law_901 : decode cL_law 901 = .ok (.aload_n 1, 1) := by decide +kernel
theorem dL_law_902 : decode cL_law 902 = .ok (.aload_n 0, 1) := by decide +kernel
theorem dL_law_903 : decode cL_law 903 = .ok (.iload 5, 2) := by decide +kernel
theorem dL_law_905 : decode cL_law 905 = .ok (.iconst 1, 1) := by decide +kernel
theorem dL_law_906 : decode cL_law 906 = .ok (.iadd, 1) := by decide +kernel
theorem dL_law_907 : decode cL_law 907 = .ok (.iaload, 1) := by decide +kernel
theorem dL_law_908 : decode cL_law 908 = .ok (.aload_n 0, 1) := by decide +kernel
theorem dL_law_909 : decode cL_law 909 = .ok (.iload 5, 2) := by decide +kernel
theorem dL_law_911 : decode cL_law 911 = .ok (.iconst 2, 1) := by decide +kernel
theorem dL_law_912 : decode cL_law 912 = .ok (.iadd, 1) := by decide +kernel
theorem dL_law_913 : decode cL_law 913 = .ok (.iaload, 1) := by decide +kernel
theorem dL_law_914 : decode cL_law 914 = .ok (.aload_n 0, 1) := by decide +kernel
theorem dL_law_915 : decode cL_law 915 = .ok (.iload 5, 2) := by decide +kernel
theorem dL_law_917 : decode cL_law 917 = .ok (.iconst 3, 1) := by decide +kernel
theorem dL_law_918 : decode cL_law 918 = .ok (.iadd, 1) := by decide +kernel
theorem dL_law_919 : decode cL_law 919 = .ok (.iaload, 1) := by decide +kernel
theorem dL_law_920 : decode cL_law 920 = .ok (.aload_n 3, 1) := by decide +kernel
theorem dL_law_921 : decode cL_law 921 = .ok (.invokestatic 181, 3) := by decide +kernel
theorem dL_law_924 : decode cL_law 924 = .ok (.istore 6, 2) := by decide +kernel
theorem dL_law_926 : decode cL_law 926 = .ok (.aload_n 2, 1) := by decide +kernel
theorem dL_law_927 : decode cL_law 927 = .ok (.aload_n 0, 1) := by decide +kernel
theorem dL_law_928 : decode cL_law 928 = .ok (.iload 5, 2) := by decide +kernel
theorem dL_law_930 : decode cL_law 930 = .ok (.iconst 1, 1) := by decide +kernel
theorem dL_law_931 : decode cL_law 931 = .ok (.iadd, 1) := by decide +kernel
theorem dL_law_932 : decode cL_law 932 = .ok (.iaload, 1) := by decide +kernel
theorem dL_law_933 : decode cL_law 933 = .ok (.aload_n 0, 1) := by decide +kernel
theorem dL_law_934 : decode cL_law 934 = .ok (.iload 5, 2) := by decide +kernel
theorem dL_law_936 : decode cL_law 936 = .ok (.iconst 2, 1) := by decide +kernel
theorem dL_law_937 : decode cL_law 937 = .ok (.iadd, 1) := by decide +kernel
theorem dL_law_938 : decode cL_law 938 = .ok (.iaload, 1) := by decide +kernel
theorem dL_law_939 : decode cL_law 939 = .ok (.aload_n 0, 1) := by decide +kernel
theorem dL_law_940 : decode cL_law 940 = .ok (.iload 5, 2) := by decide +kernel
theorem dL_law_942 : decode cL_law 942 = .ok (.iconst 3, 1) := by decide +kernel
theorem dL_law_943 : decode cL_law 943 = .ok (.iadd, 1) := by decide +kernel
theorem dL_law_944 : decode cL_law 944 = .ok (.iaload, 1) := by decide +kernel
theorem dL_law_945 : decode cL_law 945 = .ok (.invokevirtual 184, 3) := by decide +kernel
theorem dL_law_948 : decode cL_law 948 = .ok (.istore 7, 2) := by decide +kernel
theorem dL_law_950 : decode cL_law 950 = .ok (.aload_n 2, 1) := by decide +kernel
theorem dL_law_951 : decode cL_law 951 = .ok (.invokevirtual 149, 3) := by decide +kernel
theorem dL_law_954 : decode cL_law 954 = .ok (.iload 6, 2) := by decide +kernel
theorem dL_law_956 : decode cL_law 956 = .ok (.if_icmp .eq 5, 3) := by decide +kernel
theorem dL_law_959 : decode cL_law 959 = .ok (.iconst 0, 1) := by decide +kernel
theorem dL_law_960 : decode cL_law 960 = .ok (.ireturn, 1) := by decide +kernel
theorem dL_law_961 : decode cL_law 961 = .ok (.iload 6, 2) := by decide +kernel
theorem dL_law_963 : decode cL_law 963 = .ok (.ifCond .ne 15, 3) := by decide +kernel
theorem dL_law_966 : decode cL_law 966 = .ok (.aload_n 3, 1) := by decide +kernel
theorem dL_law_967 : decode cL_law 967 = .ok (.iconst 0, 1) := by decide +kernel
theorem dL_law_968 : decode cL_law 968 = .ok (.laload, 1) := by decide +kernel
theorem dL_law_969 : decode cL_law 969 = .ok (.iload 7, 2) := by decide +kernel
theorem dL_law_971 : decode cL_law 971 = .ok (.i2l, 1) := by decide +kernel
theorem dL_law_972 : decode cL_law 972 = .ok (.lcmp, 1) := by decide +kernel
theorem dL_law_973 : decode cL_law 973 = .ok (.ifCond .eq 5, 3) := by decide +kernel
theorem dL_law_976 : decode cL_law 976 = .ok (.iconst 0, 1) := by decide +kernel
theorem dL_law_977 : decode cL_law 977 = .ok (.ireturn, 1) := by decide +kernel
theorem dL_law_978 : decode cL_law 978 = .ok (.goto 1632, 3) := by decide +kernel
theorem dL_law_981 : decode cL_law 981 = .ok (.aload_n 1, 1) := by decide +kernel
theorem dL_law_982 : decode cL_law 982 = .ok (.aload_n 0, 1) := by decide +kernel
theorem dL_law_983 : decode cL_law 983 = .ok (.iload 5, 2) := by decide +kernel
theorem dL_law_985 : decode cL_law 985 = .ok (.iconst 1, 1) := by decide +kernel
theorem dL_law_986 : decode cL_law 986 = .ok (.iadd, 1) := by decide +kernel
theorem dL_law_987 : decode cL_law 987 = .ok (.iaload, 1) := by decide +kernel
theorem dL_law_988 : decode cL_law 988 = .ok (.aload_n 3, 1) := by decide +kernel
theorem dL_law_989 : decode cL_law 989 = .ok (.invokestatic 185, 3) := by decide +kernel
theorem dL_law_992 : decode cL_law 992 = .ok (.istore 6, 2) := by decide +kernel
theorem dL_law_994 : decode cL_law 994 = .ok (.aload_n 2, 1) := by decide +kernel
theorem dL_law_995 : decode cL_law 995 = .ok (.aload_n 0, 1) := by decide +kernel
theorem dL_law_996 : decode cL_law 996 = .ok (.iload 5, 2) := by decide +kernel
theorem dL_law_998 : decode cL_law 998 = .ok (.iconst 1, 1) := by decide +kernel
theorem dL_law_999 : decode cL_law 999 = .ok (.iadd, 1) := by decide +kernel
theorem dL_law_1000 : decode cL_law 1000 = .ok (.iaload, 1) := by decide +kernel
theorem dL_law_1001 : decode cL_law 1001 = .ok (.invokevirtual 187, 3) := by decide +kernel
theorem dL_law_1004 : decode cL_law 1004 = .ok (.istore 7, 2) := by decide +kernel
theorem dL_law_1006 : decode cL_law 1006 = .ok (.aload_n 2, 1) := by decide +kernel
theorem dL_law_1007 : decode cL_law 1007 = .ok (.invokevirtual 149, 3) := by decide +kernel
theorem dL_law_1010 : decode cL_law 1010 = .ok (.iload 6, 2) := by decide +kernel
theorem dL_law_1012 : decode cL_law 1012 = .ok (.if_icmp .eq 5, 3) := by decide +kernel
theorem dL_law_1015 : decode cL_law 1015 = .ok (.iconst 0, 1) := by decide +kernel
theorem dL_law_1016 : decode cL_law 1016 = .ok (.ireturn, 1) := by decide +kernel
theorem dL_law_1017 : decode cL_law 1017 = .ok (.iload 6, 2) := by decide +kernel
theorem dL_law_1019 : decode cL_law 1019 = .ok (.ifCond .ne 15, 3) := by decide +kernel
theorem dL_law_1022 : decode cL_law 1022 = .ok (.aload_n 3, 1) := by decide +kernel
theorem dL_law_1023 : decode cL_law 1023 = .ok (.iconst 0, 1) := by decide +kernel
theorem dL_law_1024 : decode cL_law 1024 = .ok (.laload, 1) := by decide +kernel
theorem dL_law_1025 : decode cL_law 1025 = .ok (.iload 7, 2) := by decide +kernel
theorem dL_law_1027 : decode cL_law 1027 = .ok (.i2l, 1) := by decide +kernel
theorem dL_law_1028 : decode cL_law 1028 = .ok (.lcmp, 1) := by decide +kernel
theorem dL_law_1029 : decode cL_law 1029 = .ok (.ifCond .eq 5, 3) := by decide +kernel
theorem dL_law_1032 : decode cL_law 1032 = .ok (.iconst 0, 1) := by decide +kernel
theorem dL_law_1033 : decode cL_law 1033 = .ok (.ireturn, 1) := by decide +kernel
theorem dL_law_1034 : decode cL_law 1034 = .ok (.goto 1576, 3) := by decide +kernel
theorem dL_law_1037 : decode cL_law 1037 = .ok (.aload_n 1, 1) := by decide +kernel
theorem dL_law_1038 : decode cL_law 1038 = .ok (.aload_n 0, 1) := by decide +kernel
theorem dL_law_1039 : decode cL_law 1039 = .ok (.iload 5, 2) := by decide +kernel
theorem dL_law_1041 : decode cL_law 1041 = .ok (.iconst 1, 1) := by decide +kernel
theorem dL_law_1042 : decode cL_law 1042 = .ok (.iadd, 1) := by decide +kernel
theorem dL_law_1043 : decode cL_law 1043 = .ok (.iaload, 1) := by decide +kernel
theorem dL_law_1044 : decode cL_law 1044 = .ok (.aload_n 3, 1) := by decide +kernel
theorem dL_law_1045 : decode cL_law 1045 = .ok (.invokestatic 188, 3) := by decide +kernel
theorem dL_law_1048 : decode cL_law 1048 = .ok (.istore 6, 2) := by decide +kernel
theorem dL_law_1050 : decode cL_law 1050 = .ok (.aload_n 2, 1) := by decide +kernel
theorem dL_law_1051 : decode cL_law 1051 = .ok (.aload_n 0, 1) := by decide +kernel
theorem dL_law_1052 : decode cL_law 1052 = .ok (.iload 5, 2) := by decide +kernel
theorem dL_law_1054 : decode cL_law 1054 = .ok (.iconst 1, 1) := by decide +kernel
theorem dL_law_1055 : decode cL_law 1055 = .ok (.iadd, 1) := by decide +kernel
theorem dL_law_1056 : decode cL_law 1056 = .ok (.iaload, 1) := by decide +kernel
theorem dL_law_1057 : decode cL_law 1057 = .ok (.invokevirtual 190, 3) := by decide +kernel
theorem dL_law_1060 : decode cL_law 1060 = .ok (.istore 7, 2) := by decide +kernel
theorem dL_law_1062 : decode cL_law 1062 = .ok (.aload_n 2, 1) := by decide +kernel
theorem dL_law_1063 : decode cL_law 1063 = .ok (.invokevirtual 149, 3) := by decide +kernel
theorem dL_law_1066 : decode cL_law 1066 = .ok (.iload 6, 2) := by decide +kernel
theorem dL_law_1068 : decode cL_law 1068 = .ok (.if_icmp .eq 5, 3) := by decide +kernel
theorem dL_law_1071 : decode cL_law 1071 = .ok (.iconst 0, 1) := by decide +kernel
theorem dL_law_1072 : decode cL_law 1072 = .ok (.ireturn, 1) := by decide +kernel
theorem dL_law_1073 : decode cL_law 1073 = .ok (.iload 6, 2) := by decide +kernel
theorem dL_law_1075 : decode cL_law 1075 = .ok (.ifCond .ne 15, 3) := by decide +kernel
theorem dL_law_1078 : decode cL_law 1078 = .ok (.aload_n 3, 1) := by decide +kernel
theorem dL_law_1079 : decode cL_law 1079 = .ok (.iconst 0, 1) := by decide +kernel
theorem dL_law_1080 : decode cL_law 1080 = .ok (.laload, 1) := by decide +kernel
theorem dL_law_1081 : decode cL_law 1081 = .ok (.iload 7, 2) := by decide +kernel
theorem dL_law_1083 : decode cL_law 1083 = .ok (.i2l, 1) := by decide +kernel
theorem dL_law_1084 : decode cL_law 1084 = .ok (.lcmp, 1) := by decide +kernel
theorem dL_law_1085 : decode cL_law 1085 = .ok (.ifCond .eq 5, 3) := by decide +kernel
theorem dL_law_1088 : decode cL_law 1088 = .ok (.iconst 0, 1) := by decide +kernel
theorem dL_law_1089 : decode cL_law 1089 = .ok (.ireturn, 1) := by decide +kernel
theorem dL_law_1090 : decode cL_law 1090 = .ok (.goto 1520, 3) := by decide +kernel
theorem dL_law_1093 : decode cL_law 1093 = .ok (.aload_n 1, 1) := by decide +kernel
theorem dL_law_1094 : decode cL_law 1094 = .ok (.aload_n 0, 1) := by decide +kernel
theorem dL_law_1095 : decode cL_law 1095 = .ok (.iload 5, 2) := by decide +kernel
theorem dL_law_1097 : decode cL_law 1097 = .ok (.iconst 1, 1) := by decide +kernel
theorem dL_law_1098 : decode cL_law 1098 = .ok (.iadd, 1) := by decide +kernel
theorem dL_law_1099 : decode cL_law 1099 = .ok (.iaload, 1) := by decide +kernel
theorem dL_law_1100 : decode cL_law 1100 = .ok (.aload_n 0, 1) := by decide +kernel
theorem dL_law_1101 : decode cL_law 1101 = .ok (.iload 5, 2) := by decide +kernel
theorem dL_law_1103 : decode cL_law 1103 = .ok (.iconst 2, 1) := by decide +kernel
theorem dL_law_1104 : decode cL_law 1104 = .ok (.iadd, 1) := by decide +kernel
theorem dL_law_1105 : decode cL_law 1105 = .ok (.iaload, 1) := by decide +kernel
theorem dL_law_1106 : decode cL_law 1106 = .ok (.aload_n 3, 1) := by decide +kernel
theorem dL_law_1107 : decode cL_law 1107 = .ok (.invokestatic 191, 3) := by decide +kernel
theorem dL_law_1110 : decode cL_law 1110 = .ok (.istore 6, 2) := by decide +kernel
theorem dL_law_1112 : decode cL_law 1112 = .ok (.aload_n 2, 1) := by decide +kernel
theorem dL_law_1113 : decode cL_law 1113 = .ok (.aload_n 0, 1) := by decide +kernel
theorem dL_law_1114 : decode cL_law 1114 = .ok (.iload 5, 2) := by decide +kernel
theorem dL_law_1116 : decode cL_law 1116 = .ok (.iconst 1, 1) := by decide +kernel
theorem dL_law_1117 : decode cL_law 1117 = .ok (.iadd, 1) := by decide +kernel
theorem dL_law_1118 : decode cL_law 1118 = .ok (.iaload, 1) := by decide +kernel
theorem dL_law_1119 : decode cL_law 1119 = .ok (.aload_n 0, 1) := by decide +kernel
theorem dL_law_1120 : decode cL_law 1120 = .ok (.iload 5, 2) := by decide +kernel
theorem dL_law_1122 : decode cL_law 1122 = .ok (.iconst 2, 1) := by decide +kernel
theorem dL_law_1123 : decode cL_law 1123 = .ok (.iadd, 1) := by decide +kernel
theorem dL_law_1124 : decode cL_law 1124 = .ok (.iaload, 1) := by decide +kernel
theorem dL_law_1125 : decode cL_law 1125 = .ok (.invokevirtual 193, 3) := by decide +kernel
theorem dL_law_1128 : decode cL_law 1128 = .ok (.istore 7, 2) := by decide +kernel
theorem dL_law_1130 : decode cL_law 1130 = .ok (.aload_n 2, 1) := by decide +kernel
theorem dL_law_1131 : decode cL_law 1131 = .ok (.invokevirtual 149, 3) := by decide +kernel
theorem dL_law_1134 : decode cL_law 1134 = .ok (.iload 6, 2) := by decide +kernel
theorem dL_law_1136 : decode cL_law 1136 = .ok (.if_icmp .eq 5, 3) := by decide +kernel
theorem dL_law_1139 : decode cL_law 1139 = .ok (.iconst 0, 1) := by decide +kernel
theorem dL_law_1140 : decode cL_law 1140 = .ok (.ireturn, 1) := by decide +kernel
theorem dL_law_1141 : decode cL_law 1141 = .ok (.iload 6, 2) := by decide +kernel
theorem dL_law_1143 : decode cL_law 1143 = .ok (.ifCond .ne 22, 3) := by decide +kernel
theorem dL_law_1146 : decode cL_law 1146 = .ok (.aload_n 3, 1) := by decide +kernel
theorem dL_law_1147 : decode cL_law 1147 = .ok (.iconst 0, 1) := by decide +kernel
theorem dL_law_1148 : decode cL_law 1148 = .ok (.laload, 1) := by decide +kernel
theorem dL_law_1149 : decode cL_law 1149 = .ok (.iload 7, 2) := by decide +kernel
theorem dL_law_1151 : decode cL_law 1151 = .ok (.ifCond .eq 7, 3) := by decide +kernel
theorem dL_law_1154 : decode cL_law 1154 = .ok (.lconst 1, 1) := by decide +kernel
theorem dL_law_1155 : decode cL_law 1155 = .ok (.goto 4, 3) := by decide +kernel
theorem dL_law_1158 : decode cL_law 1158 = .ok (.lconst 0, 1) := by decide +kernel
theorem dL_law_1159 : decode cL_law 1159 = .ok (.lcmp, 1) := by decide +kernel
theorem dL_law_1160 : decode cL_law 1160 = .ok (.ifCond .eq 5, 3) := by decide +kernel
theorem dL_law_1163 : decode cL_law 1163 = .ok (.iconst 0, 1) := by decide +kernel
theorem dL_law_1164 : decode cL_law 1164 = .ok (.ireturn, 1) := by decide +kernel
theorem dL_law_1165 : decode cL_law 1165 = .ok (.goto 1445, 3) := by decide +kernel
theorem dL_law_1168 : decode cL_law 1168 = .ok (.aload_n 1, 1) := by decide +kernel
theorem dL_law_1169 : decode cL_law 1169 = .ok (.aload_n 0, 1) := by decide +kernel
theorem dL_law_1170 : decode cL_law 1170 = .ok (.iload 5, 2) := by decide +kernel
theorem dL_law_1172 : decode cL_law 1172 = .ok (.iconst 1, 1) := by decide +kernel
theorem dL_law_1173 : decode cL_law 1173 = .ok (.iadd, 1) := by decide +kernel
theorem dL_law_1174 : decode cL_law 1174 = .ok (.iaload, 1) := by decide +kernel
theorem dL_law_1175 : decode cL_law 1175 = .ok (.aload_n 3, 1) := by decide +kernel
theorem dL_law_1176 : decode cL_law 1176 = .ok (.invokestatic 194, 3) := by decide +kernel
theorem dL_law_1179 : decode cL_law 1179 = .ok (.istore 6, 2) := by decide +kernel
theorem dL_law_1181 : decode cL_law 1181 = .ok (.aload_n 2, 1) := by decide +kernel
theorem dL_law_1182 : decode cL_law 1182 = .ok (.aload_n 0, 1) := by decide +kernel
theorem dL_law_1183 : decode cL_law 1183 = .ok (.iload 5, 2) := by decide +kernel
theorem dL_law_1185 : decode cL_law 1185 = .ok (.iconst 1, 1) := by decide +kernel
theorem dL_law_1186 : decode cL_law 1186 = .ok (.iadd, 1) := by decide +kernel
theorem dL_law_1187 : decode cL_law 1187 = .ok (.iaload, 1) := by decide +kernel
theorem dL_law_1188 : decode cL_law 1188 = .ok (.invokevirtual 196, 3) := by decide +kernel
theorem dL_law_1191 : decode cL_law 1191 = .ok (.istore 7, 2) := by decide +kernel
theorem dL_law_1193 : decode cL_law 1193 = .ok (.aload_n 2, 1) := by decide +kernel
theorem dL_law_1194 : decode cL_law 1194 = .ok (.invokevirtual 149, 3) := by decide +kernel
theorem dL_law_1197 : decode cL_law 1197 = .ok (.iload 6, 2) := by decide +kernel
theorem dL_law_1199 : decode cL_law 1199 = .ok (.if_icmp .eq 5, 3) := by decide +kernel
theorem dL_law_1202 : decode cL_law 1202 = .ok (.iconst 0, 1) := by decide +kernel
theorem dL_law_1203 : decode cL_law 1203 = .ok (.ireturn, 1) := by decide +kernel
theorem dL_law_1204 : decode cL_law 1204 = .ok (.iload 6, 2) := by decide +kernel
theorem dL_law_1206 : decode cL_law 1206 = .ok (.ifCond .ne 15, 3) := by decide +kernel
theorem dL_law_1209 : decode cL_law 1209 = .ok (.aload_n 3, 1) := by decide +kernel
theorem dL_law_1210 : decode cL_law 1210 = .ok (.iconst 0, 1) := by decide +kernel
theorem dL_law_1211 : decode cL_law 1211 = .ok (.laload, 1) := by decide +kernel
theorem dL_law_1212 : decode cL_law 1212 = .ok (.iload 7, 2) := by decide +kernel
theorem dL_law_1214 : decode cL_law 1214 = .ok (.i2l, 1) := by decide +kernel
theorem dL_law_1215 : decode cL_law 1215 = .ok (.lcmp, 1) := by decide +kernel
theorem dL_law_1216 : decode cL_law 1216 = .ok (.ifCond .eq 5, 3) := by decide +kernel
theorem dL_law_1219 : decode cL_law 1219 = .ok (.iconst 0, 1) := by decide +kernel
theorem dL_law_1220 : decode cL_law 1220 = .ok (.ireturn, 1) := by decide +kernel
theorem dL_law_1221 : decode cL_law 1221 = .ok (.goto 1389, 3) := by decide +kernel
theorem dL_law_1224 : decode cL_law 1224 = .ok (.aload_n 1, 1) := by decide +kernel
theorem dL_law_1225 : decode cL_law 1225 = .ok (.aload_n 0, 1) := by decide +kernel
theorem dL_law_1226 : decode cL_law 1226 = .ok (.iload 5, 2) := by decide +kernel
theorem dL_law_1228 : decode cL_law 1228 = .ok (.iconst 1, 1) := by decide +kernel
theorem dL_law_1229 : decode cL_law 1229 = .ok (.iadd, 1) := by decide +kernel
theorem dL_law_1230 : decode cL_law 1230 = .ok (.iaload, 1) := by decide +kernel
theorem dL_law_1231 : decode cL_law 1231 = .ok (.aload_n 0, 1) := by decide +kernel
theorem dL_law_1232 : decode cL_law 1232 = .ok (.iload 5, 2) := by decide +kernel
theorem dL_law_1234 : decode cL_law 1234 = .ok (.iconst 2, 1) := by decide +kernel
theorem dL_law_1235 : decode cL_law 1235 = .ok (.iadd, 1) := by decide +kernel
theorem dL_law_1236 : decode cL_law 1236 = .ok (.iaload, 1) := by decide +kernel
theorem dL_law_1237 : decode cL_law 1237 = .ok (.aload_n 3, 1) := by decide +kernel
theorem dL_law_1238 : decode cL_law 1238 = .ok (.invokestatic 197, 3) := by decide +kernel
theorem dL_law_1241 : decode cL_law 1241 = .ok (.istore 6, 2) := by decide +kernel
theorem dL_law_1243 : decode cL_law 1243 = .ok (.aload_n 2, 1) := by decide +kernel
theorem dL_law_1244 : decode cL_law 1244 = .ok (.aload_n 0, 1) := by decide +kernel
theorem dL_law_1245 : decode cL_law 1245 = .ok (.iload 5, 2) := by decide +kernel
theorem dL_law_1247 : decode cL_law 1247 = .ok (.iconst 1, 1) := by decide +kernel
theorem dL_law_1248 : decode cL_law 1248 = .ok (.iadd, 1) := by decide +kernel
theorem dL_law_1249 : decode cL_law 1249 = .ok (.iaload, 1) := by decide +kernel
theorem dL_law_1250 : decode cL_law 1250 = .ok (.aload_n 0, 1) := by decide +kernel
theorem dL_law_1251 : decode cL_law 1251 = .ok (.iload 5, 2) := by decide +kernel
theorem dL_law_1253 : decode cL_law 1253 = .ok (.iconst 2, 1) := by decide +kernel
theorem dL_law_1254 : decode cL_law 1254 = .ok (.iadd, 1) := by decide +kernel
theorem dL_law_1255 : decode cL_law 1255 = .ok (.iaload, 1) := by decide +kernel
theorem dL_law_1256 : decode cL_law 1256 = .ok (.invokevirtual 199, 3) := by decide +kernel
theorem dL_law_1259 : decode cL_law 1259 = .ok (.istore 7, 2) := by decide +kernel
theorem dL_law_1261 : decode cL_law 1261 = .ok (.aload_n 2, 1) := by decide +kernel
theorem dL_law_1262 : decode cL_law 1262 = .ok (.invokevirtual 149, 3) := by decide +kernel
theorem dL_law_1265 : decode cL_law 1265 = .ok (.iload 6, 2) := by decide +kernel
theorem dL_law_1267 : decode cL_law 1267 = .ok (.if_icmp .eq 5, 3) := by decide +kernel
theorem dL_law_1270 : decode cL_law 1270 = .ok (.iconst 0, 1) := by decide +kernel
theorem dL_law_1271 : decode cL_law 1271 = .ok (.ireturn, 1) := by decide +kernel
theorem dL_law_1272 : decode cL_law 1272 = .ok (.iload 6, 2) := by decide +kernel
theorem dL_law_1274 : decode cL_law 1274 = .ok (.ifCond .ne 15, 3) := by decide +kernel
theorem dL_law_1277 : decode cL_law 1277 = .ok (.aload_n 3, 1) := by decide +kernel
theorem dL_law_1278 : decode cL_law 1278 = .ok (.iconst 0, 1) := by decide +kernel
theorem dL_law_1279 : decode cL_law 1279 = .ok (.laload, 1) := by decide +kernel
theorem dL_law_1280 : decode cL_law 1280 = .ok (.iload 7, 2) := by decide +kernel
theorem dL_law_1282 : decode cL_law 1282 = .ok (.i2l, 1) := by decide +kernel
theorem dL_law_1283 : decode cL_law 1283 = .ok (.lcmp, 1) := by decide +kernel
theorem dL_law_1284 : decode cL_law 1284 = .ok (.ifCond .eq 5, 3) := by decide +kernel
theorem dL_law_1287 : decode cL_law 1287 = .ok (.iconst 0, 1) := by decide +kernel
theorem dL_law_1288 : decode cL_law 1288 = .ok (.ireturn, 1) := by decide +kernel
theorem dL_law_1289 : decode cL_law 1289 = .ok (.goto 1321, 3) := by decide +kernel
theorem dL_law_1292 : decode cL_law 1292 = .ok (.aload_n 1, 1) := by decide +kernel
theorem dL_law_1293 : decode cL_law 1293 = .ok (.aload_n 0, 1) := by decide +kernel
theorem dL_law_1294 : decode cL_law 1294 = .ok (.iload 5, 2) := by decide +kernel
theorem dL_law_1296 : decode cL_law 1296 = .ok (.iconst 1, 1) := by decide +kernel
theorem dL_law_1297 : decode cL_law 1297 = .ok (.iadd, 1) := by decide +kernel
theorem dL_law_1298 : decode cL_law 1298 = .ok (.iaload, 1) := by decide +kernel
theorem dL_law_1299 : decode cL_law 1299 = .ok (.aload_n 3, 1) := by decide +kernel
theorem dL_law_1300 : decode cL_law 1300 = .ok (.invokestatic 200, 3) := by decide +kernel
theorem dL_law_1303 : decode cL_law 1303 = .ok (.istore 6, 2) := by decide +kernel
theorem dL_law_1305 : decode cL_law 1305 = .ok (.aload_n 2, 1) := by decide +kernel
theorem dL_law_1306 : decode cL_law 1306 = .ok (.aload_n 0, 1) := by decide +kernel
theorem dL_law_1307 : decode cL_law 1307 = .ok (.iload 5, 2) := by decide +kernel
theorem dL_law_1309 : decode cL_law 1309 = .ok (.iconst 1, 1) := by decide +kernel
theorem dL_law_1310 : decode cL_law 1310 = .ok (.iadd, 1) := by decide +kernel
theorem dL_law_1311 : decode cL_law 1311 = .ok (.iaload, 1) := by decide +kernel
theorem dL_law_1312 : decode cL_law 1312 = .ok (.invokevirtual 202, 3) := by decide +kernel
theorem dL_law_1315 : decode cL_law 1315 = .ok (.istore 7, 2) := by decide +kernel
theorem dL_law_1317 : decode cL_law 1317 = .ok (.aload_n 2, 1) := by decide +kernel
theorem dL_law_1318 : decode cL_law 1318 = .ok (.invokevirtual 149, 3) := by decide +kernel
theorem dL_law_1321 : decode cL_law 1321 = .ok (.iload 6, 2) := by decide +kernel
theorem dL_law_1323 : decode cL_law 1323 = .ok (.if_icmp .eq 5, 3) := by decide +kernel
theorem dL_law_1326 : decode cL_law 1326 = .ok (.iconst 0, 1) := by decide +kernel
theorem dL_law_1327 : decode cL_law 1327 = .ok (.ireturn, 1) := by decide +kernel
theorem dL_law_1328 : decode cL_law 1328 = .ok (.iload 6, 2) := by decide +kernel
theorem dL_law_1330 : decode cL_law 1330 = .ok (.ifCond .ne 15, 3) := by decide +kernel
theorem dL_law_1333 : decode cL_law 1333 = .ok (.aload_n 3, 1) := by decide +kernel
theorem dL_law_1334 : decode cL_law 1334 = .ok (.iconst 0, 1) := by decide +kernel
theorem dL_law_1335 : decode cL_law 1335 = .ok (.laload, 1) := by decide +kernel
theorem dL_law_1336 : decode cL_law 1336 = .ok (.iload 7, 2) := by decide +kernel
theorem dL_law_1338 : decode cL_law 1338 = .ok (.i2l, 1) := by decide +kernel
theorem dL_law_1339 : decode cL_law 1339 = .ok (.lcmp, 1) := by decide +kernel
theorem dL_law_1340 : decode cL_law 1340 = .ok (.ifCond .eq 5, 3) := by decide +kernel
theorem dL_law_1343 : decode cL_law 1343 = .ok (.iconst 0, 1) := by decide +kernel
theorem dL_law_1344 : decode cL_law 1344 = .ok (.ireturn, 1) := by decide +kernel
theorem dL_law_1345 : decode cL_law 1345 = .ok (.goto 1265, 3) := by decide +kernel
theorem dL_law_1348 : decode cL_law 1348 = .ok (.aload_n 1, 1) := by decide +kernel
theorem dL_law_1349 : decode cL_law 1349 = .ok (.aload_n 0, 1) := by decide +kernel
theorem dL_law_1350 : decode cL_law 1350 = .ok (.iload 5, 2) := by decide +kernel
theorem dL_law_1352 : decode cL_law 1352 = .ok (.iconst 1, 1) := by decide +kernel
theorem dL_law_1353 : decode cL_law 1353 = .ok (.iadd, 1) := by decide +kernel
theorem dL_law_1354 : decode cL_law 1354 = .ok (.iaload, 1) := by decide +kernel
theorem dL_law_1355 : decode cL_law 1355 = .ok (.aload_n 3, 1) := by decide +kernel
theorem dL_law_1356 : decode cL_law 1356 = .ok (.invokestatic 203, 3) := by decide +kernel
theorem dL_law_1359 : decode cL_law 1359 = .ok (.istore 6, 2) := by decide +kernel
theorem dL_law_1361 : decode cL_law 1361 = .ok (.aload_n 2, 1) := by decide +kernel
theorem dL_law_1362 : decode cL_law 1362 = .ok (.aload_n 0, 1) := by decide +kernel
theorem dL_law_1363 : decode cL_law 1363 = .ok (.iload 5, 2) := by decide +kernel
theorem dL_law_1365 : decode cL_law 1365 = .ok (.iconst 1, 1) := by decide +kernel
theorem dL_law_1366 : decode cL_law 1366 = .ok (.iadd, 1) := by decide +kernel
theorem dL_law_1367 : decode cL_law 1367 = .ok (.iaload, 1) := by decide +kernel
theorem dL_law_1368 : decode cL_law 1368 = .ok (.invokevirtual 205, 3) := by decide +kernel
theorem dL_law_1371 : decode cL_law 1371 = .ok (.istore 7, 2) := by decide +kernel
theorem dL_law_1373 : decode cL_law 1373 = .ok (.aload_n 2, 1) := by decide +kernel
theorem dL_law_1374 : decode cL_law 1374 = .ok (.invokevirtual 149, 3) := by decide +kernel
theorem dL_law_1377 : decode cL_law 1377 = .ok (.iload 6, 2) := by decide +kernel
theorem dL_law_1379 : decode cL_law 1379 = .ok (.if_icmp .eq 5, 3) := by decide +kernel
theorem dL_law_1382 : decode cL_law 1382 = .ok (.iconst 0, 1) := by decide +kernel
theorem dL_law_1383 : decode cL_law 1383 = .ok (.ireturn, 1) := by decide +kernel
theorem dL_law_1384 : decode cL_law 1384 = .ok (.iload 6, 2) := by decide +kernel
theorem dL_law_1386 : decode cL_law 1386 = .ok (.ifCond .ne 15, 3) := by decide +kernel
theorem dL_law_1389 : decode cL_law 1389 = .ok (.aload_n 3, 1) := by decide +kernel
theorem dL_law_1390 : decode cL_law 1390 = .ok (.iconst 0, 1) := by decide +kernel
theorem dL_law_1391 : decode cL_law 1391 = .ok (.laload, 1) := by decide +kernel
theorem dL_law_1392 : decode cL_law 1392 = .ok (.iload 7, 2) := by decide +kernel
theorem dL_law_1394 : decode cL_law 1394 = .ok (.i2l, 1) := by decide +kernel
theorem dL_law_1395 : decode cL_law 1395 = .ok (.lcmp, 1) := by decide +kernel
theorem dL_law_1396 : decode cL_law 1396 = .ok (.ifCond .eq 5, 3) := by decide +kernel
theorem dL_law_1399 : decode cL_law 1399 = .ok (.iconst 0, 1) := by decide +kernel
theorem dL_law_1400 : decode cL_law 1400 = .ok (.ireturn, 1) := by decide +kernel
theorem dL_law_1401 : decode cL_law 1401 = .ok (.goto 1209, 3) := by decide +kernel
theorem dL_law_1404 : decode cL_law 1404 = .ok (.aload_n 1, 1) := by decide +kernel
theorem dL_law_1405 : decode cL_law 1405 = .ok (.aload_n 0, 1) := by decide +kernel
theorem dL_law_1406 : decode cL_law 1406 = .ok (.iload 5, 2) := by decide +kernel
theorem dL_law_1408 : decode cL_law 1408 = .ok (.iconst 1, 1) := by decide +kernel
theorem dL_law_1409 : decode cL_law 1409 = .ok (.iadd, 1) := by decide +kernel
theorem dL_law_1410 : decode cL_law 1410 = .ok (.iaload, 1) := by decide +kernel
theorem dL_law_1411 : decode cL_law 1411 = .ok (.aload_n 3, 1) := by decide +kernel
theorem dL_law_1412 : decode cL_law 1412 = .ok (.invokestatic 206, 3) := by decide +kernel
theorem dL_law_1415 : decode cL_law 1415 = .ok (.istore 6, 2) := by decide +kernel
theorem dL_law_1417 : decode cL_law 1417 = .ok (.aload_n 2, 1) := by decide +kernel
theorem dL_law_1418 : decode cL_law 1418 = .ok (.aload_n 0, 1) := by decide +kernel
theorem dL_law_1419 : decode cL_law 1419 = .ok (.iload 5, 2) := by decide +kernel
theorem dL_law_1421 : decode cL_law 1421 = .ok (.iconst 1, 1) := by decide +kernel
theorem dL_law_1422 : decode cL_law 1422 = .ok (.iadd, 1) := by decide +kernel
theorem dL_law_1423 : decode cL_law 1423 = .ok (.iaload, 1) := by decide +kernel
theorem dL_law_1424 : decode cL_law 1424 = .ok (.invokevirtual 208, 3) := by decide +kernel
theorem dL_law_1427 : decode cL_law 1427 = .ok (.istore 7, 2) := by decide +kernel
theorem dL_law_1429 : decode cL_law 1429 = .ok (.aload_n 2, 1) := by decide +kernel
theorem dL_law_1430 : decode cL_law 1430 = .ok (.invokevirtual 149, 3) := by decide +kernel
theorem dL_law_1433 : decode cL_law 1433 = .ok (.iload 6, 2) := by decide +kernel
theorem dL_law_1435 : decode cL_law 1435 = .ok (.if_icmp .eq 5, 3) := by decide +kernel
theorem dL_law_1438 : decode cL_law 1438 = .ok (.iconst 0, 1) := by decide +kernel
theorem dL_law_1439 : decode cL_law 1439 = .ok (.ireturn, 1) := by decide +kernel
theorem dL_law_1440 : decode cL_law 1440 = .ok (.iload 6, 2) := by decide +kernel
theorem dL_law_1442 : decode cL_law 1442 = .ok (.ifCond .ne 15, 3) := by decide +kernel
theorem dL_law_1445 : decode cL_law 1445 = .ok (.aload_n 3, 1) := by decide +kernel
theorem dL_law_1446 : decode cL_law 1446 = .ok (.iconst 0, 1) := by decide +kernel
theorem dL_law_1447 : decode cL_law 1447 = .ok (.laload, 1) := by decide +kernel
theorem dL_law_1448 : decode cL_law 1448 = .ok (.iload 7, 2) := by decide +kernel
theorem dL_law_1450 : decode cL_law 1450 = .ok (.i2l, 1) := by decide +kernel
theorem dL_law_1451 : decode cL_law 1451 = .ok (.lcmp, 1) := by decide +kernel
theorem dL_law_1452 : decode cL_law 1452 = .ok (.ifCond .eq 5, 3) := by decide +kernel
theorem dL_law_1455 : decode cL_law 1455 = .ok (.iconst 0, 1) := by decide +kernel
theorem dL_law_1456 : decode cL_law 1456 = .ok (.ireturn, 1) := by decide +kernel
theorem dL_law_1457 : decode cL_law 1457 = .ok (.goto 1153, 3) := by decide +kernel
theorem dL_law_1460 : decode cL_law 1460 = .ok (.aload_n 1, 1) := by decide +kernel
theorem dL_law_1461 : decode cL_law 1461 = .ok (.aload_n 0, 1) := by decide +kernel
theorem dL_law_1462 : decode cL_law 1462 = .ok (.iload 5, 2) := by decide +kernel
theorem dL_law_1464 : decode cL_law 1464 = .ok (.iconst 1, 1) := by decide +kernel
theorem dL_law_1465 : decode cL_law 1465 = .ok (.iadd, 1) := by decide +kernel
theorem dL_law_1466 : decode cL_law 1466 = .ok (.iaload, 1) := by decide +kernel
theorem dL_law_1467 : decode cL_law 1467 = .ok (.aload_n 0, 1) := by decide +kernel
theorem dL_law_1468 : decode cL_law 1468 = .ok (.iload 5, 2) := by decide +kernel
theorem dL_law_1470 : decode cL_law 1470 = .ok (.iconst 2, 1) := by decide +kernel
theorem dL_law_1471 : decode cL_law 1471 = .ok (.iadd, 1) := by decide +kernel
theorem dL_law_1472 : decode cL_law 1472 = .ok (.iaload, 1) := by decide +kernel
theorem dL_law_1473 : decode cL_law 1473 = .ok (.aload_n 3, 1) := by decide +kernel
theorem dL_law_1474 : decode cL_law 1474 = .ok (.invokestatic 209, 3) := by decide +kernel
theorem dL_law_1477 : decode cL_law 1477 = .ok (.istore 6, 2) := by decide +kernel
theorem dL_law_1479 : decode cL_law 1479 = .ok (.aload_n 2, 1) := by decide +kernel
theorem dL_law_1480 : decode cL_law 1480 = .ok (.aload_n 0, 1) := by decide +kernel
theorem dL_law_1481 : decode cL_law 1481 = .ok (.iload 5, 2) := by decide +kernel
theorem dL_law_1483 : decode cL_law 1483 = .ok (.iconst 1, 1) := by decide +kernel
theorem dL_law_1484 : decode cL_law 1484 = .ok (.iadd, 1) := by decide +kernel
theorem dL_law_1485 : decode cL_law 1485 = .ok (.iaload, 1) := by decide +kernel
theorem dL_law_1486 : decode cL_law 1486 = .ok (.aload_n 0, 1) := by decide +kernel
theorem dL_law_1487 : decode cL_law 1487 = .ok (.iload 5, 2) := by decide +kernel
theorem dL_law_1489 : decode cL_law 1489 = .ok (.iconst 2, 1) := by decide +kernel
theorem dL_law_1490 : decode cL_law 1490 = .ok (.iadd, 1) := by decide +kernel
theorem dL_law_1491 : decode cL_law 1491 = .ok (.iaload, 1) := by decide +kernel
theorem dL_law_1492 : decode cL_law 1492 = .ok (.invokevirtual 211, 3) := by decide +kernel
theorem dL_law_1495 : decode cL_law 1495 = .ok (.istore 7, 2) := by decide +kernel
theorem dL_law_1497 : decode cL_law 1497 = .ok (.aload_n 2, 1) := by decide +kernel
theorem dL_law_1498 : decode cL_law 1498 = .ok (.invokevirtual 149, 3) := by decide +kernel
theorem dL_law_1501 : decode cL_law 1501 = .ok (.iload 6, 2) := by decide +kernel
theorem dL_law_1503 : decode cL_law 1503 = .ok (.if_icmp .eq 5, 3) := by decide +kernel
theorem dL_law_1506 : decode cL_law 1506 = .ok (.iconst 0, 1) := by decide +kernel
theorem dL_law_1507 : decode cL_law 1507 = .ok (.ireturn, 1) := by decide +kernel
theorem dL_law_1508 : decode cL_law 1508 = .ok (.iload 6, 2) := by decide +kernel
theorem dL_law_1510 : decode cL_law 1510 = .ok (.ifCond .ne 15, 3) := by decide +kernel
theorem dL_law_1513 : decode cL_law 1513 = .ok (.aload_n 3, 1) := by decide +kernel
theorem dL_law_1514 : decode cL_law 1514 = .ok (.iconst 0, 1) := by decide +kernel
theorem dL_law_1515 : decode cL_law 1515 = .ok (.laload, 1) := by decide +kernel
theorem dL_law_1516 : decode cL_law 1516 = .ok (.iload 7, 2) := by decide +kernel
theorem dL_law_1518 : decode cL_law 1518 = .ok (.i2l, 1) := by decide +kernel
theorem dL_law_1519 : decode cL_law 1519 = .ok (.lcmp, 1) := by decide +kernel
theorem dL_law_1520 : decode cL_law 1520 = .ok (.ifCond .eq 5, 3) := by decide +kernel
theorem dL_law_1523 : decode cL_law 1523 = .ok (.iconst 0, 1) := by decide +kernel
theorem dL_law_1524 : decode cL_law 1524 = .ok (.ireturn, 1) := by decide +kernel
theorem dL_law_1525 : decode cL_law 1525 = .ok (.goto 1085, 3) := by decide +kernel
theorem dL_law_1528 : decode cL_law 1528 = .ok (.aload_n 1, 1) := by decide +kernel
theorem dL_law_1529 : decode cL_law 1529 = .ok (.aload_n 0, 1) := by decide +kernel
theorem dL_law_1530 : decode cL_law 1530 = .ok (.iload 5, 2) := by decide +kernel
theorem dL_law_1532 : decode cL_law 1532 = .ok (.iconst 1, 1) := by decide +kernel
theorem dL_law_1533 : decode cL_law 1533 = .ok (.iadd, 1) := by decide +kernel
theorem dL_law_1534 : decode cL_law 1534 = .ok (.iaload, 1) := by decide +kernel
theorem dL_law_1535 : decode cL_law 1535 = .ok (.aload_n 0, 1) := by decide +kernel
theorem dL_law_1536 : decode cL_law 1536 = .ok (.iload 5, 2) := by decide +kernel
theorem dL_law_1538 : decode cL_law 1538 = .ok (.iconst 2, 1) := by decide +kernel
theorem dL_law_1539 : decode cL_law 1539 = .ok (.iadd, 1) := by decide +kernel
theorem dL_law_1540 : decode cL_law 1540 = .ok (.iaload, 1) := by decide +kernel
theorem dL_law_1541 : decode cL_law 1541 = .ok (.aload_n 3, 1) := by decide +kernel
theorem dL_law_1542 : decode cL_law 1542 = .ok (.invokestatic 212, 3) := by decide +kernel
theorem dL_law_1545 : decode cL_law 1545 = .ok (.istore 6, 2) := by decide +kernel
theorem dL_law_1547 : decode cL_law 1547 = .ok (.aload_n 2, 1) := by decide +kernel
theorem dL_law_1548 : decode cL_law 1548 = .ok (.aload_n 0, 1) := by decide +kernel
theorem dL_law_1549 : decode cL_law 1549 = .ok (.iload 5, 2) := by decide +kernel
theorem dL_law_1551 : decode cL_law 1551 = .ok (.iconst 1, 1) := by decide +kernel
theorem dL_law_1552 : decode cL_law 1552 = .ok (.iadd, 1) := by decide +kernel
theorem dL_law_1553 : decode cL_law 1553 = .ok (.iaload, 1) := by decide +kernel
theorem dL_law_1554 : decode cL_law 1554 = .ok (.aload_n 0, 1) := by decide +kernel
theorem dL_law_1555 : decode cL_law 1555 = .ok (.iload 5, 2) := by decide +kernel
theorem dL_law_1557 : decode cL_law 1557 = .ok (.iconst 2, 1) := by decide +kernel
theorem dL_law_1558 : decode cL_law 1558 = .ok (.iadd, 1) := by decide +kernel
theorem dL_law_1559 : decode cL_law 1559 = .ok (.iaload, 1) := by decide +kernel
theorem dL_law_1560 : decode cL_law 1560 = .ok (.invokevirtual 214, 3) := by decide +kernel
theorem dL_law_1563 : decode cL_law 1563 = .ok (.istore 7, 2) := by decide +kernel
theorem dL_law_1565 : decode cL_law 1565 = .ok (.aload_n 2, 1) := by decide +kernel
theorem dL_law_1566 : decode cL_law 1566 = .ok (.invokevirtual 149, 3) := by decide +kernel
theorem dL_law_1569 : decode cL_law 1569 = .ok (.iload 6, 2) := by decide +kernel
theorem dL_law_1571 : decode cL_law 1571 = .ok (.if_icmp .eq 5, 3) := by decide +kernel
theorem dL_law_1574 : decode cL_law 1574 = .ok (.iconst 0, 1) := by decide +kernel
theorem dL_law_1575 : decode cL_law 1575 = .ok (.ireturn, 1) := by decide +kernel
theorem dL_law_1576 : decode cL_law 1576 = .ok (.iload 6, 2) := by decide +kernel
theorem dL_law_1578 : decode cL_law 1578 = .ok (.ifCond .ne 15, 3) := by decide +kernel
theorem dL_law_1581 : decode cL_law 1581 = .ok (.aload_n 3, 1) := by decide +kernel
theorem dL_law_1582 : decode cL_law 1582 = .ok (.iconst 0, 1) := by decide +kernel
theorem dL_law_1583 : decode cL_law 1583 = .ok (.laload, 1) := by decide +kernel
theorem dL_law_1584 : decode cL_law 1584 = .ok (.iload 7, 2) := by decide +kernel
theorem dL_law_1586 : decode cL_law 1586 = .ok (.i2l, 1) := by decide +kernel
theorem dL_law_1587 : decode cL_law 1587 = .ok (.lcmp, 1) := by decide +kernel
theorem dL_law_1588 : decode cL_law 1588 = .ok (.ifCond .eq 5, 3) := by decide +kernel
theorem dL_law_1591 : decode cL_law 1591 = .ok (.iconst 0, 1) := by decide +kernel
theorem dL_law_1592 : decode cL_law 1592 = .ok (.ireturn, 1) := by decide +kernel
theorem dL_law_1593 : decode cL_law 1593 = .ok (.goto 1017, 3) := by decide +kernel
theorem dL_law_1596 : decode cL_law 1596 = .ok (.aload_n 1, 1) := by decide +kernel
theorem dL_law_1597 : decode cL_law 1597 = .ok (.aload_n 0, 1) := by decide +kernel
theorem dL_law_1598 : decode cL_law 1598 = .ok (.iload 5, 2) := by decide +kernel
theorem dL_law_1600 : decode cL_law 1600 = .ok (.iconst 1, 1) := by decide +kernel
theorem dL_law_1601 : decode cL_law 1601 = .ok (.iadd, 1) := by decide +kernel
theorem dL_law_1602 : decode cL_law 1602 = .ok (.iaload, 1) := by decide +kernel
theorem dL_law_1603 : decode cL_law 1603 = .ok (.aload_n 3, 1) := by decide +kernel
theorem dL_law_1604 : decode cL_law 1604 = .ok (.invokestatic 215, 3) := by decide +kernel
theorem dL_law_1607 : decode cL_law 1607 = .ok (.istore 6, 2) := by decide +kernel
theorem dL_law_1609 : decode cL_law 1609 = .ok (.aload_n 2, 1) := by decide +kernel
theorem dL_law_1610 : decode cL_law 1610 = .ok (.aload_n 0, 1) := by decide +kernel
theorem dL_law_1611 : decode cL_law 1611 = .ok (.iload 5, 2) := by decide +kernel
theorem dL_law_1613 : decode cL_law 1613 = .ok (.iconst 1, 1) := by decide +kernel
theorem dL_law_1614 : decode cL_law 1614 = .ok (.iadd, 1) := by decide +kernel
theorem dL_law_1615 : decode cL_law 1615 = .ok (.iaload, 1) := by decide +kernel
theorem dL_law_1616 : decode cL_law 1616 = .ok (.invokevirtual 217, 3) := by decide +kernel
theorem dL_law_1619 : decode cL_law 1619 = .ok (.istore 7, 2) := by decide +kernel
theorem dL_law_1621 : decode cL_law 1621 = .ok (.aload_n 2, 1) := by decide +kernel
theorem dL_law_1622 : decode cL_law 1622 = .ok (.invokevirtual 149, 3) := by decide +kernel
theorem dL_law_1625 : decode cL_law 1625 = .ok (.iload 6, 2) := by decide +kernel
theorem dL_law_1627 : decode cL_law 1627 = .ok (.if_icmp .eq 5, 3) := by decide +kernel
theorem dL_law_1630 : decode cL_law 1630 = .ok (.iconst 0, 1) := by decide +kernel
theorem dL_law_1631 : decode cL_law 1631 = .ok (.ireturn, 1) := by decide +kernel
theorem dL_law_1632 : decode cL_law 1632 = .ok (.iload 6, 2) := by decide +kernel
theorem dL_law_1634 : decode cL_law 1634 = .ok (.ifCond .ne 15, 3) := by decide +kernel
theorem dL_law_1637 : decode cL_law 1637 = .ok (.aload_n 3, 1) := by decide +kernel
theorem dL_law_1638 : decode cL_law 1638 = .ok (.iconst 0, 1) := by decide +kernel
theorem dL_law_1639 : decode cL_law 1639 = .ok (.laload, 1) := by decide +kernel
theorem dL_law_1640 : decode cL_law 1640 = .ok (.iload 7, 2) := by decide +kernel
theorem dL_law_1642 : decode cL_law 1642 = .ok (.i2l, 1) := by decide +kernel
theorem dL_law_1643 : decode cL_law 1643 = .ok (.lcmp, 1) := by decide +kernel
theorem dL_law_1644 : decode cL_law 1644 = .ok (.ifCond .eq 5, 3) := by decide +kernel
theorem dL_law_1647 : decode cL_law 1647 = .ok (.iconst 0, 1) := by decide +kernel
theorem dL_law_1648 : decode cL_law 1648 = .ok (.ireturn, 1) := by decide +kernel
theorem dL_law_1649 : decode cL_law 1649 = .ok (.goto 961, 3) := by decide +kernel
theorem dL_law_1652 : decode cL_law 1652 = .ok (.aload_n 1, 1) := by decide +kernel
theorem dL_law_1653 : decode cL_law 1653 = .ok (.aload_n 0, 1) := by decide +kernel
theorem dL_law_1654 : decode cL_law 1654 = .ok (.iload 5, 2) := by decide +kernel
theorem dL_law_1656 : decode cL_law 1656 = .ok (.iconst 1, 1) := by decide +kernel
theorem dL_law_1657 : decode cL_law 1657 = .ok (.iadd, 1) := by decide +kernel
theorem dL_law_1658 : decode cL_law 1658 = .ok (.iaload, 1) := by decide +kernel
theorem dL_law_1659 : decode cL_law 1659 = .ok (.aload_n 3, 1) := by decide +kernel
theorem dL_law_1660 : decode cL_law 1660 = .ok (.invokestatic 218, 3) := by decide +kernel
theorem dL_law_1663 : decode cL_law 1663 = .ok (.istore 6, 2) := by decide +kernel
theorem dL_law_1665 : decode cL_law 1665 = .ok (.aload_n 2, 1) := by decide +kernel
theorem dL_law_1666 : decode cL_law 1666 = .ok (.aload_n 0, 1) := by decide +kernel
theorem dL_law_1667 : decode cL_law 1667 = .ok (.iload 5, 2) := by decide +kernel
theorem dL_law_1669 : decode cL_law 1669 = .ok (.iconst 1, 1) := by decide +kernel
theorem dL_law_1670 : decode cL_law 1670 = .ok (.iadd, 1) := by decide +kernel
theorem dL_law_1671 : decode cL_law 1671 = .ok (.iaload, 1) := by decide +kernel
theorem dL_law_1672 : decode cL_law 1672 = .ok (.invokevirtual 220, 3) := by decide +kernel
theorem dL_law_1675 : decode cL_law 1675 = .ok (.istore 7, 2) := by decide +kernel
theorem dL_law_1677 : decode cL_law 1677 = .ok (.aload_n 2, 1) := by decide +kernel
theorem dL_law_1678 : decode cL_law 1678 = .ok (.invokevirtual 149, 3) := by decide +kernel
theorem dL_law_1681 : decode cL_law 1681 = .ok (.iload 6, 2) := by decide +kernel
theorem dL_law_1683 : decode cL_law 1683 = .ok (.if_icmp .eq 5, 3) := by decide +kernel
theorem dL_law_1686 : decode cL_law 1686 = .ok (.iconst 0, 1) := by decide +kernel
theorem dL_law_1687 : decode cL_law 1687 = .ok (.ireturn, 1) := by decide +kernel
theorem dL_law_1688 : decode cL_law 1688 = .ok (.iload 6, 2) := by decide +kernel
theorem dL_law_1690 : decode cL_law 1690 = .ok (.ifCond .ne 15, 3) := by decide +kernel
theorem dL_law_1693 : decode cL_law 1693 = .ok (.aload_n 3, 1) := by decide +kernel
theorem dL_law_1694 : decode cL_law 1694 = .ok (.iconst 0, 1) := by decide +kernel
theorem dL_law_1695 : decode cL_law 1695 = .ok (.laload, 1) := by decide +kernel
theorem dL_law_1696 : decode cL_law 1696 = .ok (.iload 7, 2) := by decide +kernel
theorem dL_law_1698 : decode cL_law 1698 = .ok (.i2l, 1) := by decide +kernel
theorem dL_law_1699 : decode cL_law 1699 = .ok (.lcmp, 1) := by decide +kernel
theorem dL_law_1700 : decode cL_law 1700 = .ok (.ifCond .eq 5, 3) := by decide +kernel
theorem dL_law_1703 : decode cL_law 1703 = .ok (.iconst 0, 1) := by decide +kernel
theorem dL_law_1704 : decode cL_law 1704 = .ok (.ireturn, 1) := by decide +kernel
theorem dL_law_1705 : decode cL_law 1705 = .ok (.goto 905, 3) := by decide +kernel
theorem dL_law_1708 : decode cL_law 1708 = .ok (.aload_n 1, 1) := by decide +kernel
theorem dL_law_1709 : decode cL_law 1709 = .ok (.aload_n 0, 1) := by decide +kernel
theorem dL_law_1710 : decode cL_law 1710 = .ok (.iload 5, 2) := by decide +kernel
theorem dL_law_1712 : decode cL_law 1712 = .ok (.iconst 1, 1) := by decide +kernel
theorem dL_law_1713 : decode cL_law 1713 = .ok (.iadd, 1) := by decide +kernel
theorem dL_law_1714 : decode cL_law 1714 = .ok (.iaload, 1) := by decide +kernel
theorem dL_law_1715 : decode cL_law 1715 = .ok (.aload_n 3, 1) := by decide +kernel
theorem dL_law_1716 : decode cL_law 1716 = .ok (.invokestatic 221, 3) := by decide +kernel
theorem dL_law_1719 : decode cL_law 1719 = .ok (.istore 6, 2) := by decide +kernel
theorem dL_law_1721 : decode cL_law 1721 = .ok (.aload_n 2, 1) := by decide +kernel
theorem dL_law_1722 : decode cL_law 1722 = .ok (.aload_n 0, 1) := by decide +kernel
theorem dL_law_1723 : decode cL_law 1723 = .ok (.iload 5, 2) := by decide +kernel
theorem dL_law_1725 : decode cL_law 1725 = .ok (.iconst 1, 1) := by decide +kernel
theorem dL_law_1726 : decode cL_law 1726 = .ok (.iadd, 1) := by decide +kernel
theorem dL_law_1727 : decode cL_law 1727 = .ok (.iaload, 1) := by decide +kernel
theorem dL_law_1728 : decode cL_law 1728 = .ok (.invokevirtual 223, 3) := by decide +kernel
theorem dL_law_1731 : decode cL_law 1731 = .ok (.istore 7, 2) := by decide +kernel
theorem dL_law_1733 : decode cL_law 1733 = .ok (.aload_n 2, 1) := by decide +kernel
theorem dL_law_1734 : decode cL_law 1734 = .ok (.invokevirtual 149, 3) := by decide +kernel
theorem dL_law_1737 : decode cL_law 1737 = .ok (.iload 6, 2) := by decide +kernel
theorem dL_law_1739 : decode cL_law 1739 = .ok (.if_icmp .eq 5, 3) := by decide +kernel
theorem dL_law_1742 : decode cL_law 1742 = .ok (.iconst 0, 1) := by decide +kernel
theorem dL_law_1743 : decode cL_law 1743 = .ok (.ireturn, 1) := by decide +kernel
theorem dL_law_1744 : decode cL_law 1744 = .ok (.iload 6, 2) := by decide +kernel
theorem dL_law_1746 : decode cL_law 1746 = .ok (.ifCond .ne 15, 3) := by decide +kernel
theorem dL_law_1749 : decode cL_law 1749 = .ok (.aload_n 3, 1) := by decide +kernel
theorem dL_law_1750 : decode cL_law 1750 = .ok (.iconst 0, 1) := by decide +kernel
theorem dL_law_1751 : decode cL_law 1751 = .ok (.laload, 1) := by decide +kernel
theorem dL_law_1752 : decode cL_law 1752 = .ok (.iload 7, 2) := by decide +kernel
theorem dL_law_1754 : decode cL_law 1754 = .ok (.i2l, 1) := by decide +kernel
theorem dL_law_1755 : decode cL_law 1755 = .ok (.lcmp, 1) := by decide +kernel
theorem dL_law_1756 : decode cL_law 1756 = .ok (.ifCond .eq 5, 3) := by decide +kernel
theorem dL_law_1759 : decode cL_law 1759 = .ok (.iconst 0, 1) := by decide +kernel
theorem dL_law_1760 : decode cL_law 1760 = .ok (.ireturn, 1) := by decide +kernel
theorem dL_law_1761 : decode cL_law 1761 = .ok (.goto 849, 3) := by decide +kernel
theorem dL_law_1764 : decode cL_law 1764 = .ok (.aload_n 1, 1) := by decide +kernel
theorem dL_law_1765 : decode cL_law 1765 = .ok (.aload_n 0, 1) := by decide +kernel
theorem dL_law_1766 : decode cL_law 1766 = .ok (.iload 5, 2) := by decide +kernel
theorem dL_law_1768 : decode cL_law 1768 = .ok (.iconst 1, 1) := by decide +kernel
theorem dL_law_1769 : decode cL_law 1769 = .ok (.iadd, 1) := by decide +kernel
theorem dL_law_1770 : decode cL_law 1770 = .ok (.iaload, 1) := by decide +kernel
theorem dL_law_1771 : decode cL_law 1771 = .ok (.aload_n 3, 1) := by decide +kernel
theorem dL_law_1772 : decode cL_law 1772 = .ok (.invokestatic 224, 3) := by decide +kernel
theorem dL_law_1775 : decode cL_law 1775 = .ok (.istore 6, 2) := by decide +kernel
theorem dL_law_1777 : decode cL_law 1777 = .ok (.aload_n 2, 1) := by decide +kernel
theorem dL_law_1778 : decode cL_law 1778 = .ok (.aload_n 0, 1) := by decide +kernel
theorem dL_law_1779 : decode cL_law 1779 = .ok (.iload 5, 2) := by decide +kernel
theorem dL_law_1781 : decode cL_law 1781 = .ok (.iconst 1, 1) := by decide +kernel
theorem dL_law_1782 : decode cL_law 1782 = .ok (.iadd, 1) := by decide +kernel
theorem dL_law_1783 : decode cL_law 1783 = .ok (.iaload, 1) := by decide +kernel
theorem dL_law_1784 : decode cL_law 1784 = .ok (.invokevirtual 226, 3) := by decide +kernel
theorem dL_law_1787 : decode cL_law 1787 = .ok (.istore 7, 2) := by decide +kernel
theorem dL_law_1789 : decode cL_law 1789 = .ok (.aload_n 2, 1) := by decide +kernel
theorem dL_law_1790 : decode cL_law 1790 = .ok (.invokevirtual 149, 3) := by decide +kernel
theorem dL_law_1793 : decode cL_law 1793 = .ok (.iload 6, 2) := by decide +kernel
theorem dL_law_1795 : decode cL_law 1795 = .ok (.if_icmp .eq 5, 3) := by decide +kernel
theorem dL_law_1798 : decode cL_law 1798 = .ok (.iconst 0, 1) := by decide +kernel
theorem dL_law_1799 : decode cL_law 1799 = .ok (.ireturn, 1) := by decide +kernel
theorem dL_law_1800 : decode cL_law 1800 = .ok (.iload 6, 2) := by decide +kernel
theorem dL_law_1802 : decode cL_law 1802 = .ok (.ifCond .ne 15, 3) := by decide +kernel
theorem dL_law_1805 : decode cL_law 1805 = .ok (.aload_n 3, 1) := by decide +kernel
theorem dL_law_1806 : decode cL_law 1806 = .ok (.iconst 0, 1) := by decide +kernel
theorem dL_law_1807 : decode cL_law 1807 = .ok (.laload, 1) := by decide +kernel
theorem dL_law_1808 : decode cL_law 1808 = .ok (.iload 7, 2) := by decide +kernel
theorem dL_law_1810 : decode cL_law 1810 = .ok (.i2l, 1) := by decide +kernel
theorem dL_law_1811 : decode cL_law 1811 = .ok (.lcmp, 1) := by decide +kernel
theorem dL_law_1812 : decode cL_law 1812 = .ok (.ifCond .eq 5, 3) := by decide +kernel
theorem dL_law_1815 : decode cL_law 1815 = .ok (.iconst 0, 1) := by decide +kernel
theorem dL_law_1816 : decode cL_law 1816 = .ok (.ireturn, 1) := by decide +kernel
theorem dL_law_1817 : decode cL_law 1817 = .ok (.goto 793, 3) := by decide +kernel
theorem dL_law_1820 : decode cL_law 1820 = .ok (.aload_n 1, 1) := by decide +kernel
theorem dL_law_1821 : decode cL_law 1821 = .ok (.aload_n 0, 1) := by decide +kernel
theorem dL_law_1822 : decode cL_law 1822 = .ok (.iload 5, 2) := by decide +kernel
theorem dL_law_1824 : decode cL_law 1824 = .ok (.iconst 1, 1) := by decide +kernel
theorem dL_law_1825 : decode cL_law 1825 = .ok (.iadd, 1) := by decide +kernel
theorem dL_law_1826 : decode cL_law 1826 = .ok (.iaload, 1) := by decide +kernel
theorem dL_law_1827 : decode cL_law 1827 = .ok (.aload_n 3, 1) := by decide +kernel
theorem dL_law_1828 : decode cL_law 1828 = .ok (.invokestatic 227, 3) := by decide +kernel
theorem dL_law_1831 : decode cL_law 1831 = .ok (.istore 6, 2) := by decide +kernel
theorem dL_law_1833 : decode cL_law 1833 = .ok (.aload_n 2, 1) := by decide +kernel
theorem dL_law_1834 : decode cL_law 1834 = .ok (.aload_n 0, 1) := by decide +kernel
theorem dL_law_1835 : decode cL_law 1835 = .ok (.iload 5, 2) := by decide +kernel
theorem dL_law_1837 : decode cL_law 1837 = .ok (.iconst 1, 1) := by decide +kernel
theorem dL_law_1838 : decode cL_law 1838 = .ok (.iadd, 1) := by decide +kernel
theorem dL_law_1839 : decode cL_law 1839 = .ok (.iaload, 1) := by decide +kernel
theorem dL_law_1840 : decode cL_law 1840 = .ok (.invokevirtual 229, 3) := by decide +kernel
theorem dL_law_1843 : decode cL_law 1843 = .ok (.istore 7, 2) := by decide +kernel
theorem dL_law_1845 : decode cL_law 1845 = .ok (.aload_n 2, 1) := by decide +kernel
theorem dL_law_1846 : decode cL_law 1846 = .ok (.invokevirtual 149, 3) := by decide +kernel
theorem dL_law_1849 : decode cL_law 1849 = .ok (.iload 6, 2) := by decide +kernel
theorem dL_law_1851 : decode cL_law 1851 = .ok (.if_icmp .eq 5, 3) := by decide +kernel
theorem dL_law_1854 : decode cL_law 1854 = .ok (.iconst 0, 1) := by decide +kernel
theorem dL_law_1855 : decode cL_law 1855 = .ok (.ireturn, 1) := by decide +kernel
theorem dL_law_1856 : decode cL_law 1856 = .ok (.iload 6, 2) := by decide +kernel
theorem dL_law_1858 : decode cL_law 1858 = .ok (.ifCond .ne 15, 3) := by decide +kernel
theorem dL_law_1861 : decode cL_law 1861 = .ok (.aload_n 3, 1) := by decide +kernel
theorem dL_law_1862 : decode cL_law 1862 = .ok (.iconst 0, 1) := by decide +kernel
theorem dL_law_1863 : decode cL_law 1863 = .ok (.laload, 1) := by decide +kernel
theorem dL_law_1864 : decode cL_law 1864 = .ok (.iload 7, 2) := by decide +kernel
theorem dL_law_1866 : decode cL_law 1866 = .ok (.i2l, 1) := by decide +kernel
theorem dL_law_1867 : decode cL_law 1867 = .ok (.lcmp, 1) := by decide +kernel
theorem dL_law_1868 : decode cL_law 1868 = .ok (.ifCond .eq 5, 3) := by decide +kernel
theorem dL_law_1871 : decode cL_law 1871 = .ok (.iconst 0, 1) := by decide +kernel
theorem dL_law_1872 : decode cL_law 1872 = .ok (.ireturn, 1) := by decide +kernel
theorem dL_law_1873 : decode cL_law 1873 = .ok (.goto 737, 3) := by decide +kernel
theorem dL_law_1876 : decode cL_law 1876 = .ok (.aload_n 1, 1) := by decide +kernel
theorem dL_law_1877 : decode cL_law 1877 = .ok (.aload_n 0, 1) := by decide +kernel
theorem dL_law_1878 : decode cL_law 1878 = .ok (.iload 5, 2) := by decide +kernel
theorem dL_law_1880 : decode cL_law 1880 = .ok (.iconst 1, 1) := by decide +kernel
theorem dL_law_1881 : decode cL_law 1881 = .ok (.iadd, 1) := by decide +kernel
theorem dL_law_1882 : decode cL_law 1882 = .ok (.iaload, 1) := by decide +kernel
theorem dL_law_1883 : decode cL_law 1883 = .ok (.aload_n 3, 1) := by decide +kernel
theorem dL_law_1884 : decode cL_law 1884 = .ok (.invokestatic 230, 3) := by decide +kernel
theorem dL_law_1887 : decode cL_law 1887 = .ok (.istore 6, 2) := by decide +kernel
theorem dL_law_1889 : decode cL_law 1889 = .ok (.aload_n 2, 1) := by decide +kernel
theorem dL_law_1890 : decode cL_law 1890 = .ok (.aload_n 0, 1) := by decide +kernel
theorem dL_law_1891 : decode cL_law 1891 = .ok (.iload 5, 2) := by decide +kernel
theorem dL_law_1893 : decode cL_law 1893 = .ok (.iconst 1, 1) := by decide +kernel
theorem dL_law_1894 : decode cL_law 1894 = .ok (.iadd, 1) := by decide +kernel
theorem dL_law_1895 : decode cL_law 1895 = .ok (.iaload, 1) := by decide +kernel
theorem dL_law_1896 : decode cL_law 1896 = .ok (.invokevirtual 232, 3) := by decide +kernel
theorem dL_law_1899 : decode cL_law 1899 = .ok (.istore 7, 2) := by decide +kernel
theorem dL_law_1901 : decode cL_law 1901 = .ok (.aload_n 2, 1) := by decide +kernel
theorem dL_law_1902 : decode cL_law 1902 = .ok (.invokevirtual 149, 3) := by decide +kernel
theorem dL_law_1905 : decode cL_law 1905 = .ok (.iload 6, 2) := by decide +kernel
theorem dL_law_1907 : decode cL_law 1907 = .ok (.if_icmp .eq 5, 3) := by decide +kernel
theorem dL_law_1910 : decode cL_law 1910 = .ok (.iconst 0, 1) := by decide +kernel
theorem dL_law_1911 : decode cL_law 1911 = .ok (.ireturn, 1) := by decide +kernel
theorem dL_law_1912 : decode cL_law 1912 = .ok (.iload 6, 2) := by decide +kernel
theorem dL_law_1914 : decode cL_law 1914 = .ok (.ifCond .ne 15, 3) := by decide +kernel
theorem dL_law_1917 : decode cL_law 1917 = .ok (.aload_n 3, 1) := by decide +kernel
theorem dL_law_1918 : decode cL_law 1918 = .ok (.iconst 0, 1) := by decide +kernel
theorem dL_law_1919 : decode cL_law 1919 = .ok (.laload, 1) := by decide +kernel
theorem dL_law_1920 : decode cL_law 1920 = .ok (.iload 7, 2) := by decide +kernel
theorem dL_law_1922 : decode cL_law 1922 = .ok (.i2l, 1) := by decide +kernel
theorem dL_law_1923 : decode cL_law 1923 = .ok (.lcmp, 1) := by decide +kernel
theorem dL_law_1924 : decode cL_law 1924 = .ok (.ifCond .eq 5, 3) := by decide +kernel
theorem dL_law_1927 : decode cL_law 1927 = .ok (.iconst 0, 1) := by decide +kernel
theorem dL_law_1928 : decode cL_law 1928 = .ok (.ireturn, 1) := by decide +kernel
theorem dL_law_1929 : decode cL_law 1929 = .ok (.goto 681, 3) := by decide +kernel
theorem dL_law_1932 : decode cL_law 1932 = .ok (.aload_n 1, 1) := by decide +kernel
theorem dL_law_1933 : decode cL_law 1933 = .ok (.aload_n 0, 1) := by decide +kernel
theorem dL_law_1934 : decode cL_law 1934 = .ok (.iload 5, 2) := by decide +kernel
theorem dL_law_1936 : decode cL_law 1936 = .ok (.iconst 1, 1) := by decide +kernel
theorem dL_law_1937 : decode cL_law 1937 = .ok (.iadd, 1) := by decide +kernel
theorem dL_law_1938 : decode cL_law 1938 = .ok (.iaload, 1) := by decide +kernel
theorem dL_law_1939 : decode cL_law 1939 = .ok (.aload_n 0, 1) := by decide +kernel
theorem dL_law_1940 : decode cL_law 1940 = .ok (.iload 5, 2) := by decide +kernel
theorem dL_law_1942 : decode cL_law 1942 = .ok (.iconst 2, 1) := by decide +kernel
theorem dL_law_1943 : decode cL_law 1943 = .ok (.iadd, 1) := by decide +kernel
theorem dL_law_1944 : decode cL_law 1944 = .ok (.iaload, 1) := by decide +kernel
theorem dL_law_1945 : decode cL_law 1945 = .ok (.aload_n 3, 1) := by decide +kernel
theorem dL_law_1946 : decode cL_law 1946 = .ok (.invokestatic 233, 3) := by decide +kernel
theorem dL_law_1949 : decode cL_law 1949 = .ok (.istore 6, 2) := by decide +kernel
theorem dL_law_1951 : decode cL_law 1951 = .ok (.aload_n 2, 1) := by decide +kernel
theorem dL_law_1952 : decode cL_law 1952 = .ok (.aload_n 0, 1) := by decide +kernel
theorem dL_law_1953 : decode cL_law 1953 = .ok (.iload 5, 2) := by decide +kernel
theorem dL_law_1955 : decode cL_law 1955 = .ok (.iconst 1, 1) := by decide +kernel
theorem dL_law_1956 : decode cL_law 1956 = .ok (.iadd, 1) := by decide +kernel
theorem dL_law_1957 : decode cL_law 1957 = .ok (.iaload, 1) := by decide +kernel
theorem dL_law_1958 : decode cL_law 1958 = .ok (.aload_n 0, 1) := by decide +kernel
theorem dL_law_1959 : decode cL_law 1959 = .ok (.iload 5, 2) := by decide +kernel
theorem dL_law_1961 : decode cL_law 1961 = .ok (.iconst 2, 1) := by decide +kernel
theorem dL_law_1962 : decode cL_law 1962 = .ok (.iadd, 1) := by decide +kernel
theorem dL_law_1963 : decode cL_law 1963 = .ok (.iaload, 1) := by decide +kernel
theorem dL_law_1964 : decode cL_law 1964 = .ok (.invokevirtual 235, 3) := by decide +kernel
theorem dL_law_1967 : decode cL_law 1967 = .ok (.istore 7, 2) := by decide +kernel
theorem dL_law_1969 : decode cL_law 1969 = .ok (.aload_n 2, 1) := by decide +kernel
theorem dL_law_1970 : decode cL_law 1970 = .ok (.invokevirtual 149, 3) := by decide +kernel
theorem dL_law_1973 : decode cL_law 1973 = .ok (.iload 6, 2) := by decide +kernel
theorem dL_law_1975 : decode cL_law 1975 = .ok (.if_icmp .eq 5, 3) := by decide +kernel
theorem dL_law_1978 : decode cL_law 1978 = .ok (.iconst 0, 1) := by decide +kernel
theorem dL_law_1979 : decode cL_law 1979 = .ok (.ireturn, 1) := by decide +kernel
theorem dL_law_1980 : decode cL_law 1980 = .ok (.iload 6, 2) := by decide +kernel
theorem dL_law_1982 : decode cL_law 1982 = .ok (.ifCond .ne 15, 3) := by decide +kernel
theorem dL_law_1985 : decode cL_law 1985 = .ok (.aload_n 3, 1) := by decide +kernel
theorem dL_law_1986 : decode cL_law 1986 = .ok (.iconst 0, 1) := by decide +kernel
theorem dL_law_1987 : decode cL_law 1987 = .ok (.laload, 1) := by decide +kernel
theorem dL_law_1988 : decode cL_law 1988 = .ok (.iload 7, 2) := by decide +kernel
theorem dL_law_1990 : decode cL_law 1990 = .ok (.i2l, 1) := by decide +kernel
theorem dL_law_1991 : decode cL_law 1991 = .ok (.lcmp, 1) := by decide +kernel
theorem dL_law_1992 : decode cL_law 1992 = .ok (.ifCond .eq 5, 3) := by decide +kernel
theorem dL_law_1995 : decode cL_law 1995 = .ok (.iconst 0, 1) := by decide +kernel
theorem dL_law_1996 : decode cL_law 1996 = .ok (.ireturn, 1) := by decide +kernel
theorem dL_law_1997 : decode cL_law 1997 = .ok (.goto 613, 3) := by decide +kernel
theorem dL_law_2000 : decode cL_law 2000 = .ok (.aload_n 1, 1) := by decide +kernel
theorem dL_law_2001 : decode cL_law 2001 = .ok (.aload_n 0, 1) := by decide +kernel
theorem dL_law_2002 : decode cL_law 2002 = .ok (.iload 5, 2) := by decide +kernel
theorem dL_law_2004 : decode cL_law 2004 = .ok (.iconst 1, 1) := by decide +kernel
theorem dL_law_2005 : decode cL_law 2005 = .ok (.iadd, 1) := by decide +kernel
theorem dL_law_2006 : decode cL_law 2006 = .ok (.iaload, 1) := by decide +kernel
theorem dL_law_2007 : decode cL_law 2007 = .ok (.aload_n 0, 1) := by decide +kernel
theorem dL_law_2008 : decode cL_law 2008 = .ok (.iload 5, 2) := by decide +kernel
theorem dL_law_2010 : decode cL_law 2010 = .ok (.iconst 2, 1) := by decide +kernel
theorem dL_law_2011 : decode cL_law 2011 = .ok (.iadd, 1) := by decide +kernel
theorem dL_law_2012 : decode cL_law 2012 = .ok (.iaload, 1) := by decide +kernel
theorem dL_law_2013 : decode cL_law 2013 = .ok (.aload_n 3, 1) := by decide +kernel
theorem dL_law_2014 : decode cL_law 2014 = .ok (.invokestatic 236, 3) := by decide +kernel
theorem dL_law_2017 : decode cL_law 2017 = .ok (.istore 6, 2) := by decide +kernel
theorem dL_law_2019 : decode cL_law 2019 = .ok (.aload_n 2, 1) := by decide +kernel
theorem dL_law_2020 : decode cL_law 2020 = .ok (.aload_n 0, 1) := by decide +kernel
theorem dL_law_2021 : decode cL_law 2021 = .ok (.iload 5, 2) := by decide +kernel
theorem dL_law_2023 : decode cL_law 2023 = .ok (.iconst 1, 1) := by decide +kernel
theorem dL_law_2024 : decode cL_law 2024 = .ok (.iadd, 1) := by decide +kernel
theorem dL_law_2025 : decode cL_law 2025 = .ok (.iaload, 1) := by decide +kernel
theorem dL_law_2026 : decode cL_law 2026 = .ok (.aload_n 0, 1) := by decide +kernel
theorem dL_law_2027 : decode cL_law 2027 = .ok (.iload 5, 2) := by decide +kernel
theorem dL_law_2029 : decode cL_law 2029 = .ok (.iconst 2, 1) := by decide +kernel
theorem dL_law_2030 : decode cL_law 2030 = .ok (.iadd, 1) := by decide +kernel
theorem dL_law_2031 : decode cL_law 2031 = .ok (.iaload, 1) := by decide +kernel
theorem dL_law_2032 : decode cL_law 2032 = .ok (.invokevirtual 238, 3) := by decide +kernel
theorem dL_law_2035 : decode cL_law 2035 = .ok (.istore 7, 2) := by decide +kernel
theorem dL_law_2037 : decode cL_law 2037 = .ok (.aload_n 2, 1) := by decide +kernel
theorem dL_law_2038 : decode cL_law 2038 = .ok (.invokevirtual 149, 3) := by decide +kernel
theorem dL_law_2041 : decode cL_law 2041 = .ok (.iload 6, 2) := by decide +kernel
theorem dL_law_2043 : decode cL_law 2043 = .ok (.if_icmp .eq 5, 3) := by decide +kernel
theorem dL_law_2046 : decode cL_law 2046 = .ok (.iconst 0, 1) := by decide +kernel
theorem dL_law_2047 : decode cL_law 2047 = .ok (.ireturn, 1) := by decide +kernel
theorem dL_law_2048 : decode cL_law 2048 = .ok (.iload 6, 2) := by decide +kernel
theorem dL_law_2050 : decode cL_law 2050 = .ok (.ifCond .ne 15, 3) := by decide +kernel
theorem dL_law_2053 : decode cL_law 2053 = .ok (.aload_n 3, 1) := by decide +kernel
theorem dL_law_2054 : decode cL_law 2054 = .ok (.iconst 0, 1) := by decide +kernel
theorem dL_law_2055 : decode cL_law 2055 = .ok (.laload, 1) := by decide +kernel
theorem dL_law_2056 : decode cL_law 2056 = .ok (.iload 7, 2) := by decide +kernel
theorem dL_law_2058 : decode cL_law 2058 = .ok (.i2l, 1) := by decide +kernel
theorem dL_law_2059 : decode cL_law 2059 = .ok (.lcmp, 1) := by decide +kernel
theorem dL_law_2060 : decode cL_law 2060 = .ok (.ifCond .eq 5, 3) := by decide +kernel
theorem dL_law_2063 : decode cL_law 2063 = .ok (.iconst 0, 1) := by decide +kernel
theorem dL_law_2064 : decode cL_law 2064 = .ok (.ireturn, 1) := by decide +kernel
theorem dL_law_2065 : decode cL_law 2065 = .ok (.goto 545, 3) := by decide +kernel
theorem dL_law_2068 : decode cL_law 2068 = .ok (.aload_n 1, 1) := by decide +kernel
theorem dL_law_2069 : decode cL_law 2069 = .ok (.aload_n 0, 1) := by decide +kernel
theorem dL_law_2070 : decode cL_law 2070 = .ok (.iload 5, 2) := by decide +kernel
theorem dL_law_2072 : decode cL_law 2072 = .ok (.iconst 1, 1) := by decide +kernel
theorem dL_law_2073 : decode cL_law 2073 = .ok (.iadd, 1) := by decide +kernel
theorem dL_law_2074 : decode cL_law 2074 = .ok (.iaload, 1) := by decide +kernel
theorem dL_law_2075 : decode cL_law 2075 = .ok (.aload_n 0, 1) := by decide +kernel
theorem dL_law_2076 : decode cL_law 2076 = .ok (.iload 5, 2) := by decide +kernel
theorem dL_law_2078 : decode cL_law 2078 = .ok (.iconst 2, 1) := by decide +kernel
theorem dL_law_2079 : decode cL_law 2079 = .ok (.iadd, 1) := by decide +kernel
theorem dL_law_2080 : decode cL_law 2080 = .ok (.iaload, 1) := by decide +kernel
theorem dL_law_2081 : decode cL_law 2081 = .ok (.aload_n 0, 1) := by decide +kernel
theorem dL_law_2082 : decode cL_law 2082 = .ok (.iload 5, 2) := by decide +kernel
theorem dL_law_2084 : decode cL_law 2084 = .ok (.iconst 3, 1) := by decide +kernel
theorem dL_law_2085 : decode cL_law 2085 = .ok (.iadd, 1) := by decide +kernel
theorem dL_law_2086 : decode cL_law 2086 = .ok (.iaload, 1) := by decide +kernel
theorem dL_law_2087 : decode cL_law 2087 = .ok (.aload_n 3, 1) := by decide +kernel
theorem dL_law_2088 : decode cL_law 2088 = .ok (.invokestatic 239, 3) := by decide +kernel
theorem dL_law_2091 : decode cL_law 2091 = .ok (.istore 6, 2) := by decide +kernel
theorem dL_law_2093 : decode cL_law 2093 = .ok (.aload_n 2, 1) := by decide +kernel
theorem dL_law_2094 : decode cL_law 2094 = .ok (.aload_n 0, 1) := by decide +kernel
theorem dL_law_2095 : decode cL_law 2095 = .ok (.iload 5, 2) := by decide +kernel
theorem dL_law_2097 : decode cL_law 2097 = .ok (.iconst 1, 1) := by decide +kernel
theorem dL_law_2098 : decode cL_law 2098 = .ok (.iadd, 1) := by decide +kernel
theorem dL_law_2099 : decode cL_law 2099 = .ok (.iaload, 1) := by decide +kernel
theorem dL_law_2100 : decode cL_law 2100 = .ok (.aload_n 0, 1) := by decide +kernel
theorem dL_law_2101 : decode cL_law 2101 = .ok (.iload 5, 2) := by decide +kernel
theorem dL_law_2103 : decode cL_law 2103 = .ok (.iconst 2, 1) := by decide +kernel
theorem dL_law_2104 : decode cL_law 2104 = .ok (.iadd, 1) := by decide +kernel
theorem dL_law_2105 : decode cL_law 2105 = .ok (.iaload, 1) := by decide +kernel
theorem dL_law_2106 : decode cL_law 2106 = .ok (.aload_n 0, 1) := by decide +kernel
theorem dL_law_2107 : decode cL_law 2107 = .ok (.iload 5, 2) := by decide +kernel
theorem dL_law_2109 : decode cL_law 2109 = .ok (.iconst 3, 1) := by decide +kernel
theorem dL_law_2110 : decode cL_law 2110 = .ok (.iadd, 1) := by decide +kernel
theorem dL_law_2111 : decode cL_law 2111 = .ok (.iaload, 1) := by decide +kernel
theorem dL_law_2112 : decode cL_law 2112 = .ok (.invokevirtual 241, 3) := by decide +kernel
theorem dL_law_2115 : decode cL_law 2115 = .ok (.istore 7, 2) := by decide +kernel
theorem dL_law_2117 : decode cL_law 2117 = .ok (.aload_n 2, 1) := by decide +kernel
theorem dL_law_2118 : decode cL_law 2118 = .ok (.invokevirtual 149, 3) := by decide +kernel
theorem dL_law_2121 : decode cL_law 2121 = .ok (.iload 6, 2) := by decide +kernel
theorem dL_law_2123 : decode cL_law 2123 = .ok (.if_icmp .eq 5, 3) := by decide +kernel
theorem dL_law_2126 : decode cL_law 2126 = .ok (.iconst 0, 1) := by decide +kernel
theorem dL_law_2127 : decode cL_law 2127 = .ok (.ireturn, 1) := by decide +kernel
theorem dL_law_2128 : decode cL_law 2128 = .ok (.iload 6, 2) := by decide +kernel
theorem dL_law_2130 : decode cL_law 2130 = .ok (.ifCond .ne 15, 3) := by decide +kernel
theorem dL_law_2133 : decode cL_law 2133 = .ok (.aload_n 3, 1) := by decide +kernel
theorem dL_law_2134 : decode cL_law 2134 = .ok (.iconst 0, 1) := by decide +kernel
theorem dL_law_2135 : decode cL_law 2135 = .ok (.laload, 1) := by decide +kernel
theorem dL_law_2136 : decode cL_law 2136 = .ok (.iload 7, 2) := by decide +kernel
theorem dL_law_2138 : decode cL_law 2138 = .ok (.i2l, 1) := by decide +kernel
theorem dL_law_2139 : decode cL_law 2139 = .ok (.lcmp, 1) := by decide +kernel
theorem dL_law_2140 : decode cL_law 2140 = .ok (.ifCond .eq 5, 3) := by decide +kernel
theorem dL_law_2143 : decode cL_law 2143 = .ok (.iconst 0, 1) := by decide +kernel
theorem dL_law_2144 : decode cL_law 2144 = .ok (.ireturn, 1) := by decide +kernel
theorem dL_law_2145 : decode cL_law 2145 = .ok (.goto 465, 3) := by decide +kernel
theorem dL_law_2148 : decode cL_law 2148 = .ok (.aload_n 1, 1) := by decide +kernel
theorem dL_law_2149 : decode cL_law 2149 = .ok (.aload_n 0, 1) := by decide +kernel
theorem dL_law_2150 : decode cL_law 2150 = .ok (.iload 5, 2) := by decide +kernel
theorem dL_law_2152 : decode cL_law 2152 = .ok (.iconst 1, 1) := by decide +kernel
theorem dL_law_2153 : decode cL_law 2153 = .ok (.iadd, 1) := by decide +kernel
theorem dL_law_2154 : decode cL_law 2154 = .ok (.iaload, 1) := by decide +kernel
theorem dL_law_2155 : decode cL_law 2155 = .ok (.aload_n 3, 1) := by decide +kernel
theorem dL_law_2156 : decode cL_law 2156 = .ok (.invokestatic 242, 3) := by decide +kernel
theorem dL_law_2159 : decode cL_law 2159 = .ok (.istore 6, 2) := by decide +kernel
theorem dL_law_2161 : decode cL_law 2161 = .ok (.aload_n 2, 1) := by decide +kernel
theorem dL_law_2162 : decode cL_law 2162 = .ok (.aload_n 0, 1) := by decide +kernel
theorem dL_law_2163 : decode cL_law 2163 = .ok (.iload 5, 2) := by decide +kernel
theorem dL_law_2165 : decode cL_law 2165 = .ok (.iconst 1, 1) := by decide +kernel
theorem dL_law_2166 : decode cL_law 2166 = .ok (.iadd, 1) := by decide +kernel
theorem dL_law_2167 : decode cL_law 2167 = .ok (.iaload, 1) := by decide +kernel
theorem dL_law_2168 : decode cL_law 2168 = .ok (.invokevirtual 244, 3) := by decide +kernel
theorem dL_law_2171 : decode cL_law 2171 = .ok (.istore 7, 2) := by decide +kernel
theorem dL_law_2173 : decode cL_law 2173 = .ok (.aload_n 2, 1) := by decide +kernel
theorem dL_law_2174 : decode cL_law 2174 = .ok (.invokevirtual 149, 3) := by decide +kernel
theorem dL_law_2177 : decode cL_law 2177 = .ok (.iload 6, 2) := by decide +kernel
theorem dL_law_2179 : decode cL_law 2179 = .ok (.if_icmp .eq 5, 3) := by decide +kernel
theorem dL_law_2182 : decode cL_law 2182 = .ok (.iconst 0, 1) := by decide +kernel
theorem dL_law_2183 : decode cL_law 2183 = .ok (.ireturn, 1) := by decide +kernel
theorem dL_law_2184 : decode cL_law 2184 = .ok (.iload 6, 2) := by decide +kernel
theorem dL_law_2186 : decode cL_law 2186 = .ok (.ifCond .ne 15, 3) := by decide +kernel
theorem dL_law_2189 : decode cL_law 2189 = .ok (.aload_n 3, 1) := by decide +kernel
theorem dL_law_2190 : decode cL_law 2190 = .ok (.iconst 0, 1) := by decide +kernel
theorem dL_law_2191 : decode cL_law 2191 = .ok (.laload, 1) := by decide +kernel
theorem dL_law_2192 : decode cL_law 2192 = .ok (.iload 7, 2) := by decide +kernel
theorem dL_law_2194 : decode cL_law 2194 = .ok (.i2l, 1) := by decide +kernel
theorem dL_law_2195 : decode cL_law 2195 = .ok (.lcmp, 1) := by decide +kernel
theorem dL_law_2196 : decode cL_law 2196 = .ok (.ifCond .eq 5, 3) := by decide +kernel
theorem dL_law_2199 : decode cL_law 2199 = .ok (.iconst 0, 1) := by decide +kernel
theorem dL_law_2200 : decode cL_law 2200 = .ok (.ireturn, 1) := by decide +kernel
theorem dL_law_2201 : decode cL_law 2201 = .ok (.goto 409, 3) := by decide +kernel
theorem dL_law_2204 : decode cL_law 2204 = .ok (.aload_n 1, 1) := by decide +kernel
theorem dL_law_2205 : decode cL_law 2205 = .ok (.aload_n 0, 1) := by decide +kernel
theorem dL_law_2206 : decode cL_law 2206 = .ok (.iload 5, 2) := by decide +kernel
theorem dL_law_2208 : decode cL_law 2208 = .ok (.iconst 1, 1) := by decide +kernel
theorem dL_law_2209 : decode cL_law 2209 = .ok (.iadd, 1) := by decide +kernel
theorem dL_law_2210 : decode cL_law 2210 = .ok (.iaload, 1) := by decide +kernel
theorem dL_law_2211 : decode cL_law 2211 = .ok (.aload_n 3, 1) := by decide +kernel
theorem dL_law_2212 : decode cL_law 2212 = .ok (.invokestatic 245, 3) := by decide +kernel
theorem dL_law_2215 : decode cL_law 2215 = .ok (.istore 6, 2) := by decide +kernel
theorem dL_law_2217 : decode cL_law 2217 = .ok (.aload_n 2, 1) := by decide +kernel
theorem dL_law_2218 : decode cL_law 2218 = .ok (.aload_n 0, 1) := by decide +kernel
theorem dL_law_2219 : decode cL_law 2219 = .ok (.iload 5, 2) := by decide +kernel
theorem dL_law_2221 : decode cL_law 2221 = .ok (.iconst 1, 1) := by decide +kernel
theorem dL_law_2222 : decode cL_law 2222 = .ok (.iadd, 1) := by decide +kernel
theorem dL_law_2223 : decode cL_law 2223 = .ok (.iaload, 1) := by decide +kernel
theorem dL_law_2224 : decode cL_law 2224 = .ok (.invokevirtual 247, 3) := by decide +kernel
theorem dL_law_2227 : decode cL_law 2227 = .ok (.istore 7, 2) := by decide +kernel
theorem dL_law_2229 : decode cL_law 2229 = .ok (.aload_n 2, 1) := by decide +kernel
theorem dL_law_2230 : decode cL_law 2230 = .ok (.invokevirtual 149, 3) := by decide +kernel
theorem dL_law_2233 : decode cL_law 2233 = .ok (.iload 6, 2) := by decide +kernel
theorem dL_law_2235 : decode cL_law 2235 = .ok (.if_icmp .eq 5, 3) := by decide +kernel
theorem dL_law_2238 : decode cL_law 2238 = .ok (.iconst 0, 1) := by decide +kernel
theorem dL_law_2239 : decode cL_law 2239 = .ok (.ireturn, 1) := by decide +kernel
theorem dL_law_2240 : decode cL_law 2240 = .ok (.iload 6, 2) := by decide +kernel
theorem dL_law_2242 : decode cL_law 2242 = .ok (.ifCond .ne 15, 3) := by decide +kernel
theorem dL_law_2245 : decode cL_law 2245 = .ok (.aload_n 3, 1) := by decide +kernel
theorem dL_law_2246 : decode cL_law 2246 = .ok (.iconst 0, 1) := by decide +kernel
theorem dL_law_2247 : decode cL_law 2247 = .ok (.laload, 1) := by decide +kernel
theorem dL_law_2248 : decode cL_law 2248 = .ok (.iload 7, 2) := by decide +kernel
theorem dL_law_2250 : decode cL_law 2250 = .ok (.i2l, 1) := by decide +kernel
theorem dL_law_2251 : decode cL_law 2251 = .ok (.lcmp, 1) := by decide +kernel
theorem dL_law_2252 : decode cL_law 2252 = .ok (.ifCond .eq 5, 3) := by decide +kernel
theorem dL_law_2255 : decode cL_law 2255 = .ok (.iconst 0, 1) := by decide +kernel
theorem dL_law_2256 : decode cL_law 2256 = .ok (.ireturn, 1) := by decide +kernel
theorem dL_law_2257 : decode cL_law 2257 = .ok (.goto 353, 3) := by decide +kernel
theorem dL_law_2260 : decode cL_law 2260 = .ok (.aload_n 1, 1) := by decide +kernel
theorem dL_law_2261 : decode cL_law 2261 = .ok (.aload_n 0, 1) := by decide +kernel
theorem dL_law_2262 : decode cL_law 2262 = .ok (.iload 5, 2) := by decide +kernel
theorem dL_law_2264 : decode cL_law 2264 = .ok (.iconst 1, 1) := by decide +kernel
theorem dL_law_2265 : decode cL_law 2265 = .ok (.iadd, 1) := by decide +kernel
theorem dL_law_2266 : decode cL_law 2266 = .ok (.iaload, 1) := by decide +kernel
theorem dL_law_2267 : decode cL_law 2267 = .ok (.aload_n 3, 1) := by decide +kernel
theorem dL_law_2268 : decode cL_law 2268 = .ok (.invokestatic 248, 3) := by decide +kernel
theorem dL_law_2271 : decode cL_law 2271 = .ok (.istore 6, 2) := by decide +kernel
theorem dL_law_2273 : decode cL_law 2273 = .ok (.aload_n 2, 1) := by decide +kernel
theorem dL_law_2274 : decode cL_law 2274 = .ok (.aload_n 0, 1) := by decide +kernel
theorem dL_law_2275 : decode cL_law 2275 = .ok (.iload 5, 2) := by decide +kernel
theorem dL_law_2277 : decode cL_law 2277 = .ok (.iconst 1, 1) := by decide +kernel
theorem dL_law_2278 : decode cL_law 2278 = .ok (.iadd, 1) := by decide +kernel
theorem dL_law_2279 : decode cL_law 2279 = .ok (.iaload, 1) := by decide +kernel
theorem dL_law_2280 : decode cL_law 2280 = .ok (.invokevirtual 250, 3) := by decide +kernel
theorem dL_law_2283 : decode cL_law 2283 = .ok (.istore 7, 2) := by decide +kernel
theorem dL_law_2285 : decode cL_law 2285 = .ok (.aload_n 2, 1) := by decide +kernel
theorem dL_law_2286 : decode cL_law 2286 = .ok (.invokevirtual 149, 3) := by decide +kernel
theorem dL_law_2289 : decode cL_law 2289 = .ok (.iload 6, 2) := by decide +kernel
theorem dL_law_2291 : decode cL_law 2291 = .ok (.if_icmp .eq 5, 3) := by decide +kernel
theorem dL_law_2294 : decode cL_law 2294 = .ok (.iconst 0, 1) := by decide +kernel
theorem dL_law_2295 : decode cL_law 2295 = .ok (.ireturn, 1) := by decide +kernel
theorem dL_law_2296 : decode cL_law 2296 = .ok (.iload 6, 2) := by decide +kernel
theorem dL_law_2298 : decode cL_law 2298 = .ok (.ifCond .ne 15, 3) := by decide +kernel
theorem dL_law_2301 : decode cL_law 2301 = .ok (.aload_n 3, 1) := by decide +kernel
theorem dL_law_2302 : decode cL_law 2302 = .ok (.iconst 0, 1) := by decide +kernel
theorem dL_law_2303 : decode cL_law 2303 = .ok (.laload, 1) := by decide +kernel
theorem dL_law_2304 : decode cL_law 2304 = .ok (.iload 7, 2) := by decide +kernel
theorem dL_law_2306 : decode cL_law 2306 = .ok (.i2l, 1) := by decide +kernel
theorem dL_law_2307 : decode cL_law 2307 = .ok (.lcmp, 1) := by decide +kernel
theorem dL_law_2308 : decode cL_law 2308 = .ok (.ifCond .eq 5, 3) := by decide +kernel
theorem dL_law_2311 : decode cL_law 2311 = .ok (.iconst 0, 1) := by decide +kernel
theorem dL_law_2312 : decode cL_law 2312 = .ok (.ireturn, 1) := by decide +kernel
theorem dL_law_2313 : decode cL_law 2313 = .ok (.goto 297, 3) := by decide +kernel
theorem dL_law_2316 : decode cL_law 2316 = .ok (.aload_n 1, 1) := by decide +kernel
theorem dL_law_2317 : decode cL_law 2317 = .ok (.aload_n 0, 1) := by decide +kernel
theorem dL_law_2318 : decode cL_law 2318 = .ok (.iload 5, 2) := by decide +kernel
theorem dL_law_2320 : decode cL_law 2320 = .ok (.iconst 1, 1) := by decide +kernel
theorem dL_law_2321 : decode cL_law 2321 = .ok (.iadd, 1) := by decide +kernel
theorem dL_law_2322 : decode cL_law 2322 = .ok (.iaload, 1) := by decide +kernel
theorem dL_law_2323 : decode cL_law 2323 = .ok (.aload_n 3, 1) := by decide +kernel
theorem dL_law_2324 : decode cL_law 2324 = .ok (.invokestatic 251, 3) := by decide +kernel
theorem dL_law_2327 : decode cL_law 2327 = .ok (.istore 6, 2) := by decide +kernel
theorem dL_law_2329 : decode cL_law 2329 = .ok (.aload_n 2, 1) := by decide +kernel
theorem dL_law_2330 : decode cL_law 2330 = .ok (.aload_n 0, 1) := by decide +kernel
theorem dL_law_2331 : decode cL_law 2331 = .ok (.iload 5, 2) := by decide +kernel
theorem dL_law_2333 : decode cL_law 2333 = .ok (.iconst 1, 1) := by decide +kernel
theorem dL_law_2334 : decode cL_law 2334 = .ok (.iadd, 1) := by decide +kernel
theorem dL_law_2335 : decode cL_law 2335 = .ok (.iaload, 1) := by decide +kernel
theorem dL_law_2336 : decode cL_law 2336 = .ok (.invokevirtual 253, 3) := by decide +kernel
theorem dL_law_2339 : decode cL_law 2339 = .ok (.istore 7, 2) := by decide +kernel
theorem dL_law_2341 : decode cL_law 2341 = .ok (.aload_n 2, 1) := by decide +kernel
theorem dL_law_2342 : decode cL_law 2342 = .ok (.invokevirtual 149, 3) := by decide +kernel
theorem dL_law_2345 : decode cL_law 2345 = .ok (.iload 6, 2) := by decide +kernel
theorem dL_law_2347 : decode cL_law 2347 = .ok (.if_icmp .eq 5, 3) := by decide +kernel
theorem dL_law_2350 : decode cL_law 2350 = .ok (.iconst 0, 1) := by decide +kernel
theorem dL_law_2351 : decode cL_law 2351 = .ok (.ireturn, 1) := by decide +kernel
theorem dL_law_2352 : decode cL_law 2352 = .ok (.iload 6, 2) := by decide +kernel
theorem dL_law_2354 : decode cL_law 2354 = .ok (.ifCond .ne 15, 3) := by decide +kernel
theorem dL_law_2357 : decode cL_law 2357 = .ok (.aload_n 3, 1) := by decide +kernel
theorem dL_law_2358 : decode cL_law 2358 = .ok (.iconst 0, 1) := by decide +kernel
theorem dL_law_2359 : decode cL_law 2359 = .ok (.laload, 1) := by decide +kernel
theorem dL_law_2360 : decode cL_law 2360 = .ok (.iload 7, 2) := by decide +kernel
theorem dL_law_2362 : decode cL_law 2362 = .ok (.i2l, 1) := by decide +kernel
theorem dL_law_2363 : decode cL_law 2363 = .ok (.lcmp, 1) := by decide +kernel
theorem dL_law_2364 : decode cL_law 2364 = .ok (.ifCond .eq 5, 3) := by decide +kernel
theorem dL_law_2367 : decode cL_law 2367 = .ok (.iconst 0, 1) := by decide +kernel
theorem dL_law_2368 : decode cL_law 2368 = .ok (.ireturn, 1) := by decide +kernel
theorem dL_law_2369 : decode cL_law 2369 = .ok (.goto 241, 3) := by decide +kernel
theorem dL_law_2372 : decode cL_law 2372 = .ok (.aload_n 1, 1) := by decide +kernel
theorem dL_law_2373 : decode cL_law 2373 = .ok (.aload_n 0, 1) := by decide +kernel
theorem dL_law_2374 : decode cL_law 2374 = .ok (.iload 5, 2) := by decide +kernel
theorem dL_law_2376 : decode cL_law 2376 = .ok (.iconst 1, 1) := by decide +kernel
theorem dL_law_2377 : decode cL_law 2377 = .ok (.iadd, 1) := by decide +kernel
theorem dL_law_2378 : decode cL_law 2378 = .ok (.iaload, 1) := by decide +kernel
theorem dL_law_2379 : decode cL_law 2379 = .ok (.aload_n 3, 1) := by decide +kernel
theorem dL_law_2380 : decode cL_law 2380 = .ok (.invokestatic 254, 3) := by decide +kernel
theorem dL_law_2383 : decode cL_law 2383 = .ok (.istore 6, 2) := by decide +kernel
theorem dL_law_2385 : decode cL_law 2385 = .ok (.aload_n 2, 1) := by decide +kernel
theorem dL_law_2386 : decode cL_law 2386 = .ok (.aload_n 0, 1) := by decide +kernel
theorem dL_law_2387 : decode cL_law 2387 = .ok (.iload 5, 2) := by decide +kernel
theorem dL_law_2389 : decode cL_law 2389 = .ok (.iconst 1, 1) := by decide +kernel
theorem dL_law_2390 : decode cL_law 2390 = .ok (.iadd, 1) := by decide +kernel
theorem dL_law_2391 : decode cL_law 2391 = .ok (.iaload, 1) := by decide +kernel
theorem dL_law_2392 : decode cL_law 2392 = .ok (.invokevirtual 256, 3) := by decide +kernel
theorem dL_law_2395 : decode cL_law 2395 = .ok (.istore 7, 2) := by decide +kernel
theorem dL_law_2397 : decode cL_law 2397 = .ok (.aload_n 2, 1) := by decide +kernel
theorem dL_law_2398 : decode cL_law 2398 = .ok (.invokevirtual 149, 3) := by decide +kernel
theorem dL_law_2401 : decode cL_law 2401 = .ok (.iload 6, 2) := by decide +kernel
theorem dL_law_2403 : decode cL_law 2403 = .ok (.if_icmp .eq 5, 3) := by decide +kernel
theorem dL_law_2406 : decode cL_law 2406 = .ok (.iconst 0, 1) := by decide +kernel
theorem dL_law_2407 : decode cL_law 2407 = .ok (.ireturn, 1) := by decide +kernel
theorem dL_law_2408 : decode cL_law 2408 = .ok (.iload 6, 2) := by decide +kernel
theorem dL_law_2410 : decode cL_law 2410 = .ok (.ifCond .ne 15, 3) := by decide +kernel
theorem dL_law_2413 : decode cL_law 2413 = .ok (.aload_n 3, 1) := by decide +kernel
theorem dL_law_2414 : decode cL_law 2414 = .ok (.iconst 0, 1) := by decide +kernel
theorem dL_law_2415 : decode cL_law 2415 = .ok (.laload, 1) := by decide +kernel
theorem dL_law_2416 : decode cL_law 2416 = .ok (.iload 7, 2) := by decide +kernel
theorem dL_law_2418 : decode cL_law 2418 = .ok (.i2l, 1) := by decide +kernel
theorem dL_law_2419 : decode cL_law 2419 = .ok (.lcmp, 1) := by decide +kernel
theorem dL_law_2420 : decode cL_law 2420 = .ok (.ifCond .eq 5, 3) := by decide +kernel
theorem dL_law_2423 : decode cL_law 2423 = .ok (.iconst 0, 1) := by decide +kernel
theorem dL_law_2424 : decode cL_law 2424 = .ok (.ireturn, 1) := by decide +kernel
theorem dL_law_2425 : decode cL_law 2425 = .ok (.goto 185, 3) := by decide +kernel
theorem dL_law_2428 : decode cL_law 2428 = .ok (.aload_n 1, 1) := by decide +kernel
theorem dL_law_2429 : decode cL_law 2429 = .ok (.invokevirtual 257, 3) := by decide +kernel
theorem dL_law_2432 : decode cL_law 2432 = .ok (.aload_n 2, 1) := by decide +kernel
theorem dL_law_2433 : decode cL_law 2433 = .ok (.invokevirtual 261, 3) := by decide +kernel
theorem dL_law_2436 : decode cL_law 2436 = .ok (.lcmp, 1) := by decide +kernel
theorem dL_law_2437 : decode cL_law 2437 = .ok (.ifCond .eq 173, 3) := by decide +kernel
theorem dL_law_2440 : decode cL_law 2440 = .ok (.iconst 0, 1) := by decide +kernel
theorem dL_law_2441 : decode cL_law 2441 = .ok (.ireturn, 1) := by decide +kernel
theorem dL_law_2442 : decode cL_law 2442 = .ok (.aload_n 1, 1) := by decide +kernel
theorem dL_law_2443 : decode cL_law 2443 = .ok (.aload_n 0, 1) := by decide +kernel
theorem dL_law_2444 : decode cL_law 2444 = .ok (.iload 5, 2) := by decide +kernel
theorem dL_law_2446 : decode cL_law 2446 = .ok (.iconst 1, 1) := by decide +kernel
theorem dL_law_2447 : decode cL_law 2447 = .ok (.iadd, 1) := by decide +kernel
theorem dL_law_2448 : decode cL_law 2448 = .ok (.iaload, 1) := by decide +kernel
theorem dL_law_2449 : decode cL_law 2449 = .ok (.aload 4, 2) := by decide +kernel
theorem dL_law_2451 : decode cL_law 2451 = .ok (.invokestatic 262, 3) := by decide +kernel
theorem dL_law_2454 : decode cL_law 2454 = .ok (.istore 6, 2) := by decide +kernel
theorem dL_law_2456 : decode cL_law 2456 = .ok (.aload_n 2, 1) := by decide +kernel
theorem dL_law_2457 : decode cL_law 2457 = .ok (.aload_n 0, 1) := by decide +kernel
theorem dL_law_2458 : decode cL_law 2458 = .ok (.iload 5, 2) := by decide +kernel
theorem dL_law_2460 : decode cL_law 2460 = .ok (.iconst 1, 1) := by decide +kernel
theorem dL_law_2461 : decode cL_law 2461 = .ok (.iadd, 1) := by decide +kernel
theorem dL_law_2462 : decode cL_law 2462 = .ok (.iaload, 1) := by decide +kernel
theorem dL_law_2463 : decode cL_law 2463 = .ok (.invokevirtual 265, 3) := by decide +kernel
theorem dL_law_2466 : decode cL_law 2466 = .ok (.dstore 7, 2) := by decide +kernel
theorem dL_law_2468 : decode cL_law 2468 = .ok (.aload_n 2, 1) := by decide +kernel
theorem dL_law_2469 : decode cL_law 2469 = .ok (.invokevirtual 149, 3) := by decide +kernel
theorem dL_law_2472 : decode cL_law 2472 = .ok (.iload 6, 2) := by decide +kernel
theorem dL_law_2474 : decode cL_law 2474 = .ok (.if_icmp .eq 5, 3) := by decide +kernel
theorem dL_law_2477 : decode cL_law 2477 = .ok (.iconst 0, 1) := by decide +kernel
theorem dL_law_2478 : decode cL_law 2478 = .ok (.ireturn, 1) := by decide +kernel
theorem dL_law_2479 : decode cL_law 2479 = .ok (.iload 6, 2) := by decide +kernel
theorem dL_law_2481 : decode cL_law 2481 = .ok (.ifCond .ne 35, 3) := by decide +kernel
theorem dL_law_2484 : decode cL_law 2484 = .ok (.aload 4, 2) := by decide +kernel
theorem dL_law_2486 : decode cL_law 2486 = .ok (.iconst 0, 1) := by decide +kernel
theorem dL_law_2487 : decode cL_law 2487 = .ok (.daload, 1) := by decide +kernel
theorem dL_law_2488 : decode cL_law 2488 = .ok (.dload 7, 2) := by decide +kernel
theorem dL_law_2490 : decode cL_law 2490 = .ok (.dcmp .l, 1) := by decide +kernel
theorem dL_law_2491 : decode cL_law 2491 = .ok (.ifCond .eq 25, 3) := by decide +kernel
theorem dL_law_2494 : decode cL_law 2494 = .ok (.aload 4, 2) := by decide +kernel
theorem dL_law_2496 : decode cL_law 2496 = .ok (.iconst 0, 1) := by decide +kernel
theorem dL_law_2497 : decode cL_law 2497 = .ok (.daload, 1) := by decide +kernel
theorem dL_law_2498 : decode cL_law 2498 = .ok (.aload 4, 2) := by decide +kernel
theorem dL_law_2500 : decode cL_law 2500 = .ok (.iconst 0, 1) := by decide +kernel
theorem dL_law_2501 : decode cL_law 2501 = .ok (.daload, 1) := by decide +kernel
theorem dL_law_2502 : decode cL_law 2502 = .ok (.dcmp .l, 1) := by decide +kernel
theorem dL_law_2503 : decode cL_law 2503 = .ok (.ifCond .eq 11, 3) := by decide +kernel
theorem dL_law_2506 : decode cL_law 2506 = .ok (.dload 7, 2) := by decide +kernel
theorem dL_law_2508 : decode cL_law 2508 = .ok (.dload 7, 2) := by decide +kernel
theorem dL_law_2510 : decode cL_law 2510 = .ok (.dcmp .l, 1) := by decide +kernel
theorem dL_law_2511 : decode cL_law 2511 = .ok (.ifCond .ne 5, 3) := by decide +kernel
theorem dL_law_2514 : decode cL_law 2514 = .ok (.iconst 0, 1) := by decide +kernel
theorem dL_law_2515 : decode cL_law 2515 = .ok (.ireturn, 1) := by decide +kernel
theorem dL_law_2516 : decode cL_law 2516 = .ok (.goto 94, 3) := by decide +kernel
theorem dL_law_2519 : decode cL_law 2519 = .ok (.aload_n 1, 1) := by decide +kernel
theorem dL_law_2520 : decode cL_law 2520 = .ok (.aload_n 0, 1) := by decide +kernel
theorem dL_law_2521 : decode cL_law 2521 = .ok (.iload 5, 2) := by decide +kernel
theorem dL_law_2523 : decode cL_law 2523 = .ok (.iconst 1, 1) := by decide +kernel
theorem dL_law_2524 : decode cL_law 2524 = .ok (.iadd, 1) := by decide +kernel
theorem dL_law_2525 : decode cL_law 2525 = .ok (.iaload, 1) := by decide +kernel
theorem dL_law_2526 : decode cL_law 2526 = .ok (.aload 4, 2) := by decide +kernel
theorem dL_law_2528 : decode cL_law 2528 = .ok (.invokestatic 266, 3) := by decide +kernel
theorem dL_law_2531 : decode cL_law 2531 = .ok (.istore 6, 2) := by decide +kernel
theorem dL_law_2533 : decode cL_law 2533 = .ok (.aload_n 2, 1) := by decide +kernel
theorem dL_law_2534 : decode cL_law 2534 = .ok (.aload_n 0, 1) := by decide +kernel
theorem dL_law_2535 : decode cL_law 2535 = .ok (.iload 5, 2) := by decide +kernel
theorem dL_law_2537 : decode cL_law 2537 = .ok (.iconst 1, 1) := by decide +kernel
theorem dL_law_2538 : decode cL_law 2538 = .ok (.iadd, 1) := by decide +kernel
theorem dL_law_2539 : decode cL_law 2539 = .ok (.iaload, 1) := by decide +kernel
theorem dL_law_2540 : decode cL_law 2540 = .ok (.invokevirtual 268, 3) := by decide +kernel
theorem dL_law_2543 : decode cL_law 2543 = .ok (.fstore 7, 2) := by decide +kernel
theorem dL_law_2545 : decode cL_law 2545 = .ok (.aload_n 2, 1) := by decide +kernel
theorem dL_law_2546 : decode cL_law 2546 = .ok (.invokevirtual 149, 3) := by decide +kernel
theorem dL_law_2549 : decode cL_law 2549 = .ok (.iload 6, 2) := by decide +kernel
theorem dL_law_2551 : decode cL_law 2551 = .ok (.if_icmp .eq 5, 3) := by decide +kernel
theorem dL_law_2554 : decode cL_law 2554 = .ok (.iconst 0, 1) := by decide +kernel
theorem dL_law_2555 : decode cL_law 2555 = .ok (.ireturn, 1) := by decide +kernel
theorem dL_law_2556 : decode cL_law 2556 = .ok (.iload 6, 2) := by decide +kernel
theorem dL_law_2558 : decode cL_law 2558 = .ok (.ifCond .ne 36, 3) := by decide +kernel
theorem dL_law_2561 : decode cL_law 2561 = .ok (.aload 4, 2) := by decide +kernel
theorem dL_law_2563 : decode cL_law 2563 = .ok (.iconst 0, 1) := by decide +kernel
theorem dL_law_2564 : decode cL_law 2564 = .ok (.daload, 1) := by decide +kernel
theorem dL_law_2565 : decode cL_law 2565 = .ok (.fload 7, 2) := by decide +kernel
theorem dL_law_2567 : decode cL_law 2567 = .ok (.f2d, 1) := by decide +kernel
theorem dL_law_2568 : decode cL_law 2568 = .ok (.dcmp .l, 1) := by decide +kernel
theorem dL_law_2569 : decode cL_law 2569 = .ok (.ifCond .eq 25, 3) := by decide +kernel
theorem dL_law_2572 : decode cL_law 2572 = .ok (.aload 4, 2) := by decide +kernel
theorem dL_law_2574 : decode cL_law 2574 = .ok (.iconst 0, 1) := by decide +kernel
theorem dL_law_2575 : decode cL_law 2575 = .ok (.daload, 1) := by decide +kernel
theorem dL_law_2576 : decode cL_law 2576 = .ok (.aload 4, 2) := by decide +kernel
theorem dL_law_2578 : decode cL_law 2578 = .ok (.iconst 0, 1) := by decide +kernel
theorem dL_law_2579 : decode cL_law 2579 = .ok (.daload, 1) := by decide +kernel
theorem dL_law_2580 : decode cL_law 2580 = .ok (.dcmp .l, 1) := by decide +kernel
theorem dL_law_2581 : decode cL_law 2581 = .ok (.ifCond .eq 11, 3) := by decide +kernel
theorem dL_law_2584 : decode cL_law 2584 = .ok (.fload 7, 2) := by decide +kernel
theorem dL_law_2586 : decode cL_law 2586 = .ok (.fload 7, 2) := by decide +kernel
theorem dL_law_2588 : decode cL_law 2588 = .ok (.fcmp .l, 1) := by decide +kernel
theorem dL_law_2589 : decode cL_law 2589 = .ok (.ifCond .ne 5, 3) := by decide +kernel
theorem dL_law_2592 : decode cL_law 2592 = .ok (.iconst 0, 1) := by decide +kernel
theorem dL_law_2593 : decode cL_law 2593 = .ok (.ireturn, 1) := by decide +kernel
theorem dL_law_2594 : decode cL_law 2594 = .ok (.goto 16, 3) := by decide +kernel
theorem dL_law_2597 : decode cL_law 2597 = .ok (.aload_n 1, 1) := by decide +kernel
theorem dL_law_2598 : decode cL_law 2598 = .ok (.invokevirtual 269, 3) := by decide +kernel
theorem dL_law_2601 : decode cL_law 2601 = .ok (.aload_n 2, 1) := by decide +kernel
theorem dL_law_2602 : decode cL_law 2602 = .ok (.invokevirtual 273, 3) := by decide +kernel
theorem dL_law_2605 : decode cL_law 2605 = .ok (.if_icmp .eq 5, 3) := by decide +kernel
theorem dL_law_2608 : decode cL_law 2608 = .ok (.iconst 0, 1) := by decide +kernel
theorem dL_law_2609 : decode cL_law 2609 = .ok (.ireturn, 1) := by decide +kernel
theorem dL_law_2610 : decode cL_law 2610 = .ok (.iinc 5 7, 3) := by decide +kernel
theorem dL_law_2613 : decode cL_law 2613 = .ok (.goto (-2585), 3) := by decide +kernel
theorem dL_law_2616 : decode cL_law 2616 = .ok (.iconst 1, 1) := by decide +kernel
theorem dL_law_2617 : decode cL_law 2617 = .ok (.ireturn, 1) := by decide +kernel
