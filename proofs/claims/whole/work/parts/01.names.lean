-- ===== PART A: goes FIRST, ahead of the names: the tables' words, and 'selects' of the private methods out of them =====
/-- a private method of a class that the tables say can be made, by its rows of tables_1 -/
def lw_okq (q : MethodName × Nat) : Prop := (q.1.cls ≠ "java/lang/invoke/MethodHandle" ∧ q.1.cls ≠ "java/lang/invoke/VarHandle") ∧ Cond.instantiable q.1.cls q.2 ∈ tables_1 ∧ Cond.privateMethod q.1 ∈ tables_1 ∧ Cond.instanceMethod q.1 ∈ tables_1
theorem lw_p0 : lw_okq (⟨"TreeTables$ShapeReader", "readEnd", "()Z"⟩, 4) := ⟨⟨by decide +kernel, by decide +kernel⟩, List.mem_of_getElem? (i := 235) (by decide +kernel), List.mem_of_getElem? (i := 274) (by decide +kernel), List.mem_of_getElem? (i := 275) (by decide +kernel)⟩
theorem lw_p1 : lw_okq (⟨"TreeTables$ShapeReader", "readClose", "()Z"⟩, 4) := ⟨⟨by decide +kernel, by decide +kernel⟩, List.mem_of_getElem? (i := 235) (by decide +kernel), List.mem_of_getElem? (i := 286) (by decide +kernel), List.mem_of_getElem? (i := 287) (by decide +kernel)⟩
theorem lw_p2 : lw_okq (⟨"TreeTables$ShapeReader", "readMark", "(I)Z"⟩, 4) := ⟨⟨by decide +kernel, by decide +kernel⟩, List.mem_of_getElem? (i := 235) (by decide +kernel), List.mem_of_getElem? (i := 294) (by decide +kernel), List.mem_of_getElem? (i := 295) (by decide +kernel)⟩
theorem lw_p3 : lw_okq (⟨"TreeTables$ShapeReader", "readField", "()Z"⟩, 4) := ⟨⟨by decide +kernel, by decide +kernel⟩, List.mem_of_getElem? (i := 235) (by decide +kernel), List.mem_of_getElem? (i := 319) (by decide +kernel), List.mem_of_getElem? (i := 320) (by decide +kernel)⟩
theorem lw_p4 : lw_okq (⟨"TreeTables$ShapeReader", "readName", "()Z"⟩, 4) := ⟨⟨by decide +kernel, by decide +kernel⟩, List.mem_of_getElem? (i := 235) (by decide +kernel), List.mem_of_getElem? (i := 323) (by decide +kernel), List.mem_of_getElem? (i := 324) (by decide +kernel)⟩
theorem lw_p5 : lw_okq (⟨"TreeTables$ShapeReader", "readOpen", "(I)Z"⟩, 4) := ⟨⟨by decide +kernel, by decide +kernel⟩, List.mem_of_getElem? (i := 235) (by decide +kernel), List.mem_of_getElem? (i := 344) (by decide +kernel), List.mem_of_getElem? (i := 345) (by decide +kernel)⟩
theorem lw_p6 : lw_okq (⟨"TreeTables$ShapeReader", "readLeaf", "(I)Z"⟩, 4) := ⟨⟨by decide +kernel, by decide +kernel⟩, List.mem_of_getElem? (i := 235) (by decide +kernel), List.mem_of_getElem? (i := 348) (by decide +kernel), List.mem_of_getElem? (i := 349) (by decide +kernel)⟩
theorem lw_p7 : lw_okq (⟨"TreeTables", "beginTable", "(I)V"⟩, 6) := ⟨⟨by decide +kernel, by decide +kernel⟩, List.mem_of_getElem? (i := 14) (by decide +kernel), List.mem_of_getElem? (i := 365) (by decide +kernel), List.mem_of_getElem? (i := 366) (by decide +kernel)⟩
theorem lw_p8 : lw_okq (⟨"TreeTables", "tableOf", "(I)LTreeTables$Table;"⟩, 6) := ⟨⟨by decide +kernel, by decide +kernel⟩, List.mem_of_getElem? (i := 14) (by decide +kernel), List.mem_of_getElem? (i := 369) (by decide +kernel), List.mem_of_getElem? (i := 370) (by decide +kernel)⟩
theorem lw_p9 : lw_okq (⟨"TreeTables$PaperReader", "readEnd", "()Z"⟩, 8) := ⟨⟨by decide +kernel, by decide +kernel⟩, List.mem_of_getElem? (i := 386) (by decide +kernel), List.mem_of_getElem? (i := 424) (by decide +kernel), List.mem_of_getElem? (i := 425) (by decide +kernel)⟩
theorem lw_p10 : lw_okq (⟨"TreeTables$PaperReader", "layLacking", "()Z"⟩, 8) := ⟨⟨by decide +kernel, by decide +kernel⟩, List.mem_of_getElem? (i := 386) (by decide +kernel), List.mem_of_getElem? (i := 429) (by decide +kernel), List.mem_of_getElem? (i := 430) (by decide +kernel)⟩
theorem lw_p11 : lw_okq (⟨"TreeTables$PaperReader", "layLackingLeaves", "(I)V"⟩, 8) := ⟨⟨by decide +kernel, by decide +kernel⟩, List.mem_of_getElem? (i := 386) (by decide +kernel), List.mem_of_getElem? (i := 433) (by decide +kernel), List.mem_of_getElem? (i := 434) (by decide +kernel)⟩
theorem lw_p12 : lw_okq (⟨"TreeTables$PaperReader", "levelHere", "()I"⟩, 8) := ⟨⟨by decide +kernel, by decide +kernel⟩, List.mem_of_getElem? (i := 386) (by decide +kernel), List.mem_of_getElem? (i := 442) (by decide +kernel), List.mem_of_getElem? (i := 443) (by decide +kernel)⟩
theorem lw_p13 : lw_okq (⟨"TreeTables$PaperReader", "lay", "(IIIJ)V"⟩, 8) := ⟨⟨by decide +kernel, by decide +kernel⟩, List.mem_of_getElem? (i := 386) (by decide +kernel), List.mem_of_getElem? (i := 447) (by decide +kernel), List.mem_of_getElem? (i := 448) (by decide +kernel)⟩
theorem lw_p14 : lw_okq (⟨"TreeTables$PaperReader", "readClose", "()Z"⟩, 8) := ⟨⟨by decide +kernel, by decide +kernel⟩, List.mem_of_getElem? (i := 386) (by decide +kernel), List.mem_of_getElem? (i := 479) (by decide +kernel), List.mem_of_getElem? (i := 480) (by decide +kernel)⟩
theorem lw_p15 : lw_okq (⟨"TreeTables$PaperReader", "readEntry", "()Z"⟩, 8) := ⟨⟨by decide +kernel, by decide +kernel⟩, List.mem_of_getElem? (i := 386) (by decide +kernel), List.mem_of_getElem? (i := 485) (by decide +kernel), List.mem_of_getElem? (i := 486) (by decide +kernel)⟩
def lw_privs_1 : List (MethodName × Nat) := [(⟨"TreeTables$ShapeReader", "readEnd", "()Z"⟩, 4), (⟨"TreeTables$ShapeReader", "readClose", "()Z"⟩, 4), (⟨"TreeTables$ShapeReader", "readMark", "(I)Z"⟩, 4), (⟨"TreeTables$ShapeReader", "readField", "()Z"⟩, 4), (⟨"TreeTables$ShapeReader", "readName", "()Z"⟩, 4), (⟨"TreeTables$ShapeReader", "readOpen", "(I)Z"⟩, 4), (⟨"TreeTables$ShapeReader", "readLeaf", "(I)Z"⟩, 4), (⟨"TreeTables", "beginTable", "(I)V"⟩, 6), (⟨"TreeTables", "tableOf", "(I)LTreeTables$Table;"⟩, 6), (⟨"TreeTables$PaperReader", "readEnd", "()Z"⟩, 8), (⟨"TreeTables$PaperReader", "layLacking", "()Z"⟩, 8), (⟨"TreeTables$PaperReader", "layLackingLeaves", "(I)V"⟩, 8), (⟨"TreeTables$PaperReader", "levelHere", "()I"⟩, 8), (⟨"TreeTables$PaperReader", "lay", "(IIIJ)V"⟩, 8), (⟨"TreeTables$PaperReader", "readClose", "()Z"⟩, 8), (⟨"TreeTables$PaperReader", "readEntry", "()Z"⟩, 8)]
theorem lw_r1 : ∀ q ∈ lw_privs_1, lw_okq q := List.forall_mem_cons.mpr ⟨lw_p0, List.forall_mem_cons.mpr ⟨lw_p1, List.forall_mem_cons.mpr ⟨lw_p2, List.forall_mem_cons.mpr ⟨lw_p3, List.forall_mem_cons.mpr ⟨lw_p4, List.forall_mem_cons.mpr ⟨lw_p5, List.forall_mem_cons.mpr ⟨lw_p6, List.forall_mem_cons.mpr ⟨lw_p7, List.forall_mem_cons.mpr ⟨lw_p8, List.forall_mem_cons.mpr ⟨lw_p9, List.forall_mem_cons.mpr ⟨lw_p10, List.forall_mem_cons.mpr ⟨lw_p11, List.forall_mem_cons.mpr ⟨lw_p12, List.forall_mem_cons.mpr ⟨lw_p13, List.forall_mem_cons.mpr ⟨lw_p14, List.forall_mem_cons.mpr ⟨lw_p15, fun _ h => absurd h List.not_mem_nil⟩⟩⟩⟩⟩⟩⟩⟩⟩⟩⟩⟩⟩⟩⟩⟩
theorem lw_p16 : lw_okq (⟨"TreeTables$PaperReader", "readName", "()I"⟩, 8) := ⟨⟨by decide +kernel, by decide +kernel⟩, List.mem_of_getElem? (i := 386) (by decide +kernel), List.mem_of_getElem? (i := 489) (by decide +kernel), List.mem_of_getElem? (i := 490) (by decide +kernel)⟩
theorem lw_p17 : lw_okq (⟨"TreeTables$PaperReader", "readNumber", "(II)Z"⟩, 8) := ⟨⟨by decide +kernel, by decide +kernel⟩, List.mem_of_getElem? (i := 386) (by decide +kernel), List.mem_of_getElem? (i := 503) (by decide +kernel), List.mem_of_getElem? (i := 504) (by decide +kernel)⟩
theorem lw_p18 : lw_okq (⟨"TreeTables$PaperReader", "readLetters", "(II)Z"⟩, 8) := ⟨⟨by decide +kernel, by decide +kernel⟩, List.mem_of_getElem? (i := 386) (by decide +kernel), List.mem_of_getElem? (i := 509) (by decide +kernel), List.mem_of_getElem? (i := 510) (by decide +kernel)⟩
theorem lw_p19 : lw_okq (⟨"TreeTables$PaperReader", "readOpen", "(II)Z"⟩, 8) := ⟨⟨by decide +kernel, by decide +kernel⟩, List.mem_of_getElem? (i := 386) (by decide +kernel), List.mem_of_getElem? (i := 514) (by decide +kernel), List.mem_of_getElem? (i := 515) (by decide +kernel)⟩
theorem lw_p20 : lw_okq (⟨"TreeTables", "forgetRows", "(I)V"⟩, 6) := ⟨⟨by decide +kernel, by decide +kernel⟩, List.mem_of_getElem? (i := 14) (by decide +kernel), List.mem_of_getElem? (i := 518) (by decide +kernel), List.mem_of_getElem? (i := 519) (by decide +kernel)⟩
theorem lw_p21 : lw_okq (⟨"TreeTables", "isPaper", "(I)Z"⟩, 6) := ⟨⟨by decide +kernel, by decide +kernel⟩, List.mem_of_getElem? (i := 14) (by decide +kernel), List.mem_of_getElem? (i := 534) (by decide +kernel), List.mem_of_getElem? (i := 535) (by decide +kernel)⟩
theorem lw_p22 : lw_okq (⟨"TreeTables$Table", "hasValueAhead", "(I)Z"⟩, 9) := ⟨⟨by decide +kernel, by decide +kernel⟩, List.mem_of_getElem? (i := 68) (by decide +kernel), List.mem_of_getElem? (i := 558) (by decide +kernel), List.mem_of_getElem? (i := 559) (by decide +kernel)⟩
theorem lw_p23 : lw_okq (⟨"TreeTables$Table", "countRuns", "([I)I"⟩, 9) := ⟨⟨by decide +kernel, by decide +kernel⟩, List.mem_of_getElem? (i := 68) (by decide +kernel), List.mem_of_getElem? (i := 567) (by decide +kernel), List.mem_of_getElem? (i := 568) (by decide +kernel)⟩
theorem lw_p24 : lw_okq (⟨"TreeTables$TextWriter", "wantedTable", "(I)LTreeTables$Table;"⟩, 5) := ⟨⟨by decide +kernel, by decide +kernel⟩, List.mem_of_getElem? (i := 586) (by decide +kernel), List.mem_of_getElem? (i := 612) (by decide +kernel), List.mem_of_getElem? (i := 613) (by decide +kernel)⟩
theorem lw_p25 : lw_okq (⟨"TreeTables$TextWriter", "writeParts", "(II)V"⟩, 5) := ⟨⟨by decide +kernel, by decide +kernel⟩, List.mem_of_getElem? (i := 586) (by decide +kernel), List.mem_of_getElem? (i := 620) (by decide +kernel), List.mem_of_getElem? (i := 621) (by decide +kernel)⟩
theorem lw_p26 : lw_okq (⟨"TreeTables$TextWriter", "writeField", "(II)V"⟩, 5) := ⟨⟨by decide +kernel, by decide +kernel⟩, List.mem_of_getElem? (i := 586) (by decide +kernel), List.mem_of_getElem? (i := 624) (by decide +kernel), List.mem_of_getElem? (i := 625) (by decide +kernel)⟩
theorem lw_p27 : lw_okq (⟨"TreeTables$TextWriter", "firstWantedLeaf", "(I)I"⟩, 5) := ⟨⟨by decide +kernel, by decide +kernel⟩, List.mem_of_getElem? (i := 586) (by decide +kernel), List.mem_of_getElem? (i := 628) (by decide +kernel), List.mem_of_getElem? (i := 629) (by decide +kernel)⟩
theorem lw_p28 : lw_okq (⟨"TreeTables$TextWriter", "isWantedBelow", "(II)Z"⟩, 5) := ⟨⟨by decide +kernel, by decide +kernel⟩, List.mem_of_getElem? (i := 586) (by decide +kernel), List.mem_of_getElem? (i := 632) (by decide +kernel), List.mem_of_getElem? (i := 633) (by decide +kernel)⟩
theorem lw_p29 : lw_okq (⟨"TreeTables$TextWriter", "passLacking", "(I)V"⟩, 5) := ⟨⟨by decide +kernel, by decide +kernel⟩, List.mem_of_getElem? (i := 586) (by decide +kernel), List.mem_of_getElem? (i := 639) (by decide +kernel), List.mem_of_getElem? (i := 640) (by decide +kernel)⟩
theorem lw_p30 : lw_okq (⟨"TreeTables$TextWriter", "writeGroup", "(II)V"⟩, 5) := ⟨⟨by decide +kernel, by decide +kernel⟩, List.mem_of_getElem? (i := 586) (by decide +kernel), List.mem_of_getElem? (i := 655) (by decide +kernel), List.mem_of_getElem? (i := 656) (by decide +kernel)⟩
theorem lw_p31 : lw_okq (⟨"TreeTables$TextWriter", "writeLeaf", "(I)V"⟩, 5) := ⟨⟨by decide +kernel, by decide +kernel⟩, List.mem_of_getElem? (i := 586) (by decide +kernel), List.mem_of_getElem? (i := 659) (by decide +kernel), List.mem_of_getElem? (i := 660) (by decide +kernel)⟩
def lw_privs_2 : List (MethodName × Nat) := [(⟨"TreeTables$PaperReader", "readName", "()I"⟩, 8), (⟨"TreeTables$PaperReader", "readNumber", "(II)Z"⟩, 8), (⟨"TreeTables$PaperReader", "readLetters", "(II)Z"⟩, 8), (⟨"TreeTables$PaperReader", "readOpen", "(II)Z"⟩, 8), (⟨"TreeTables", "forgetRows", "(I)V"⟩, 6), (⟨"TreeTables", "isPaper", "(I)Z"⟩, 6), (⟨"TreeTables$Table", "hasValueAhead", "(I)Z"⟩, 9), (⟨"TreeTables$Table", "countRuns", "([I)I"⟩, 9), (⟨"TreeTables$TextWriter", "wantedTable", "(I)LTreeTables$Table;"⟩, 5), (⟨"TreeTables$TextWriter", "writeParts", "(II)V"⟩, 5), (⟨"TreeTables$TextWriter", "writeField", "(II)V"⟩, 5), (⟨"TreeTables$TextWriter", "firstWantedLeaf", "(I)I"⟩, 5), (⟨"TreeTables$TextWriter", "isWantedBelow", "(II)Z"⟩, 5), (⟨"TreeTables$TextWriter", "passLacking", "(I)V"⟩, 5), (⟨"TreeTables$TextWriter", "writeGroup", "(II)V"⟩, 5), (⟨"TreeTables$TextWriter", "writeLeaf", "(I)V"⟩, 5)]
theorem lw_r2 : ∀ q ∈ lw_privs_2, lw_okq q := List.forall_mem_cons.mpr ⟨lw_p16, List.forall_mem_cons.mpr ⟨lw_p17, List.forall_mem_cons.mpr ⟨lw_p18, List.forall_mem_cons.mpr ⟨lw_p19, List.forall_mem_cons.mpr ⟨lw_p20, List.forall_mem_cons.mpr ⟨lw_p21, List.forall_mem_cons.mpr ⟨lw_p22, List.forall_mem_cons.mpr ⟨lw_p23, List.forall_mem_cons.mpr ⟨lw_p24, List.forall_mem_cons.mpr ⟨lw_p25, List.forall_mem_cons.mpr ⟨lw_p26, List.forall_mem_cons.mpr ⟨lw_p27, List.forall_mem_cons.mpr ⟨lw_p28, List.forall_mem_cons.mpr ⟨lw_p29, List.forall_mem_cons.mpr ⟨lw_p30, List.forall_mem_cons.mpr ⟨lw_p31, fun _ h => absurd h List.not_mem_nil⟩⟩⟩⟩⟩⟩⟩⟩⟩⟩⟩⟩⟩⟩⟩⟩
theorem lw_p32 : lw_okq (⟨"TreeTablesModel", "begins", "()V"⟩, 54) := ⟨⟨by decide +kernel, by decide +kernel⟩, List.mem_of_getElem? (i := 729) (by decide +kernel), List.mem_of_getElem? (i := 915) (by decide +kernel), List.mem_of_getElem? (i := 916) (by decide +kernel)⟩
theorem lw_p33 : lw_okq (⟨"TreeTablesModel", "readsShape", "()V"⟩, 54) := ⟨⟨by decide +kernel, by decide +kernel⟩, List.mem_of_getElem? (i := 729) (by decide +kernel), List.mem_of_getElem? (i := 919) (by decide +kernel), List.mem_of_getElem? (i := 920) (by decide +kernel)⟩
theorem lw_p34 : lw_okq (⟨"TreeTablesModel", "next", "()I"⟩, 54) := ⟨⟨by decide +kernel, by decide +kernel⟩, List.mem_of_getElem? (i := 729) (by decide +kernel), List.mem_of_getElem? (i := 923) (by decide +kernel), List.mem_of_getElem? (i := 924) (by decide +kernel)⟩
theorem lw_p35 : lw_okq (⟨"TreeTablesModel", "fail", "(II)V"⟩, 54) := ⟨⟨by decide +kernel, by decide +kernel⟩, List.mem_of_getElem? (i := 729) (by decide +kernel), List.mem_of_getElem? (i := 927) (by decide +kernel), List.mem_of_getElem? (i := 928) (by decide +kernel)⟩
theorem lw_p36 : lw_okq (⟨"TreeTablesModel", "marks", "(I)V"⟩, 54) := ⟨⟨by decide +kernel, by decide +kernel⟩, List.mem_of_getElem? (i := 729) (by decide +kernel), List.mem_of_getElem? (i := 931) (by decide +kernel), List.mem_of_getElem? (i := 932) (by decide +kernel)⟩
theorem lw_p37 : lw_okq (⟨"TreeTablesModel", "whole", "()J"⟩, 54) := ⟨⟨by decide +kernel, by decide +kernel⟩, List.mem_of_getElem? (i := 729) (by decide +kernel), List.mem_of_getElem? (i := 935) (by decide +kernel), List.mem_of_getElem? (i := 936) (by decide +kernel)⟩
theorem lw_p38 : lw_okq (⟨"TreeTablesModel", "sign", "(I)V"⟩, 54) := ⟨⟨by decide +kernel, by decide +kernel⟩, List.mem_of_getElem? (i := 729) (by decide +kernel), List.mem_of_getElem? (i := 943) (by decide +kernel), List.mem_of_getElem? (i := 944) (by decide +kernel)⟩
theorem lw_p39 : lw_okq (⟨"TreeTablesModel", "field", "()V"⟩, 54) := ⟨⟨by decide +kernel, by decide +kernel⟩, List.mem_of_getElem? (i := 729) (by decide +kernel), List.mem_of_getElem? (i := 947) (by decide +kernel), List.mem_of_getElem? (i := 948) (by decide +kernel)⟩
theorem lw_p40 : lw_okq (⟨"TreeTablesModel", "word", "()J"⟩, 54) := ⟨⟨by decide +kernel, by decide +kernel⟩, List.mem_of_getElem? (i := 729) (by decide +kernel), List.mem_of_getElem? (i := 951) (by decide +kernel), List.mem_of_getElem? (i := 952) (by decide +kernel)⟩
theorem lw_p41 : lw_okq (⟨"TreeTablesModel", "isOwn", "(J)Z"⟩, 54) := ⟨⟨by decide +kernel, by decide +kernel⟩, List.mem_of_getElem? (i := 729) (by decide +kernel), List.mem_of_getElem? (i := 955) (by decide +kernel), List.mem_of_getElem? (i := 956) (by decide +kernel)⟩
theorem lw_p42 : lw_okq (⟨"TreeTablesModel", "told", "()V"⟩, 54) := ⟨⟨by decide +kernel, by decide +kernel⟩, List.mem_of_getElem? (i := 729) (by decide +kernel), List.mem_of_getElem? (i := 959) (by decide +kernel), List.mem_of_getElem? (i := 960) (by decide +kernel)⟩
theorem lw_p43 : lw_okq (⟨"TreeTablesModel", "readsPaper", "()V"⟩, 54) := ⟨⟨by decide +kernel, by decide +kernel⟩, List.mem_of_getElem? (i := 729) (by decide +kernel), List.mem_of_getElem? (i := 967) (by decide +kernel), List.mem_of_getElem? (i := 968) (by decide +kernel)⟩
theorem lw_p44 : lw_okq (⟨"TreeTablesModel", "node", "(IIJ)I"⟩, 54) := ⟨⟨by decide +kernel, by decide +kernel⟩, List.mem_of_getElem? (i := 729) (by decide +kernel), List.mem_of_getElem? (i := 971) (by decide +kernel), List.mem_of_getElem? (i := 972) (by decide +kernel)⟩
theorem lw_p45 : lw_okq (⟨"TreeTablesModel", "lacks", "(I)Z"⟩, 54) := ⟨⟨by decide +kernel, by decide +kernel⟩, List.mem_of_getElem? (i := 729) (by decide +kernel), List.mem_of_getElem? (i := 975) (by decide +kernel), List.mem_of_getElem? (i := 976) (by decide +kernel)⟩
theorem lw_p46 : lw_okq (⟨"TreeTablesModel", "hasNode", "(II)Z"⟩, 54) := ⟨⟨by decide +kernel, by decide +kernel⟩, List.mem_of_getElem? (i := 729) (by decide +kernel), List.mem_of_getElem? (i := 979) (by decide +kernel), List.mem_of_getElem? (i := 980) (by decide +kernel)⟩
theorem lw_p47 : lw_okq (⟨"TreeTablesModel", "entry", "()V"⟩, 54) := ⟨⟨by decide +kernel, by decide +kernel⟩, List.mem_of_getElem? (i := 729) (by decide +kernel), List.mem_of_getElem? (i := 983) (by decide +kernel), List.mem_of_getElem? (i := 984) (by decide +kernel)⟩
def lw_privs_3 : List (MethodName × Nat) := [(⟨"TreeTablesModel", "begins", "()V"⟩, 54), (⟨"TreeTablesModel", "readsShape", "()V"⟩, 54), (⟨"TreeTablesModel", "next", "()I"⟩, 54), (⟨"TreeTablesModel", "fail", "(II)V"⟩, 54), (⟨"TreeTablesModel", "marks", "(I)V"⟩, 54), (⟨"TreeTablesModel", "whole", "()J"⟩, 54), (⟨"TreeTablesModel", "sign", "(I)V"⟩, 54), (⟨"TreeTablesModel", "field", "()V"⟩, 54), (⟨"TreeTablesModel", "word", "()J"⟩, 54), (⟨"TreeTablesModel", "isOwn", "(J)Z"⟩, 54), (⟨"TreeTablesModel", "told", "()V"⟩, 54), (⟨"TreeTablesModel", "readsPaper", "()V"⟩, 54), (⟨"TreeTablesModel", "node", "(IIJ)I"⟩, 54), (⟨"TreeTablesModel", "lacks", "(I)Z"⟩, 54), (⟨"TreeTablesModel", "hasNode", "(II)Z"⟩, 54), (⟨"TreeTablesModel", "entry", "()V"⟩, 54)]
theorem lw_r3 : ∀ q ∈ lw_privs_3, lw_okq q := List.forall_mem_cons.mpr ⟨lw_p32, List.forall_mem_cons.mpr ⟨lw_p33, List.forall_mem_cons.mpr ⟨lw_p34, List.forall_mem_cons.mpr ⟨lw_p35, List.forall_mem_cons.mpr ⟨lw_p36, List.forall_mem_cons.mpr ⟨lw_p37, List.forall_mem_cons.mpr ⟨lw_p38, List.forall_mem_cons.mpr ⟨lw_p39, List.forall_mem_cons.mpr ⟨lw_p40, List.forall_mem_cons.mpr ⟨lw_p41, List.forall_mem_cons.mpr ⟨lw_p42, List.forall_mem_cons.mpr ⟨lw_p43, List.forall_mem_cons.mpr ⟨lw_p44, List.forall_mem_cons.mpr ⟨lw_p45, List.forall_mem_cons.mpr ⟨lw_p46, List.forall_mem_cons.mpr ⟨lw_p47, fun _ h => absurd h List.not_mem_nil⟩⟩⟩⟩⟩⟩⟩⟩⟩⟩⟩⟩⟩⟩⟩⟩
theorem lw_p48 : lw_okq (⟨"TreeTablesModel", "fieldOf", "(IJ)I"⟩, 54) := ⟨⟨by decide +kernel, by decide +kernel⟩, List.mem_of_getElem? (i := 729) (by decide +kernel), List.mem_of_getElem? (i := 987) (by decide +kernel), List.mem_of_getElem? (i := 988) (by decide +kernel)⟩
theorem lw_p49 : lw_okq (⟨"TreeTablesModel", "number", "()J"⟩, 54) := ⟨⟨by decide +kernel, by decide +kernel⟩, List.mem_of_getElem? (i := 729) (by decide +kernel), List.mem_of_getElem? (i := 994) (by decide +kernel), List.mem_of_getElem? (i := 995) (by decide +kernel)⟩
theorem lw_p50 : lw_okq (⟨"TreeTablesModel", "isPaper", "(I)Z"⟩, 54) := ⟨⟨by decide +kernel, by decide +kernel⟩, List.mem_of_getElem? (i := 729) (by decide +kernel), List.mem_of_getElem? (i := 1008) (by decide +kernel), List.mem_of_getElem? (i := 1009) (by decide +kernel)⟩
theorem lw_p51 : lw_okq (⟨"TreeTablesModel", "isLeaf", "(I)Z"⟩, 54) := ⟨⟨by decide +kernel, by decide +kernel⟩, List.mem_of_getElem? (i := 729) (by decide +kernel), List.mem_of_getElem? (i := 1016) (by decide +kernel), List.mem_of_getElem? (i := 1017) (by decide +kernel)⟩
theorem lw_p52 : lw_okq (⟨"TreeTablesModel", "table", "(I)V"⟩, 54) := ⟨⟨by decide +kernel, by decide +kernel⟩, List.mem_of_getElem? (i := 729) (by decide +kernel), List.mem_of_getElem? (i := 1020) (by decide +kernel), List.mem_of_getElem? (i := 1021) (by decide +kernel)⟩
theorem lw_p53 : lw_okq (⟨"TreeTablesModel", "roadOf", "(I)V"⟩, 54) := ⟨⟨by decide +kernel, by decide +kernel⟩, List.mem_of_getElem? (i := 729) (by decide +kernel), List.mem_of_getElem? (i := 1024) (by decide +kernel), List.mem_of_getElem? (i := 1025) (by decide +kernel)⟩
theorem lw_p54 : lw_okq (⟨"TreeTablesModel", "steps", "(IIII)V"⟩, 54) := ⟨⟨by decide +kernel, by decide +kernel⟩, List.mem_of_getElem? (i := 729) (by decide +kernel), List.mem_of_getElem? (i := 1028) (by decide +kernel), List.mem_of_getElem? (i := 1029) (by decide +kernel)⟩
theorem lw_p55 : lw_okq (⟨"TreeTablesModel", "putsRow", "(IIZJI)V"⟩, 54) := ⟨⟨by decide +kernel, by decide +kernel⟩, List.mem_of_getElem? (i := 729) (by decide +kernel), List.mem_of_getElem? (i := 1032) (by decide +kernel), List.mem_of_getElem? (i := 1033) (by decide +kernel)⟩
theorem lw_p56 : lw_okq (⟨"TreeTablesModel", "manyUpTo", "(I)I"⟩, 54) := ⟨⟨by decide +kernel, by decide +kernel⟩, List.mem_of_getElem? (i := 729) (by decide +kernel), List.mem_of_getElem? (i := 1036) (by decide +kernel), List.mem_of_getElem? (i := 1037) (by decide +kernel)⟩
theorem lw_p57 : lw_okq (⟨"TreeTablesModel", "deepOf", "()I"⟩, 54) := ⟨⟨by decide +kernel, by decide +kernel⟩, List.mem_of_getElem? (i := 729) (by decide +kernel), List.mem_of_getElem? (i := 1040) (by decide +kernel), List.mem_of_getElem? (i := 1041) (by decide +kernel)⟩
theorem lw_p58 : lw_okq (⟨"TreeTablesModel", "values", "(Z)I"⟩, 54) := ⟨⟨by decide +kernel, by decide +kernel⟩, List.mem_of_getElem? (i := 729) (by decide +kernel), List.mem_of_getElem? (i := 1044) (by decide +kernel), List.mem_of_getElem? (i := 1045) (by decide +kernel)⟩
theorem lw_p59 : lw_okq (⟨"TreeTablesModel", "isFirstValue", "(I)Z"⟩, 54) := ⟨⟨by decide +kernel, by decide +kernel⟩, List.mem_of_getElem? (i := 729) (by decide +kernel), List.mem_of_getElem? (i := 1048) (by decide +kernel), List.mem_of_getElem? (i := 1049) (by decide +kernel)⟩
theorem lw_p60 : lw_okq (⟨"TreeTablesModel", "sizeOf", "()I"⟩, 54) := ⟨⟨by decide +kernel, by decide +kernel⟩, List.mem_of_getElem? (i := 729) (by decide +kernel), List.mem_of_getElem? (i := 1052) (by decide +kernel), List.mem_of_getElem? (i := 1053) (by decide +kernel)⟩
theorem lw_p61 : lw_okq (⟨"TreeTablesModel", "runs", "([I)I"⟩, 54) := ⟨⟨by decide +kernel, by decide +kernel⟩, List.mem_of_getElem? (i := 729) (by decide +kernel), List.mem_of_getElem? (i := 1056) (by decide +kernel), List.mem_of_getElem? (i := 1057) (by decide +kernel)⟩
theorem lw_p62 : lw_okq (⟨"TreeTablesModel", "isRow", "(II)Z"⟩, 54) := ⟨⟨by decide +kernel, by decide +kernel⟩, List.mem_of_getElem? (i := 729) (by decide +kernel), List.mem_of_getElem? (i := 1064) (by decide +kernel), List.mem_of_getElem? (i := 1065) (by decide +kernel)⟩
theorem lw_p63 : lw_okq (⟨"TreeTablesModel", "lays", "(I)V"⟩, 54) := ⟨⟨by decide +kernel, by decide +kernel⟩, List.mem_of_getElem? (i := 729) (by decide +kernel), List.mem_of_getElem? (i := 1076) (by decide +kernel), List.mem_of_getElem? (i := 1077) (by decide +kernel)⟩
def lw_privs_4 : List (MethodName × Nat) := [(⟨"TreeTablesModel", "fieldOf", "(IJ)I"⟩, 54), (⟨"TreeTablesModel", "number", "()J"⟩, 54), (⟨"TreeTablesModel", "isPaper", "(I)Z"⟩, 54), (⟨"TreeTablesModel", "isLeaf", "(I)Z"⟩, 54), (⟨"TreeTablesModel", "table", "(I)V"⟩, 54), (⟨"TreeTablesModel", "roadOf", "(I)V"⟩, 54), (⟨"TreeTablesModel", "steps", "(IIII)V"⟩, 54), (⟨"TreeTablesModel", "putsRow", "(IIZJI)V"⟩, 54), (⟨"TreeTablesModel", "manyUpTo", "(I)I"⟩, 54), (⟨"TreeTablesModel", "deepOf", "()I"⟩, 54), (⟨"TreeTablesModel", "values", "(Z)I"⟩, 54), (⟨"TreeTablesModel", "isFirstValue", "(I)Z"⟩, 54), (⟨"TreeTablesModel", "sizeOf", "()I"⟩, 54), (⟨"TreeTablesModel", "runs", "([I)I"⟩, 54), (⟨"TreeTablesModel", "isRow", "(II)Z"⟩, 54), (⟨"TreeTablesModel", "lays", "(I)V"⟩, 54)]
theorem lw_r4 : ∀ q ∈ lw_privs_4, lw_okq q := List.forall_mem_cons.mpr ⟨lw_p48, List.forall_mem_cons.mpr ⟨lw_p49, List.forall_mem_cons.mpr ⟨lw_p50, List.forall_mem_cons.mpr ⟨lw_p51, List.forall_mem_cons.mpr ⟨lw_p52, List.forall_mem_cons.mpr ⟨lw_p53, List.forall_mem_cons.mpr ⟨lw_p54, List.forall_mem_cons.mpr ⟨lw_p55, List.forall_mem_cons.mpr ⟨lw_p56, List.forall_mem_cons.mpr ⟨lw_p57, List.forall_mem_cons.mpr ⟨lw_p58, List.forall_mem_cons.mpr ⟨lw_p59, List.forall_mem_cons.mpr ⟨lw_p60, List.forall_mem_cons.mpr ⟨lw_p61, List.forall_mem_cons.mpr ⟨lw_p62, List.forall_mem_cons.mpr ⟨lw_p63, fun _ h => absurd h List.not_mem_nil⟩⟩⟩⟩⟩⟩⟩⟩⟩⟩⟩⟩⟩⟩⟩⟩
theorem lw_p64 : lw_okq (⟨"TreeTablesModel", "laysWord", "(J)V"⟩, 54) := ⟨⟨by decide +kernel, by decide +kernel⟩, List.mem_of_getElem? (i := 729) (by decide +kernel), List.mem_of_getElem? (i := 1080) (by decide +kernel), List.mem_of_getElem? (i := 1081) (by decide +kernel)⟩
theorem lw_p65 : lw_okq (⟨"TreeTablesModel", "laysNumber", "(J)V"⟩, 54) := ⟨⟨by decide +kernel, by decide +kernel⟩, List.mem_of_getElem? (i := 729) (by decide +kernel), List.mem_of_getElem? (i := 1084) (by decide +kernel), List.mem_of_getElem? (i := 1085) (by decide +kernel)⟩
theorem lw_p66 : lw_okq (⟨"TreeTablesModel", "isOn", "(II)Z"⟩, 54) := ⟨⟨by decide +kernel, by decide +kernel⟩, List.mem_of_getElem? (i := 729) (by decide +kernel), List.mem_of_getElem? (i := 1108) (by decide +kernel), List.mem_of_getElem? (i := 1109) (by decide +kernel)⟩
theorem lw_p67 : lw_okq (⟨"TreeTablesModel", "has", "(IIIJ)Z"⟩, 54) := ⟨⟨by decide +kernel, by decide +kernel⟩, List.mem_of_getElem? (i := 729) (by decide +kernel), List.mem_of_getElem? (i := 1112) (by decide +kernel), List.mem_of_getElem? (i := 1113) (by decide +kernel)⟩
def lw_privs_5 : List (MethodName × Nat) := [(⟨"TreeTablesModel", "laysWord", "(J)V"⟩, 54), (⟨"TreeTablesModel", "laysNumber", "(J)V"⟩, 54), (⟨"TreeTablesModel", "isOn", "(II)Z"⟩, 54), (⟨"TreeTablesModel", "has", "(IIIJ)Z"⟩, 54)]
theorem lw_r5 : ∀ q ∈ lw_privs_5, lw_okq q := List.forall_mem_cons.mpr ⟨lw_p64, List.forall_mem_cons.mpr ⟨lw_p65, List.forall_mem_cons.mpr ⟨lw_p66, List.forall_mem_cons.mpr ⟨lw_p67, fun _ h => absurd h List.not_mem_nil⟩⟩⟩⟩
def lw_privs : List (MethodName × Nat) := lw_privs_1 ++ (lw_privs_2 ++ (lw_privs_3 ++ (lw_privs_4 ++ (lw_privs_5))))
def lw_tbl : List Cond := k2_sels lw_privs ++ tables_1
theorem lw_privs_ok : ∀ q ∈ lw_privs, lw_okq q := by
  show ∀ q ∈ lw_privs_1 ++ (lw_privs_2 ++ (lw_privs_3 ++ (lw_privs_4 ++ (lw_privs_5)))), lw_okq q
  exact List.forall_mem_append.mpr ⟨lw_r1, List.forall_mem_append.mpr ⟨lw_r2, List.forall_mem_append.mpr ⟨lw_r3, List.forall_mem_append.mpr ⟨lw_r4, lw_r5⟩⟩⟩⟩
def RX0 : String := "TreeTables$PaperReader"
def TX0 : u_T := fun k => match k with
  | 0 => ("TreeTables$PaperReader", "tape", "LTreeTables$Tape;", true)
  | 1 => ("TreeTables$PaperReader", "shape", "LTreeTables$Shape;", true)
  | 2 => ("TreeTables$PaperReader", "tables", "[LTreeTables$Table;", true)
  | 3 => ("TreeTables$PaperReader", "paper", "I", true)
  | 4 => ("TreeTables$PaperReader", "there", "[Z", true)
  | 5 => ("TreeTables$PaperReader", "levels", "[I", true)
  | 6 => ("TreeTables$PaperReader", "open", "I", false)
  | _ => ("TreeTables$PaperReader", "depth", "I", false)
def tyX0 : Nat → FieldType := fun k => match k with
  | 0 => .object "TreeTables$Tape"
  | 1 => .object "TreeTables$Shape"
  | 2 => .array (.object "TreeTables$Table")
  | 3 => .int
  | 4 => .array .boolean
  | 5 => .array .int
  | 6 => .int
  | _ => .int
abbrev wsX00 : List Cond := u_ws RX0 TX0 8
theorem nmX0 : ∀ a, a < 8 → ∀ b, b < 8 → a ≠ b → (TX0 a).2.1 ≠ (TX0 b).2.1 := by decide +kernel
theorem tyX0_ok : ∀ k, k < 8 → parseFieldDescriptor (TX0 k).2.2.1 = some (tyX0 k) := by decide +kernel
abbrev cX0_init : ByteArray := prog_2_method_1_code
def yX0_init : MethodName := ⟨RX0, "<init>", "(LTreeTables$Tape;LTreeTables$Shape;[LTreeTables$Table;I)V"⟩
abbrev cX0_readAll : ByteArray := prog_2_method_2_code
def yX0_readAll : MethodName := ⟨RX0, "readAll", "()Z"⟩
abbrev cX0_readEnd : ByteArray := prog_2_method_3_code
def yX0_readEnd : MethodName := ⟨RX0, "readEnd", "()Z"⟩
abbrev cX0_readClose : ByteArray := prog_2_method_4_code
def yX0_readClose : MethodName := ⟨RX0, "readClose", "()Z"⟩
abbrev cX0_readEntry : ByteArray := prog_2_method_5_code
def yX0_readEntry : MethodName := ⟨RX0, "readEntry", "()Z"⟩
abbrev cX0_readName : ByteArray := prog_2_method_6_code
def yX0_readName : MethodName := ⟨RX0, "readName", "()I"⟩
abbrev cX0_kindBegunBy : ByteArray := prog_2_method_7_code
def yX0_kindBegunBy : MethodName := ⟨RX0, "kindBegunBy", "(I)I"⟩
abbrev cX0_readNumber : ByteArray := prog_2_method_8_code
def yX0_readNumber : MethodName := ⟨RX0, "readNumber", "(II)Z"⟩
abbrev cX0_readLetters : ByteArray := prog_2_method_9_code
def yX0_readLetters : MethodName := ⟨RX0, "readLetters", "(II)Z"⟩
abbrev cX0_readOpen : ByteArray := prog_2_method_10_code
def yX0_readOpen : MethodName := ⟨RX0, "readOpen", "(II)Z"⟩
abbrev cX0_levelHere : ByteArray := prog_2_method_11_code
def yX0_levelHere : MethodName := ⟨RX0, "levelHere", "()I"⟩
abbrev cX0_layLacking : ByteArray := prog_2_method_12_code
def yX0_layLacking : MethodName := ⟨RX0, "layLacking", "()Z"⟩
abbrev cX0_layLackingLeaves : ByteArray := prog_2_method_13_code
def yX0_layLackingLeaves : MethodName := ⟨RX0, "layLackingLeaves", "(I)V"⟩
abbrev cX0_lay : ByteArray := prog_2_method_14_code
def yX0_lay : MethodName := ⟨RX0, "lay", "(IIIJ)V"⟩
def RX1 : String := "TreeTables$Shape"
def TX1 : u_T := fun k => match k with
  | 0 => ("TreeTables$Shape", "names", "[J", true)
  | 1 => ("TreeTables$Shape", "kinds", "[I", true)
  | 2 => ("TreeTables$Shape", "marks", "[I", true)
  | 3 => ("TreeTables$Shape", "holders", "[I", true)
  | 4 => ("TreeTables$Shape", "ends", "[I", true)
  | 5 => ("TreeTables$Shape", "deep", "[I", true)
  | 6 => ("TreeTables$Shape", "again", "[I", true)
  | 7 => ("TreeTables$Shape", "groupsOn", "[I", true)
  | 8 => ("TreeTables$Shape", "leafOf", "[I", true)
  | 9 => ("TreeTables$Shape", "leafFields", "[I", true)
  | 10 => ("TreeTables$Shape", "fields", "I", false)
  | _ => ("TreeTables$Shape", "leaves", "I", false)
def tyX1 : Nat → FieldType := fun k => match k with
  | 0 => .array .long
  | 1 => .array .int
  | 2 => .array .int
  | 3 => .array .int
  | 4 => .array .int
  | 5 => .array .int
  | 6 => .array .int
  | 7 => .array .int
  | 8 => .array .int
  | 9 => .array .int
  | 10 => .int
  | _ => .int
abbrev wsX10 : List Cond := u_ws RX1 TX1 12
theorem nmX1 : ∀ a, a < 12 → ∀ b, b < 12 → a ≠ b → (TX1 a).2.1 ≠ (TX1 b).2.1 := by decide +kernel
theorem tyX1_ok : ∀ k, k < 12 → parseFieldDescriptor (TX1 k).2.2.1 = some (tyX1 k) := by decide +kernel
abbrev cX1_init : ByteArray := prog_3_method_1_code
def yX1_init : MethodName := ⟨RX1, "<init>", "()V"⟩
abbrev cX1_clear : ByteArray := prog_3_method_2_code
def yX1_clear : MethodName := ⟨RX1, "clear", "()V"⟩
abbrev cX1_isField : ByteArray := prog_3_method_3_code
def yX1_isField : MethodName := ⟨RX1, "isField", "(I)Z"⟩
abbrev cX1_fieldOfLeaf : ByteArray := prog_3_method_4_code
def yX1_fieldOfLeaf : MethodName := ⟨RX1, "fieldOfLeaf", "(I)I"⟩
abbrev cX1_add : ByteArray := prog_3_method_5_code
def yX1_add : MethodName := ⟨RX1, "add", "(JI)I"⟩
abbrev cX1_makeLeaf : ByteArray := prog_3_method_6_code
def yX1_makeLeaf : MethodName := ⟨RX1, "makeLeaf", "(II)Z"⟩
abbrev cX1_find : ByteArray := prog_3_method_7_code
def yX1_find : MethodName := ⟨RX1, "find", "(IJ)I"⟩
abbrev cX1_measure : ByteArray := prog_3_method_8_code
def yX1_measure : MethodName := ⟨RX1, "measure", "()V"⟩
abbrev cX1_deepUpTo : ByteArray := prog_3_method_9_code
def yX1_deepUpTo : MethodName := ⟨RX1, "deepUpTo", "(I)I"⟩
abbrev cX1_isOnRoad : ByteArray := prog_3_method_10_code
def yX1_isOnRoad : MethodName := ⟨RX1, "isOnRoad", "(II)Z"⟩
abbrev cX1_sharedMany : ByteArray := prog_3_method_11_code
def yX1_sharedMany : MethodName := ⟨RX1, "sharedMany", "(II)I"⟩
def RX2 : String := "TreeTables$ShapeReader"
def TX2 : u_T := fun k => match k with
  | 0 => ("TreeTables$ShapeReader", "tape", "LTreeTables$Tape;", true)
  | 1 => ("TreeTables$ShapeReader", "shape", "LTreeTables$Shape;", true)
  | 2 => ("TreeTables$ShapeReader", "open", "I", false)
  | _ => ("TreeTables$ShapeReader", "depth", "I", false)
def tyX2 : Nat → FieldType := fun k => match k with
  | 0 => .object "TreeTables$Tape"
  | 1 => .object "TreeTables$Shape"
  | 2 => .int
  | _ => .int
abbrev wsX20 : List Cond := u_ws RX2 TX2 4
theorem nmX2 : ∀ a, a < 4 → ∀ b, b < 4 → a ≠ b → (TX2 a).2.1 ≠ (TX2 b).2.1 := by decide +kernel
theorem tyX2_ok : ∀ k, k < 4 → parseFieldDescriptor (TX2 k).2.2.1 = some (tyX2 k) := by decide +kernel
abbrev cX2_init : ByteArray := prog_4_method_1_code
def yX2_init : MethodName := ⟨RX2, "<init>", "(LTreeTables$Tape;LTreeTables$Shape;)V"⟩
abbrev cX2_readAll : ByteArray := prog_4_method_2_code
def yX2_readAll : MethodName := ⟨RX2, "readAll", "()Z"⟩
abbrev cX2_readEnd : ByteArray := prog_4_method_3_code
def yX2_readEnd : MethodName := ⟨RX2, "readEnd", "()Z"⟩
abbrev cX2_readClose : ByteArray := prog_4_method_4_code
def yX2_readClose : MethodName := ⟨RX2, "readClose", "()Z"⟩
abbrev cX2_readField : ByteArray := prog_4_method_5_code
def yX2_readField : MethodName := ⟨RX2, "readField", "()Z"⟩
abbrev cX2_readName : ByteArray := prog_4_method_6_code
def yX2_readName : MethodName := ⟨RX2, "readName", "()Z"⟩
abbrev cX2_readOpen : ByteArray := prog_4_method_7_code
def yX2_readOpen : MethodName := ⟨RX2, "readOpen", "(I)Z"⟩
abbrev cX2_readLeaf : ByteArray := prog_4_method_8_code
def yX2_readLeaf : MethodName := ⟨RX2, "readLeaf", "(I)Z"⟩
abbrev cX2_readMark : ByteArray := prog_4_method_9_code
def yX2_readMark : MethodName := ⟨RX2, "readMark", "(I)Z"⟩
abbrev cX2_markOf : ByteArray := prog_4_method_10_code
def yX2_markOf : MethodName := ⟨RX2, "markOf", "(J)I"⟩
abbrev cX2_isKeyWord : ByteArray := prog_4_method_11_code
def yX2_isKeyWord : MethodName := ⟨RX2, "isKeyWord", "(J)Z"⟩
def RX3 : String := "TreeTables$Table"
def TX3 : u_T := fun k => match k with
  | 0 => ("TreeTables$Table", "levels", "[I", false)
  | 1 => ("TreeTables$Table", "tolds", "[I", false)
  | 2 => ("TreeTables$Table", "paperOf", "[I", false)
  | 3 => ("TreeTables$Table", "values", "[J", false)
  | 4 => ("TreeTables$Table", "count", "I", false)
  | 5 => ("TreeTables$Table", "deep", "I", false)
  | 6 => ("TreeTables$Table", "again", "I", false)
  | 7 => ("TreeTables$Table", "isNum", "Z", false)
  | _ => ("TreeTables$Table", "groups", "I", false)
def tyX3 : Nat → FieldType := fun k => match k with
  | 0 => .array .int
  | 1 => .array .int
  | 2 => .array .int
  | 3 => .array .long
  | 4 => .int
  | 5 => .int
  | 6 => .int
  | 7 => .boolean
  | _ => .int
abbrev wsX30 : List Cond := u_ws RX3 TX3 9
theorem nmX3 : ∀ a, a < 9 → ∀ b, b < 9 → a ≠ b → (TX3 a).2.1 ≠ (TX3 b).2.1 := by decide +kernel
theorem tyX3_ok : ∀ k, k < 9 → parseFieldDescriptor (TX3 k).2.2.1 = some (tyX3 k) := by decide +kernel
abbrev cX3_init : ByteArray := prog_5_method_1_code
def yX3_init : MethodName := ⟨RX3, "<init>", "()V"⟩
abbrev cX3_begin : ByteArray := prog_5_method_2_code
def yX3_begin : MethodName := ⟨RX3, "begin", "(IIZI)V"⟩
abbrev cX3_add : ByteArray := prog_5_method_3_code
def yX3_add : MethodName := ⟨RX3, "add", "(IIIJ)V"⟩
abbrev cX3_forget : ByteArray := prog_5_method_4_code
def yX3_forget : MethodName := ⟨RX3, "forget", "(I)V"⟩
abbrev cX3_isRow : ByteArray := prog_5_method_5_code
def yX3_isRow : MethodName := ⟨RX3, "isRow", "(I)Z"⟩
abbrev cX3_hasValue : ByteArray := prog_5_method_6_code
def yX3_hasValue : MethodName := ⟨RX3, "hasValue", "(I)Z"⟩
abbrev cX3_hasLevel : ByteArray := prog_5_method_7_code
def yX3_hasLevel : MethodName := ⟨RX3, "hasLevel", "(II)Z"⟩
abbrev cX3_hasValueWithin : ByteArray := prog_5_method_8_code
def yX3_hasValueWithin : MethodName := ⟨RX3, "hasValueWithin", "(IJJ)Z"⟩
abbrev cX3_firstRowOf : ByteArray := prog_5_method_9_code
def yX3_firstRowOf : MethodName := ⟨RX3, "firstRowOf", "(I)I"⟩
abbrev cX3_countValues : ByteArray := prog_5_method_10_code
def yX3_countValues : MethodName := ⟨RX3, "countValues", "()I"⟩
abbrev cX3_countUnlike : ByteArray := prog_5_method_11_code
def yX3_countUnlike : MethodName := ⟨RX3, "countUnlike", "()I"⟩
abbrev cX3_hasValueAhead : ByteArray := prog_5_method_12_code
def yX3_hasValueAhead : MethodName := ⟨RX3, "hasValueAhead", "(I)Z"⟩
abbrev cX3_measureSize : ByteArray := prog_5_method_13_code
def yX3_measureSize : MethodName := ⟨RX3, "measureSize", "()I"⟩
abbrev cX3_countRuns : ByteArray := prog_5_method_14_code
def yX3_countRuns : MethodName := ⟨RX3, "countRuns", "([I)I"⟩
abbrev cX3_stretchEnd : ByteArray := prog_5_method_15_code
def yX3_stretchEnd : MethodName := ⟨RX3, "stretchEnd", "(II)I"⟩
abbrev cX3_holdsInStretch : ByteArray := prog_5_method_16_code
def yX3_holdsInStretch : MethodName := ⟨RX3, "holdsInStretch", "(IIJ)Z"⟩
def RX4 : String := "TreeTables$Tape"
def TX4 : u_T := fun k => match k with
  | 0 => ("TreeTables$Tape", "bytes", "[B", true)
  | 1 => ("TreeTables$Tape", "length", "I", false)
  | 2 => ("TreeTables$Tape", "place", "I", false)
  | 3 => ("TreeTables$Tape", "flaw", "I", false)
  | 4 => ("TreeTables$Tape", "flawPlace", "I", false)
  | 5 => ("TreeTables$Tape", "wordStart", "I", false)
  | 6 => ("TreeTables$Tape", "wordLength", "I", false)
  | _ => ("TreeTables$Tape", "wordCode", "J", false)
def tyX4 : Nat → FieldType := fun k => match k with
  | 0 => .array .byte
  | 1 => .int
  | 2 => .int
  | 3 => .int
  | 4 => .int
  | 5 => .int
  | 6 => .int
  | _ => .long
abbrev wsX40 : List Cond := u_ws RX4 TX4 8
theorem nmX4 : ∀ a, a < 8 → ∀ b, b < 8 → a ≠ b → (TX4 a).2.1 ≠ (TX4 b).2.1 := by decide +kernel
theorem tyX4_ok : ∀ k, k < 8 → parseFieldDescriptor (TX4 k).2.2.1 = some (tyX4 k) := by decide +kernel
abbrev cX4_init : ByteArray := prog_6_method_1_code
def yX4_init : MethodName := ⟨RX4, "<init>", "()V"⟩
abbrev cX4_put : ByteArray := prog_6_method_2_code
def yX4_put : MethodName := ⟨RX4, "put", "(I)V"⟩
abbrev cX4_begin : ByteArray := prog_6_method_3_code
def yX4_begin : MethodName := ⟨RX4, "begin", "()V"⟩
abbrev cX4_fail : ByteArray := prog_6_method_4_code
def yX4_fail : MethodName := ⟨RX4, "fail", "(II)Z"⟩
abbrev cX4_failHere : ByteArray := prog_6_method_5_code
def yX4_failHere : MethodName := ⟨RX4, "failHere", "(I)Z"⟩
abbrev cX4_here : ByteArray := prog_6_method_6_code
def yX4_here : MethodName := ⟨RX4, "here", "()I"⟩
abbrev cX4_next : ByteArray := prog_6_method_7_code
def yX4_next : MethodName := ⟨RX4, "next", "()I"⟩
abbrev cX4_pass : ByteArray := prog_6_method_8_code
def yX4_pass : MethodName := ⟨RX4, "pass", "(I)Z"⟩
abbrev cX4_readWord : ByteArray := prog_6_method_9_code
def yX4_readWord : MethodName := ⟨RX4, "readWord", "()V"⟩
abbrev cX4_failAtLetterTooMany : ByteArray := prog_6_method_10_code
def yX4_failAtLetterTooMany : MethodName := ⟨RX4, "failAtLetterTooMany", "()Z"⟩
def RX5 : String := "TreeTables$Text"
def TX5 : u_T := fun k => match k with
  | 0 => ("TreeTables$Text", "bytes", "[B", true)
  | _ => ("TreeTables$Text", "length", "I", false)
def tyX5 : Nat → FieldType := fun k => match k with
  | 0 => .array .byte
  | _ => .int
abbrev wsX50 : List Cond := u_ws RX5 TX5 2
theorem nmX5 : ∀ a, a < 2 → ∀ b, b < 2 → a ≠ b → (TX5 a).2.1 ≠ (TX5 b).2.1 := by decide +kernel
theorem tyX5_ok : ∀ k, k < 2 → parseFieldDescriptor (TX5 k).2.2.1 = some (tyX5 k) := by decide +kernel
abbrev cX5_init : ByteArray := prog_7_method_1_code
def yX5_init : MethodName := ⟨RX5, "<init>", "()V"⟩
abbrev cX5_byteAt : ByteArray := prog_7_method_2_code
def yX5_byteAt : MethodName := ⟨RX5, "byteAt", "(I)I"⟩
abbrev cX5_put : ByteArray := prog_7_method_3_code
def yX5_put : MethodName := ⟨RX5, "put", "(I)V"⟩
abbrev cX5_putWord : ByteArray := prog_7_method_4_code
def yX5_putWord : MethodName := ⟨RX5, "putWord", "(J)V"⟩
abbrev cX5_putNumber : ByteArray := prog_7_method_5_code
def yX5_putNumber : MethodName := ⟨RX5, "putNumber", "(J)V"⟩
def RX6 : String := "TreeTables$TextWriter"
def TX6 : u_T := fun k => match k with
  | 0 => ("TreeTables$TextWriter", "shape", "LTreeTables$Shape;", true)
  | 1 => ("TreeTables$TextWriter", "tables", "[LTreeTables$Table;", true)
  | 2 => ("TreeTables$TextWriter", "bits", "I", true)
  | 3 => ("TreeTables$TextWriter", "out", "LTreeTables$Text;", true)
  | _ => ("TreeTables$TextWriter", "inHand", "[I", true)
def tyX6 : Nat → FieldType := fun k => match k with
  | 0 => .object "TreeTables$Shape"
  | 1 => .array (.object "TreeTables$Table")
  | 2 => .int
  | 3 => .object "TreeTables$Text"
  | _ => .array .int
abbrev wsX60 : List Cond := u_ws RX6 TX6 5
theorem nmX6 : ∀ a, a < 5 → ∀ b, b < 5 → a ≠ b → (TX6 a).2.1 ≠ (TX6 b).2.1 := by decide +kernel
theorem tyX6_ok : ∀ k, k < 5 → parseFieldDescriptor (TX6 k).2.2.1 = some (tyX6 k) := by decide +kernel
abbrev cX6_init : ByteArray := prog_8_method_1_code
def yX6_init : MethodName := ⟨RX6, "<init>", "(LTreeTables$Shape;[LTreeTables$Table;ILTreeTables$Text;)V"⟩
abbrev cX6_writeAll : ByteArray := prog_8_method_2_code
def yX6_writeAll : MethodName := ⟨RX6, "writeAll", "(I)V"⟩
abbrev cX6_wantedTable : ByteArray := prog_8_method_3_code
def yX6_wantedTable : MethodName := ⟨RX6, "wantedTable", "(I)LTreeTables$Table;"⟩
abbrev cX6_writeParts : ByteArray := prog_8_method_4_code
def yX6_writeParts : MethodName := ⟨RX6, "writeParts", "(II)V"⟩
abbrev cX6_writeField : ByteArray := prog_8_method_5_code
def yX6_writeField : MethodName := ⟨RX6, "writeField", "(II)V"⟩
abbrev cX6_writeGroup : ByteArray := prog_8_method_6_code
def yX6_writeGroup : MethodName := ⟨RX6, "writeGroup", "(II)V"⟩
abbrev cX6_writeLeaf : ByteArray := prog_8_method_7_code
def yX6_writeLeaf : MethodName := ⟨RX6, "writeLeaf", "(I)V"⟩
abbrev cX6_firstWantedLeaf : ByteArray := prog_8_method_8_code
def yX6_firstWantedLeaf : MethodName := ⟨RX6, "firstWantedLeaf", "(I)I"⟩
abbrev cX6_passLacking : ByteArray := prog_8_method_9_code
def yX6_passLacking : MethodName := ⟨RX6, "passLacking", "(I)V"⟩
abbrev cX6_isWantedBelow : ByteArray := prog_8_method_10_code
def yX6_isWantedBelow : MethodName := ⟨RX6, "isWantedBelow", "(II)Z"⟩
def RX7 : String := "TreeTables"
def TX7 : u_T := fun k => match k with
  | 0 => ("TreeTables", "tape", "LTreeTables$Tape;", true)
  | 1 => ("TreeTables", "tables", "[LTreeTables$Table;", true)
  | 2 => ("TreeTables", "latestText", "LTreeTables$Text;", true)
  | 3 => ("TreeTables", "current", "LTreeTables$Shape;", false)
  | 4 => ("TreeTables", "spare", "LTreeTables$Shape;", false)
  | _ => ("TreeTables", "paperCount", "I", false)
def tyX7 : Nat → FieldType := fun k => match k with
  | 0 => .object "TreeTables$Tape"
  | 1 => .array (.object "TreeTables$Table")
  | 2 => .object "TreeTables$Text"
  | 3 => .object "TreeTables$Shape"
  | 4 => .object "TreeTables$Shape"
  | _ => .int
abbrev wsX70 : List Cond := u_ws RX7 TX7 6
theorem nmX7 : ∀ a, a < 6 → ∀ b, b < 6 → a ≠ b → (TX7 a).2.1 ≠ (TX7 b).2.1 := by decide +kernel
theorem tyX7_ok : ∀ k, k < 6 → parseFieldDescriptor (TX7 k).2.2.1 = some (tyX7 k) := by decide +kernel
abbrev cX7_init : ByteArray := prog_1_method_1_code
def yX7_init : MethodName := ⟨RX7, "<init>", "()V"⟩
abbrev cX7_feed : ByteArray := prog_1_method_2_code
def yX7_feed : MethodName := ⟨RX7, "feed", "(IIIII)I"⟩
abbrev cX7_end : ByteArray := prog_1_method_3_code
def yX7_end : MethodName := ⟨RX7, "end", "(I)Z"⟩
abbrev cX7_shape : ByteArray := prog_1_method_4_code
def yX7_shape : MethodName := ⟨RX7, "shape", "()I"⟩
abbrev cX7_paper : ByteArray := prog_1_method_5_code
def yX7_paper : MethodName := ⟨RX7, "paper", "()I"⟩
abbrev cX7_fault : ByteArray := prog_1_method_6_code
def yX7_fault : MethodName := ⟨RX7, "fault", "(I)I"⟩
abbrev cX7_drop : ByteArray := prog_1_method_7_code
def yX7_drop : MethodName := ⟨RX7, "drop", "(I)I"⟩
abbrev cX7_leaf : ByteArray := prog_1_method_8_code
def yX7_leaf : MethodName := ⟨RX7, "leaf", "(II)I"⟩
abbrev cX7_row : ByteArray := prog_1_method_9_code
def yX7_row : MethodName := ⟨RX7, "row", "(III)I"⟩
abbrev cX7_value : ByteArray := prog_1_method_10_code
def yX7_value : MethodName := ⟨RX7, "value", "(II)J"⟩
abbrev cX7_text : ByteArray := prog_1_method_11_code
def yX7_text : MethodName := ⟨RX7, "text", "(II)I"⟩
abbrev cX7_at : ByteArray := prog_1_method_12_code
def yX7_at : MethodName := ⟨RX7, "at", "(I)I"⟩
abbrev cX7_among : ByteArray := prog_1_method_13_code
def yX7_among : MethodName := ⟨RX7, "among", "(IJJ)I"⟩
abbrev cX7_papers : ByteArray := prog_1_method_14_code
def yX7_papers : MethodName := ⟨RX7, "papers", "(IJJ)I"⟩
abbrev cX7_sum : ByteArray := prog_1_method_15_code
def yX7_sum : MethodName := ⟨RX7, "sum", "(II)J"⟩
abbrev cX7_both : ByteArray := prog_1_method_16_code
def yX7_both : MethodName := ⟨RX7, "both", "(IJIJ)I"⟩
abbrev cX7_rows : ByteArray := prog_1_method_17_code
def yX7_rows : MethodName := ⟨RX7, "rows", "(III)I"⟩
abbrev cX7_isPaper : ByteArray := prog_1_method_18_code
def yX7_isPaper : MethodName := ⟨RX7, "isPaper", "(I)Z"⟩
abbrev cX7_tableOf : ByteArray := prog_1_method_19_code
def yX7_tableOf : MethodName := ⟨RX7, "tableOf", "(I)LTreeTables$Table;"⟩
abbrev cX7_beginTable : ByteArray := prog_1_method_20_code
def yX7_beginTable : MethodName := ⟨RX7, "beginTable", "(I)V"⟩
abbrev cX7_forgetRows : ByteArray := prog_1_method_21_code
def yX7_forgetRows : MethodName := ⟨RX7, "forgetRows", "(I)V"⟩
abbrev cX7_isLetter : ByteArray := prog_1_method_22_code
def yX7_isLetter : MethodName := ⟨RX7, "isLetter", "(I)Z"⟩
abbrev cX7_isDigit : ByteArray := prog_1_method_23_code
def yX7_isDigit : MethodName := ⟨RX7, "isDigit", "(I)Z"⟩
def RX8 : String := "TreeTablesModel"
def TX8 : u_T := fun k => match k with
  | 0 => ("TreeTablesModel", "tape", "[I", true)
  | 1 => ("TreeTablesModel", "taped", "I", false)
  | 2 => ("TreeTablesModel", "at", "I", false)
  | 3 => ("TreeTablesModel", "size", "I", false)
  | 4 => ("TreeTablesModel", "bad", "I", false)
  | 5 => ("TreeTablesModel", "badPlace", "I", false)
  | 6 => ("TreeTablesModel", "fault", "I", false)
  | 7 => ("TreeTablesModel", "faultPlace", "I", false)
  | 8 => ("TreeTablesModel", "numWord", "J", true)
  | 9 => ("TreeTablesModel", "wordWord", "J", true)
  | 10 => ("TreeTablesModel", "oneWord", "J", true)
  | 11 => ("TreeTablesModel", "optWord", "J", true)
  | 12 => ("TreeTablesModel", "manyWord", "J", true)
  | 13 => ("TreeTablesModel", "hasShape", "Z", false)
  | 14 => ("TreeTablesModel", "fields", "I", false)
  | 15 => ("TreeTablesModel", "leaves", "I", false)
  | 16 => ("TreeTablesModel", "within", "[I", true)
  | 17 => ("TreeTablesModel", "name", "[J", true)
  | 18 => ("TreeTablesModel", "kind", "[I", true)
  | 19 => ("TreeTablesModel", "mark", "[I", true)
  | 20 => ("TreeTablesModel", "leafField", "[I", true)
  | 21 => ("TreeTablesModel", "newFields", "I", false)
  | 22 => ("TreeTablesModel", "newLeaves", "I", false)
  | 23 => ("TreeTablesModel", "newWithin", "[I", true)
  | 24 => ("TreeTablesModel", "newName", "[J", true)
  | 25 => ("TreeTablesModel", "newKind", "[I", true)
  | 26 => ("TreeTablesModel", "newMark", "[I", true)
  | 27 => ("TreeTablesModel", "newLeaf", "[I", true)
  | 28 => ("TreeTablesModel", "open", "[I", true)
  | 29 => ("TreeTablesModel", "openMany", "[I", true)
  | 30 => ("TreeTablesModel", "deep", "I", false)
  | 31 => ("TreeTablesModel", "papers", "I", false)
  | 32 => ("TreeTablesModel", "from", "[I", true)
  | 33 => ("TreeTablesModel", "nodeField", "[I", true)
  | 34 => ("TreeTablesModel", "nodeIn", "[I", true)
  | 35 => ("TreeTablesModel", "nodeValue", "[J", true)
  | 36 => ("TreeTablesModel", "nodes", "I", false)
  | 37 => ("TreeTablesModel", "roads", "I", false)
  | 38 => ("TreeTablesModel", "road", "[I", true)
  | 39 => ("TreeTablesModel", "rows", "I", false)
  | 40 => ("TreeTablesModel", "rowLevel", "[I", true)
  | 41 => ("TreeTablesModel", "rowTold", "[I", true)
  | 42 => ("TreeTablesModel", "rowHas", "[Z", true)
  | 43 => ("TreeTablesModel", "rowValue", "[J", true)
  | 44 => ("TreeTablesModel", "rowPaper", "[I", true)
  | 45 => ("TreeTablesModel", "inNode", "[I", true)
  | 46 => ("TreeTablesModel", "look", "[I", true)
  | 47 => ("TreeTablesModel", "seen", "[I", true)
  | 48 => ("TreeTablesModel", "tells", "[I", true)
  | 49 => ("TreeTablesModel", "comes", "[I", true)
  | 50 => ("TreeTablesModel", "textMany", "I", false)
  | 51 => ("TreeTablesModel", "textByte", "[I", true)
  | 52 => ("TreeTablesModel", "isWanted", "[Z", true)
  | _ => ("TreeTablesModel", "nowField", "[I", true)
def tyX8 : Nat → FieldType := fun k => match k with
  | 0 => .array .int
  | 1 => .int
  | 2 => .int
  | 3 => .int
  | 4 => .int
  | 5 => .int
  | 6 => .int
  | 7 => .int
  | 8 => .long
  | 9 => .long
  | 10 => .long
  | 11 => .long
  | 12 => .long
  | 13 => .boolean
  | 14 => .int
  | 15 => .int
  | 16 => .array .int
  | 17 => .array .long
  | 18 => .array .int
  | 19 => .array .int
  | 20 => .array .int
  | 21 => .int
  | 22 => .int
  | 23 => .array .int
  | 24 => .array .long
  | 25 => .array .int
  | 26 => .array .int
  | 27 => .array .int
  | 28 => .array .int
  | 29 => .array .int
  | 30 => .int
  | 31 => .int
  | 32 => .array .int
  | 33 => .array .int
  | 34 => .array .int
  | 35 => .array .long
  | 36 => .int
  | 37 => .int
  | 38 => .array .int
  | 39 => .int
  | 40 => .array .int
  | 41 => .array .int
  | 42 => .array .boolean
  | 43 => .array .long
  | 44 => .array .int
  | 45 => .array .int
  | 46 => .array .int
  | 47 => .array .int
  | 48 => .array .int
  | 49 => .array .int
  | 50 => .int
  | 51 => .array .int
  | 52 => .array .boolean
  | _ => .array .int
abbrev wsX80 : List Cond := u_ws RX8 TX8 54
theorem nmX8 : ∀ a, a < 54 → ∀ b, b < 54 → a ≠ b → (TX8 a).2.1 ≠ (TX8 b).2.1 := by decide +kernel
theorem tyX8_ok : ∀ k, k < 54 → parseFieldDescriptor (TX8 k).2.2.1 = some (tyX8 k) := by decide +kernel
abbrev cX8_init : ByteArray := prog_10_method_1_code
def yX8_init : MethodName := ⟨RX8, "<init>", "()V"⟩
abbrev cX8_feed : ByteArray := prog_10_method_2_code
def yX8_feed : MethodName := ⟨RX8, "feed", "(IIIII)I"⟩
abbrev cX8_end : ByteArray := prog_10_method_3_code
def yX8_end : MethodName := ⟨RX8, "end", "(I)Z"⟩
abbrev cX8_fail : ByteArray := prog_10_method_4_code
def yX8_fail : MethodName := ⟨RX8, "fail", "(II)V"⟩
abbrev cX8_isLetter : ByteArray := prog_10_method_5_code
def yX8_isLetter : MethodName := ⟨RX8, "isLetter", "(I)Z"⟩
abbrev cX8_isDigit : ByteArray := prog_10_method_6_code
def yX8_isDigit : MethodName := ⟨RX8, "isDigit", "(I)Z"⟩
abbrev cX8_next : ByteArray := prog_10_method_7_code
def yX8_next : MethodName := ⟨RX8, "next", "()I"⟩
abbrev cX8_sign : ByteArray := prog_10_method_8_code
def yX8_sign : MethodName := ⟨RX8, "sign", "(I)V"⟩
abbrev cX8_word : ByteArray := prog_10_method_9_code
def yX8_word : MethodName := ⟨RX8, "word", "()J"⟩
abbrev cX8_whole : ByteArray := prog_10_method_10_code
def yX8_whole : MethodName := ⟨RX8, "whole", "()J"⟩
abbrev cX8_packed : ByteArray := prog_10_method_11_code
def yX8_packed : MethodName := ⟨RX8, "packed", "(CCCC)J"⟩
abbrev cX8_isOwn : ByteArray := prog_10_method_12_code
def yX8_isOwn : MethodName := ⟨RX8, "isOwn", "(J)Z"⟩
abbrev cX8_begins : ByteArray := prog_10_method_13_code
def yX8_begins : MethodName := ⟨RX8, "begins", "()V"⟩
abbrev cX8_told : ByteArray := prog_10_method_14_code
def yX8_told : MethodName := ⟨RX8, "told", "()V"⟩
abbrev cX8_marks : ByteArray := prog_10_method_15_code
def yX8_marks : MethodName := ⟨RX8, "marks", "(I)V"⟩
abbrev cX8_field : ByteArray := prog_10_method_16_code
def yX8_field : MethodName := ⟨RX8, "field", "()V"⟩
abbrev cX8_readsShape : ByteArray := prog_10_method_17_code
def yX8_readsShape : MethodName := ⟨RX8, "readsShape", "()V"⟩
abbrev cX8_shape : ByteArray := prog_10_method_18_code
def yX8_shape : MethodName := ⟨RX8, "shape", "()I"⟩
abbrev cX8_fieldOf : ByteArray := prog_10_method_19_code
def yX8_fieldOf : MethodName := ⟨RX8, "fieldOf", "(IJ)I"⟩
abbrev cX8_hasNode : ByteArray := prog_10_method_20_code
def yX8_hasNode : MethodName := ⟨RX8, "hasNode", "(II)Z"⟩
abbrev cX8_node : ByteArray := prog_10_method_21_code
def yX8_node : MethodName := ⟨RX8, "node", "(IIJ)I"⟩
abbrev cX8_lacks : ByteArray := prog_10_method_22_code
def yX8_lacks : MethodName := ⟨RX8, "lacks", "(I)Z"⟩
abbrev cX8_number : ByteArray := prog_10_method_23_code
def yX8_number : MethodName := ⟨RX8, "number", "()J"⟩
abbrev cX8_entry : ByteArray := prog_10_method_24_code
def yX8_entry : MethodName := ⟨RX8, "entry", "()V"⟩
abbrev cX8_readsPaper : ByteArray := prog_10_method_25_code
def yX8_readsPaper : MethodName := ⟨RX8, "readsPaper", "()V"⟩
abbrev cX8_paper : ByteArray := prog_10_method_26_code
def yX8_paper : MethodName := ⟨RX8, "paper", "()I"⟩
abbrev cX8_fault : ByteArray := prog_10_method_27_code
def yX8_fault : MethodName := ⟨RX8, "fault", "(I)I"⟩
abbrev cX8_isPaper : ByteArray := prog_10_method_28_code
def yX8_isPaper : MethodName := ⟨RX8, "isPaper", "(I)Z"⟩
abbrev cX8_drop : ByteArray := prog_10_method_29_code
def yX8_drop : MethodName := ⟨RX8, "drop", "(I)I"⟩
abbrev cX8_roadOf : ByteArray := prog_10_method_30_code
def yX8_roadOf : MethodName := ⟨RX8, "roadOf", "(I)V"⟩
abbrev cX8_manyUpTo : ByteArray := prog_10_method_31_code
def yX8_manyUpTo : MethodName := ⟨RX8, "manyUpTo", "(I)I"⟩
abbrev cX8_putsRow : ByteArray := prog_10_method_32_code
def yX8_putsRow : MethodName := ⟨RX8, "putsRow", "(IIZJI)V"⟩
abbrev cX8_steps : ByteArray := prog_10_method_33_code
def yX8_steps : MethodName := ⟨RX8, "steps", "(IIII)V"⟩
abbrev cX8_table : ByteArray := prog_10_method_34_code
def yX8_table : MethodName := ⟨RX8, "table", "(I)V"⟩
abbrev cX8_isLeaf : ByteArray := prog_10_method_35_code
def yX8_isLeaf : MethodName := ⟨RX8, "isLeaf", "(I)Z"⟩
abbrev cX8_isFirstValue : ByteArray := prog_10_method_36_code
def yX8_isFirstValue : MethodName := ⟨RX8, "isFirstValue", "(I)Z"⟩
abbrev cX8_values : ByteArray := prog_10_method_37_code
def yX8_values : MethodName := ⟨RX8, "values", "(Z)I"⟩
abbrev cX8_runs : ByteArray := prog_10_method_38_code
def yX8_runs : MethodName := ⟨RX8, "runs", "([I)I"⟩
abbrev cX8_deepOf : ByteArray := prog_10_method_39_code
def yX8_deepOf : MethodName := ⟨RX8, "deepOf", "()I"⟩
abbrev cX8_sizeOf : ByteArray := prog_10_method_40_code
def yX8_sizeOf : MethodName := ⟨RX8, "sizeOf", "()I"⟩
abbrev cX8_leaf : ByteArray := prog_10_method_41_code
def yX8_leaf : MethodName := ⟨RX8, "leaf", "(II)I"⟩
abbrev cX8_isRow : ByteArray := prog_10_method_42_code
def yX8_isRow : MethodName := ⟨RX8, "isRow", "(II)Z"⟩
abbrev cX8_row : ByteArray := prog_10_method_43_code
def yX8_row : MethodName := ⟨RX8, "row", "(III)I"⟩
abbrev cX8_value : ByteArray := prog_10_method_44_code
def yX8_value : MethodName := ⟨RX8, "value", "(II)J"⟩
abbrev cX8_lays : ByteArray := prog_10_method_45_code
def yX8_lays : MethodName := ⟨RX8, "lays", "(I)V"⟩
abbrev cX8_laysWord : ByteArray := prog_10_method_46_code
def yX8_laysWord : MethodName := ⟨RX8, "laysWord", "(J)V"⟩
abbrev cX8_laysNumber : ByteArray := prog_10_method_47_code
def yX8_laysNumber : MethodName := ⟨RX8, "laysNumber", "(J)V"⟩
abbrev cX8_text : ByteArray := prog_10_method_48_code
def yX8_text : MethodName := ⟨RX8, "text", "(II)I"⟩
abbrev cX8_at : ByteArray := prog_10_method_49_code
def yX8_at : MethodName := ⟨RX8, "at", "(I)I"⟩
abbrev cX8_among : ByteArray := prog_10_method_50_code
def yX8_among : MethodName := ⟨RX8, "among", "(IJJ)I"⟩
abbrev cX8_papers : ByteArray := prog_10_method_51_code
def yX8_papers : MethodName := ⟨RX8, "papers", "(IJJ)I"⟩
abbrev cX8_sum : ByteArray := prog_10_method_52_code
def yX8_sum : MethodName := ⟨RX8, "sum", "(II)J"⟩
abbrev cX8_isOn : ByteArray := prog_10_method_53_code
def yX8_isOn : MethodName := ⟨RX8, "isOn", "(II)Z"⟩
abbrev cX8_has : ByteArray := prog_10_method_54_code
def yX8_has : MethodName := ⟨RX8, "has", "(IIIJ)Z"⟩
abbrev cX8_both : ByteArray := prog_10_method_55_code
def yX8_both : MethodName := ⟨RX8, "both", "(IJIJ)I"⟩
abbrev cX8_rows : ByteArray := prog_10_method_56_code
def yX8_rows : MethodName := ⟨RX8, "rows", "(III)I"⟩
def RJx8e188 : String := "java/lang/Cloneable"
def TJx8e188 : u_T := fun k => match k with
  | _ => ("", "", "", false)
def tyJx8e188 : Nat → FieldType := fun k => match k with
  | _ => .int
abbrev wsJx8e1880 : List Cond := u_ws RJx8e188 TJx8e188 0
theorem nmJx8e188 : ∀ a, a < 0 → ∀ b, b < 0 → a ≠ b → (TJx8e188 a).2.1 ≠ (TJx8e188 b).2.1 := by decide +kernel
theorem tyJx8e188_ok : ∀ k, k < 0 → parseFieldDescriptor (TJx8e188 k).2.2.1 = some (tyJx8e188 k) := by decide +kernel
def RJ9 : String := "java/lang/Math"
def TJ9 : u_T := fun k => match k with
  | _ => ("", "", "", false)
def tyJ9 : Nat → FieldType := fun k => match k with
  | _ => .int
abbrev wsJ90 : List Cond := u_ws RJ9 TJ9 0
theorem nmJ9 : ∀ a, a < 0 → ∀ b, b < 0 → a ≠ b → (TJ9 a).2.1 ≠ (TJ9 b).2.1 := by decide +kernel
theorem tyJ9_ok : ∀ k, k < 0 → parseFieldDescriptor (TJ9 k).2.2.1 = some (tyJ9 k) := by decide +kernel
abbrev cJ9_abs_067f4 : ByteArray := prog_12_method_61_code
def yJ9_abs_067f4 : MethodName := ⟨RJ9, "abs", "(J)J"⟩
abbrev cJ9_max_7cf53 : ByteArray := prog_12_method_65_code
def yJ9_max_7cf53 : MethodName := ⟨RJ9, "max", "(II)I"⟩
abbrev cJ9_min_7cf53 : ByteArray := prog_12_method_69_code
def yJ9_min_7cf53 : MethodName := ⟨RJ9, "min", "(II)I"⟩
def RJ10 : String := "java/lang/System"
def TJ10 : u_T := fun k => match k with
  | _ => ("", "", "", false)
def tyJ10 : Nat → FieldType := fun k => match k with
  | _ => .int
abbrev wsJ100 : List Cond := u_ws RJ10 TJ10 0
theorem nmJ10 : ∀ a, a < 0 → ∀ b, b < 0 → a ≠ b → (TJ10 a).2.1 ≠ (TJ10 b).2.1 := by decide +kernel
theorem tyJ10_ok : ∀ k, k < 0 → parseFieldDescriptor (TJ10 k).2.2.1 = some (tyJ10 k) := by decide +kernel
def RJ7 : String := "java/util/Arrays"
def TJ7 : u_T := fun k => match k with
  | _ => ("", "", "", false)
def tyJ7 : Nat → FieldType := fun k => match k with
  | _ => .int
abbrev wsJ70 : List Cond := u_ws RJ7 TJ7 0
theorem nmJ7 : ∀ a, a < 0 → ∀ b, b < 0 → a ≠ b → (TJ7 a).2.1 ≠ (TJ7 b).2.1 := by decide +kernel
theorem tyJ7_ok : ∀ k, k < 0 → parseFieldDescriptor (TJ7 k).2.2.1 = some (tyJ7 k) := by decide +kernel
abbrev cJ7_copyOf_59c91 : ByteArray := prog_14_method_123_code
def yJ7_copyOf_59c91 : MethodName := ⟨RJ7, "copyOf", "([II)[I"⟩
abbrev cJ7_copyOf_c38d5 : ByteArray := prog_14_method_124_code
def yJ7_copyOf_c38d5 : MethodName := ⟨RJ7, "copyOf", "([JI)[J"⟩
def RL : String := "TreeTablesLaw"
abbrev cL_law : ByteArray := code
def yL_law : MethodName := ⟨RL, "law", "([I)Z"⟩
abbrev vwCl : List vw_C := [(RX0, TX0, 8), (RX1, TX1, 12), (RX2, TX2, 4), (RX3, TX3, 9), (RX4, TX4, 8), (RX5, TX5, 2), (RX6, TX6, 5), (RX7, TX7, 6), (RX8, TX8, 54)]
theorem inX0 : ∀ w ∈ wsX00, w ∈ lw_tbl := by decide +kernel
theorem inX1 : ∀ w ∈ wsX10, w ∈ lw_tbl := by decide +kernel
theorem inX2 : ∀ w ∈ wsX20, w ∈ lw_tbl := by decide +kernel
theorem inX3 : ∀ w ∈ wsX30, w ∈ lw_tbl := by decide +kernel
theorem inX4 : ∀ w ∈ wsX40, w ∈ lw_tbl := by decide +kernel
theorem inX5 : ∀ w ∈ wsX50, w ∈ lw_tbl := by decide +kernel
theorem inX6 : ∀ w ∈ wsX60, w ∈ lw_tbl := by decide +kernel
theorem inX7 : ∀ w ∈ wsX70, w ∈ lw_tbl := by decide +kernel
theorem inX8 : ∀ w ∈ wsX80, w ∈ lw_tbl := by decide +kernel
theorem inJx8e188 : ∀ w ∈ wsJx8e1880, w ∈ lw_tbl := by decide +kernel
theorem inJ9 : ∀ w ∈ wsJ90, w ∈ lw_tbl := by decide +kernel
theorem inJ10 : ∀ w ∈ wsJ100, w ∈ lw_tbl := by decide +kernel
theorem inJ7 : ∀ w ∈ wsJ70, w ∈ lw_tbl := by decide +kernel
